theorem k_errPos {l9 : Bool} {sc : SC} {σ : SS} {a : AB} (hA : AV a) (hI : MI9 σ a) : Cs (true, l9) sc mX10_errorPosition 0 0 [.ref 53] σ (QM σ a (oI (aE a)) 0) := by
  refine Cs.of gmX10_errorPosition (Nat.le_of_ble_eq_true rfl) ?_
  show Ws (true, l9) sc mX10_errorPosition 0 0 0 0 0 [(0, .ref 53)] [] (mz σ [] []) (QM σ a (oI (aE a)) 0)
  refine r_aload_n rfl rfl ?_
  refine n_iconst 0 rfl ?_
  refine m_putI (L' := [(53, (aup (σ.1 53) 0 (nI 0)))]) rfl flX10_89 rfl rfl (okv_i _) rfl ?_
  refine r_aload_n rfl rfl ?_
  refine s_getI (x := oI (aE a)) rfl flX10_27 rfl rfl hI.2.1.2.2 ?_
  exact s_ret (st := []) rfl rfl rfl (Nat.zero_le _) (Nat.zero_le _) (⟨_, rfl, rfl, rfl, FrC_mz rfl rfl, ⟨hI.1, ⟨hI.2.1.1, hI.2.1.2.1, hI.2.1.2.2⟩, hI.2.2.1, hI.2.2.2.1, hI.2.2.2.2.1, hI.2.2.2.2.2.1, hI.2.2.2.2.2.2⟩⟩)

theorem k_size {l9 : Bool} {sc : SC} {σ : SS} {k : Nat} {a : AB} (hA : AV a) (hI : MI9 σ a) (hk : k ≤ 9) : Cs (true, l9) sc mX10_size 0 0 [.ref 53, .int (nI k)] σ (QM σ a (szv (aD a) k) 0) := by
  refine Cs.of gmX10_size (Nat.le_of_ble_eq_true rfl) ?_
  show Ws (true, l9) sc mX10_size 0 0 0 0 0 [(0, .ref 53), (1, .int (nI k))] [] (mz σ [] []) (QM σ a (szv (aD a) k) 0)
  have hV := hA.1
  have hC := vC hV
  have hM := hI.1
  refine r_aload_n rfl rfl ?_
  refine n_iconst 0 rfl ?_
  refine m_putI (L' := [(53, (aup (σ.1 53) 0 (nI 0)))]) rfl flX10_89 rfl rfl (okv_i _) rfl ?_
  refine r_aload_n rfl rfl ?_
  refine r_iload_n rfl rfl ?_
  refine n_iconst 0 rfl ?_
  refine n_bipush 9 rfl (by decide) ?_
  refine s_staI [.int (nI k), .int (nI 0), .int (nI 9)] [.ref 53] rfl lkX10_113 (k_within_in (by omega) (by omega) (by omega)) rfl rfl (Nat.le_refl _) (Nat.le_refl _) rfl (rI (e1 := nI 1) rfl ?_)
  refine n_if_ne (tgt := 20) rfl rfl (by decide) (fun _ => ?_) (fun hq => absurd hq (by decide))
  refine n_iconst 0 rfl ?_
  refine n_iconst 1 rfl ?_
  refine s_virI [.int (nI 0), .int (nI 1)] [] rfl lkX10_235 rfl rfl rfl (k_tI_no rfl) rfl rfl (Nat.le_refl _) (Nat.le_refl _) rfl (rI (e1 := nI 0) rfl ?_)
  refine n_if_eq (tgt := 32) rfl rfl (by decide) (fun _ => ?_) (fun hq => absurd hq (by decide))
  refine r_aload_n rfl rfl ?_
  refine s_getR (r := 54) rfl flX10_7 rfl rfl ?_
  refine r_iload_n rfl rfl ?_
  refine s_iald (x := szv (aD a) k) rfl rfl (by omega) (MR_sz hM hk) ?_
  exact s_ret (st := []) rfl rfl rfl (Nat.zero_le _) (Nat.zero_le _) (⟨_, rfl, rfl, rfl, FrC_mz rfl rfl, ⟨hI.1, ⟨hI.2.1.1, hI.2.1.2.1, hI.2.1.2.2⟩, hI.2.2.1, hI.2.2.2.1, hI.2.2.2.2.1, hI.2.2.2.2.2.1, hI.2.2.2.2.2.2⟩⟩)

theorem k_person {l9 : Bool} {sc : SC} {σ : SS} {q k : Nat} {a : AB} (hA : AV a) (hI : MI9 σ a) (hq : q < aD a 0 0) (hk : k ≤ 5) : Cs (true, l9) sc mX10_person 0 0 [.ref 53, .int (nI q), .int (nI k)] σ (QM σ a (pev (aD a) q k) 0) := by
  refine Cs.of gmX10_person (Nat.le_of_ble_eq_true rfl) ?_
  show Ws (true, l9) sc mX10_person 0 0 0 0 0 [(0, .ref 53), (1, .int (nI q)), (2, .int (nI k))] [] (mz σ [] []) (QM σ a (pev (aD a) q k) 0)
  have hV := hA.1
  have hC := vC hV
  have hM := hI.1
  refine r_aload_n rfl rfl ?_
  refine r_iload_n rfl rfl ?_
  refine s_virI [.int (nI q)] [] rfl lkX10_249 rfl rfl rfl (k_noPerson_in (hM := hI.1) hV hq) rfl rfl (Nat.le_refl _) (Nat.le_refl _) rfl (rI (e1 := nI 0) rfl ?_)
  refine m_mz (L' := [(53, (aup (σ.1 53) 0 (nI 0)))]) (M' := []) rfl rfl ?_
  refine n_if_ne (tgt := 17) rfl rfl (by decide) (fun hq => absurd hq (by decide)) (fun _ => ?_)
  refine r_aload_n rfl rfl ?_
  refine r_iload_n rfl rfl ?_
  refine n_iconst 5 rfl ?_
  refine s_virI [.int (nI k), .int (nI 5)] [] rfl lkX10_252 rfl rfl rfl (k_noWhat_in rfl hk (by decide)) rfl rfl (Nat.le_refl _) (Nat.le_refl _) rfl (rI (e1 := nI 0) rfl ?_)
  refine n_if_eq (tgt := 19) rfl rfl (by decide) (fun _ => ?_) (fun hq => absurd hq (by decide))
  refine r_iload_n rfl rfl ?_
  refine n_iconst 4 rfl ?_
  rcases (show k = 0 ∨ k = 1 ∨ k = 2 ∨ k = 3 ∨ k = 4 ∨ k = 5 by omega) with e9 | e9 | e9 | e9 | e9 | e9
  · subst e9
    refine n_icmp_ge (tgt := 33) rfl rfl (by decide) (by decide) (fun hq => absurd hq (by decide)) (fun _ => ?_)
    refine r_aload_n rfl rfl ?_
    refine r_iload_n rfl rfl ?_
    refine r_iload_n rfl rfl ?_
    refine s_virI [.int (nI q), .int (nI 0)] [] rfl lkX10_245 rfl rfl rfl (c_of (x := oI (aD a 1 q)) (by omega) (by omega) (M0 hM (by omega))) rfl rfl (Nat.le_refl _) (Nat.le_refl _) rfl (rI (e1 := oI (aD a 1 q)) rfl ?_)
    refine r_goto (tgt := 51) rfl rfl ?_
    exact s_ret (st := []) rfl rfl rfl (Nat.zero_le _) (Nat.zero_le _) (⟨_, rfl, rfl, rfl, FrC_mz rfl rfl, ⟨hI.1, ⟨hI.2.1.1, hI.2.1.2.1, hI.2.1.2.2⟩, hI.2.2.1, hI.2.2.2.1, hI.2.2.2.2.1, hI.2.2.2.2.2.1, hI.2.2.2.2.2.2⟩⟩)
  · subst e9
    refine n_icmp_ge (tgt := 33) rfl rfl (by decide) (by decide) (fun hq => absurd hq (by decide)) (fun _ => ?_)
    refine r_aload_n rfl rfl ?_
    refine r_iload_n rfl rfl ?_
    refine r_iload_n rfl rfl ?_
    refine s_virI [.int (nI q), .int (nI 1)] [] rfl lkX10_245 rfl rfl rfl (c_of (x := nI (aD a 2 q)) (by omega) (by omega) (M1 hM (by omega))) rfl rfl (Nat.le_refl _) (Nat.le_refl _) rfl (rI (e1 := nI (aD a 2 q)) rfl ?_)
    refine r_goto (tgt := 51) rfl rfl ?_
    exact s_ret (st := []) rfl rfl rfl (Nat.zero_le _) (Nat.zero_le _) (⟨_, rfl, rfl, rfl, FrC_mz rfl rfl, ⟨hI.1, ⟨hI.2.1.1, hI.2.1.2.1, hI.2.1.2.2⟩, hI.2.2.1, hI.2.2.2.1, hI.2.2.2.2.1, hI.2.2.2.2.2.1, hI.2.2.2.2.2.2⟩⟩)
  · subst e9
    refine n_icmp_ge (tgt := 33) rfl rfl (by decide) (by decide) (fun hq => absurd hq (by decide)) (fun _ => ?_)
    refine r_aload_n rfl rfl ?_
    refine r_iload_n rfl rfl ?_
    refine r_iload_n rfl rfl ?_
    refine s_virI [.int (nI q), .int (nI 2)] [] rfl lkX10_245 rfl rfl rfl (c_of (x := nI (aD a 3 q)) (by omega) (by omega) (M2 hM (by omega))) rfl rfl (Nat.le_refl _) (Nat.le_refl _) rfl (rI (e1 := nI (aD a 3 q)) rfl ?_)
    refine r_goto (tgt := 51) rfl rfl ?_
    exact s_ret (st := []) rfl rfl rfl (Nat.zero_le _) (Nat.zero_le _) (⟨_, rfl, rfl, rfl, FrC_mz rfl rfl, ⟨hI.1, ⟨hI.2.1.1, hI.2.1.2.1, hI.2.1.2.2⟩, hI.2.2.1, hI.2.2.2.1, hI.2.2.2.2.1, hI.2.2.2.2.2.1, hI.2.2.2.2.2.2⟩⟩)
  · subst e9
    refine n_icmp_ge (tgt := 33) rfl rfl (by decide) (by decide) (fun hq => absurd hq (by decide)) (fun _ => ?_)
    refine r_aload_n rfl rfl ?_
    refine r_iload_n rfl rfl ?_
    refine r_iload_n rfl rfl ?_
    refine s_virI [.int (nI q), .int (nI 3)] [] rfl lkX10_245 rfl rfl rfl (c_of (x := nI (aD a 4 q)) (by omega) (by omega) (M3 hM (by omega))) rfl rfl (Nat.le_refl _) (Nat.le_refl _) rfl (rI (e1 := nI (aD a 4 q)) rfl ?_)
    refine r_goto (tgt := 51) rfl rfl ?_
    exact s_ret (st := []) rfl rfl rfl (Nat.zero_le _) (Nat.zero_le _) (⟨_, rfl, rfl, rfl, FrC_mz rfl rfl, ⟨hI.1, ⟨hI.2.1.1, hI.2.1.2.1, hI.2.1.2.2⟩, hI.2.2.1, hI.2.2.2.1, hI.2.2.2.2.1, hI.2.2.2.2.2.1, hI.2.2.2.2.2.2⟩⟩)
  · subst e9
    refine n_icmp_ge (tgt := 33) rfl rfl (by decide) (by decide) (fun _ => ?_) (fun hq => absurd hq (by decide))
    refine r_iload_n rfl rfl ?_
    refine n_iconst 4 rfl ?_
    refine n_icmp_ne (tgt := 46) rfl rfl (by decide) (by decide) (fun hq => absurd hq (by decide)) (fun _ => ?_)
    refine r_aload_n rfl rfl ?_
    refine r_iload_n rfl rfl ?_
    refine s_virI [.int (nI q)] [] rfl lkX10_255 rfl rfl rfl (c_mchildren hM hV (by omega)) rfl rfl (Nat.le_refl _) (Nat.le_refl _) rfl (rI (e1 := nI (ch (aD a) q)) rfl ?_)
    refine r_goto (tgt := 51) rfl rfl ?_
    exact s_ret (st := []) rfl rfl rfl (Nat.zero_le _) (Nat.zero_le _) (⟨_, rfl, rfl, rfl, FrC_mz rfl rfl, ⟨hI.1, ⟨hI.2.1.1, hI.2.1.2.1, hI.2.1.2.2⟩, hI.2.2.1, hI.2.2.2.1, hI.2.2.2.2.1, hI.2.2.2.2.2.1, hI.2.2.2.2.2.2⟩⟩)
  · subst e9
    refine n_icmp_ge (tgt := 33) rfl rfl (by decide) (by decide) (fun _ => ?_) (fun hq => absurd hq (by decide))
    refine r_iload_n rfl rfl ?_
    refine n_iconst 4 rfl ?_
    refine n_icmp_ne (tgt := 46) rfl rfl (by decide) (by decide) (fun _ => ?_) (fun hq => absurd hq (by decide))
    refine r_aload_n rfl rfl ?_
    refine r_iload_n rfl rfl ?_
    refine s_virI [.int (nI q)] [] rfl lkX10_258 rfl rfl rfl (c_giftOf hM hV (by omega)) rfl rfl (Nat.le_refl _) (Nat.le_refl _) rfl (rI (e1 := nI (gf (aD a) q)) rfl ?_)
    exact s_ret (st := []) rfl rfl rfl (Nat.zero_le _) (Nat.zero_le _) (⟨_, rfl, rfl, rfl, FrC_mz rfl rfl, ⟨hI.1, ⟨hI.2.1.1, hI.2.1.2.1, hI.2.1.2.2⟩, hI.2.2.1, hI.2.2.2.1, hI.2.2.2.2.1, hI.2.2.2.2.2.1, hI.2.2.2.2.2.2⟩⟩)

theorem k_asset {l9 : Bool} {sc : SC} {σ : SS} {q k : Nat} {a : AB} (hA : AV a) (hI : MI9 σ a) (hq : q < aD a 0 1) (hk : k ≤ 1) : Cs (true, l9) sc mX10_asset 0 0 [.ref 53, .int (nI q), .int (nI k)] σ (QM σ a (asv (aD a) q k) 0) := by
  refine Cs.of gmX10_asset (Nat.le_of_ble_eq_true rfl) ?_
  show Ws (true, l9) sc mX10_asset 0 0 0 0 0 [(0, .ref 53), (1, .int (nI q)), (2, .int (nI k))] [] (mz σ [] []) (QM σ a (asv (aD a) q k) 0)
  have hV := hA.1
  have hC := vC hV
  have hM := hI.1
  refine r_aload_n rfl rfl ?_
  refine n_iconst 0 rfl ?_
  refine m_putI (L' := [(53, (aup (σ.1 53) 0 (nI 0)))]) rfl flX10_89 rfl rfl (okv_i _) rfl ?_
  refine r_aload_n rfl rfl ?_
  refine r_iload_n rfl rfl ?_
  refine r_aload_n rfl rfl ?_
  refine s_getR (r := 54) rfl flX10_7 rfl rfl ?_
  refine n_iconst 1 rfl ?_
  refine s_iald (x := nI ((aD a) 0 1)) rfl rfl (by decide) (MRat hM 0 1 (by decide) (by decide)) ?_
  refine s_virI [.int (nI q), .int (nI ((aD a) 0 1))] [] rfl lkX10_242 rfl rfl rfl (k_no_in rfl hq (by omega)) rfl rfl (Nat.le_refl _) (Nat.le_refl _) rfl (rI (e1 := nI 0) rfl ?_)
  refine n_if_ne (tgt := 28) rfl rfl (by decide) (fun hq => absurd hq (by decide)) (fun _ => ?_)
  refine r_aload_n rfl rfl ?_
  refine r_iload_n rfl rfl ?_
  refine n_iconst 1 rfl ?_
  refine s_virI [.int (nI k), .int (nI 1)] [] rfl lkX10_252 rfl rfl rfl (k_noWhat_in rfl hk (by decide)) rfl rfl (Nat.le_refl _) (Nat.le_refl _) rfl (rI (e1 := nI 0) rfl ?_)
  refine n_if_eq (tgt := 30) rfl rfl (by decide) (fun _ => ?_) (fun hq => absurd hq (by decide))
  refine r_iload_n rfl rfl ?_
  rcases (show k = 0 ∨ k = 1 by omega) with e9 | e9
  · subst e9
    refine n_if_ne (tgt := 48) rfl rfl (by decide) (fun hq => absurd hq (by decide)) (fun _ => ?_)
    refine r_aload_n rfl rfl ?_
    refine s_getR (r := 54) rfl flX10_7 rfl rfl ?_
    refine n_bipush 58 rfl (by decide) ?_
    refine n_iconst 2 rfl ?_
    refine r_iload_n rfl rfl ?_
    refine n_imul rfl ?_
    refine n_iadd rfl ?_
    refine s_iald (x := nI (aD a 5 q)) rfl rfl (by omega) (Ma0 hM (by omega)) ?_
    refine r_goto (tgt := 53) rfl rfl ?_
    exact s_ret (st := []) rfl rfl rfl (Nat.zero_le _) (Nat.zero_le _) (⟨_, rfl, rfl, rfl, FrC_mz rfl rfl, ⟨hI.1, ⟨hI.2.1.1, hI.2.1.2.1, hI.2.1.2.2⟩, hI.2.2.1, hI.2.2.2.1, hI.2.2.2.2.1, hI.2.2.2.2.2.1, hI.2.2.2.2.2.2⟩⟩)
  · subst e9
    refine n_if_ne (tgt := 48) rfl rfl (by decide) (fun _ => ?_) (fun hq => absurd hq (by decide))
    refine r_aload_n rfl rfl ?_
    refine r_iload_n rfl rfl ?_
    refine s_virI [.int (nI q)] [] rfl lkX10_305 rfl rfl rfl (c_netOf hM hV (by omega)) rfl rfl (Nat.le_refl _) (Nat.le_refl _) rfl (rI (e1 := nI (nt (aD a) q)) rfl ?_)
    exact s_ret (st := []) rfl rfl rfl (Nat.zero_le _) (Nat.zero_le _) (⟨_, rfl, rfl, rfl, FrC_mz rfl rfl, ⟨hI.1, ⟨hI.2.1.1, hI.2.1.2.1, hI.2.1.2.2⟩, hI.2.2.1, hI.2.2.2.1, hI.2.2.2.2.1, hI.2.2.2.2.2.1, hI.2.2.2.2.2.2⟩⟩)

theorem k_debt {l9 : Bool} {sc : SC} {σ : SS} {q k : Nat} {a : AB} (hA : AV a) (hI : MI9 σ a) (hq : q < aD a 0 2) (hk : k ≤ 2) : Cs (true, l9) sc mX10_debt 0 0 [.ref 53, .int (nI q), .int (nI k)] σ (QM σ a (dbv (aD a) q k) 0) := by
  refine Cs.of gmX10_debt (Nat.le_of_ble_eq_true rfl) ?_
  show Ws (true, l9) sc mX10_debt 0 0 0 0 0 [(0, .ref 53), (1, .int (nI q)), (2, .int (nI k))] [] (mz σ [] []) (QM σ a (dbv (aD a) q k) 0)
  have hV := hA.1
  have hC := vC hV
  have hM := hI.1
  refine r_aload_n rfl rfl ?_
  refine n_iconst 0 rfl ?_
  refine m_putI (L' := [(53, (aup (σ.1 53) 0 (nI 0)))]) rfl flX10_89 rfl rfl (okv_i _) rfl ?_
  refine r_aload_n rfl rfl ?_
  refine r_iload_n rfl rfl ?_
  refine r_aload_n rfl rfl ?_
  refine s_getR (r := 54) rfl flX10_7 rfl rfl ?_
  refine n_iconst 2 rfl ?_
  refine s_iald (x := nI ((aD a) 0 2)) rfl rfl (by decide) (MRat hM 0 2 (by decide) (by decide)) ?_
  refine s_virI [.int (nI q), .int (nI ((aD a) 0 2))] [] rfl lkX10_242 rfl rfl rfl (k_no_in rfl hq (by omega)) rfl rfl (Nat.le_refl _) (Nat.le_refl _) rfl (rI (e1 := nI 0) rfl ?_)
  refine n_if_ne (tgt := 28) rfl rfl (by decide) (fun hq => absurd hq (by decide)) (fun _ => ?_)
  refine r_aload_n rfl rfl ?_
  refine r_iload_n rfl rfl ?_
  refine n_iconst 2 rfl ?_
  refine s_virI [.int (nI k), .int (nI 2)] [] rfl lkX10_252 rfl rfl rfl (k_noWhat_in rfl hk (by decide)) rfl rfl (Nat.le_refl _) (Nat.le_refl _) rfl (rI (e1 := nI 0) rfl ?_)
  refine n_if_eq (tgt := 30) rfl rfl (by decide) (fun _ => ?_) (fun hq => absurd hq (by decide))
  refine r_aload_n rfl rfl ?_
  refine s_virV [] [] rfl lkX10_323 rfl rfl rfl (c_settles (d := aD a) hM hV) rfl rfl (Nat.le_refl _) (Nat.le_refl _) rfl ?_
  rintro _ ⟨g0, g1, g2, g3, g4, g5, g6, g7, g8, g9, g10, g11, l0, l1, l2, rfl, hMS, h12⟩
  refine m_mz (L' := [(53, (aup (σ.1 53) 0 (nI 0))), (67, g11), (72, g10), (71, g9), (70, g8), (65, g7), (68, g6), (66, g5), (63, g4), (64, g3), (62, g2), (61, g1), (60, g0)]) (M' := [(53, l2), (69, l1), (59, l0)]) rfl rfl ?_
  have hX : MSE g3 g2 g4 g7 g5 g11 g6 g8 g9 g10 l1 l2 (aD a) := hMS
  obtain ⟨x1, x2, x3, x4, x5, x6, x7, x8, x9, x10, x11, x12⟩ := hX
  refine r_iload_n rfl rfl ?_
  refine n_iconst 2 rfl ?_
  rcases (show k = 0 ∨ k = 1 ∨ k = 2 by omega) with e9 | e9 | e9
  · subst e9
    refine n_icmp_ne (tgt := 48) rfl rfl (by decide) (by decide) (fun _ => ?_) (fun hq => absurd hq (by decide))
    refine r_aload_n rfl rfl ?_
    refine s_getR (r := 54) rfl flX10_7 rfl rfl ?_
    refine n_bipush 74 rfl (by decide) ?_
    refine n_iconst 2 rfl ?_
    refine r_iload_n rfl rfl ?_
    refine n_imul rfl ?_
    refine n_iadd rfl ?_
    refine r_iload_n rfl rfl ?_
    refine n_iadd rfl ?_
    refine s_iald (x := nI (aD a 7 q)) rfl rfl (by omega) (Md0 hM (by omega)) ?_
    exact s_ret (st := []) rfl rfl rfl (Nat.zero_le _) (Nat.zero_le _) (⟨_, rfl, rfl, rfl, FrC_mz rfl rfl, ⟨hI.1, ⟨hI.2.1.1, hI.2.1.2.1, hI.2.1.2.2⟩, hI.2.2.1, hI.2.2.2.1, hI.2.2.2.2.1, hI.2.2.2.2.2.1, hI.2.2.2.2.2.2⟩⟩)
  · subst e9
    refine n_icmp_ne (tgt := 48) rfl rfl (by decide) (by decide) (fun _ => ?_) (fun hq => absurd hq (by decide))
    refine r_aload_n rfl rfl ?_
    refine s_getR (r := 54) rfl flX10_7 rfl rfl ?_
    refine n_bipush 74 rfl (by decide) ?_
    refine n_iconst 2 rfl ?_
    refine r_iload_n rfl rfl ?_
    refine n_imul rfl ?_
    refine n_iadd rfl ?_
    refine r_iload_n rfl rfl ?_
    refine n_iadd rfl ?_
    refine s_iald (x := nI (aD a 8 q)) rfl rfl (by omega) (Md1 hM (by omega)) ?_
    exact s_ret (st := []) rfl rfl rfl (Nat.zero_le _) (Nat.zero_le _) (⟨_, rfl, rfl, rfl, FrC_mz rfl rfl, ⟨hI.1, ⟨hI.2.1.1, hI.2.1.2.1, hI.2.1.2.2⟩, hI.2.2.1, hI.2.2.2.1, hI.2.2.2.2.1, hI.2.2.2.2.2.1, hI.2.2.2.2.2.2⟩⟩)
  · subst e9
    refine n_icmp_ne (tgt := 48) rfl rfl (by decide) (by decide) (fun hq => absurd hq (by decide)) (fun _ => ?_)
    refine r_aload_n rfl rfl ?_
    refine s_getR (r := 62) rfl flX10_41 rfl rfl ?_
    refine r_iload_n rfl rfl ?_
    refine s_iald (x := nI (pd (aD a) q)) rfl rfl (by omega) (x2 q (by omega)) ?_
    refine r_goto (tgt := 61) rfl rfl ?_
    exact s_ret (st := []) rfl rfl rfl (Nat.zero_le _) (Nat.zero_le _) (⟨_, rfl, rfl, rfl, FrC_mz rfl rfl, ⟨hI.1, ⟨hI.2.1.1, hI.2.1.2.1, hI.2.1.2.2⟩, hI.2.2.1, hI.2.2.2.1, hI.2.2.2.2.1, hI.2.2.2.2.2.1, hI.2.2.2.2.2.2⟩⟩)

theorem k_legacy {l9 : Bool} {sc : SC} {σ : SS} {q k : Nat} {a : AB} (hA : AV a) (hI : MI9 σ a) (hq : q < aD a 0 4) (hk : k ≤ 3) : Cs (true, l9) sc mX10_legacy 0 0 [.ref 53, .int (nI q), .int (nI k)] σ (QM σ a (lgv (aD a) q k) 0) := by
  refine Cs.of gmX10_legacy (Nat.le_of_ble_eq_true rfl) ?_
  show Ws (true, l9) sc mX10_legacy 0 0 0 0 0 [(0, .ref 53), (1, .int (nI q)), (2, .int (nI k))] [] (mz σ [] []) (QM σ a (lgv (aD a) q k) 0)
  have hV := hA.1
  have hC := vC hV
  have hM := hI.1
  have hL := vL hV q
  refine r_aload_n rfl rfl ?_
  refine n_iconst 0 rfl ?_
  refine m_putI (L' := [(53, (aup (σ.1 53) 0 (nI 0)))]) rfl flX10_89 rfl rfl (okv_i _) rfl ?_
  refine r_aload_n rfl rfl ?_
  refine r_iload_n rfl rfl ?_
  refine r_aload_n rfl rfl ?_
  refine s_getR (r := 54) rfl flX10_7 rfl rfl ?_
  refine n_iconst 4 rfl ?_
  refine s_iald (x := nI ((aD a) 0 4)) rfl rfl (by decide) (MRat hM 0 4 (by decide) (by decide)) ?_
  refine s_virI [.int (nI q), .int (nI ((aD a) 0 4))] [] rfl lkX10_242 rfl rfl rfl (k_no_in rfl hq (by omega)) rfl rfl (Nat.le_refl _) (Nat.le_refl _) rfl (rI (e1 := nI 0) rfl ?_)
  refine n_if_ne (tgt := 28) rfl rfl (by decide) (fun hq => absurd hq (by decide)) (fun _ => ?_)
  refine r_aload_n rfl rfl ?_
  refine r_iload_n rfl rfl ?_
  refine n_iconst 3 rfl ?_
  refine s_virI [.int (nI k), .int (nI 3)] [] rfl lkX10_252 rfl rfl rfl (k_noWhat_in rfl hk (by decide)) rfl rfl (Nat.le_refl _) (Nat.le_refl _) rfl (rI (e1 := nI 0) rfl ?_)
  refine n_if_eq (tgt := 30) rfl rfl (by decide) (fun _ => ?_) (fun hq => absurd hq (by decide))
  refine r_aload_n rfl rfl ?_
  refine s_virV [] [] rfl lkX10_323 rfl rfl rfl (c_settles (d := aD a) hM hV) rfl rfl (Nat.le_refl _) (Nat.le_refl _) rfl ?_
  rintro _ ⟨g0, g1, g2, g3, g4, g5, g6, g7, g8, g9, g10, g11, l0, l1, l2, rfl, hMS, h12⟩
  refine m_mz (L' := [(53, (aup (σ.1 53) 0 (nI 0))), (67, g11), (72, g10), (71, g9), (70, g8), (65, g7), (68, g6), (66, g5), (63, g4), (64, g3), (62, g2), (61, g1), (60, g0)]) (M' := [(53, l2), (69, l1), (59, l0)]) rfl rfl ?_
  have hX : MSE g3 g2 g4 g7 g5 g11 g6 g8 g9 g10 l1 l2 (aD a) := hMS
  obtain ⟨x1, x2, x3, x4, x5, x6, x7, x8, x9, x10, x11, x12⟩ := hX
  refine r_iload_n rfl rfl ?_
  refine n_iconst 3 rfl ?_
  rcases (show k = 0 ∨ k = 1 ∨ k = 2 ∨ k = 3 by omega) with e9 | e9 | e9 | e9
  · subst e9
    refine n_icmp_ne (tgt := 65) rfl rfl (by decide) (by decide) (fun _ => ?_) (fun hq => absurd hq (by decide))
    refine r_iload_n rfl rfl ?_
    refine n_iconst 2 rfl ?_
    refine n_icmp_ne (tgt := 79) rfl rfl (by decide) (by decide) (fun _ => ?_) (fun hq => absurd hq (by decide))
    refine r_aload_n rfl rfl ?_
    refine s_getR (r := 54) rfl flX10_7 rfl rfl ?_
    refine n_bipush 106 rfl (by decide) ?_
    refine n_iconst 2 rfl ?_
    refine r_iload_n rfl rfl ?_
    refine n_imul rfl ?_
    refine n_iadd rfl ?_
    refine r_iload_n rfl rfl ?_
    refine n_iadd rfl ?_
    refine s_iald (x := nI (aD a 11 q)) rfl rfl (by omega) (Ml0 hM (by omega)) ?_
    exact s_ret (st := []) rfl rfl rfl (Nat.zero_le _) (Nat.zero_le _) (⟨_, rfl, rfl, rfl, FrC_mz rfl rfl, ⟨hI.1, ⟨hI.2.1.1, hI.2.1.2.1, hI.2.1.2.2⟩, hI.2.2.1, hI.2.2.2.1, hI.2.2.2.2.1, hI.2.2.2.2.2.1, hI.2.2.2.2.2.2⟩⟩)
  · subst e9
    refine n_icmp_ne (tgt := 65) rfl rfl (by decide) (by decide) (fun _ => ?_) (fun hq => absurd hq (by decide))
    refine r_iload_n rfl rfl ?_
    refine n_iconst 2 rfl ?_
    refine n_icmp_ne (tgt := 79) rfl rfl (by decide) (by decide) (fun _ => ?_) (fun hq => absurd hq (by decide))
    refine r_aload_n rfl rfl ?_
    refine s_getR (r := 54) rfl flX10_7 rfl rfl ?_
    refine n_bipush 106 rfl (by decide) ?_
    refine n_iconst 2 rfl ?_
    refine r_iload_n rfl rfl ?_
    refine n_imul rfl ?_
    refine n_iadd rfl ?_
    refine r_iload_n rfl rfl ?_
    refine n_iadd rfl ?_
    refine s_iald (x := nI (aD a 12 q)) rfl rfl (by omega) (Ml1 hM (by omega)) ?_
    exact s_ret (st := []) rfl rfl rfl (Nat.zero_le _) (Nat.zero_le _) (⟨_, rfl, rfl, rfl, FrC_mz rfl rfl, ⟨hI.1, ⟨hI.2.1.1, hI.2.1.2.1, hI.2.1.2.2⟩, hI.2.2.1, hI.2.2.2.1, hI.2.2.2.2.1, hI.2.2.2.2.2.1, hI.2.2.2.2.2.2⟩⟩)
  · subst e9
    refine n_icmp_ne (tgt := 65) rfl rfl (by decide) (by decide) (fun _ => ?_) (fun hq => absurd hq (by decide))
    refine r_iload_n rfl rfl ?_
    refine n_iconst 2 rfl ?_
    refine n_icmp_ne (tgt := 79) rfl rfl (by decide) (by decide) (fun hq => absurd hq (by decide)) (fun _ => ?_)
    refine r_aload_n rfl rfl ?_
    refine s_getR (r := 63) rfl flX10_44 rfl rfl ?_
    refine r_iload_n rfl rfl ?_
    refine s_iald (x := nI (lp (aD a) q)) rfl rfl (by omega) (x3 q (by omega)) ?_
    refine r_goto (tgt := 92) rfl rfl ?_
    exact s_ret (st := []) rfl rfl rfl (Nat.zero_le _) (Nat.zero_le _) (⟨_, rfl, rfl, rfl, FrC_mz rfl rfl, ⟨hI.1, ⟨hI.2.1.1, hI.2.1.2.1, hI.2.1.2.2⟩, hI.2.2.1, hI.2.2.2.1, hI.2.2.2.2.1, hI.2.2.2.2.2.1, hI.2.2.2.2.2.2⟩⟩)
  · subst e9
    refine n_icmp_ne (tgt := 65) rfl rfl (by decide) (by decide) (fun hq => absurd hq (by decide)) (fun _ => ?_)
    refine r_aload_n rfl rfl ?_
    refine r_aload_n rfl rfl ?_
    refine s_getR (r := 54) rfl flX10_7 rfl rfl ?_
    refine n_bipush 106 rfl (by decide) ?_
    refine n_iconst 2 rfl ?_
    refine r_iload_n rfl rfl ?_
    refine n_imul rfl ?_
    refine n_iadd rfl ?_
    refine s_iald (x := nI (aD a 11 q)) rfl rfl (by omega) (Ml0 hM (by omega)) ?_
    refine s_virI [.int (nI (aD a 11 q))] [] rfl lkX10_265 rfl rfl rfl (c_takesShareN hM hV (by omega)) rfl rfl (Nat.le_refl _) (Nat.le_refl _) rfl (rI (e1 := nI (tb (tk (aD a) (aD a 11 q)))) rfl ?_)
    have ht := tb_le (tk (aD a) (aD a 11 q))
    suffices K : Ws (true, l9) sc mX10_legacy 0 0 0 0 92 [(0, .ref 53), (1, .int (nI q)), (2, .int (nI 3))] [.int (nI (tb (!(tk (aD a) (aD a 11 q)))))] (mz σ [(53, (aup (σ.1 53) 0 (nI 0))), (67, g11), (72, g10), (71, g9), (70, g8), (65, g7), (68, g6), (66, g5), (63, g4), (64, g3), (62, g2), (61, g1), (60, g0)] [(53, l2), (69, l1), (59, l0)]) (QM σ a (lgv (aD a) q 3) 0) by
      refine n_if_eq (tgt := 61) rfl rfl (by omega) (fun h => ?_) (fun h => ?_)
      · refine n_iconst 1 rfl ?_
        refine r_goto (tgt := 92) rfl rfl ?_
        exact r_top (by rw [tb_z h]; rfl) K
      · refine n_iconst 0 rfl ?_
        refine r_goto (tgt := 92) rfl rfl ?_
        exact r_top (by rw [tb_ne h]; rfl) K
    exact s_ret (st := []) rfl rfl rfl (Nat.zero_le _) (Nat.zero_le _) (⟨_, rfl, rfl, rfl, FrC_mz rfl rfl, ⟨hI.1, ⟨hI.2.1.1, hI.2.1.2.1, hI.2.1.2.2⟩, hI.2.2.1, hI.2.2.2.1, hI.2.2.2.2.1, hI.2.2.2.2.2.1, hI.2.2.2.2.2.2⟩⟩)

theorem k_account {l9 : Bool} {sc : SC} {σ : SS} {k : Nat} {a : AB} (hA : AV a) (hI : MI9 σ a) (hk : k ≤ 9) : Cs (true, l9) sc mX10_account 0 0 [.ref 53, .int (nI k)] σ (QM σ a (acv (aD a) k) 0) := by
  refine Cs.of gmX10_account (Nat.le_of_ble_eq_true rfl) ?_
  show Ws (true, l9) sc mX10_account 0 0 0 0 0 [(0, .ref 53), (1, .int (nI k))] [] (mz σ [] []) (QM σ a (acv (aD a) k) 0)
  have hV := hA.1
  have hC := vC hV
  have hM := hI.1
  refine r_aload_n rfl rfl ?_
  refine n_iconst 0 rfl ?_
  refine m_putI (L' := [(53, (aup (σ.1 53) 0 (nI 0)))]) rfl flX10_89 rfl rfl (okv_i _) rfl ?_
  refine r_aload_n rfl rfl ?_
  refine r_iload_n rfl rfl ?_
  refine n_iconst 0 rfl ?_
  refine n_bipush 9 rfl (by decide) ?_
  refine s_staI [.int (nI k), .int (nI 0), .int (nI 9)] [.ref 53] rfl lkX10_113 (k_within_in (by omega) (by omega) (by omega)) rfl rfl (Nat.le_refl _) (Nat.le_refl _) rfl (rI (e1 := nI 1) rfl ?_)
  refine n_if_ne (tgt := 20) rfl rfl (by decide) (fun _ => ?_) (fun hq => absurd hq (by decide))
  refine n_iconst 0 rfl ?_
  refine n_iconst 1 rfl ?_
  refine s_virI [.int (nI 0), .int (nI 1)] [] rfl lkX10_235 rfl rfl rfl (k_tI_no rfl) rfl rfl (Nat.le_refl _) (Nat.le_refl _) rfl (rI (e1 := nI 0) rfl ?_)
  refine n_if_eq (tgt := 30) rfl rfl (by decide) (fun _ => ?_) (fun hq => absurd hq (by decide))
  refine r_aload_n rfl rfl ?_
  refine s_virV [] [] rfl lkX10_323 rfl rfl rfl (c_settles (d := aD a) hM hV) rfl rfl (Nat.le_refl _) (Nat.le_refl _) rfl ?_
  rintro _ ⟨g0, g1, g2, g3, g4, g5, g6, g7, g8, g9, g10, g11, l0, l1, l2, rfl, hMS, h12⟩
  refine m_mz (L' := [(53, (aup (σ.1 53) 0 (nI 0))), (67, g11), (72, g10), (71, g9), (70, g8), (65, g7), (68, g6), (66, g5), (63, g4), (64, g3), (62, g2), (61, g1), (60, g0)]) (M' := [(53, l2), (69, l1), (59, l0)]) rfl rfl ?_
  have hX : MSE g3 g2 g4 g7 g5 g11 g6 g8 g9 g10 l1 l2 (aD a) := hMS
  obtain ⟨x1, x2, x3, x4, x5, x6, x7, x8, x9, x10, x11, x12⟩ := hX
  rcases (show k = 0 ∨ k = 1 ∨ k = 2 ∨ k = 3 ∨ k = 4 ∨ k = 5 ∨ k = 6 ∨ k = 7 ∨ k = 8 ∨ k = 9 by omega) with e9 | e9 | e9 | e9 | e9 | e9 | e9 | e9 | e9 | e9
  · subst e9
    refine r_aload_n rfl rfl ?_
    refine s_getR (r := 64) rfl flX10_47 rfl rfl ?_
    refine r_iload_n rfl rfl ?_
    refine s_iald (x := nI (nts (aD a))) rfl rfl (by decide) x1.1 ?_
    exact s_ret (st := []) rfl rfl rfl (Nat.zero_le _) (Nat.zero_le _) (⟨_, rfl, rfl, rfl, FrC_mz rfl rfl, ⟨hI.1, ⟨hI.2.1.1, hI.2.1.2.1, hI.2.1.2.2⟩, hI.2.2.1, hI.2.2.2.1, hI.2.2.2.2.1, hI.2.2.2.2.2.1, hI.2.2.2.2.2.2⟩⟩)
  · subst e9
    refine r_aload_n rfl rfl ?_
    refine s_getR (r := 64) rfl flX10_47 rfl rfl ?_
    refine r_iload_n rfl rfl ?_
    refine s_iald (x := nI (nts (aD a) - lf (aD a) 5)) rfl rfl (by decide) x1.2.1 ?_
    exact s_ret (st := []) rfl rfl rfl (Nat.zero_le _) (Nat.zero_le _) (⟨_, rfl, rfl, rfl, FrC_mz rfl rfl, ⟨hI.1, ⟨hI.2.1.1, hI.2.1.2.1, hI.2.1.2.2⟩, hI.2.2.1, hI.2.2.2.1, hI.2.2.2.2.1, hI.2.2.2.2.2.1, hI.2.2.2.2.2.2⟩⟩)
  · subst e9
    refine r_aload_n rfl rfl ?_
    refine s_getR (r := 64) rfl flX10_47 rfl rfl ?_
    refine r_iload_n rfl rfl ?_
    refine s_iald (x := nI (du (aD a) 5 - (nts (aD a) - lf (aD a) 5))) rfl rfl (by decide) x1.2.2.1 ?_
    exact s_ret (st := []) rfl rfl rfl (Nat.zero_le _) (Nat.zero_le _) (⟨_, rfl, rfl, rfl, FrC_mz rfl rfl, ⟨hI.1, ⟨hI.2.1.1, hI.2.1.2.1, hI.2.1.2.2⟩, hI.2.2.1, hI.2.2.2.1, hI.2.2.2.2.1, hI.2.2.2.2.2.1, hI.2.2.2.2.2.2⟩⟩)
  · subst e9
    refine r_aload_n rfl rfl ?_
    refine s_getR (r := 64) rfl flX10_47 rfl rfl ?_
    refine r_iload_n rfl rfl ?_
    refine s_iald (x := nI (lu9 (aD a))) rfl rfl (by decide) x1.2.2.2.1 ?_
    exact s_ret (st := []) rfl rfl rfl (Nat.zero_le _) (Nat.zero_le _) (⟨_, rfl, rfl, rfl, FrC_mz rfl rfl, ⟨hI.1, ⟨hI.2.1.1, hI.2.1.2.1, hI.2.1.2.2⟩, hI.2.2.1, hI.2.2.2.1, hI.2.2.2.2.1, hI.2.2.2.2.2.1, hI.2.2.2.2.2.2⟩⟩)
  · subst e9
    refine r_aload_n rfl rfl ?_
    refine s_getR (r := 64) rfl flX10_47 rfl rfl ?_
    refine r_iload_n rfl rfl ?_
    refine s_iald (x := nI (rs (aD a))) rfl rfl (by decide) x1.2.2.2.2.1 ?_
    exact s_ret (st := []) rfl rfl rfl (Nat.zero_le _) (Nat.zero_le _) (⟨_, rfl, rfl, rfl, FrC_mz rfl rfl, ⟨hI.1, ⟨hI.2.1.1, hI.2.1.2.1, hI.2.1.2.2⟩, hI.2.2.1, hI.2.2.2.1, hI.2.2.2.2.1, hI.2.2.2.2.2.1, hI.2.2.2.2.2.2⟩⟩)
  · subst e9
    refine r_aload_n rfl rfl ?_
    refine s_getR (r := 64) rfl flX10_47 rfl rfl ?_
    refine r_iload_n rfl rfl ?_
    refine s_iald (x := nI (a5 (aD a))) rfl rfl (by decide) x1.2.2.2.2.2.1 ?_
    exact s_ret (st := []) rfl rfl rfl (Nat.zero_le _) (Nat.zero_le _) (⟨_, rfl, rfl, rfl, FrC_mz rfl rfl, ⟨hI.1, ⟨hI.2.1.1, hI.2.1.2.1, hI.2.1.2.2⟩, hI.2.2.1, hI.2.2.2.1, hI.2.2.2.2.1, hI.2.2.2.2.2.1, hI.2.2.2.2.2.2⟩⟩)
  · subst e9
    refine r_aload_n rfl rfl ?_
    refine s_getR (r := 64) rfl flX10_47 rfl rfl ?_
    refine r_iload_n rfl rfl ?_
    refine s_iald (x := nI (a6 (aD a))) rfl rfl (by decide) x1.2.2.2.2.2.2.1 ?_
    exact s_ret (st := []) rfl rfl rfl (Nat.zero_le _) (Nat.zero_le _) (⟨_, rfl, rfl, rfl, FrC_mz rfl rfl, ⟨hI.1, ⟨hI.2.1.1, hI.2.1.2.1, hI.2.1.2.2⟩, hI.2.2.1, hI.2.2.2.1, hI.2.2.2.2.1, hI.2.2.2.2.2.1, hI.2.2.2.2.2.2⟩⟩)
  · subst e9
    refine r_aload_n rfl rfl ?_
    refine s_getR (r := 64) rfl flX10_47 rfl rfl ?_
    refine r_iload_n rfl rfl ?_
    refine s_iald (x := nI (a7 (aD a))) rfl rfl (by decide) x1.2.2.2.2.2.2.2.1 ?_
    exact s_ret (st := []) rfl rfl rfl (Nat.zero_le _) (Nat.zero_le _) (⟨_, rfl, rfl, rfl, FrC_mz rfl rfl, ⟨hI.1, ⟨hI.2.1.1, hI.2.1.2.1, hI.2.1.2.2⟩, hI.2.2.1, hI.2.2.2.1, hI.2.2.2.2.1, hI.2.2.2.2.2.1, hI.2.2.2.2.2.2⟩⟩)
  · subst e9
    refine r_aload_n rfl rfl ?_
    refine s_getR (r := 64) rfl flX10_47 rfl rfl ?_
    refine r_iload_n rfl rfl ?_
    refine s_iald (x := nI (a8 (aD a))) rfl rfl (by decide) x1.2.2.2.2.2.2.2.2.1 ?_
    exact s_ret (st := []) rfl rfl rfl (Nat.zero_le _) (Nat.zero_le _) (⟨_, rfl, rfl, rfl, FrC_mz rfl rfl, ⟨hI.1, ⟨hI.2.1.1, hI.2.1.2.1, hI.2.1.2.2⟩, hI.2.2.1, hI.2.2.2.1, hI.2.2.2.2.1, hI.2.2.2.2.2.1, hI.2.2.2.2.2.2⟩⟩)
  · subst e9
    refine r_aload_n rfl rfl ?_
    refine s_getR (r := 64) rfl flX10_47 rfl rfl ?_
    refine r_iload_n rfl rfl ?_
    refine s_iald (x := nI (a9 (aD a))) rfl rfl (by decide) x1.2.2.2.2.2.2.2.2.2 ?_
    exact s_ret (st := []) rfl rfl rfl (Nat.zero_le _) (Nat.zero_le _) (⟨_, rfl, rfl, rfl, FrC_mz rfl rfl, ⟨hI.1, ⟨hI.2.1.1, hI.2.1.2.1, hI.2.1.2.2⟩, hI.2.2.1, hI.2.2.2.1, hI.2.2.2.2.1, hI.2.2.2.2.2.1, hI.2.2.2.2.2.2⟩⟩)

theorem k_factor {l9 : Bool} {sc : SC} {σ : SS} {q : Nat} {a : AB} (hA : AV a) (hI : MI9 σ a) (hq : q ≤ 120) : Cs (true, l9) sc mX10_factor 0 0 [.ref 53, .int (nI q)] σ (QM σ a (nI (fa q)) 0) := by
  refine Cs.of gmX10_factor (Nat.le_of_ble_eq_true rfl) ?_
  show Ws (true, l9) sc mX10_factor 0 0 0 0 0 [(0, .ref 53), (1, .int (nI q))] [] (mz σ [] []) (QM σ a (nI (fa q)) 0)
  refine r_aload_n rfl rfl ?_
  refine n_iconst 0 rfl ?_
  refine m_putI (L' := [(53, (aup (σ.1 53) 0 (nI 0)))]) rfl flX10_89 rfl rfl (okv_i _) rfl ?_
  refine r_aload_n rfl rfl ?_
  refine r_iload_n rfl rfl ?_
  refine n_iconst 0 rfl ?_
  refine n_bipush 120 rfl (by decide) ?_
  refine s_staI [.int (nI q), .int (nI 0), .int (nI 120)] [.ref 53] rfl lkX10_113 (k_within_in (by omega) (by omega) (by omega)) rfl rfl (Nat.le_refl _) (Nat.le_refl _) rfl (rI (e1 := nI 1) rfl ?_)
  refine n_if_ne (tgt := 20) rfl rfl (by decide) (fun _ => ?_) (fun hq => absurd hq (by decide))
  refine n_iconst 0 rfl ?_
  refine n_iconst 1 rfl ?_
  refine s_virI [.int (nI 0), .int (nI 1)] [] rfl lkX10_235 rfl rfl rfl (k_tI_no rfl) rfl rfl (Nat.le_refl _) (Nat.le_refl _) rfl (rI (e1 := nI 0) rfl ?_)
  refine n_if_eq (tgt := 32) rfl rfl (by decide) (fun _ => ?_) (fun hq => absurd hq (by decide))
  refine r_iload_n rfl rfl ?_
  refine s_staI [.int (nI q)] [] rfl lkX10_286 (c_factorOf hq) rfl rfl (Nat.le_refl _) (Nat.le_refl _) rfl (rI (e1 := nI (fa q)) rfl ?_)
  exact s_ret (st := []) rfl rfl rfl (Nat.zero_le _) (Nat.zero_le _) (⟨_, rfl, rfl, rfl, FrC_mz rfl rfl, ⟨hI.1, ⟨hI.2.1.1, hI.2.1.2.1, hI.2.1.2.2⟩, hI.2.2.1, hI.2.2.2.1, hI.2.2.2.2.1, hI.2.2.2.2.2.1, hI.2.2.2.2.2.2⟩⟩)

theorem k_heirSet {l9 : Bool} {sc : SC} {σ : SS} {a : AB} (hV : Vd (aD a)) (hM : MR (σ.1 54) (aD a)) : Cs (true, l9) sc mX10_heirSet 0 0 [.ref 53] σ (RI fun v σ' => ∃ g0 g1 g2 g3 g4 g5 g6 g7 g8 g9 g10 g11 l0 l1 l2, v = nI (mk (he (aD a)) 12) ∧ σ' = mz σ [(67, g11), (72, g10), (71, g9), (70, g8), (65, g7), (68, g6), (66, g5), (63, g4), (64, g3), (62, g2), (61, g1), (60, g0)] [(53, l2), (69, l1), (59, l0)]) := by
  refine Cs.of gmX10_heirSet (Nat.le_of_ble_eq_true rfl) ?_
  show Ws (true, l9) sc mX10_heirSet 0 0 0 0 0 [(0, .ref 53)] [] (mz σ [] []) (RI fun v σ' => ∃ g0 g1 g2 g3 g4 g5 g6 g7 g8 g9 g10 g11 l0 l1 l2, v = nI (mk (he (aD a)) 12) ∧ σ' = mz σ [(67, g11), (72, g10), (71, g9), (70, g8), (65, g7), (68, g6), (66, g5), (63, g4), (64, g3), (62, g2), (61, g1), (60, g0)] [(53, l2), (69, l1), (59, l0)])
  have hC := vC hV
  refine r_aload_n rfl rfl ?_
  refine s_virV [] [] rfl lkX10_323 rfl rfl rfl (c_settles (d := aD a) hM hV) rfl rfl (Nat.le_refl _) (Nat.le_refl _) rfl ?_
  rintro _ ⟨g0, g1, g2, g3, g4, g5, g6, g7, g8, g9, g10, g11, l0, l1, l2, rfl, hMS, h12⟩
  refine m_mz (L' := [(67, g11), (72, g10), (71, g9), (70, g8), (65, g7), (68, g6), (66, g5), (63, g4), (64, g3), (62, g2), (61, g1), (60, g0)]) (M' := [(53, l2), (69, l1), (59, l0)]) rfl rfl ?_
  have hX : MSE g3 g2 g4 g7 g5 g11 g6 g8 g9 g10 l1 l2 (aD a) := hMS
  obtain ⟨x1, x2, x3, x4, x5, x6, x7, x8, x9, x10, x11, x12⟩ := hX
  refine n_iconst 0 rfl ?_
  refine r_istore_n (lv' := [(1, .int (nI 0)), (0, .ref 53)]) rfl rfl (Nat.le_of_ble_eq_true rfl) rfl ?_
  refine n_iconst 0 rfl ?_
  refine r_istore_n (lv' := [(2, .int (nI 0)), (1, .int (nI 0)), (0, .ref 53)]) rfl rfl (Nat.le_of_ble_eq_true rfl) rfl ?_
  have hmz : (0 : Nat) = mk (he (aD a)) 0 := rfl
  refine r_lv (lv' := [(2, .int (nI 0)), (1, .int (nI 0)), (0, .ref 53)]) [0, 1, 2] rfl ?_
  have loop : ∀ (m9 : Nat) (k : Nat) , aD a 0 0 - k < m9 → (k ≤ aD a 0 0) → Ws (true, l9) sc mX10_heirSet 0 0 0 0 8 [(2, .int (nI k)), (1, .int (nI (mk (he (aD a)) k))), (0, .ref 53)] [] (mz σ [(67, g11), (72, g10), (71, g9), (70, g8), (65, g7), (68, g6), (66, g5), (63, g4), (64, g3), (62, g2), (61, g1), (60, g0)] [(53, l2), (69, l1), (59, l0)]) (RI fun v σ' => ∃ g0 g1 g2 g3 g4 g5 g6 g7 g8 g9 g10 g11 l0 l1 l2, v = nI (mk (he (aD a)) 12) ∧ σ' = mz σ [(67, g11), (72, g10), (71, g9), (70, g8), (65, g7), (68, g6), (66, g5), (63, g4), (64, g3), (62, g2), (61, g1), (60, g0)] [(53, l2), (69, l1), (59, l0)]) := by
    intro m9
    induction m9 with
    | zero => intro k  hme; exact absurd hme (Nat.not_lt_zero _)
    | succ m9 ih =>
      intro k  hme hk
      have ht := tb_le (he (aD a) k)
      refine r_iload_n rfl rfl ?_
      refine r_aload_n rfl rfl ?_
      refine s_getR (r := 54) rfl flX10_7 rfl rfl ?_
      refine n_iconst 0 rfl ?_
      refine s_iald (x := nI ((aD a) 0 0)) rfl rfl (by decide) (MRat hM 0 0 (by decide) (by decide)) ?_
      refine n_icmp_ge (tgt := 43) rfl rfl (by omega) (by omega) (fun h1 => ?_) (fun h1 => ?_)
      · have hke : k = aD a 0 0 := by omega
        have hmk : mk (he (aD a)) 12 = mk (he (aD a)) k := by rw [hke]; exact mk_hi (fun i hi => he_hi hi) 12 (by omega)
        rw [← hmk]
        refine r_iload_n rfl rfl ?_
        exact s_ret (st := []) rfl rfl rfl (Nat.zero_le _) (Nat.zero_le _) (⟨_, rfl, g0, g1, g2, g3, g4, g5, g6, g7, g8, g9, g10, g11, l0, l1, l2, rfl, rfl⟩)
      · refine r_iload_n rfl rfl ?_
        refine r_aload_n rfl rfl ?_
        refine s_getR (r := 66) rfl flX10_53 rfl rfl ?_
        refine r_iload_n rfl rfl ?_
        refine s_zald (x := nI (tb (he (aD a) k))) rfl rfl (by omega) (x5 k (by omega)) ?_
        suffices K : Ws (true, l9) sc mX10_heirSet 0 0 0 0 35 [(2, .int (nI k)), (1, .int (nI (mk (he (aD a)) k))), (0, .ref 53)] [.int (nI (tb (he (aD a) k) <<< k)), .int (nI (mk (he (aD a)) k))] (mz σ [(67, g11), (72, g10), (71, g9), (70, g8), (65, g7), (68, g6), (66, g5), (63, g4), (64, g3), (62, g2), (61, g1), (60, g0)] [(53, l2), (69, l1), (59, l0)]) (RI fun v σ' => ∃ g0 g1 g2 g3 g4 g5 g6 g7 g8 g9 g10 g11 l0 l1 l2, v = nI (mk (he (aD a)) 12) ∧ σ' = mz σ [(67, g11), (72, g10), (71, g9), (70, g8), (65, g7), (68, g6), (66, g5), (63, g4), (64, g3), (62, g2), (61, g1), (60, g0)] [(53, l2), (69, l1), (59, l0)]) by
          refine n_if_eq (tgt := 34) rfl rfl (by omega) (fun h2 => ?_) (fun h2 => ?_)
          · refine n_iconst 0 rfl ?_
            exact r_top (by rw [h2, Nat.zero_shiftLeft]) K
          · refine n_iconst 1 rfl ?_
            refine r_iload_n rfl rfl ?_
            refine r_ishl rfl ?_
            refine r_goto (tgt := 35) rfl rfl ?_
            exact r_top (by rw [tb_ne h2]; exact bt_one (by omega)) K
        refine r_ior rfl ?_
        refine r_top (y := nI (mk (he (aD a)) (k + 1))) (by rw [nI_or]; rfl) ?_
        refine r_istore_n (lv' := [(1, .int (nI (mk (he (aD a)) (k + 1)))), (2, .int (nI k)), (0, .ref 53)]) rfl rfl (Nat.le_of_ble_eq_true rfl) rfl ?_
        refine n_iinc (lv' := [(2, .int (nI (k + 1))), (1, .int (nI (mk (he (aD a)) (k + 1)))), (0, .ref 53)]) 1 rfl rfl (Nat.le_of_ble_eq_true rfl) rfl ?_
        refine r_goto (tgt := 8) rfl rfl ?_
        refine r_lv (lv' := [(2, .int (nI (k + 1))), (1, .int (nI (mk (he (aD a)) (k + 1)))), (0, .ref 53)]) [0, 1, 2] rfl ?_
        exact ih (k + 1) (by omega) (by omega)
  exact loop (aD a 0 0 + 1) 0 (by omega) (by omega)

theorem k_heirs {l9 : Bool} {sc : SC} {σ : SS} {a : AB} (hA : AV a) (hI : MI9 σ a) : Cs (true, l9) sc mX10_heirs 0 0 [.ref 53] σ (QM σ a (nI (mk (he (aD a)) 12)) 0) := by
  refine Cs.of gmX10_heirs (Nat.le_of_ble_eq_true rfl) ?_
  show Ws (true, l9) sc mX10_heirs 0 0 0 0 0 [(0, .ref 53)] [] (mz σ [] []) (QM σ a (nI (mk (he (aD a)) 12)) 0)
  have hV := hA.1
  have hC := vC hV
  have hM := hI.1
  refine r_aload_n rfl rfl ?_
  refine n_iconst 0 rfl ?_
  refine m_putI (L' := [(53, (aup (σ.1 53) 0 (nI 0)))]) rfl flX10_89 rfl rfl (okv_i _) rfl ?_
  refine r_aload_n rfl rfl ?_
  refine s_virI [] [] rfl lkX10_326 rfl rfl rfl (k_heirSet (a := a) hV hM) rfl rfl (Nat.le_refl _) (Nat.le_refl _) rfl ?_
  rintro _ _ ⟨g0, g1, g2, g3, g4, g5, g6, g7, g8, g9, g10, g11, l0, l1, l2, rfl, rfl⟩
  refine m_mz (L' := [(53, (aup (σ.1 53) 0 (nI 0))), (60, g0), (61, g1), (62, g2), (64, g3), (63, g4), (66, g5), (68, g6), (65, g7), (70, g8), (71, g9), (72, g10), (67, g11)]) (M' := [(59, l0), (69, l1), (53, l2)]) rfl rfl ?_
  exact s_ret (st := []) rfl rfl rfl (Nat.zero_le _) (Nat.zero_le _) (⟨_, rfl, rfl, rfl, FrC_mz rfl rfl, ⟨hI.1, ⟨hI.2.1.1, hI.2.1.2.1, hI.2.1.2.2⟩, hI.2.2.1, hI.2.2.2.1, hI.2.2.2.2.1, hI.2.2.2.2.2.1, hI.2.2.2.2.2.2⟩⟩)

theorem k_leftOut {l9 : Bool} {sc : SC} {σ : SS} {a : AB} (hA : AV a) (hI : MI9 σ a) : Cs (true, l9) sc mX10_leftOut 0 0 [.ref 53] σ (QM σ a (nI (mk (ou (aD a)) 12)) 0) := by
  refine Cs.of gmX10_leftOut (Nat.le_of_ble_eq_true rfl) ?_
  show Ws (true, l9) sc mX10_leftOut 0 0 0 0 0 [(0, .ref 53)] [] (mz σ [] []) (QM σ a (nI (mk (ou (aD a)) 12)) 0)
  have hV := hA.1
  have hC := vC hV
  have hM := hI.1
  refine r_aload_n rfl rfl ?_
  refine n_iconst 0 rfl ?_
  refine m_putI (L' := [(53, (aup (σ.1 53) 0 (nI 0)))]) rfl flX10_89 rfl rfl (okv_i _) rfl ?_
  refine r_aload_n rfl rfl ?_
  refine s_virV [] [] rfl lkX10_323 rfl rfl rfl (c_settles (d := aD a) hM hV) rfl rfl (Nat.le_refl _) (Nat.le_refl _) rfl ?_
  rintro _ ⟨g0, g1, g2, g3, g4, g5, g6, g7, g8, g9, g10, g11, l0, l1, l2, rfl, hMS, h12⟩
  refine m_mz (L' := [(53, (aup (σ.1 53) 0 (nI 0))), (67, g11), (72, g10), (71, g9), (70, g8), (65, g7), (68, g6), (66, g5), (63, g4), (64, g3), (62, g2), (61, g1), (60, g0)]) (M' := [(53, l2), (69, l1), (59, l0)]) rfl rfl ?_
  have hX : MSE g3 g2 g4 g7 g5 g11 g6 g8 g9 g10 l1 l2 (aD a) := hMS
  obtain ⟨x1, x2, x3, x4, x5, x6, x7, x8, x9, x10, x11, x12⟩ := hX
  refine n_iconst 0 rfl ?_
  refine r_istore_n (lv' := [(1, .int (nI 0)), (0, .ref 53)]) rfl rfl (Nat.le_of_ble_eq_true rfl) rfl ?_
  refine n_iconst 0 rfl ?_
  refine r_istore_n (lv' := [(2, .int (nI 0)), (1, .int (nI 0)), (0, .ref 53)]) rfl rfl (Nat.le_of_ble_eq_true rfl) rfl ?_
  have hmz : (0 : Nat) = mk (ou (aD a)) 0 := rfl
  refine r_lv (lv' := [(2, .int (nI 0)), (1, .int (nI 0)), (0, .ref 53)]) [0, 1, 2] rfl ?_
  have loop : ∀ (m9 : Nat) (k : Nat) , aD a 0 0 - k < m9 → (k ≤ aD a 0 0) → Ws (true, l9) sc mX10_leftOut 0 0 0 0 13 [(2, .int (nI k)), (1, .int (nI (mk (ou (aD a)) k))), (0, .ref 53)] [] (mz σ [(53, (aup (σ.1 53) 0 (nI 0))), (67, g11), (72, g10), (71, g9), (70, g8), (65, g7), (68, g6), (66, g5), (63, g4), (64, g3), (62, g2), (61, g1), (60, g0)] [(53, l2), (69, l1), (59, l0)]) (QM σ a (nI (mk (ou (aD a)) 12)) 0) := by
    intro m9
    induction m9 with
    | zero => intro k  hme; exact absurd hme (Nat.not_lt_zero _)
    | succ m9 ih =>
      intro k  hme hk
      have ht := tb_le (ou (aD a) k)
      refine r_iload_n rfl rfl ?_
      refine r_aload_n rfl rfl ?_
      refine s_getR (r := 54) rfl flX10_7 rfl rfl ?_
      refine n_iconst 0 rfl ?_
      refine s_iald (x := nI ((aD a) 0 0)) rfl rfl (by decide) (MRat hM 0 0 (by decide) (by decide)) ?_
      refine n_icmp_ge (tgt := 48) rfl rfl (by omega) (by omega) (fun h1 => ?_) (fun h1 => ?_)
      · have hke : k = aD a 0 0 := by omega
        have hmk : mk (ou (aD a)) 12 = mk (ou (aD a)) k := by rw [hke]; exact mk_hi (fun i hi => ou_hi hi) 12 (by omega)
        rw [← hmk]
        refine r_iload_n rfl rfl ?_
        exact s_ret (st := []) rfl rfl rfl (Nat.zero_le _) (Nat.zero_le _) (⟨_, rfl, rfl, rfl, FrC_mz rfl rfl, ⟨hI.1, ⟨hI.2.1.1, hI.2.1.2.1, hI.2.1.2.2⟩, hI.2.2.1, hI.2.2.2.1, hI.2.2.2.2.1, hI.2.2.2.2.2.1, hI.2.2.2.2.2.2⟩⟩)
      · refine r_iload_n rfl rfl ?_
        refine r_aload_n rfl rfl ?_
        refine s_getR (r := 67) rfl flX10_56 rfl rfl ?_
        refine r_iload_n rfl rfl ?_
        refine s_zald (x := nI (tb (ou (aD a) k))) rfl rfl (by omega) (x6 k (by omega)) ?_
        suffices K : Ws (true, l9) sc mX10_leftOut 0 0 0 0 40 [(2, .int (nI k)), (1, .int (nI (mk (ou (aD a)) k))), (0, .ref 53)] [.int (nI (tb (ou (aD a) k) <<< k)), .int (nI (mk (ou (aD a)) k))] (mz σ [(53, (aup (σ.1 53) 0 (nI 0))), (67, g11), (72, g10), (71, g9), (70, g8), (65, g7), (68, g6), (66, g5), (63, g4), (64, g3), (62, g2), (61, g1), (60, g0)] [(53, l2), (69, l1), (59, l0)]) (QM σ a (nI (mk (ou (aD a)) 12)) 0) by
          refine n_if_eq (tgt := 39) rfl rfl (by omega) (fun h2 => ?_) (fun h2 => ?_)
          · refine n_iconst 0 rfl ?_
            exact r_top (by rw [h2, Nat.zero_shiftLeft]) K
          · refine n_iconst 1 rfl ?_
            refine r_iload_n rfl rfl ?_
            refine r_ishl rfl ?_
            refine r_goto (tgt := 40) rfl rfl ?_
            exact r_top (by rw [tb_ne h2]; exact bt_one (by omega)) K
        refine r_ior rfl ?_
        refine r_top (y := nI (mk (ou (aD a)) (k + 1))) (by rw [nI_or]; rfl) ?_
        refine r_istore_n (lv' := [(1, .int (nI (mk (ou (aD a)) (k + 1)))), (2, .int (nI k)), (0, .ref 53)]) rfl rfl (Nat.le_of_ble_eq_true rfl) rfl ?_
        refine n_iinc (lv' := [(2, .int (nI (k + 1))), (1, .int (nI (mk (ou (aD a)) (k + 1)))), (0, .ref 53)]) 1 rfl rfl (Nat.le_of_ble_eq_true rfl) rfl ?_
        refine r_goto (tgt := 13) rfl rfl ?_
        refine r_lv (lv' := [(2, .int (nI (k + 1))), (1, .int (nI (mk (ou (aD a)) (k + 1)))), (0, .ref 53)]) [0, 1, 2] rfl ?_
        exact ih (k + 1) (by omega) (by omega)
  exact loop (aD a 0 0 + 1) 0 (by omega) (by omega)

theorem k_isEmpty {l9 : Bool} {sc : SC} {σ : SS} {q : Nat} {a : AB} (hA : AV a) (hI : MI9 σ a) (hq : q < aD a 0 0) : Cs (true, l9) sc mX10_isEmpty 0 0 [.ref 53, .int (nI q)] σ (QM σ a (nI (tb (!(isL (aD a) q)))) 0) := by
  refine Cs.of gmX10_isEmpty (Nat.le_of_ble_eq_true rfl) ?_
  show Ws (true, l9) sc mX10_isEmpty 0 0 0 0 0 [(0, .ref 53), (1, .int (nI q))] [] (mz σ [] []) (QM σ a (nI (tb (!(isL (aD a) q)))) 0)
  have hV := hA.1
  have hC := vC hV
  have hM := hI.1
  refine r_aload_n rfl rfl ?_
  refine r_iload_n rfl rfl ?_
  refine s_virI [.int (nI q)] [] rfl lkX10_249 rfl rfl rfl (k_noPerson_in (hM := hI.1) hV hq) rfl rfl (Nat.le_refl _) (Nat.le_refl _) rfl (rI (e1 := nI 0) rfl ?_)
  refine m_mz (L' := [(53, (aup (σ.1 53) 0 (nI 0)))]) (M' := []) rfl rfl ?_
  refine n_if_eq (tgt := 10) rfl rfl (by decide) (fun _ => ?_) (fun hq => absurd hq (by decide))
  refine r_aload_n rfl rfl ?_
  refine s_virV [] [] rfl lkX10_323 rfl rfl rfl (c_settles (d := aD a) hM hV) rfl rfl (Nat.le_refl _) (Nat.le_refl _) rfl ?_
  rintro _ ⟨g0, g1, g2, g3, g4, g5, g6, g7, g8, g9, g10, g11, l0, l1, l2, rfl, hMS, h12⟩
  refine m_mz (L' := [(53, (aup (σ.1 53) 0 (nI 0))), (67, g11), (72, g10), (71, g9), (70, g8), (65, g7), (68, g6), (66, g5), (63, g4), (64, g3), (62, g2), (61, g1), (60, g0)]) (M' := [(53, l2), (69, l1), (59, l0)]) rfl rfl ?_
  have hX : MSE g3 g2 g4 g7 g5 g11 g6 g8 g9 g10 l1 l2 (aD a) := hMS
  obtain ⟨x1, x2, x3, x4, x5, x6, x7, x8, x9, x10, x11, x12⟩ := hX
  have ht := tb_le (isL (aD a) q)
  refine r_aload_n rfl rfl ?_
  refine s_getR (r := 65) rfl flX10_50 rfl rfl ?_
  refine r_iload_n rfl rfl ?_
  refine s_zald (x := nI (tb (isL (aD a) q))) rfl rfl (by omega) (x4 q (by omega)) ?_
  suffices K : Ws (true, l9) sc mX10_isEmpty 0 0 0 0 28 [(0, .ref 53), (1, .int (nI q))] [.int (nI (tb (!(isL (aD a) q))))] (mz σ [(53, (aup (σ.1 53) 0 (nI 0))), (67, g11), (72, g10), (71, g9), (70, g8), (65, g7), (68, g6), (66, g5), (63, g4), (64, g3), (62, g2), (61, g1), (60, g0)] [(53, l2), (69, l1), (59, l0)]) (QM σ a (nI (tb (!(isL (aD a) q)))) 0) by
    refine n_if_ne (tgt := 27) rfl rfl (by omega) (fun h => ?_) (fun h => ?_)
    · refine n_iconst 0 rfl ?_
      exact r_top (by rw [tb_ne h]; rfl) K
    · refine n_iconst 1 rfl ?_
      refine r_goto (tgt := 28) rfl rfl ?_
      exact r_top (by rw [tb_z h]; rfl) K
  exact s_ret (st := []) rfl rfl (nar_tb _) (Nat.zero_le _) (Nat.zero_le _) (⟨_, rfl, rfl, rfl, FrC_mz rfl rfl, ⟨hI.1, ⟨hI.2.1.1, hI.2.1.2.1, hI.2.1.2.2⟩, hI.2.2.1, hI.2.2.2.1, hI.2.2.2.2.1, hI.2.2.2.2.2.1, hI.2.2.2.2.2.2⟩⟩)

theorem k_step {l9 : Bool} {sc : SC} {σ : SS} {q k : Nat} {a : AB} (hA : AV a) (hI : MI9 σ a) (hq : q < aD a 0 0) (hk : k ≤ 6) : Cs (true, l9) sc mX10_step 0 0 [.ref 53, .int (nI q), .int (nI k)] σ (QM σ a (stw (aD a) q k) 0) := by
  refine Cs.of gmX10_step (Nat.le_of_ble_eq_true rfl) ?_
  show Ws (true, l9) sc mX10_step 0 0 0 0 0 [(0, .ref 53), (1, .int (nI q)), (2, .int (nI k))] [] (mz σ [] []) (QM σ a (stw (aD a) q k) 0)
  have hV := hA.1
  have hC := vC hV
  have hM := hI.1
  refine r_aload_n rfl rfl ?_
  refine r_iload_n rfl rfl ?_
  refine s_virI [.int (nI q)] [] rfl lkX10_249 rfl rfl rfl (k_noPerson_in (hM := hI.1) hV hq) rfl rfl (Nat.le_refl _) (Nat.le_refl _) rfl (rI (e1 := nI 0) rfl ?_)
  refine m_mz (L' := [(53, (aup (σ.1 53) 0 (nI 0)))]) (M' := []) rfl rfl ?_
  refine n_if_ne (tgt := 18) rfl rfl (by decide) (fun hq => absurd hq (by decide)) (fun _ => ?_)
  refine r_aload_n rfl rfl ?_
  refine r_iload_n rfl rfl ?_
  refine n_bipush 6 rfl (by decide) ?_
  refine s_virI [.int (nI k), .int (nI 6)] [] rfl lkX10_252 rfl rfl rfl (k_noWhat_in rfl hk (by decide)) rfl rfl (Nat.le_refl _) (Nat.le_refl _) rfl (rI (e1 := nI 0) rfl ?_)
  refine n_if_eq (tgt := 20) rfl rfl (by decide) (fun _ => ?_) (fun hq => absurd hq (by decide))
  refine r_aload_n rfl rfl ?_
  refine s_virV [] [] rfl lkX10_323 rfl rfl rfl (c_settles (d := aD a) hM hV) rfl rfl (Nat.le_refl _) (Nat.le_refl _) rfl ?_
  rintro _ ⟨g0, g1, g2, g3, g4, g5, g6, g7, g8, g9, g10, g11, l0, l1, l2, rfl, hMS, h12⟩
  refine m_mz (L' := [(53, (aup (σ.1 53) 0 (nI 0))), (67, g11), (72, g10), (71, g9), (70, g8), (65, g7), (68, g6), (66, g5), (63, g4), (64, g3), (62, g2), (61, g1), (60, g0)]) (M' := [(53, l2), (69, l1), (59, l0)]) rfl rfl ?_
  have hX : MSE g3 g2 g4 g7 g5 g11 g6 g8 g9 g10 l1 l2 (aD a) := hMS
  obtain ⟨x1, x2, x3, x4, x5, x6, x7, x8, x9, x10, x11, x12⟩ := hX
  have ht := tb_le (he (aD a) q)
  have ht2 := tb_le (ou (aD a) q)
  have hpo : po (aD a) ≤ 79999992 + 12 * 79999992 := Nat.le_trans (pt_le (b := 79999992) (fun i _ => gf_le hV i)) (by have := a8_le hV; omega)
  refine r_aload_n rfl rfl ?_
  refine s_getR (r := 66) rfl flX10_53 rfl rfl ?_
  refine r_iload_n rfl rfl ?_
  refine s_zald (x := nI (tb (he (aD a) q))) rfl rfl (by omega) (x5 q (by omega)) ?_
  refine n_if_eq (tgt := 51) rfl rfl (by omega) (fun h1 => ?_) (fun h1 => ?_)
  · refine n_m1 rfl ?_
    exact s_ret (st := []) rfl rfl rfl (Nat.zero_le _) (Nat.zero_le _) (⟨_, rfl, (by unfold stw; rw [if_neg (by rw [tb_z h1]; decide)]), rfl, FrC_mz rfl rfl, ⟨hI.1, ⟨hI.2.1.1, hI.2.1.2.1, hI.2.1.2.2⟩, hI.2.2.1, hI.2.2.2.1, hI.2.2.2.2.1, hI.2.2.2.2.2.1, hI.2.2.2.2.2.2⟩⟩)
  · have hst : stw (aD a) q k = stv (aD a) q k := if_pos (tb_ne h1)
    rw [hst]
    refine r_aload_n rfl rfl ?_
    refine s_getR (r := 67) rfl flX10_56 rfl rfl ?_
    refine r_iload_n rfl rfl ?_
    refine s_zald (x := nI (tb (ou (aD a) q))) rfl rfl (by omega) (x6 q (by omega)) ?_
    refine n_if_eq (tgt := 53) rfl rfl (by omega) (fun h2 => ?_) (fun h2 => ?_)
    · rcases (show k = 0 ∨ k = 1 ∨ k = 2 ∨ k = 3 ∨ k = 4 ∨ k = 5 ∨ k = 6 by omega) with e9 | e9 | e9 | e9 | e9 | e9 | e9
      · subst e9
        refine r_iload_n rfl rfl ?_
        refine r_tblIn (off := 38) (tgt := 92) rfl (by decide) (by decide) (by decide) rfl ?_
        refine r_aload_n rfl rfl ?_
        refine s_getR (r := 68) rfl flX10_59 rfl rfl ?_
        refine r_iload_n rfl rfl ?_
        refine s_iald (x := nI (dv (aD a) q)) rfl rfl (by omega) (x7 q (by omega)) ?_
        exact s_ret (st := []) rfl rfl rfl (Nat.zero_le _) (Nat.zero_le _) (⟨_, rfl, rfl, rfl, FrC_mz rfl rfl, ⟨hI.1, ⟨hI.2.1.1, hI.2.1.2.1, hI.2.1.2.2⟩, hI.2.2.1, hI.2.2.2.1, hI.2.2.2.2.1, hI.2.2.2.2.2.1, hI.2.2.2.2.2.2⟩⟩)
      · subst e9
        refine r_iload_n rfl rfl ?_
        refine r_tblIn (off := 45) (tgt := 99) rfl (by decide) (by decide) (by decide) rfl ?_
        refine r_aload_n rfl rfl ?_
        refine s_getR (r := 69) rfl flX10_62 rfl rfl ?_
        refine r_iload_n rfl rfl ?_
        refine s_lald (x := lN (wt (aD a) q)) rfl rfl (by omega) (x11 q (by omega)) ?_
        refine n_l2i rfl ?_
        exact s_ret (st := []) rfl rfl rfl (Nat.zero_le _) (Nat.zero_le _) (⟨_, rfl, rfl, rfl, FrC_mz rfl rfl, ⟨hI.1, ⟨hI.2.1.1, hI.2.1.2.1, hI.2.1.2.2⟩, hI.2.2.1, hI.2.2.2.1, hI.2.2.2.2.1, hI.2.2.2.2.2.1, hI.2.2.2.2.2.2⟩⟩)
      · subst e9
        refine r_iload_n rfl rfl ?_
        refine r_tblIn (off := 53) (tgt := 107) rfl (by decide) (by decide) (by decide) rfl ?_
        refine r_aload_n rfl rfl ?_
        refine r_iload_n rfl rfl ?_
        refine s_virI [.int (nI q)] [] rfl lkX10_258 rfl rfl rfl (c_giftOf hM hV (by omega)) rfl rfl (Nat.le_refl _) (Nat.le_refl _) rfl (rI (e1 := nI (gf (aD a) q)) rfl ?_)
        exact s_ret (st := []) rfl rfl rfl (Nat.zero_le _) (Nat.zero_le _) (⟨_, rfl, rfl, rfl, FrC_mz rfl rfl, ⟨hI.1, ⟨hI.2.1.1, hI.2.1.2.1, hI.2.1.2.2⟩, hI.2.2.1, hI.2.2.2.1, hI.2.2.2.2.1, hI.2.2.2.2.2.1, hI.2.2.2.2.2.2⟩⟩)
      · subst e9
        refine r_iload_n rfl rfl ?_
        refine r_tblIn (off := 59) (tgt := 113) rfl (by decide) (by decide) (by decide) rfl ?_
        refine r_aload_n rfl rfl ?_
        refine s_getL (x := lN (po (aD a))) rfl flX10_302 rfl rfl x12 ?_
        refine n_l2i rfl ?_
        exact s_ret (st := []) rfl rfl rfl (Nat.zero_le _) (Nat.zero_le _) (⟨_, rfl, (if_neg (by rw [tb_z h2]; decide)).symm, rfl, FrC_mz rfl rfl, ⟨hI.1, ⟨hI.2.1.1, hI.2.1.2.1, hI.2.1.2.2⟩, hI.2.2.1, hI.2.2.2.1, hI.2.2.2.2.1, hI.2.2.2.2.2.1, hI.2.2.2.2.2.2⟩⟩)
      · subst e9
        refine r_iload_n rfl rfl ?_
        refine r_tblIn (off := 65) (tgt := 119) rfl (by decide) (by decide) (by decide) rfl ?_
        refine r_aload_n rfl rfl ?_
        refine s_getR (r := 71) rfl flX10_68 rfl rfl ?_
        refine r_iload_n rfl rfl ?_
        refine s_iald (x := nI (bs (po (aD a)) (sm (w9 (aD a)) 12) (w9 (aD a)) q)) rfl rfl (by omega) (x9 q (by omega)) ?_
        exact s_ret (st := []) rfl rfl rfl (Nat.zero_le _) (Nat.zero_le _) (⟨_, rfl, (if_neg (by rw [tb_z h2]; decide)).symm, rfl, FrC_mz rfl rfl, ⟨hI.1, ⟨hI.2.1.1, hI.2.1.2.1, hI.2.1.2.2⟩, hI.2.2.1, hI.2.2.2.1, hI.2.2.2.2.1, hI.2.2.2.2.2.1, hI.2.2.2.2.2.2⟩⟩)
      · subst e9
        refine r_iload_n rfl rfl ?_
        refine r_tblIn (off := 72) (tgt := 126) rfl (by decide) (by decide) (by decide) rfl ?_
        refine r_aload_n rfl rfl ?_
        refine s_getR (r := 72) rfl flX10_71 rfl rfl ?_
        refine r_iload_n rfl rfl ?_
        refine s_zald (x := nI (tb (ce (po (aD a)) (sm (w9 (aD a)) 12) (w9 (aD a)) 12 q))) rfl rfl (by omega) (x10 q (by omega)) ?_
        have ht3 := tb_le (ce (po (aD a)) (sm (w9 (aD a)) 12) (w9 (aD a)) 12 q)
        suffices K : Ws (true, l9) sc mX10_step 0 0 0 0 140 [(0, .ref 53), (1, .int (nI q)), (2, .int (nI 5))] [.int (nI (tb (ce (po (aD a)) (sm (w9 (aD a)) 12) (w9 (aD a)) 12 q)))] (mz σ [(53, (aup (σ.1 53) 0 (nI 0))), (67, g11), (72, g10), (71, g9), (70, g8), (65, g7), (68, g6), (66, g5), (63, g4), (64, g3), (62, g2), (61, g1), (60, g0)] [(53, l2), (69, l1), (59, l0)]) (QM σ a (stv (aD a) q 5) 0) by
          refine n_if_eq (tgt := 139) rfl rfl (by omega) (fun h3 => ?_) (fun h3 => ?_)
          · refine n_iconst 0 rfl ?_
            exact r_top (by rw [h3]) K
          · refine n_iconst 1 rfl ?_
            refine r_goto (tgt := 140) rfl rfl ?_
            exact r_top (by rw [tb_ne h3]; rfl) K
        exact s_ret (st := []) rfl rfl rfl (Nat.zero_le _) (Nat.zero_le _) (⟨_, rfl, (if_neg (by rw [tb_z h2]; decide)).symm, rfl, FrC_mz rfl rfl, ⟨hI.1, ⟨hI.2.1.1, hI.2.1.2.1, hI.2.1.2.2⟩, hI.2.2.1, hI.2.2.2.1, hI.2.2.2.2.1, hI.2.2.2.2.2.1, hI.2.2.2.2.2.2⟩⟩)
      · subst e9
        refine r_iload_n rfl rfl ?_
        refine r_tblOut (tgt := 141) rfl (by decide) rfl ?_
        refine r_aload_n rfl rfl ?_
        refine s_getR (r := 70) rfl flX10_65 rfl rfl ?_
        refine r_iload_n rfl rfl ?_
        refine s_iald (x := sv (aD a) q) rfl rfl (by omega) (x8 q (by omega)) ?_
        exact s_ret (st := []) rfl rfl rfl (Nat.zero_le _) (Nat.zero_le _) (⟨_, rfl, rfl, rfl, FrC_mz rfl rfl, ⟨hI.1, ⟨hI.2.1.1, hI.2.1.2.1, hI.2.1.2.2⟩, hI.2.2.1, hI.2.2.2.1, hI.2.2.2.2.1, hI.2.2.2.2.2.1, hI.2.2.2.2.2.2⟩⟩)
    · rcases (show k = 0 ∨ k = 1 ∨ k = 2 ∨ k = 3 ∨ k = 4 ∨ k = 5 ∨ k = 6 by omega) with e9 | e9 | e9 | e9 | e9 | e9 | e9
      · subst e9
        refine r_iload_n rfl rfl ?_
        refine n_iconst 3 rfl ?_
        refine n_iconst 5 rfl ?_
        refine s_staI [.int (nI 0), .int (nI 3), .int (nI 5)] [] rfl lkX10_113 (k_within_out (by decide) (by decide)) rfl rfl (Nat.le_refl _) (Nat.le_refl _) rfl (rI (e1 := nI 0) rfl ?_)
        refine n_if_eq (tgt := 53) rfl rfl (by decide) (fun _ => ?_) (fun hq => absurd hq (by decide))
        refine r_iload_n rfl rfl ?_
        refine r_tblIn (off := 38) (tgt := 92) rfl (by decide) (by decide) (by decide) rfl ?_
        refine r_aload_n rfl rfl ?_
        refine s_getR (r := 68) rfl flX10_59 rfl rfl ?_
        refine r_iload_n rfl rfl ?_
        refine s_iald (x := nI (dv (aD a) q)) rfl rfl (by omega) (x7 q (by omega)) ?_
        exact s_ret (st := []) rfl rfl rfl (Nat.zero_le _) (Nat.zero_le _) (⟨_, rfl, rfl, rfl, FrC_mz rfl rfl, ⟨hI.1, ⟨hI.2.1.1, hI.2.1.2.1, hI.2.1.2.2⟩, hI.2.2.1, hI.2.2.2.1, hI.2.2.2.2.1, hI.2.2.2.2.2.1, hI.2.2.2.2.2.2⟩⟩)
      · subst e9
        refine r_iload_n rfl rfl ?_
        refine n_iconst 3 rfl ?_
        refine n_iconst 5 rfl ?_
        refine s_staI [.int (nI 1), .int (nI 3), .int (nI 5)] [] rfl lkX10_113 (k_within_out (by decide) (by decide)) rfl rfl (Nat.le_refl _) (Nat.le_refl _) rfl (rI (e1 := nI 0) rfl ?_)
        refine n_if_eq (tgt := 53) rfl rfl (by decide) (fun _ => ?_) (fun hq => absurd hq (by decide))
        refine r_iload_n rfl rfl ?_
        refine r_tblIn (off := 45) (tgt := 99) rfl (by decide) (by decide) (by decide) rfl ?_
        refine r_aload_n rfl rfl ?_
        refine s_getR (r := 69) rfl flX10_62 rfl rfl ?_
        refine r_iload_n rfl rfl ?_
        refine s_lald (x := lN (wt (aD a) q)) rfl rfl (by omega) (x11 q (by omega)) ?_
        refine n_l2i rfl ?_
        exact s_ret (st := []) rfl rfl rfl (Nat.zero_le _) (Nat.zero_le _) (⟨_, rfl, rfl, rfl, FrC_mz rfl rfl, ⟨hI.1, ⟨hI.2.1.1, hI.2.1.2.1, hI.2.1.2.2⟩, hI.2.2.1, hI.2.2.2.1, hI.2.2.2.2.1, hI.2.2.2.2.2.1, hI.2.2.2.2.2.2⟩⟩)
      · subst e9
        refine r_iload_n rfl rfl ?_
        refine n_iconst 3 rfl ?_
        refine n_iconst 5 rfl ?_
        refine s_staI [.int (nI 2), .int (nI 3), .int (nI 5)] [] rfl lkX10_113 (k_within_out (by decide) (by decide)) rfl rfl (Nat.le_refl _) (Nat.le_refl _) rfl (rI (e1 := nI 0) rfl ?_)
        refine n_if_eq (tgt := 53) rfl rfl (by decide) (fun _ => ?_) (fun hq => absurd hq (by decide))
        refine r_iload_n rfl rfl ?_
        refine r_tblIn (off := 53) (tgt := 107) rfl (by decide) (by decide) (by decide) rfl ?_
        refine r_aload_n rfl rfl ?_
        refine r_iload_n rfl rfl ?_
        refine s_virI [.int (nI q)] [] rfl lkX10_258 rfl rfl rfl (c_giftOf hM hV (by omega)) rfl rfl (Nat.le_refl _) (Nat.le_refl _) rfl (rI (e1 := nI (gf (aD a) q)) rfl ?_)
        exact s_ret (st := []) rfl rfl rfl (Nat.zero_le _) (Nat.zero_le _) (⟨_, rfl, rfl, rfl, FrC_mz rfl rfl, ⟨hI.1, ⟨hI.2.1.1, hI.2.1.2.1, hI.2.1.2.2⟩, hI.2.2.1, hI.2.2.2.1, hI.2.2.2.2.1, hI.2.2.2.2.2.1, hI.2.2.2.2.2.2⟩⟩)
      · subst e9
        refine r_iload_n rfl rfl ?_
        refine n_iconst 3 rfl ?_
        refine n_iconst 5 rfl ?_
        refine s_staI [.int (nI 3), .int (nI 3), .int (nI 5)] [] rfl lkX10_113 (k_within_in (by omega) (by omega) (by omega)) rfl rfl (Nat.le_refl _) (Nat.le_refl _) rfl (rI (e1 := nI 1) rfl ?_)
        refine n_if_eq (tgt := 53) rfl rfl (by decide) (fun hq => absurd hq (by decide)) (fun _ => ?_)
        refine n_m1 rfl ?_
        exact s_ret (st := []) rfl rfl rfl (Nat.zero_le _) (Nat.zero_le _) (⟨_, rfl, (if_pos (tb_ne h2)).symm, rfl, FrC_mz rfl rfl, ⟨hI.1, ⟨hI.2.1.1, hI.2.1.2.1, hI.2.1.2.2⟩, hI.2.2.1, hI.2.2.2.1, hI.2.2.2.2.1, hI.2.2.2.2.2.1, hI.2.2.2.2.2.2⟩⟩)
      · subst e9
        refine r_iload_n rfl rfl ?_
        refine n_iconst 3 rfl ?_
        refine n_iconst 5 rfl ?_
        refine s_staI [.int (nI 4), .int (nI 3), .int (nI 5)] [] rfl lkX10_113 (k_within_in (by omega) (by omega) (by omega)) rfl rfl (Nat.le_refl _) (Nat.le_refl _) rfl (rI (e1 := nI 1) rfl ?_)
        refine n_if_eq (tgt := 53) rfl rfl (by decide) (fun hq => absurd hq (by decide)) (fun _ => ?_)
        refine n_m1 rfl ?_
        exact s_ret (st := []) rfl rfl rfl (Nat.zero_le _) (Nat.zero_le _) (⟨_, rfl, (if_pos (tb_ne h2)).symm, rfl, FrC_mz rfl rfl, ⟨hI.1, ⟨hI.2.1.1, hI.2.1.2.1, hI.2.1.2.2⟩, hI.2.2.1, hI.2.2.2.1, hI.2.2.2.2.1, hI.2.2.2.2.2.1, hI.2.2.2.2.2.2⟩⟩)
      · subst e9
        refine r_iload_n rfl rfl ?_
        refine n_iconst 3 rfl ?_
        refine n_iconst 5 rfl ?_
        refine s_staI [.int (nI 5), .int (nI 3), .int (nI 5)] [] rfl lkX10_113 (k_within_in (by omega) (by omega) (by omega)) rfl rfl (Nat.le_refl _) (Nat.le_refl _) rfl (rI (e1 := nI 1) rfl ?_)
        refine n_if_eq (tgt := 53) rfl rfl (by decide) (fun hq => absurd hq (by decide)) (fun _ => ?_)
        refine n_m1 rfl ?_
        exact s_ret (st := []) rfl rfl rfl (Nat.zero_le _) (Nat.zero_le _) (⟨_, rfl, (if_pos (tb_ne h2)).symm, rfl, FrC_mz rfl rfl, ⟨hI.1, ⟨hI.2.1.1, hI.2.1.2.1, hI.2.1.2.2⟩, hI.2.2.1, hI.2.2.2.1, hI.2.2.2.2.1, hI.2.2.2.2.2.1, hI.2.2.2.2.2.2⟩⟩)
      · subst e9
        refine r_iload_n rfl rfl ?_
        refine n_iconst 3 rfl ?_
        refine n_iconst 5 rfl ?_
        refine s_staI [.int (nI 6), .int (nI 3), .int (nI 5)] [] rfl lkX10_113 (k_within_out (by decide) (by decide)) rfl rfl (Nat.le_refl _) (Nat.le_refl _) rfl (rI (e1 := nI 0) rfl ?_)
        refine n_if_eq (tgt := 53) rfl rfl (by decide) (fun _ => ?_) (fun hq => absurd hq (by decide))
        refine r_iload_n rfl rfl ?_
        refine r_tblOut (tgt := 141) rfl (by decide) rfl ?_
        refine r_aload_n rfl rfl ?_
        refine s_getR (r := 70) rfl flX10_65 rfl rfl ?_
        refine r_iload_n rfl rfl ?_
        refine s_iald (x := sv (aD a) q) rfl rfl (by omega) (x8 q (by omega)) ?_
        exact s_ret (st := []) rfl rfl rfl (Nat.zero_le _) (Nat.zero_le _) (⟨_, rfl, rfl, rfl, FrC_mz rfl rfl, ⟨hI.1, ⟨hI.2.1.1, hI.2.1.2.1, hI.2.1.2.2⟩, hI.2.2.1, hI.2.2.2.1, hI.2.2.2.2.1, hI.2.2.2.2.2.1, hI.2.2.2.2.2.2⟩⟩)

theorem k_givenTo {l9 : Bool} {sc : SC} {σ : SS} {a : AB} {q : Nat} (hV : Vd (aD a)) (hM : MR (σ.1 54) (aD a)) (hq : q < aD a 0 0) (hH : ∀ p, p < aD a 0 0 → σ.1 66 p = nI (tb (he (aD a) p))) (hS : ∀ p, p < aD a 0 0 → σ.1 70 p = sv (aD a) p) (hL : ∀ i, i < 8 → σ.1 63 i = nI (lp (aD a) i)) (h5 : σ.1 64 5 = nI (a5 (aD a))) (h7 : σ.1 64 7 = nI (a7 (aD a))) : Cs (true, l9) sc mX10_givenTo 0 0 [.ref 53, .int (nI q)] σ (PI (gv (aD a) q) σ) := by
  refine Cs.of gmX10_givenTo (Nat.le_of_ble_eq_true rfl) ?_
  show Ws (true, l9) sc mX10_givenTo 0 0 0 0 0 [(0, .ref 53), (1, .int (nI q))] [] (mz σ [] []) (PI (gv (aD a) q) σ)
  have hC := vC hV
  have ht := tb_le (he (aD a) q)
  refine r_aload_n rfl rfl ?_
  refine s_getR (r := 66) rfl flX10_53 rfl rfl ?_
  refine r_iload_n rfl rfl ?_
  refine s_zald (x := nI (tb (he (aD a) q))) rfl rfl (by omega) (hH q (by omega)) ?_
  suffices K : Ws (true, l9) sc mX10_givenTo 0 0 0 0 19 [(0, .ref 53), (1, .int (nI q))] [.int (sv (aD a) q)] (mz σ [] []) (PI (gv (aD a) q) σ) by
    refine n_if_eq (tgt := 18) rfl rfl (by omega) (fun h1 => ?_) (fun h1 => ?_)
    · refine n_iconst 0 rfl ?_
      exact r_top (sv_no hV (tb_z h1)) K
    · refine r_aload_n rfl rfl ?_
      refine s_getR (r := 70) rfl flX10_65 rfl rfl ?_
      refine r_iload_n rfl rfl ?_
      refine s_iald (x := sv (aD a) q) rfl rfl (by omega) (hS q (by omega)) ?_
      refine r_goto (tgt := 19) rfl rfl ?_
      exact r_top rfl K
  refine r_istore_n (lv' := [(2, .int (sv (aD a) q)), (0, .ref 53), (1, .int (nI q))]) rfl rfl (Nat.le_of_ble_eq_true rfl) rfl ?_
  refine n_iconst 0 rfl ?_
  refine r_istore_n (lv' := [(3, .int (nI 0)), (2, .int (sv (aD a) q)), (0, .ref 53), (1, .int (nI q))]) rfl rfl (Nat.le_of_ble_eq_true rfl) rfl ?_
  rw [show sv (aD a) q = sv (aD a) q + nI (sm (fun k => if aD a 11 k = q then lp (aD a) k else 0) 0) by show _ = _ + 0; rw [Int32.add_zero]]
  refine r_lv (lv' := [(3, .int (nI 0)), (2, .int (sv (aD a) q + nI (sm (fun k => if aD a 11 k = q then lp (aD a) k else 0) 0))), (0, .ref 53), (1, .int (nI q))]) [0, 1, 2, 3] rfl ?_
  have loop : ∀ (m9 : Nat) (k : Nat) , aD a 0 4 - k < m9 → (k ≤ aD a 0 4) → Ws (true, l9) sc mX10_givenTo 0 0 0 0 22 [(3, .int (nI k)), (2, .int (sv (aD a) q + nI (sm (fun k => if aD a 11 k = q then lp (aD a) k else 0) k))), (0, .ref 53), (1, .int (nI q))] [] (mz σ [] []) (PI (gv (aD a) q) σ) := by
    intro m9
    induction m9 with
    | zero => intro k  hme; exact absurd hme (Nat.not_lt_zero _)
    | succ m9 ih =>
      intro k  hme hk
      have hL9 := vL hV k
      refine r_iload_n rfl rfl ?_
      refine r_aload_n rfl rfl ?_
      refine s_getR (r := 54) rfl flX10_7 rfl rfl ?_
      refine n_iconst 4 rfl ?_
      refine s_iald (x := nI ((aD a) 0 4)) rfl rfl (by decide) (MRat hM 0 4 (by decide) (by decide)) ?_
      refine n_icmp_ge (tgt := 66) rfl rfl (by omega) (by omega) (fun h1 => ?_) (fun h1 => ?_)
      · have e : sm (fun k => if aD a 11 k = q then lp (aD a) k else 0) k = lg9 (aD a) q := by rw [show k = aD a 0 4 by omega]; rfl
        rw [e]
        refine r_iload_n rfl rfl ?_
        refine r_iload_n rfl rfl ?_
        refine r_aload_n rfl rfl ?_
        refine s_getR (r := 54) rfl flX10_7 rfl rfl ?_
        refine n_iconst 5 rfl ?_
        refine s_iald (x := oI ((aD a) 0 5)) rfl rfl (by decide) (MRat hM 0 5 (by decide) (by decide)) ?_
        suffices K : Ws (true, l9) sc mX10_givenTo 0 0 0 0 95 [(3, .int (nI k)), (2, .int (sv (aD a) q + nI (lg9 (aD a) q))), (0, .ref 53), (1, .int (nI q))] [.int (if aD a 0 5 = q + 1 then nI (a5 (aD a) + a7 (aD a)) else 0), .int (sv (aD a) q + nI (lg9 (aD a) q))] (mz σ [] []) (PI (gv (aD a) q) σ) by
          refine r_icmp_ne (tgt := 94) rfl rfl (fun h2 => ?_) (fun h2 => ?_)
          · refine n_iconst 0 rfl ?_
            exact r_top (by rw [if_neg (fun z => h2 (by rw [z, oI_s]))]; rfl) K
          · refine r_aload_n rfl rfl ?_
            refine s_getR (r := 64) rfl flX10_47 rfl rfl ?_
            refine n_iconst 5 rfl ?_
            refine s_iald (x := nI (a5 (aD a))) rfl rfl (by decide) h5 ?_
            refine r_aload_n rfl rfl ?_
            refine s_getR (r := 64) rfl flX10_47 rfl rfl ?_
            refine n_bipush 7 rfl (by decide) ?_
            refine s_iald (x := nI (a7 (aD a))) rfl rfl (by decide) h7 ?_
            refine n_iadd rfl ?_
            refine r_goto (tgt := 95) rfl rfl ?_
            exact r_top (by rw [if_pos ((oI_q (q := q) (by omega) (by omega)).mp h2)]) K
        refine r_iadd rfl ?_
        exact s_ret (st := []) rfl rfl rfl (Nat.zero_le _) (Nat.zero_le _) (pI rfl rfl)
      · refine r_iload_n rfl rfl ?_
        refine r_aload_n rfl rfl ?_
        refine s_getR (r := 54) rfl flX10_7 rfl rfl ?_
        refine n_bipush 106 rfl (by decide) ?_
        refine n_iconst 2 rfl ?_
        refine r_iload_n rfl rfl ?_
        refine n_imul rfl ?_
        refine n_iadd rfl ?_
        refine s_iald (x := nI (aD a 11 k)) rfl rfl (by omega) (Ml0 hM (by omega)) ?_
        refine r_iload_n rfl rfl ?_
        suffices K : Ws (true, l9) sc mX10_givenTo 0 0 0 0 58 [(3, .int (nI k)), (2, .int (sv (aD a) q + nI (sm (fun k => if aD a 11 k = q then lp (aD a) k else 0) k))), (0, .ref 53), (1, .int (nI q))] [.int (nI (if aD a 11 k = q then lp (aD a) k else 0)), .int (sv (aD a) q + nI (sm (fun k => if aD a 11 k = q then lp (aD a) k else 0) k))] (mz σ [] []) (PI (gv (aD a) q) σ) by
          refine n_icmp_ne (tgt := 57) rfl rfl (by omega) (by omega) (fun h2 => ?_) (fun h2 => ?_)
          · refine n_iconst 0 rfl ?_
            exact r_top (by rw [if_neg h2]) K
          · refine r_aload_n rfl rfl ?_
            refine s_getR (r := 63) rfl flX10_44 rfl rfl ?_
            refine r_iload_n rfl rfl ?_
            refine s_iald (x := nI (lp (aD a) k)) rfl rfl (by omega) (hL k (by omega)) ?_
            refine r_goto (tgt := 58) rfl rfl ?_
            exact r_top (by rw [if_pos h2]) K
        refine r_iadd rfl ?_
        refine r_top (y := sv (aD a) q + nI (sm (fun k => if aD a 11 k = q then lp (aD a) k else 0) (k + 1))) (by show _ + nI (sm (fun k => if aD a 11 k = q then lp (aD a) k else 0) k) + _ = _ + nI (sm (fun k => if aD a 11 k = q then lp (aD a) k else 0) k + _); rw [← nI_add, Int32.add_assoc]) ?_
        refine r_istore_n (lv' := [(2, .int (sv (aD a) q + nI (sm (fun k => if aD a 11 k = q then lp (aD a) k else 0) (k + 1)))), (3, .int (nI k)), (0, .ref 53), (1, .int (nI q))]) rfl rfl (Nat.le_of_ble_eq_true rfl) rfl ?_
        refine n_iinc (lv' := [(3, .int (nI (k + 1))), (2, .int (sv (aD a) q + nI (sm (fun k => if aD a 11 k = q then lp (aD a) k else 0) (k + 1)))), (0, .ref 53), (1, .int (nI q))]) 1 rfl rfl (Nat.le_of_ble_eq_true rfl) rfl ?_
        refine r_goto (tgt := 22) rfl rfl ?_
        refine r_lv (lv' := [(3, .int (nI (k + 1))), (2, .int (sv (aD a) q + nI (sm (fun k => if aD a 11 k = q then lp (aD a) k else 0) (k + 1)))), (0, .ref 53), (1, .int (nI q))]) [0, 1, 2, 3] rfl ?_
        exact ih (k + 1) (by omega) (by omega)
  exact loop (aD a 0 4 + 1) 0 (by omega) (by omega)

theorem k_given {l9 : Bool} {sc : SC} {σ : SS} {q : Nat} {a : AB} (hA : AV a) (hI : MI9 σ a) (hq : q < aD a 0 0) : Cs (true, l9) sc mX10_given 0 0 [.ref 53, .int (nI q)] σ (QM σ a (gv (aD a) q) 0) := by
  refine Cs.of gmX10_given (Nat.le_of_ble_eq_true rfl) ?_
  show Ws (true, l9) sc mX10_given 0 0 0 0 0 [(0, .ref 53), (1, .int (nI q))] [] (mz σ [] []) (QM σ a (gv (aD a) q) 0)
  have hV := hA.1
  have hC := vC hV
  have hM := hI.1
  refine r_aload_n rfl rfl ?_
  refine r_iload_n rfl rfl ?_
  refine s_virI [.int (nI q)] [] rfl lkX10_249 rfl rfl rfl (k_noPerson_in (hM := hI.1) hV hq) rfl rfl (Nat.le_refl _) (Nat.le_refl _) rfl (rI (e1 := nI 0) rfl ?_)
  refine m_mz (L' := [(53, (aup (σ.1 53) 0 (nI 0)))]) (M' := []) rfl rfl ?_
  refine n_if_eq (tgt := 10) rfl rfl (by decide) (fun _ => ?_) (fun hq => absurd hq (by decide))
  refine r_aload_n rfl rfl ?_
  refine s_virV [] [] rfl lkX10_323 rfl rfl rfl (c_settles (d := aD a) hM hV) rfl rfl (Nat.le_refl _) (Nat.le_refl _) rfl ?_
  rintro _ ⟨g0, g1, g2, g3, g4, g5, g6, g7, g8, g9, g10, g11, l0, l1, l2, rfl, hMS, h12⟩
  refine m_mz (L' := [(53, (aup (σ.1 53) 0 (nI 0))), (67, g11), (72, g10), (71, g9), (70, g8), (65, g7), (68, g6), (66, g5), (63, g4), (64, g3), (62, g2), (61, g1), (60, g0)]) (M' := [(53, l2), (69, l1), (59, l0)]) rfl rfl ?_
  have hX : MSE g3 g2 g4 g7 g5 g11 g6 g8 g9 g10 l1 l2 (aD a) := hMS
  obtain ⟨x1, x2, x3, x4, x5, x6, x7, x8, x9, x10, x11, x12⟩ := hX
  refine r_aload_n rfl rfl ?_
  refine r_iload_n rfl rfl ?_
  refine s_virI [.int (nI q)] [] rfl lkX10_329 rfl rfl rfl (k_givenTo hV hM (by omega) x5 x8 x3 x1.2.2.2.2.2.1 x1.2.2.2.2.2.2.2.1) rfl rfl (Nat.le_refl _) (Nat.le_refl _) rfl (rI (e1 := gv (aD a) q) rfl ?_)
  exact s_ret (st := []) rfl rfl rfl (Nat.zero_le _) (Nat.zero_le _) (⟨_, rfl, rfl, rfl, FrC_mz rfl rfl, ⟨hI.1, ⟨hI.2.1.1, hI.2.1.2.1, hI.2.1.2.2⟩, hI.2.2.1, hI.2.2.2.1, hI.2.2.2.2.1, hI.2.2.2.2.2.1, hI.2.2.2.2.2.2⟩⟩)

theorem k_isBalanced {l9 : Bool} {sc : SC} {σ : SS} {a : AB} (hA : AV a) (hI : MI9 σ a) : Cs (true, l9) sc mX10_isBalanced 0 0 [.ref 53] σ (QM σ a (nI (tb (bal (aD a)))) 0) := by
  refine Cs.of gmX10_isBalanced (Nat.le_of_ble_eq_true rfl) ?_
  show Ws (true, l9) sc mX10_isBalanced 0 0 0 0 0 [(0, .ref 53)] [] (mz σ [] []) (QM σ a (nI (tb (bal (aD a)))) 0)
  have hV := hA.1
  have hC := vC hV
  have hM := hI.1
  refine r_aload_n rfl rfl ?_
  refine n_iconst 0 rfl ?_
  refine m_putI (L' := [(53, (aup (σ.1 53) 0 (nI 0)))]) rfl flX10_89 rfl rfl (okv_i _) rfl ?_
  refine r_aload_n rfl rfl ?_
  refine s_virV [] [] rfl lkX10_323 rfl rfl rfl (c_settles (d := aD a) hM hV) rfl rfl (Nat.le_refl _) (Nat.le_refl _) rfl ?_
  rintro _ ⟨g0, g1, g2, g3, g4, g5, g6, g7, g8, g9, g10, g11, l0, l1, l2, rfl, hMS, h12⟩
  refine m_mz (L' := [(53, (aup (σ.1 53) 0 (nI 0))), (67, g11), (72, g10), (71, g9), (70, g8), (65, g7), (68, g6), (66, g5), (63, g4), (64, g3), (62, g2), (61, g1), (60, g0)]) (M' := [(53, l2), (69, l1), (59, l0)]) rfl rfl ?_
  have hX : MSE g3 g2 g4 g7 g5 g11 g6 g8 g9 g10 l1 l2 (aD a) := hMS
  obtain ⟨x1, x2, x3, x4, x5, x6, x7, x8, x9, x10, x11, x12⟩ := hX
  refine r_aload_n rfl rfl ?_
  refine s_getR (r := 64) rfl flX10_47 rfl rfl ?_
  refine n_iconst 1 rfl ?_
  refine s_iald (x := nI (nts (aD a) - lf (aD a) 5)) rfl rfl (by decide) x1.2.1 ?_
  refine r_aload_n rfl rfl ?_
  refine s_getR (r := 64) rfl flX10_47 rfl rfl ?_
  refine n_bipush 9 rfl (by decide) ?_
  refine s_iald (x := nI (a9 (aD a))) rfl rfl (by decide) x1.2.2.2.2.2.2.2.2.2 ?_
  refine r_iadd rfl ?_
  refine r_istore_n (lv' := [(1, .int ((nI (nts (aD a) - lf (aD a) 5)) + (nI (a9 (aD a))))), (0, .ref 53)]) rfl rfl (Nat.le_of_ble_eq_true rfl) rfl ?_
  refine n_iconst 0 rfl ?_
  refine r_istore_n (lv' := [(2, .int (nI 0)), (1, .int ((nI (nts (aD a) - lf (aD a) 5)) + (nI (a9 (aD a))))), (0, .ref 53)]) rfl rfl (Nat.le_of_ble_eq_true rfl) rfl ?_
  refine r_lv (lv' := [(2, .int (nI 0)), (0, .ref 53), (1, .int (gvs (aD a) 0))]) [0, 2, 1] rfl ?_
  have loop : ∀ (m9 : Nat) (k : Nat) , aD a 0 0 - k < m9 → (k ≤ aD a 0 0) → Ws (true, l9) sc mX10_isBalanced 0 0 0 0 26 [(2, .int (nI k)), (0, .ref 53), (1, .int (gvs (aD a) k))] [] (mz σ [(53, (aup (σ.1 53) 0 (nI 0))), (67, g11), (72, g10), (71, g9), (70, g8), (65, g7), (68, g6), (66, g5), (63, g4), (64, g3), (62, g2), (61, g1), (60, g0)] [(53, l2), (69, l1), (59, l0)]) (QM σ a (nI (tb (bal (aD a)))) 0) := by
    intro m9
    induction m9 with
    | zero => intro k  hme; exact absurd hme (Nat.not_lt_zero _)
    | succ m9 ih =>
      intro k  hme hk
      refine r_iload_n rfl rfl ?_
      refine r_aload_n rfl rfl ?_
      refine s_getR (r := 54) rfl flX10_7 rfl rfl ?_
      refine n_iconst 0 rfl ?_
      refine s_iald (x := nI ((aD a) 0 0)) rfl rfl (by decide) (MRat hM 0 0 (by decide) (by decide)) ?_
      refine n_icmp_ge (tgt := 50) rfl rfl (by omega) (by omega) (fun h1 => ?_) (fun h1 => ?_)
      · have hke : k = aD a 0 0 := by omega
        rw [hke]
        refine r_iload_n rfl rfl ?_
        refine r_aload_n rfl rfl ?_
        refine s_getR (r := 64) rfl flX10_47 rfl rfl ?_
        refine n_iconst 0 rfl ?_
        refine s_iald (x := nI (nts (aD a))) rfl rfl (by decide) x1.1 ?_
        suffices K : Ws (true, l9) sc mX10_isBalanced 0 0 0 0 65 [(2, .int (nI (aD a 0 0))), (0, .ref 53), (1, .int (gvs (aD a) (aD a 0 0)))] [.int (nI (tb (bal (aD a))))] (mz σ [(53, (aup (σ.1 53) 0 (nI 0))), (67, g11), (72, g10), (71, g9), (70, g8), (65, g7), (68, g6), (66, g5), (63, g4), (64, g3), (62, g2), (61, g1), (60, g0)] [(53, l2), (69, l1), (59, l0)]) (QM σ a (nI (tb (bal (aD a)))) 0) by
          refine r_icmp_ne (tgt := 64) rfl rfl (fun h2 => ?_) (fun h2 => ?_)
          · refine n_iconst 0 rfl ?_
            exact r_top (by unfold bal; rw [beq_false_of_ne h2]; rfl) K
          · refine n_iconst 1 rfl ?_
            refine r_goto (tgt := 65) rfl rfl ?_
            exact r_top (by unfold bal; rw [h2, beq_self_eq_true]; rfl) K
        exact s_ret (st := []) rfl rfl (nar_tb _) (Nat.zero_le _) (Nat.zero_le _) (⟨_, rfl, rfl, rfl, FrC_mz rfl rfl, ⟨hI.1, ⟨hI.2.1.1, hI.2.1.2.1, hI.2.1.2.2⟩, hI.2.2.1, hI.2.2.2.1, hI.2.2.2.2.1, hI.2.2.2.2.2.1, hI.2.2.2.2.2.2⟩⟩)
      · refine r_iload_n rfl rfl ?_
        refine r_aload_n rfl rfl ?_
        refine r_iload_n rfl rfl ?_
        refine s_virI [.int (nI k)] [.int (gvs (aD a) k)] rfl lkX10_329 rfl rfl rfl (k_givenTo hV hM (by omega) x5 x8 x3 x1.2.2.2.2.2.1 x1.2.2.2.2.2.2.2.1) rfl rfl (Nat.le_refl _) (Nat.le_refl _) rfl (rI (e1 := gv (aD a) k) rfl ?_)
        refine r_iadd rfl ?_
        refine r_istore_n (lv' := [(1, .int ((gvs (aD a) k) + (gv (aD a) k))), (2, .int (nI k)), (0, .ref 53)]) rfl rfl (Nat.le_of_ble_eq_true rfl) rfl ?_
        refine n_iinc (lv' := [(2, .int (nI (k + 1))), (1, .int ((gvs (aD a) k) + (gv (aD a) k))), (0, .ref 53)]) 1 rfl rfl (Nat.le_of_ble_eq_true rfl) rfl ?_
        refine r_goto (tgt := 26) rfl rfl ?_
        refine r_lv (lv' := [(2, .int (nI (k + 1))), (0, .ref 53), (1, .int (gvs (aD a) (k + 1)))]) [0, 2, 1] rfl ?_
        exact ih (k + 1) (by omega) (by omega)
  exact loop (aD a 0 0 + 1) 0 (by omega) (by omega)

