theorem c_readDebt {z : SZ} {sc : SC} {σ : SS} {j : Nat} {d : D} {u : Nat → List Nat} {o : Nat → Bool} {x : TX} (hx : x.1 ≤ 700) (hb : ∀ i, x.2 i < 256) (hT : ∀ i, i < x.1 → σ.1 3 i = bI (x.2 i)) (hP : CP σ x (j, d, u, o)) (hVP : VP x (j, d, u, o)) (hk : tK x j = 1) : Cs z sc mX5_readDebt 0 0 [.ref 1] σ (RI fun v σ' => v = nI (tb ((sDeb x (j, d, u, o)).1 == 0)) ∧ FrP σ σ' ∧ CR σ' x (sDeb x (j, d, u, o))) := by
  refine Cs.of gmX5_readDebt (Nat.le_of_ble_eq_true rfl) ?_
  show Ws z sc mX5_readDebt 0 0 0 0 0 [(0, .ref 1)] [] (mz σ [] []) (RI fun v σ' => v = nI (tb ((sDeb x (j, d, u, o)).1 == 0)) ∧ FrP σ σ' ∧ CR σ' x (sDeb x (j, d, u, o)))
  have hC : CT (σ.1 2) x j := hP.1
  have hE : EE4 σ d := hP.2.1
  have hS : SR (σ.1 11) d := hP.2.2.1
  have hN : NM (σ.2 5) (d 0 0) u := hP.2.2.2.1
  have hF : FL5 (σ.1 1) o := hP.2.2.2.2
  have hV : Vd d := hVP.1
  have hu : ∀ p, p < d 0 0 → okW (u p) := hVP.2.2.1
  have hj : j ≤ x.1 := hVP.2.2.2
  have hCC := vC hV
  have hkl := tK_le x j
  have hEg := tE_j x j
  refine r_aload_n rfl rfl ?_
  refine s_getR (r := 10) rfl flX5_28 rfl rfl ?_
  refine s_virI [] [] rfl lkX5_181 rfl rfl rfl (c_debtCount_10 hS) rfl rfl (Nat.le_refl _) (Nat.le_refl _) rfl (rI (e1 := nI (d 0 2)) rfl ?_)
  refine n_bipush 8 rfl (by decide) ?_
  refine n_icmp_lt (tgt := 18) rfl rfl (by omega) (by omega) (fun h1 => ?_) (fun h1 => ?_)
  · refine r_aload_n rfl rfl ?_
    refine s_getR (r := 2) rfl flX5_12 rfl rfl ?_
    refine s_virV [] [] rfl lkX5_124 rfl rfl rfl (c_adv hx hb hT hC.1 hC.2.2.2 (Nat.le_succ_of_le (tE_le (by omega)))) rfl rfl (Nat.le_refl _) (Nat.le_refl _) rfl ?_
    rintro _ ⟨f2, rfl, g1, g⟩
    refine m_mz (L' := [(2, f2)]) (M' := []) rfl rfl ?_
    refine r_aload_n rfl rfl ?_
    refine n_iconst 1 rfl ?_
    refine n_iconst 5 rfl ?_
    refine s_virI [.int (nI 1), .int (nI 5)] [] rfl lkX5_148 rfl rfl rfl (c_rdNum (l := 1) (m := 5) hx hb hT g (by omega) (by omega)) rfl rfl (Nat.le_refl _) (Nat.le_refl _) rfl ?_
    rintro _ _ ⟨a1, b1, rfl, rfl, r1⟩
    refine m_mz (L' := [(2, b1), (1, a1)]) (M' := []) rfl rfl ?_
    have ht1 := tb_le ((nu x (tE x j) 1 5).1 == 0)
    have eT : sDeb x (j, d, u, o) = two x (j, d, u, o) (nu x (tE x j) 1 5) 9999999 (fun v w => up3 d 7 8 2 v w) o := if_neg (by show ¬ 8 ≤ d 0 2; omega)
    refine n_if_ne (tgt := 36) rfl rfl (by omega) (fun hh1 => ?_) (fun hh1 => ?_)
    · have hz1 := tbq_y hh1
      obtain ⟨c1, v1, k1⟩ := r1.2.1 hz1
      have w1 := nu_fw hz1
      refine r_aload_n rfl rfl ?_
      refine s_getI (x := nI ((nu x (tE x j) 1 5).2.2)) rfl flX5_49 rfl rfl v1 ?_
      refine r_istore_n (lv' := [(1, .int (nI ((nu x (tE x j) 1 5).2.2))), (0, .ref 1)]) rfl rfl (Nat.le_of_ble_eq_true rfl) rfl ?_
      refine r_aload_n rfl rfl ?_
      refine n_iconst 0 rfl ?_
      refine r_ldc (v := nI 9999999) rfl kcX5_172 ?_
      refine s_virI [.int (nI 0), .int (nI 9999999)] [] rfl lkX5_148 rfl rfl rfl (c_rdNum (l := 0) (m := 9999999) hx hb hT c1 (by omega) (by omega)) rfl rfl (Nat.le_refl _) (Nat.le_refl _) rfl ?_
      rintro _ _ ⟨a2, b2, rfl, rfl, r2⟩
      refine m_mz (L' := [(2, b2), (1, a2)]) (M' := []) rfl rfl ?_
      have ht2 := tb_le ((nu x (nu x (tE x j) 1 5).2.1 0 9999999).1 == 0)
      refine n_if_ne (tgt := 53) rfl rfl (by omega) (fun hh2 => ?_) (fun hh2 => ?_)
      · have hz2 := tbq_y hh2
        obtain ⟨c2, v2, k2⟩ := r2.2.1 hz2
        have w2 := nu_fw hz2
        refine r_aload_n rfl rfl ?_
        refine s_getR (r := 10) rfl flX5_28 rfl rfl ?_
        refine r_iload_n rfl rfl ?_
        refine r_aload_n rfl rfl ?_
        refine s_getI (x := nI ((nu x (nu x (tE x j) 1 5).2.1 0 9999999).2.2)) rfl flX5_49 rfl rfl v2 ?_
        refine s_virV [.int (nI ((nu x (tE x j) 1 5).2.2)), .int (nI ((nu x (nu x (tE x j) 1 5).2.1 0 9999999).2.2))] [] rfl lkX5_185 rfl rfl rfl (c_putDebt_10 hS h1) rfl rfl (Nat.le_refl _) (Nat.le_refl _) rfl ?_
        rintro _ ⟨f11, rfl, h11⟩
        refine m_mz (L' := [(2, b2), (1, a2), (11, f11)]) (M' := []) rfl rfl ?_
        refine n_iconst 1 rfl ?_
        have e9 := eT.trans (two_0 hz1 hz2)
        exact s_ret (st := []) rfl rfl rfl (Nat.zero_le _) (Nat.zero_le _) (⟨_, rfl, by rw [e9]; rfl, FrP_mz rfl rfl (r2.1.trans (r1.1.trans g1)), by rw [e9]; exact CR_ok ⟨c2, ER_deb hE, h11, NM_cg hN (up3_z (v := (nu x (tE x j) 1 5).2.2) (w := (nu x (nu x (tE x j) 1 5).2.1 0 9999999).2.2) (a := 7) (b := 8) (i := 2) (k := 0) d (by decide) (by decide) (by decide)), FL5_k (FL5_k hF k1 (by decide)) k2 (by decide)⟩⟩)
      · refine n_iconst 0 rfl ?_
        have hn2 := tbq_n hh2
        have e9 : _ := eT.trans (two_2 hz1 hn2)
        exact s_ret (st := []) rfl rfl rfl (Nat.zero_le _) (Nat.zero_le _) (⟨_, rfl, by rw [e9]; exact tb_no hn2, FrP_mz rfl rfl (r2.1.trans (r1.1.trans g1)), by rw [e9]; exact CR_no hn2 (r2.2.2 hn2).1 (r2.2.2 hn2).2⟩)
    · refine n_iconst 0 rfl ?_
      have hn1 := tbq_n hh1
      have e9 : _ := eT.trans (two_1 hn1)
      exact s_ret (st := []) rfl rfl rfl (Nat.zero_le _) (Nat.zero_le _) (⟨_, rfl, by rw [e9]; exact tb_no hn1, FrP_mz rfl rfl (r1.1.trans g1), by rw [e9]; exact CR_no hn1 (r1.2.2 hn1).1 (r1.2.2 hn1).2⟩)
  · refine r_aload_n rfl rfl ?_
    refine n_iconst 5 rfl ?_
    refine s_virI [.int (nI 5)] [] rfl lkX5_120 rfl rfl rfl (c_fail hC.2.2.1) rfl rfl (Nat.le_refl _) (Nat.le_refl _) rfl (rI (e1 := nI 0) rfl ?_)
    refine m_mz (L' := [(1, (aup (aup (σ.1 1) 4 (nI 5)) 3 (nI (tS x j))))]) (M' := []) rfl rfl ?_
    have e9 : sDeb x (j, d, u, o) = (5, j, d, u, o) := if_pos (by show 8 ≤ d 0 2; omega)
    exact s_ret (st := []) rfl rfl rfl (Nat.zero_le _) (Nat.zero_le _) (⟨_, rfl, by rw [e9]; exact tb_nr rfl, FrP_mz rfl rfl rfl, by rw [e9]; exact CR_no (by decide) rfl rfl⟩)

theorem c_readGift {z : SZ} {sc : SC} {σ : SS} {j : Nat} {d : D} {u : Nat → List Nat} {o : Nat → Bool} {x : TX} (hx : x.1 ≤ 700) (hb : ∀ i, x.2 i < 256) (hT : ∀ i, i < x.1 → σ.1 3 i = bI (x.2 i)) (hP : CP σ x (j, d, u, o)) (hVP : VP x (j, d, u, o)) (hk : tK x j = 1) : Cs z sc mX5_readGift 0 0 [.ref 1] σ (RI fun v σ' => v = nI (tb ((sGif x (j, d, u, o)).1 == 0)) ∧ FrP σ σ' ∧ CR σ' x (sGif x (j, d, u, o))) := by
  refine Cs.of gmX5_readGift (Nat.le_of_ble_eq_true rfl) ?_
  show Ws z sc mX5_readGift 0 0 0 0 0 [(0, .ref 1)] [] (mz σ [] []) (RI fun v σ' => v = nI (tb ((sGif x (j, d, u, o)).1 == 0)) ∧ FrP σ σ' ∧ CR σ' x (sGif x (j, d, u, o)))
  have hC : CT (σ.1 2) x j := hP.1
  have hE : EE4 σ d := hP.2.1
  have hS : SR (σ.1 11) d := hP.2.2.1
  have hN : NM (σ.2 5) (d 0 0) u := hP.2.2.2.1
  have hF : FL5 (σ.1 1) o := hP.2.2.2.2
  have hV : Vd d := hVP.1
  have hu : ∀ p, p < d 0 0 → okW (u p) := hVP.2.2.1
  have hj : j ≤ x.1 := hVP.2.2.2
  have hCC := vC hV
  have hkl := tK_le x j
  have hEg := tE_j x j
  refine r_aload_n rfl rfl ?_
  refine s_getR (r := 10) rfl flX5_28 rfl rfl ?_
  refine s_virI [] [] rfl lkX5_188 rfl rfl rfl (c_giftCount_10 hS) rfl rfl (Nat.le_refl _) (Nat.le_refl _) rfl (rI (e1 := nI (d 0 3)) rfl ?_)
  refine n_bipush 8 rfl (by decide) ?_
  refine n_icmp_lt (tgt := 18) rfl rfl (by omega) (by omega) (fun h1 => ?_) (fun h1 => ?_)
  · refine r_aload_n rfl rfl ?_
    refine s_getR (r := 2) rfl flX5_12 rfl rfl ?_
    refine s_virV [] [] rfl lkX5_124 rfl rfl rfl (c_adv hx hb hT hC.1 hC.2.2.2 (Nat.le_succ_of_le (tE_le (by omega)))) rfl rfl (Nat.le_refl _) (Nat.le_refl _) rfl ?_
    rintro _ ⟨f2, rfl, g1, g⟩
    refine m_mz (L' := [(2, f2)]) (M' := []) rfl rfl ?_
    refine r_aload_n rfl rfl ?_
    refine n_m1 rfl ?_
    refine r_top (y := oI 0) oI_0.symm ?_
    refine s_virI [.int (oI 0)] [] rfl lkX5_143 rfl rfl rfl (c_rdPer (q := 0) hx hb hT g hE.1.1 (by omega) hN hu (by omega)) rfl rfl (Nat.le_refl _) (Nat.le_refl _) rfl ?_
    rintro _ _ ⟨a1, b1, rfl, rfl, r1⟩
    refine m_mz (L' := [(2, b1), (1, a1)]) (M' := []) rfl rfl ?_
    have ht1 := tb_le ((kp x (tE x j) (d 0 0) u 0).1 == 0)
    have eT : sGif x (j, d, u, o) = two x (j, d, u, o) (kp x (tE x j) (d 0 0) u 0) 9999999 (fun v w => up3 d 9 10 3 (v - 1) w) o := if_neg (by show ¬ 8 ≤ d 0 3; omega)
    refine n_if_eq (tgt := 43) rfl rfl (by omega) (fun hh1 => ?_) (fun hh1 => ?_)
    · refine n_iconst 0 rfl ?_
      have hn1 := tbq_n hh1
      have e9 : _ := eT.trans (two_1 hn1)
      exact s_ret (st := []) rfl rfl rfl (Nat.zero_le _) (Nat.zero_le _) (⟨_, rfl, by rw [e9]; exact tb_no hn1, FrP_mz rfl rfl (r1.1.trans g1), by rw [e9]; exact CR_no hn1 (r1.2.2 hn1).1 (r1.2.2 hn1).2⟩)
    · have hz1 := tbq_y hh1
      obtain ⟨c1, v1, k1⟩ := r1.2.1 hz1
      have w1 := kp_fw hz1
      refine r_aload_n rfl rfl ?_
      refine n_iconst 0 rfl ?_
      refine r_ldc (v := nI 9999999) rfl kcX5_172 ?_
      refine s_virI [.int (nI 0), .int (nI 9999999)] [] rfl lkX5_148 rfl rfl rfl (c_rdNum (l := 0) (m := 9999999) hx hb hT c1 (by omega) (by omega)) rfl rfl (Nat.le_refl _) (Nat.le_refl _) rfl ?_
      rintro _ _ ⟨a2, b2, rfl, rfl, r2⟩
      refine m_mz (L' := [(2, b2), (1, a2)]) (M' := []) rfl rfl ?_
      have ht2 := tb_le ((nu x (kp x (tE x j) (d 0 0) u 0).2.1 0 9999999).1 == 0)
      refine n_if_ne (tgt := 45) rfl rfl (by omega) (fun hh2 => ?_) (fun hh2 => ?_)
      · have hz2 := tbq_y hh2
        obtain ⟨c2, v2, k2⟩ := r2.2.1 hz2
        have w2 := nu_fw hz2
        refine r_aload_n rfl rfl ?_
        refine s_getR (r := 10) rfl flX5_28 rfl rfl ?_
        refine r_aload_n rfl rfl ?_
        refine s_getI (x := nI ((kp x (tE x j) (d 0 0) u 0).2.2 - 1)) rfl flX5_52 rfl rfl ((k2 9 (by decide)).trans (v1.trans (oI_pr w1.2.2.1))) ?_
        refine r_aload_n rfl rfl ?_
        refine s_getI (x := nI ((nu x (kp x (tE x j) (d 0 0) u 0).2.1 0 9999999).2.2)) rfl flX5_49 rfl rfl v2 ?_
        refine s_virV [.int (nI ((kp x (tE x j) (d 0 0) u 0).2.2 - 1)), .int (nI ((nu x (kp x (tE x j) (d 0 0) u 0).2.1 0 9999999).2.2))] [] rfl lkX5_191 rfl rfl rfl (c_putGift_10 hS h1) rfl rfl (Nat.le_refl _) (Nat.le_refl _) rfl ?_
        rintro _ ⟨f11, rfl, h11⟩
        refine m_mz (L' := [(2, b2), (1, a2), (11, f11)]) (M' := []) rfl rfl ?_
        refine n_iconst 1 rfl ?_
        have e9 := eT.trans (two_0 hz1 hz2)
        exact s_ret (st := []) rfl rfl rfl (Nat.zero_le _) (Nat.zero_le _) (⟨_, rfl, by rw [e9]; rfl, FrP_mz rfl rfl (r2.1.trans (r1.1.trans g1)), by rw [e9]; exact CR_ok ⟨c2, ER_gif hE, h11, NM_cg hN (up3_z (v := (kp x (tE x j) (d 0 0) u 0).2.2 - 1) (w := (nu x (kp x (tE x j) (d 0 0) u 0).2.1 0 9999999).2.2) (a := 9) (b := 10) (i := 3) (k := 0) d (by decide) (by decide) (by decide)), FL5_k (FL5_k hF k1 (by decide)) k2 (by decide)⟩⟩)
      · refine n_iconst 0 rfl ?_
        have hn2 := tbq_n hh2
        have e9 : _ := eT.trans (two_2 hz1 hn2)
        exact s_ret (st := []) rfl rfl rfl (Nat.zero_le _) (Nat.zero_le _) (⟨_, rfl, by rw [e9]; exact tb_no hn2, FrP_mz rfl rfl (r2.1.trans (r1.1.trans g1)), by rw [e9]; exact CR_no hn2 (r2.2.2 hn2).1 (r2.2.2 hn2).2⟩)
  · refine r_aload_n rfl rfl ?_
    refine n_iconst 5 rfl ?_
    refine s_virI [.int (nI 5)] [] rfl lkX5_120 rfl rfl rfl (c_fail hC.2.2.1) rfl rfl (Nat.le_refl _) (Nat.le_refl _) rfl (rI (e1 := nI 0) rfl ?_)
    refine m_mz (L' := [(1, (aup (aup (σ.1 1) 4 (nI 5)) 3 (nI (tS x j))))]) (M' := []) rfl rfl ?_
    have e9 : sGif x (j, d, u, o) = (5, j, d, u, o) := if_pos (by show 8 ≤ d 0 3; omega)
    exact s_ret (st := []) rfl rfl rfl (Nat.zero_le _) (Nat.zero_le _) (⟨_, rfl, by rw [e9]; exact tb_nr rfl, FrP_mz rfl rfl rfl, by rw [e9]; exact CR_no (by decide) rfl rfl⟩)

theorem c_readLegacy {z : SZ} {sc : SC} {σ : SS} {j : Nat} {d : D} {u : Nat → List Nat} {o : Nat → Bool} {x : TX} (hx : x.1 ≤ 700) (hb : ∀ i, x.2 i < 256) (hT : ∀ i, i < x.1 → σ.1 3 i = bI (x.2 i)) (hP : CP σ x (j, d, u, o)) (hVP : VP x (j, d, u, o)) (hk : tK x j = 1) : Cs z sc mX5_readLegacy 0 0 [.ref 1] σ (RI fun v σ' => v = nI (tb ((sLeg x (j, d, u, o)).1 == 0)) ∧ FrP σ σ' ∧ CR σ' x (sLeg x (j, d, u, o))) := by
  refine Cs.of gmX5_readLegacy (Nat.le_of_ble_eq_true rfl) ?_
  show Ws z sc mX5_readLegacy 0 0 0 0 0 [(0, .ref 1)] [] (mz σ [] []) (RI fun v σ' => v = nI (tb ((sLeg x (j, d, u, o)).1 == 0)) ∧ FrP σ σ' ∧ CR σ' x (sLeg x (j, d, u, o)))
  have hC : CT (σ.1 2) x j := hP.1
  have hE : EE4 σ d := hP.2.1
  have hS : SR (σ.1 11) d := hP.2.2.1
  have hN : NM (σ.2 5) (d 0 0) u := hP.2.2.2.1
  have hF : FL5 (σ.1 1) o := hP.2.2.2.2
  have hV : Vd d := hVP.1
  have hu : ∀ p, p < d 0 0 → okW (u p) := hVP.2.2.1
  have hj : j ≤ x.1 := hVP.2.2.2
  have hCC := vC hV
  have hkl := tK_le x j
  have hEg := tE_j x j
  refine r_aload_n rfl rfl ?_
  refine s_getR (r := 4) rfl flX5_21 rfl rfl ?_
  refine s_getI (x := nI (d 0 4)) rfl flX5_194 rfl rfl hE.1.2.2.2.1 ?_
  refine n_bipush 8 rfl (by decide) ?_
  refine n_icmp_lt (tgt := 18) rfl rfl (by omega) (by omega) (fun h1 => ?_) (fun h1 => ?_)
  · refine r_aload_n rfl rfl ?_
    refine s_getR (r := 2) rfl flX5_12 rfl rfl ?_
    refine s_virV [] [] rfl lkX5_124 rfl rfl rfl (c_adv hx hb hT hC.1 hC.2.2.2 (Nat.le_succ_of_le (tE_le (by omega)))) rfl rfl (Nat.le_refl _) (Nat.le_refl _) rfl ?_
    rintro _ ⟨f2, rfl, g1, g⟩
    refine m_mz (L' := [(2, f2)]) (M' := []) rfl rfl ?_
    refine r_aload_n rfl rfl ?_
    refine n_m1 rfl ?_
    refine r_top (y := oI 0) oI_0.symm ?_
    refine s_virI [.int (oI 0)] [] rfl lkX5_143 rfl rfl rfl (c_rdPer (q := 0) hx hb hT g hE.1.1 (by omega) hN hu (by omega)) rfl rfl (Nat.le_refl _) (Nat.le_refl _) rfl ?_
    rintro _ _ ⟨a1, b1, rfl, rfl, r1⟩
    refine m_mz (L' := [(2, b1), (1, a1)]) (M' := []) rfl rfl ?_
    have ht1 := tb_le ((kp x (tE x j) (d 0 0) u 0).1 == 0)
    have eT : sLeg x (j, d, u, o) = two x (j, d, u, o) (kp x (tE x j) (d 0 0) u 0) 9999999 (fun v w => up3 d 11 12 4 (v - 1) w) o := if_neg (by show ¬ 8 ≤ d 0 4; omega)
    refine n_if_eq (tgt := 43) rfl rfl (by omega) (fun hh1 => ?_) (fun hh1 => ?_)
    · refine n_iconst 0 rfl ?_
      have hn1 := tbq_n hh1
      have e9 : _ := eT.trans (two_1 hn1)
      exact s_ret (st := []) rfl rfl rfl (Nat.zero_le _) (Nat.zero_le _) (⟨_, rfl, by rw [e9]; exact tb_no hn1, FrP_mz rfl rfl (r1.1.trans g1), by rw [e9]; exact CR_no hn1 (r1.2.2 hn1).1 (r1.2.2 hn1).2⟩)
    · have hz1 := tbq_y hh1
      obtain ⟨c1, v1, k1⟩ := r1.2.1 hz1
      have w1 := kp_fw hz1
      refine r_aload_n rfl rfl ?_
      refine n_iconst 0 rfl ?_
      refine r_ldc (v := nI 9999999) rfl kcX5_172 ?_
      refine s_virI [.int (nI 0), .int (nI 9999999)] [] rfl lkX5_148 rfl rfl rfl (c_rdNum (l := 0) (m := 9999999) hx hb hT c1 (by omega) (by omega)) rfl rfl (Nat.le_refl _) (Nat.le_refl _) rfl ?_
      rintro _ _ ⟨a2, b2, rfl, rfl, r2⟩
      refine m_mz (L' := [(2, b2), (1, a2)]) (M' := []) rfl rfl ?_
      have ht2 := tb_le ((nu x (kp x (tE x j) (d 0 0) u 0).2.1 0 9999999).1 == 0)
      refine n_if_ne (tgt := 45) rfl rfl (by omega) (fun hh2 => ?_) (fun hh2 => ?_)
      · have hz2 := tbq_y hh2
        obtain ⟨c2, v2, k2⟩ := r2.2.1 hz2
        have w2 := nu_fw hz2
        refine r_aload_n rfl rfl ?_
        refine s_getR (r := 4) rfl flX5_21 rfl rfl ?_
        refine r_aload_n rfl rfl ?_
        refine s_getI (x := nI ((kp x (tE x j) (d 0 0) u 0).2.2 - 1)) rfl flX5_52 rfl rfl ((k2 9 (by decide)).trans (v1.trans (oI_pr w1.2.2.1))) ?_
        refine r_aload_n rfl rfl ?_
        refine s_getI (x := nI ((nu x (kp x (tE x j) (d 0 0) u 0).2.1 0 9999999).2.2)) rfl flX5_49 rfl rfl v2 ?_
        refine s_virV [.int (nI ((kp x (tE x j) (d 0 0) u 0).2.2 - 1)), .int (nI ((nu x (kp x (tE x j) (d 0 0) u 0).2.1 0 9999999).2.2))] [] rfl lkX5_197 rfl rfl rfl (c_putLegacy hE.1.2.2.2.1 h1) rfl rfl (Nat.le_refl _) (Nat.le_refl _) rfl (rV ?_)
        refine m_mz (L' := [(2, b2), (1, a2), (4, (aup (σ.1 4) 6 (nI (d 0 4 + 1)))), (9, (aup (σ.1 9) (d 0 4) (nI (nu x (kp x (tE x j) (d 0 0) u 0).2.1 0 9999999).2.2))), (8, (aup (σ.1 8) (d 0 4) (nI ((kp x (tE x j) (d 0 0) u 0).2.2 - 1))))]) (M' := []) rfl rfl ?_
        refine n_iconst 1 rfl ?_
        have e9 := eT.trans (two_0 hz1 hz2)
        exact s_ret (st := []) rfl rfl rfl (Nat.zero_le _) (Nat.zero_le _) (⟨_, rfl, by rw [e9]; rfl, FrP_mz rfl rfl (r2.1.trans (r1.1.trans g1)), by rw [e9]; exact CR_ok ⟨c2, ER_leg hE, SR_st (SR_st (SR_st hS (Or.inl (by decide))) (Or.inl (by decide))) (by decide), NM_cg hN (up3_z (v := (kp x (tE x j) (d 0 0) u 0).2.2 - 1) (w := (nu x (kp x (tE x j) (d 0 0) u 0).2.1 0 9999999).2.2) (a := 11) (b := 12) (i := 4) (k := 0) d (by decide) (by decide) (by decide)), FL5_k (FL5_k hF k1 (by decide)) k2 (by decide)⟩⟩)
      · refine n_iconst 0 rfl ?_
        have hn2 := tbq_n hh2
        have e9 : _ := eT.trans (two_2 hz1 hn2)
        exact s_ret (st := []) rfl rfl rfl (Nat.zero_le _) (Nat.zero_le _) (⟨_, rfl, by rw [e9]; exact tb_no hn2, FrP_mz rfl rfl (r2.1.trans (r1.1.trans g1)), by rw [e9]; exact CR_no hn2 (r2.2.2 hn2).1 (r2.2.2 hn2).2⟩)
  · refine r_aload_n rfl rfl ?_
    refine n_iconst 5 rfl ?_
    refine s_virI [.int (nI 5)] [] rfl lkX5_120 rfl rfl rfl (c_fail hC.2.2.1) rfl rfl (Nat.le_refl _) (Nat.le_refl _) rfl (rI (e1 := nI 0) rfl ?_)
    refine m_mz (L' := [(1, (aup (aup (σ.1 1) 4 (nI 5)) 3 (nI (tS x j))))]) (M' := []) rfl rfl ?_
    have e9 : sLeg x (j, d, u, o) = (5, j, d, u, o) := if_pos (by show 8 ≤ d 0 4; omega)
    exact s_ret (st := []) rfl rfl rfl (Nat.zero_le _) (Nat.zero_le _) (⟨_, rfl, by rw [e9]; exact tb_nr rfl, FrP_mz rfl rfl rfl, by rw [e9]; exact CR_no (by decide) rfl rfl⟩)

theorem c_readShare {z : SZ} {sc : SC} {σ : SS} {j : Nat} {d : D} {u : Nat → List Nat} {o : Nat → Bool} {x : TX} (hx : x.1 ≤ 700) (hb : ∀ i, x.2 i < 256) (hT : ∀ i, i < x.1 → σ.1 3 i = bI (x.2 i)) (hP : CP σ x (j, d, u, o)) (hVP : VP x (j, d, u, o)) (hk : tK x j = 1) : Cs z sc mX5_readShare 0 0 [.ref 1] σ (RI fun v σ' => v = nI (tb ((sSha x (j, d, u, o)).1 == 0)) ∧ FrP σ σ' ∧ CR σ' x (sSha x (j, d, u, o))) := by
  refine Cs.of gmX5_readShare (Nat.le_of_ble_eq_true rfl) ?_
  show Ws z sc mX5_readShare 0 0 0 0 0 [(0, .ref 1)] [] (mz σ [] []) (RI fun v σ' => v = nI (tb ((sSha x (j, d, u, o)).1 == 0)) ∧ FrP σ σ' ∧ CR σ' x (sSha x (j, d, u, o)))
  have hC : CT (σ.1 2) x j := hP.1
  have hE : EE4 σ d := hP.2.1
  have hS : SR (σ.1 11) d := hP.2.2.1
  have hN : NM (σ.2 5) (d 0 0) u := hP.2.2.2.1
  have hF : FL5 (σ.1 1) o := hP.2.2.2.2
  have hV : Vd d := hVP.1
  have hu : ∀ p, p < d 0 0 → okW (u p) := hVP.2.2.1
  have hj : j ≤ x.1 := hVP.2.2.2
  have hCC := vC hV
  have hkl := tK_le x j
  have hEg := tE_j x j
  have hto := tb_le (o 0)
  refine r_aload_n rfl rfl ?_
  refine s_getI (x := nI (tb (o 0))) rfl flX5_39 rfl rfl hF.2.2.1 ?_
  refine n_if_eq (tgt := 13) rfl rfl (by omega) (fun h1 => ?_) (fun h1 => ?_)
  · have hF2 : FL5 (aup (σ.1 1) 5 (nI 1)) (aup o 0 true) := ⟨hF.1, hF.2.1, rfl, hF.2.2.2.1, hF.2.2.2.2⟩
    refine r_aload_n rfl rfl ?_
    refine n_iconst 1 rfl ?_
    refine m_putI (L' := [(1, (aup (σ.1 1) 5 (nI 1)))]) rfl flX5_39 rfl rfl (okv_z (Or.inr rfl)) rfl ?_
    refine r_aload_n rfl rfl ?_
    refine s_getR (r := 2) rfl flX5_12 rfl rfl ?_
    refine s_virV [] [] rfl lkX5_124 rfl rfl rfl (c_adv hx hb hT hC.1 hC.2.2.2 (Nat.le_succ_of_le (tE_le (by omega)))) rfl rfl (Nat.le_refl _) (Nat.le_refl _) rfl ?_
    rintro _ ⟨f2, rfl, g1, g⟩
    refine m_mz (L' := [(1, (aup (σ.1 1) 5 (nI 1))), (2, f2)]) (M' := []) rfl rfl ?_
    refine r_aload_n rfl rfl ?_
    refine n_iconst 1 rfl ?_
    refine n_bipush 99 rfl (by decide) ?_
    refine s_virI [.int (nI 1), .int (nI 99)] [] rfl lkX5_148 rfl rfl rfl (c_rdNum (l := 1) (m := 99) hx hb hT g (by omega) (by omega)) rfl rfl (Nat.le_refl _) (Nat.le_refl _) rfl ?_
    rintro _ _ ⟨a1, b1, rfl, rfl, r1⟩
    refine m_mz (L' := [(1, a1), (2, b1)]) (M' := []) rfl rfl ?_
    have ht1 := tb_le ((nu x (tE x j) 1 99).1 == 0)
    have eT : sSha x (j, d, u, o) = two x (j, d, u, o) (nu x (tE x j) 1 99) (nu x (tE x j) 1 99).2.2 (fun v w => up (up d 0 7 v) 0 6 w) (aup o 0 true) := if_neg (fun z => by have : o 0 = true := z; rw [this] at h1; exact absurd h1 (by decide))
    refine n_if_ne (tgt := 37) rfl rfl (by omega) (fun hh1 => ?_) (fun hh1 => ?_)
    · have hz1 := tbq_y hh1
      obtain ⟨c1, v1, k1⟩ := r1.2.1 hz1
      have w1 := nu_fw hz1
      refine r_aload_n rfl rfl ?_
      refine s_getR (r := 4) rfl flX5_21 rfl rfl ?_
      refine r_aload_n rfl rfl ?_
      refine s_getI (x := nI ((nu x (tE x j) 1 99).2.2)) rfl flX5_49 rfl rfl v1 ?_
      refine m_putI (L' := [(1, a1), (2, b1), (4, (aup (σ.1 4) 9 (nI ((nu x (tE x j) 1 99).2.2))))]) rfl flX5_200 rfl rfl (okv_i _) rfl ?_
      refine r_aload_n rfl rfl ?_
      refine n_iconst 0 rfl ?_
      refine r_aload_n rfl rfl ?_
      refine s_getR (r := 4) rfl flX5_21 rfl rfl ?_
      refine s_getI (x := nI ((nu x (tE x j) 1 99).2.2)) rfl flX5_200 rfl rfl rfl ?_
      refine s_virI [.int (nI 0), .int (nI ((nu x (tE x j) 1 99).2.2))] [] rfl lkX5_148 rfl rfl rfl (c_rdNum (l := 0) (m := (nu x (tE x j) 1 99).2.2) hx hb hT c1 (by omega) (by omega)) rfl rfl (Nat.le_refl _) (Nat.le_refl _) rfl ?_
      rintro _ _ ⟨a2, b2, rfl, rfl, r2⟩
      refine m_mz (L' := [(1, a2), (2, b2), (4, (aup (σ.1 4) 9 (nI ((nu x (tE x j) 1 99).2.2))))]) (M' := []) rfl rfl ?_
      have ht2 := tb_le ((nu x (nu x (tE x j) 1 99).2.1 0 (nu x (tE x j) 1 99).2.2).1 == 0)
      refine n_if_ne (tgt := 65) rfl rfl (by omega) (fun hh2 => ?_) (fun hh2 => ?_)
      · have hz2 := tbq_y hh2
        obtain ⟨c2, v2, k2⟩ := r2.2.1 hz2
        have w2 := nu_fw hz2
        refine r_aload_n rfl rfl ?_
        refine s_getR (r := 4) rfl flX5_21 rfl rfl ?_
        refine r_aload_n rfl rfl ?_
        refine s_getI (x := nI ((nu x (nu x (tE x j) 1 99).2.1 0 (nu x (tE x j) 1 99).2.2).2.2)) rfl flX5_49 rfl rfl v2 ?_
        refine m_putI (L' := [(1, a2), (2, b2), (4, (aup (aup (σ.1 4) 9 (nI ((nu x (tE x j) 1 99).2.2))) 10 (nI ((nu x (nu x (tE x j) 1 99).2.1 0 (nu x (tE x j) 1 99).2.2).2.2))))]) rfl flX5_203 rfl rfl (okv_i _) rfl ?_
        refine n_iconst 1 rfl ?_
        have e9 := eT.trans (two_0 hz1 hz2)
        exact s_ret (st := []) rfl rfl rfl (Nat.zero_le _) (Nat.zero_le _) (⟨_, rfl, by rw [e9]; rfl, FrP_mz rfl rfl (r2.1.trans (r1.1.trans g1)), by rw [e9]; exact CR_ok ⟨c2, ER_0 (ER_0 hE (by simp)) (by simp), SR_st (SR_st hS (by decide)) (by decide), NM_cg hN rfl, FL5_k (FL5_k hF2 k1 (by decide)) k2 (by decide)⟩⟩)
      · refine n_iconst 0 rfl ?_
        have hn2 := tbq_n hh2
        have e9 : _ := eT.trans (two_2 hz1 hn2)
        exact s_ret (st := []) rfl rfl rfl (Nat.zero_le _) (Nat.zero_le _) (⟨_, rfl, by rw [e9]; exact tb_no hn2, FrP_mz rfl rfl (r2.1.trans (r1.1.trans g1)), by rw [e9]; exact CR_no hn2 (r2.2.2 hn2).1 (r2.2.2 hn2).2⟩)
    · refine n_iconst 0 rfl ?_
      have hn1 := tbq_n hh1
      have e9 : _ := eT.trans (two_1 hn1)
      exact s_ret (st := []) rfl rfl rfl (Nat.zero_le _) (Nat.zero_le _) (⟨_, rfl, by rw [e9]; exact tb_no hn1, FrP_mz rfl rfl (r1.1.trans g1), by rw [e9]; exact CR_no hn1 (r1.2.2 hn1).1 (r1.2.2 hn1).2⟩)
  · refine r_aload_n rfl rfl ?_
    refine n_iconst 2 rfl ?_
    refine s_virI [.int (nI 2)] [] rfl lkX5_120 rfl rfl rfl (c_fail hC.2.2.1) rfl rfl (Nat.le_refl _) (Nat.le_refl _) rfl (rI (e1 := nI 0) rfl ?_)
    refine m_mz (L' := [(1, (aup (aup (σ.1 1) 4 (nI 2)) 3 (nI (tS x j))))]) (M' := []) rfl rfl ?_
    have e9 : sSha x (j, d, u, o) = (2, j, d, u, o) := if_pos (tb_ne h1)
    exact s_ret (st := []) rfl rfl rfl (Nat.zero_le _) (Nat.zero_le _) (⟨_, rfl, by rw [e9]; exact tb_nr rfl, FrP_mz rfl rfl rfl, by rw [e9]; exact CR_no (by decide) rfl rfl⟩)

theorem c_readLife {z : SZ} {sc : SC} {σ : SS} {j : Nat} {d : D} {u : Nat → List Nat} {o : Nat → Bool} {x : TX} (hx : x.1 ≤ 700) (hb : ∀ i, x.2 i < 256) (hT : ∀ i, i < x.1 → σ.1 3 i = bI (x.2 i)) (hP : CP σ x (j, d, u, o)) (hVP : VP x (j, d, u, o)) (hk : tK x j = 1) : Cs z sc mX5_readLife 0 0 [.ref 1] σ (RI fun v σ' => v = nI (tb ((sLif x (j, d, u, o)).1 == 0)) ∧ FrP σ σ' ∧ CR σ' x (sLif x (j, d, u, o))) := by
  refine Cs.of gmX5_readLife (Nat.le_of_ble_eq_true rfl) ?_
  show Ws z sc mX5_readLife 0 0 0 0 0 [(0, .ref 1)] [] (mz σ [] []) (RI fun v σ' => v = nI (tb ((sLif x (j, d, u, o)).1 == 0)) ∧ FrP σ σ' ∧ CR σ' x (sLif x (j, d, u, o)))
  have hC : CT (σ.1 2) x j := hP.1
  have hE : EE4 σ d := hP.2.1
  have hS : SR (σ.1 11) d := hP.2.2.1
  have hN : NM (σ.2 5) (d 0 0) u := hP.2.2.2.1
  have hF : FL5 (σ.1 1) o := hP.2.2.2.2
  have hV : Vd d := hVP.1
  have hu : ∀ p, p < d 0 0 → okW (u p) := hVP.2.2.1
  have hj : j ≤ x.1 := hVP.2.2.2
  have hCC := vC hV
  have hkl := tK_le x j
  have hEg := tE_j x j
  have hto := tb_le (o 1)
  refine r_aload_n rfl rfl ?_
  refine s_getI (x := nI (tb (o 1))) rfl flX5_43 rfl rfl hF.2.2.2.1 ?_
  refine n_if_eq (tgt := 13) rfl rfl (by omega) (fun h1 => ?_) (fun h1 => ?_)
  · have hF2 : FL5 (aup (σ.1 1) 6 (nI 1)) (aup o 1 true) := ⟨hF.1, hF.2.1, hF.2.2.1, rfl, hF.2.2.2.2⟩
    have ho1 : ¬ o 1 = true := fun z => by rw [z] at h1; exact absurd h1 (by decide)
    refine r_aload_n rfl rfl ?_
    refine n_iconst 1 rfl ?_
    refine m_putI (L' := [(1, (aup (σ.1 1) 6 (nI 1)))]) rfl flX5_43 rfl rfl (okv_z (Or.inr rfl)) rfl ?_
    refine r_aload_n rfl rfl ?_
    refine s_getR (r := 2) rfl flX5_12 rfl rfl ?_
    refine s_virV [] [] rfl lkX5_124 rfl rfl rfl (c_adv hx hb hT hC.1 hC.2.2.2 (Nat.le_succ_of_le (tE_le (by omega)))) rfl rfl (Nat.le_refl _) (Nat.le_refl _) rfl ?_
    rintro _ ⟨f2, rfl, g1, g⟩
    refine m_mz (L' := [(1, (aup (σ.1 1) 6 (nI 1))), (2, f2)]) (M' := []) rfl rfl ?_
    refine r_aload_n rfl rfl ?_
    refine n_iconst 0 rfl ?_
    refine n_bipush 100 rfl (by decide) ?_
    refine s_virI [.int (nI 0), .int (nI 100)] [] rfl lkX5_148 rfl rfl rfl (c_rdNum (l := 0) (m := 100) hx hb hT g (by omega) (by omega)) rfl rfl (Nat.le_refl _) (Nat.le_refl _) rfl ?_
    rintro _ _ ⟨a1, b1, rfl, rfl, r1⟩
    refine m_mz (L' := [(1, a1), (2, b1)]) (M' := []) rfl rfl ?_
    have ht1 := tb_le ((nu x (tE x j) 0 100).1 == 0)
    refine n_if_ne (tgt := 37) rfl rfl (by omega) (fun hh1 => ?_) (fun hh1 => ?_)
    · have hz1 := tbq_y hh1
      obtain ⟨c1, v1, k1⟩ := r1.2.1 hz1
      have w1 := nu_fw hz1
      refine r_aload_n rfl rfl ?_
      refine s_getR (r := 4) rfl flX5_21 rfl rfl ?_
      refine r_aload_n rfl rfl ?_
      refine s_getI (x := nI ((nu x (tE x j) 0 100).2.2)) rfl flX5_49 rfl rfl v1 ?_
      refine m_putI (L' := [(1, a1), (2, b1), (4, (aup (σ.1 4) 11 (nI ((nu x (tE x j) 0 100).2.2))))]) rfl flX5_206 rfl rfl (okv_i _) rfl ?_
      refine n_iconst 1 rfl ?_
      have e9 : sLif x (j, d, u, o) = (0, (nu x (tE x j) 0 100).2.1, up d 0 8 (nu x (tE x j) 0 100).2.2, u, aup o 1 true) := (if_neg ho1).trans (if_neg (fun z => z hz1))
      exact s_ret (st := []) rfl rfl rfl (Nat.zero_le _) (Nat.zero_le _) (⟨_, rfl, by rw [e9]; rfl, FrP_mz rfl rfl (r1.1.trans g1), by rw [e9]; exact CR_ok ⟨c1, ER_0 hE (by simp), SR_st hS (by decide), NM_cg hN rfl, FL5_k hF2 k1 (by decide)⟩⟩)
    · refine n_iconst 0 rfl ?_
      have hn1 := tbq_n hh1
      have e9 : sLif x (j, d, u, o) = ((nu x (tE x j) 0 100).1, (nu x (tE x j) 0 100).2.1, d, u, o) := (if_neg ho1).trans (if_pos hn1)
      exact s_ret (st := []) rfl rfl rfl (Nat.zero_le _) (Nat.zero_le _) (⟨_, rfl, by rw [e9]; exact tb_no hn1, FrP_mz rfl rfl (r1.1.trans g1), by rw [e9]; exact CR_no hn1 (r1.2.2 hn1).1 (r1.2.2 hn1).2⟩)
  · refine r_aload_n rfl rfl ?_
    refine n_iconst 2 rfl ?_
    refine s_virI [.int (nI 2)] [] rfl lkX5_120 rfl rfl rfl (c_fail hC.2.2.1) rfl rfl (Nat.le_refl _) (Nat.le_refl _) rfl (rI (e1 := nI 0) rfl ?_)
    refine m_mz (L' := [(1, (aup (aup (σ.1 1) 4 (nI 2)) 3 (nI (tS x j))))]) (M' := []) rfl rfl ?_
    have e9 : sLif x (j, d, u, o) = (2, j, d, u, o) := if_pos (tb_ne h1)
    exact s_ret (st := []) rfl rfl rfl (Nat.zero_le _) (Nat.zero_le _) (⟨_, rfl, by rw [e9]; exact tb_nr rfl, FrP_mz rfl rfl rfl, by rw [e9]; exact CR_no (by decide) rfl rfl⟩)

theorem c_readAccrue {z : SZ} {sc : SC} {σ : SS} {j : Nat} {d : D} {u : Nat → List Nat} {o : Nat → Bool} {x : TX} (hx : x.1 ≤ 700) (hb : ∀ i, x.2 i < 256) (hT : ∀ i, i < x.1 → σ.1 3 i = bI (x.2 i)) (hP : CP σ x (j, d, u, o)) (hVP : VP x (j, d, u, o)) (hk : tK x j = 1) : Cs z sc mX5_readAccrue 0 0 [.ref 1] σ (RI fun v σ' => v = nI (tb ((sAcc x (j, d, u, o)).1 == 0)) ∧ FrP σ σ' ∧ CR σ' x (sAcc x (j, d, u, o))) := by
  refine Cs.of gmX5_readAccrue (Nat.le_of_ble_eq_true rfl) ?_
  show Ws z sc mX5_readAccrue 0 0 0 0 0 [(0, .ref 1)] [] (mz σ [] []) (RI fun v σ' => v = nI (tb ((sAcc x (j, d, u, o)).1 == 0)) ∧ FrP σ σ' ∧ CR σ' x (sAcc x (j, d, u, o)))
  have hC : CT (σ.1 2) x j := hP.1
  have hE : EE4 σ d := hP.2.1
  have hS : SR (σ.1 11) d := hP.2.2.1
  have hN : NM (σ.2 5) (d 0 0) u := hP.2.2.2.1
  have hF : FL5 (σ.1 1) o := hP.2.2.2.2
  have hV : Vd d := hVP.1
  have hu : ∀ p, p < d 0 0 → okW (u p) := hVP.2.2.1
  have hj : j ≤ x.1 := hVP.2.2.2
  have hCC := vC hV
  have hkl := tK_le x j
  have hEg := tE_j x j
  have hto := tb_le (o 2)
  refine r_aload_n rfl rfl ?_
  refine s_getI (x := nI (tb (o 2))) rfl flX5_46 rfl rfl hF.2.2.2.2 ?_
  refine n_if_eq (tgt := 13) rfl rfl (by omega) (fun h1 => ?_) (fun h1 => ?_)
  · have hF2 : FL5 (aup (σ.1 1) 7 (nI 1)) (aup o 2 true) := ⟨hF.1, hF.2.1, hF.2.2.1, hF.2.2.2.1, rfl⟩
    have ho1 : ¬ o 2 = true := fun z => by rw [z] at h1; exact absurd h1 (by decide)
    have hEg2 := tE_j x (tE x j)
    refine r_aload_n rfl rfl ?_
    refine n_iconst 1 rfl ?_
    refine m_putI (L' := [(1, (aup (σ.1 1) 7 (nI 1)))]) rfl flX5_46 rfl rfl (okv_z (Or.inr rfl)) rfl ?_
    refine r_aload_n rfl rfl ?_
    refine s_getR (r := 2) rfl flX5_12 rfl rfl ?_
    refine s_virV [] [] rfl lkX5_124 rfl rfl rfl (c_adv hx hb hT hC.1 hC.2.2.2 (Nat.le_succ_of_le (tE_le (by omega)))) rfl rfl (Nat.le_refl _) (Nat.le_refl _) rfl ?_
    rintro _ ⟨f2, rfl, g1, g⟩
    refine m_mz (L' := [(1, (aup (σ.1 1) 7 (nI 1))), (2, f2)]) (M' := []) rfl rfl ?_
    refine r_aload_n rfl rfl ?_
    refine s_getR (r := 2) rfl flX5_12 rfl rfl ?_
    refine r_ldcS (i := 14) rfl rfl ?_
    refine s_virI [.retAddr 14] [] rfl lkX5_78 rfl rfl rfl (c_isWord sq14 sv14 hx hb hT g) rfl rfl (Nat.le_refl _) (Nat.le_refl _) rfl (rI (e1 := nI (tb (iw x (tE x j) Wline))) rfl ?_)
    have htl := tb_le (iw x (tE x j) Wline)
    refine r_istore_n (lv' := [(1, .int (nI (tb (iw x (tE x j) Wline)))), (0, .ref 1)]) rfl rfl (Nat.le_of_ble_eq_true rfl) rfl ?_
    refine r_iload_n rfl rfl ?_
    refine n_if_ne (tgt := 57) rfl rfl (by omega) (fun h2 => ?_) (fun h2 => ?_)
    · have hiw := tb_ne h2
      rw [hiw]
      refine r_aload_n rfl rfl ?_
      refine s_getR (r := 10) rfl flX5_28 rfl rfl ?_
      refine r_iload_n rfl rfl ?_
      refine s_virV [.int (nI (tb true))] [] rfl lkX5_212 rfl rfl rfl (c_putAccrual_10 (b := true) hS) rfl rfl (Nat.le_refl _) (Nat.le_refl _) rfl ?_
      rintro _ ⟨f11, rfl, h11⟩
      refine m_mz (L' := [(1, (aup (σ.1 1) 7 (nI 1))), (2, f2), (11, f11)]) (M' := []) rfl rfl ?_
      refine r_aload_n rfl rfl ?_
      refine s_getR (r := 2) rfl flX5_12 rfl rfl ?_
      refine s_virV [] [] rfl lkX5_124 rfl rfl rfl (c_adv hx hb hT g.1 g.2.2.2 (Nat.le_succ_of_le (iw_E hiw))) rfl rfl (Nat.le_refl _) (Nat.le_refl _) rfl ?_
      rintro _ ⟨f3, rfl, gg1, gg⟩
      refine m_mz (L' := [(1, (aup (σ.1 1) 7 (nI 1))), (2, f3), (11, f11)]) (M' := []) rfl rfl ?_
      refine n_iconst 1 rfl ?_
      have e9 : sAcc x (j, d, u, o) = (0, tE x (tE x j), up d 0 9 1, u, aup o 2 true) := (if_neg ho1).trans (if_pos hiw)
      exact s_ret (st := []) rfl rfl rfl (Nat.zero_le _) (Nat.zero_le _) (⟨_, rfl, by rw [e9]; rfl, FrP_mz rfl rfl (gg1.trans g1), by rw [e9]; exact CR_ok ⟨gg, ER_dyn hE rfl, h11, NM_cg hN rfl, hF2⟩⟩)
    · have hnl := tb_z h2
      refine r_aload_n rfl rfl ?_
      refine s_getR (r := 2) rfl flX5_12 rfl rfl ?_
      refine r_ldcS (i := 15) rfl rfl ?_
      refine s_virI [.retAddr 15] [] rfl lkX5_78 rfl rfl rfl (c_isWord sq15 sv15 hx hb hT g) rfl rfl (Nat.le_refl _) (Nat.le_refl _) rfl (rI (e1 := nI (tb (iw x (tE x j) Wothers))) rfl ?_)
      have hto2 := tb_le (iw x (tE x j) Wothers)
      refine n_if_ne (tgt := 57) rfl rfl (by omega) (fun h3 => ?_) (fun h3 => ?_)
      · have hiw := tb_ne h3
        rw [hnl]
        refine r_aload_n rfl rfl ?_
        refine s_getR (r := 10) rfl flX5_28 rfl rfl ?_
        refine r_iload_n rfl rfl ?_
        refine s_virV [.int (nI (tb false))] [] rfl lkX5_212 rfl rfl rfl (c_putAccrual_10 (b := false) hS) rfl rfl (Nat.le_refl _) (Nat.le_refl _) rfl ?_
        rintro _ ⟨f11, rfl, h11⟩
        refine m_mz (L' := [(1, (aup (σ.1 1) 7 (nI 1))), (2, f2), (11, f11)]) (M' := []) rfl rfl ?_
        refine r_aload_n rfl rfl ?_
        refine s_getR (r := 2) rfl flX5_12 rfl rfl ?_
        refine s_virV [] [] rfl lkX5_124 rfl rfl rfl (c_adv hx hb hT g.1 g.2.2.2 (Nat.le_succ_of_le (iw_E hiw))) rfl rfl (Nat.le_refl _) (Nat.le_refl _) rfl ?_
        rintro _ ⟨f3, rfl, gg1, gg⟩
        refine m_mz (L' := [(1, (aup (σ.1 1) 7 (nI 1))), (2, f3), (11, f11)]) (M' := []) rfl rfl ?_
        refine n_iconst 1 rfl ?_
        have e9 : sAcc x (j, d, u, o) = (0, tE x (tE x j), up d 0 9 0, u, aup o 2 true) := (if_neg ho1).trans ((if_neg (by rw [hnl]; decide)).trans (if_pos hiw))
        exact s_ret (st := []) rfl rfl rfl (Nat.zero_le _) (Nat.zero_le _) (⟨_, rfl, by rw [e9]; rfl, FrP_mz rfl rfl (gg1.trans g1), by rw [e9]; exact CR_ok ⟨gg, ER_dyn hE rfl, h11, NM_cg hN rfl, hF2⟩⟩)
      · refine r_aload_n rfl rfl ?_
        refine n_iconst 1 rfl ?_
        refine s_virI [.int (nI 1)] [] rfl lkX5_120 rfl rfl rfl (c_fail g.2.2.1) rfl rfl (Nat.le_refl _) (Nat.le_refl _) rfl (rI (e1 := nI 0) rfl ?_)
        refine m_mz (L' := [(1, (aup (aup (aup (σ.1 1) 7 (nI 1)) 4 (nI 1)) 3 (nI (tS x (tE x j))))), (2, f2)]) (M' := []) rfl rfl ?_
        have e9 : sAcc x (j, d, u, o) = (1, tE x j, d, u, o) := (if_neg ho1).trans ((if_neg (by rw [hnl]; decide)).trans (if_neg (by rw [tb_z h3]; decide)))
        exact s_ret (st := []) rfl rfl rfl (Nat.zero_le _) (Nat.zero_le _) (⟨_, rfl, by rw [e9]; exact tb_nr rfl, FrP_mz rfl rfl g1, by rw [e9]; exact CR_no (by decide) rfl rfl⟩)
  · refine r_aload_n rfl rfl ?_
    refine n_iconst 2 rfl ?_
    refine s_virI [.int (nI 2)] [] rfl lkX5_120 rfl rfl rfl (c_fail hC.2.2.1) rfl rfl (Nat.le_refl _) (Nat.le_refl _) rfl (rI (e1 := nI 0) rfl ?_)
    refine m_mz (L' := [(1, (aup (aup (σ.1 1) 4 (nI 2)) 3 (nI (tS x j))))]) (M' := []) rfl rfl ?_
    have e9 : sAcc x (j, d, u, o) = (2, j, d, u, o) := if_pos (tb_ne h1)
    exact s_ret (st := []) rfl rfl rfl (Nat.zero_le _) (Nat.zero_le _) (⟨_, rfl, by rw [e9]; exact tb_nr rfl, FrP_mz rfl rfl rfl, by rw [e9]; exact CR_no (by decide) rfl rfl⟩)

theorem c_readAsset {z : SZ} {sc : SC} {σ : SS} {j : Nat} {d : D} {u : Nat → List Nat} {o : Nat → Bool} {x : TX} (hx : x.1 ≤ 700) (hb : ∀ i, x.2 i < 256) (hT : ∀ i, i < x.1 → σ.1 3 i = bI (x.2 i)) (hP : CP σ x (j, d, u, o)) (hVP : VP x (j, d, u, o)) (hk : tK x j = 1) : Cs z sc mX5_readAsset 0 0 [.ref 1] σ (RI fun v σ' => v = nI (tb ((sAss x (j, d, u, o)).1 == 0)) ∧ FrP σ σ' ∧ CR σ' x (sAss x (j, d, u, o))) := by
  refine Cs.of gmX5_readAsset (Nat.le_of_ble_eq_true rfl) ?_
  show Ws z sc mX5_readAsset 0 0 0 0 0 [(0, .ref 1)] [] (mz σ [] []) (RI fun v σ' => v = nI (tb ((sAss x (j, d, u, o)).1 == 0)) ∧ FrP σ σ' ∧ CR σ' x (sAss x (j, d, u, o)))
  have hC : CT (σ.1 2) x j := hP.1
  have hE : EE4 σ d := hP.2.1
  have hS : SR (σ.1 11) d := hP.2.2.1
  have hN : NM (σ.2 5) (d 0 0) u := hP.2.2.2.1
  have hF : FL5 (σ.1 1) o := hP.2.2.2.2
  have hV : Vd d := hVP.1
  have hu : ∀ p, p < d 0 0 → okW (u p) := hVP.2.2.1
  have hj : j ≤ x.1 := hVP.2.2.2
  have hCC := vC hV
  have hkl := tK_le x j
  have hEg := tE_j x j
  refine r_aload_n rfl rfl ?_
  refine s_getR (r := 4) rfl flX5_21 rfl rfl ?_
  refine s_getI (x := nI (d 0 1)) rfl flX5_169 rfl rfl hE.1.2.2.1 ?_
  refine n_bipush 8 rfl (by decide) ?_
  refine n_icmp_lt (tgt := 18) rfl rfl (by omega) (by omega) (fun h1 => ?_) (fun h1 => ?_)
  · have hnc : ¬ 8 ≤ d 0 1 := by omega
    refine r_aload_n rfl rfl ?_
    refine s_getR (r := 2) rfl flX5_12 rfl rfl ?_
    refine s_virV [] [] rfl lkX5_124 rfl rfl rfl (c_adv hx hb hT hC.1 hC.2.2.2 (Nat.le_succ_of_le (tE_le (by omega)))) rfl rfl (Nat.le_refl _) (Nat.le_refl _) rfl ?_
    rintro _ ⟨f2, rfl, g1, g⟩
    refine m_mz (L' := [(2, f2)]) (M' := []) rfl rfl ?_
    refine r_aload_n rfl rfl ?_
    refine n_iconst 0 rfl ?_
    refine r_ldc (v := nI 9999999) rfl kcX5_172 ?_
    refine s_virI [.int (nI 0), .int (nI 9999999)] [] rfl lkX5_148 rfl rfl rfl (c_rdNum (l := 0) (m := 9999999) hx hb hT g (by omega) (by omega)) rfl rfl (Nat.le_refl _) (Nat.le_refl _) rfl ?_
    rintro _ _ ⟨a1, b1, rfl, rfl, r1⟩
    refine m_mz (L' := [(2, b1), (1, a1)]) (M' := []) rfl rfl ?_
    have ht1 := tb_le ((nu x (tE x j) 0 9999999).1 == 0)
    refine n_if_ne (tgt := 37) rfl rfl (by omega) (fun hh1 => ?_) (fun hh1 => ?_)
    · have hz1 := tbq_y hh1
      obtain ⟨c1, v1, k1⟩ := r1.2.1 hz1
      have w1 := nu_fw hz1
      refine r_aload_n rfl rfl ?_
      refine s_getI (x := nI ((nu x (tE x j) 0 9999999).2.2)) rfl flX5_49 rfl rfl v1 ?_
      refine r_istore_n (lv' := [(1, .int (nI ((nu x (tE x j) 0 9999999).2.2))), (0, .ref 1)]) rfl rfl (Nat.le_of_ble_eq_true rfl) rfl ?_
      refine n_iconst 0 rfl ?_
      refine r_istore_n (lv' := [(2, .int (nI 0)), (1, .int (nI ((nu x (tE x j) 0 9999999).2.2))), (0, .ref 1)]) rfl rfl (Nat.le_of_ble_eq_true rfl) rfl ?_
      refine r_aload_n rfl rfl ?_
      refine s_getR (r := 2) rfl flX5_12 rfl rfl ?_
      refine r_ldcS (i := 7) rfl rfl ?_
      refine s_virI [.retAddr 7] [] rfl lkX5_78 rfl rfl rfl (c_isWord sq7 sv7 hx hb hT c1) rfl rfl (Nat.le_refl _) (Nat.le_refl _) rfl (rI (e1 := nI (tb (iw x ((nu x (tE x j) 0 9999999).2.1) Wcharge))) rfl ?_)
      have htc := tb_le (iw x (nu x (tE x j) 0 9999999).2.1 Wcharge)
      refine n_if_eq (tgt := 80) rfl rfl (by omega) (fun h2 => ?_) (fun h2 => ?_)
      · have eC : chr x (nu x (tE x j) 0 9999999).2.1 = (0, (nu x (tE x j) 0 9999999).2.1, 0) := if_neg (by rw [tb_z h2]; decide)
        refine r_aload_n rfl rfl ?_
        refine s_getR (r := 10) rfl flX5_28 rfl rfl ?_
        refine r_aload_n rfl rfl ?_
        refine s_getR (r := 4) rfl flX5_21 rfl rfl ?_
        refine s_getI (x := nI (d 0 1)) rfl flX5_169 rfl rfl hE.1.2.2.1 ?_
        refine r_iload_n rfl rfl ?_
        refine s_virV [.int (nI (d 0 1)), .int (nI ((nu x (tE x j) 0 9999999).2.2))] [] rfl lkX5_175 rfl rfl rfl (c_putValue_10 hS (by omega)) rfl rfl (Nat.le_refl _) (Nat.le_refl _) rfl ?_
        rintro _ ⟨f11, rfl, h11⟩
        refine m_mz (L' := [(2, b1), (1, a1), (11, f11)]) (M' := []) rfl rfl ?_
        refine r_aload_n rfl rfl ?_
        refine s_getR (r := 4) rfl flX5_21 rfl rfl ?_
        refine r_iload_n rfl rfl ?_
        refine s_virV [.int (nI 0)] [] rfl lkX5_178 rfl rfl rfl (c_putAsset hE.1.2.2.1 (by omega)) rfl rfl (Nat.le_refl _) (Nat.le_refl _) rfl (rV ?_)
        refine m_mz (L' := [(2, b1), (1, a1), (11, f11), (4, (aup (σ.1 4) 4 (nI (d 0 1 + 1)))), (7, (aup (σ.1 7) (d 0 1) (nI 0)))]) (M' := []) rfl rfl ?_
        refine n_iconst 1 rfl ?_
        have e9 : sAss x (j, d, u, o) = (0, (chr x (nu x (tE x j) 0 9999999).2.1).2.1, up3 d 5 6 1 (nu x (tE x j) 0 9999999).2.2 (chr x (nu x (tE x j) 0 9999999).2.1).2.2, u, o) := (if_neg hnc).trans ((if_neg (fun z => z hz1)).trans (if_neg (fun z => z (by rw [eC]))))
        exact s_ret (st := []) rfl rfl rfl (Nat.zero_le _) (Nat.zero_le _) (⟨_, rfl, by rw [e9]; rfl, FrP_mz rfl rfl (r1.1.trans g1), by rw [e9, eC]; exact CR_ok ⟨c1, ER_ass hE, SR_st (SR_st h11 (Or.inl (by decide))) (by decide), NM_cg hN (up3_z (v := (nu x (tE x j) 0 9999999).2.2) (w := (chr x (nu x (tE x j) 0 9999999).2.1).2.2) (a := 5) (b := 6) (i := 1) (k := 0) d (by decide) (by decide) (by decide)), FL5_k hF k1 (by decide)⟩⟩)
      · have hiw := tb_ne h2
        have eC : chr x (nu x (tE x j) 0 9999999).2.1 = nu x (tE x (nu x (tE x j) 0 9999999).2.1) 0 100 := if_pos hiw
        refine r_aload_n rfl rfl ?_
        refine s_getR (r := 2) rfl flX5_12 rfl rfl ?_
        refine s_virV [] [] rfl lkX5_124 rfl rfl rfl (c_adv hx hb hT c1.1 c1.2.2.2 (Nat.le_succ_of_le (iw_E hiw))) rfl rfl (Nat.le_refl _) (Nat.le_refl _) rfl ?_
        rintro _ ⟨f3, rfl, gg1, gg⟩
        refine m_mz (L' := [(2, f3), (1, a1)]) (M' := []) rfl rfl ?_
        refine r_aload_n rfl rfl ?_
        refine n_iconst 0 rfl ?_
        refine n_bipush 100 rfl (by decide) ?_
        refine s_virI [.int (nI 0), .int (nI 100)] [] rfl lkX5_148 rfl rfl rfl (c_rdNum (l := 0) (m := 100) hx hb hT gg (by omega) (by omega)) rfl rfl (Nat.le_refl _) (Nat.le_refl _) rfl ?_
        rintro _ _ ⟨a2, b2, rfl, rfl, r2⟩
        refine m_mz (L' := [(2, b2), (1, a2)]) (M' := []) rfl rfl ?_
        have ht2 := tb_le ((nu x (tE x (nu x (tE x j) 0 9999999).2.1) 0 100).1 == 0)
        refine n_if_ne (tgt := 75) rfl rfl (by omega) (fun hh2 => ?_) (fun hh2 => ?_)
        · have hz2 := tbq_y hh2
          obtain ⟨c2, v2, k2⟩ := r2.2.1 hz2
          have w2 := nu_fw hz2
          refine r_aload_n rfl rfl ?_
          refine s_getI (x := nI ((nu x (tE x (nu x (tE x j) 0 9999999).2.1) 0 100).2.2)) rfl flX5_49 rfl rfl v2 ?_
          refine r_istore_n (lv' := [(2, .int (nI ((nu x (tE x (nu x (tE x j) 0 9999999).2.1) 0 100).2.2))), (1, .int (nI ((nu x (tE x j) 0 9999999).2.2))), (0, .ref 1)]) rfl rfl (Nat.le_of_ble_eq_true rfl) rfl ?_
          refine r_aload_n rfl rfl ?_
          refine s_getR (r := 10) rfl flX5_28 rfl rfl ?_
          refine r_aload_n rfl rfl ?_
          refine s_getR (r := 4) rfl flX5_21 rfl rfl ?_
          refine s_getI (x := nI (d 0 1)) rfl flX5_169 rfl rfl hE.1.2.2.1 ?_
          refine r_iload_n rfl rfl ?_
          refine s_virV [.int (nI (d 0 1)), .int (nI ((nu x (tE x j) 0 9999999).2.2))] [] rfl lkX5_175 rfl rfl rfl (c_putValue_10 hS (by omega)) rfl rfl (Nat.le_refl _) (Nat.le_refl _) rfl ?_
          rintro _ ⟨f11, rfl, h11⟩
          refine m_mz (L' := [(2, b2), (1, a2), (11, f11)]) (M' := []) rfl rfl ?_
          refine r_aload_n rfl rfl ?_
          refine s_getR (r := 4) rfl flX5_21 rfl rfl ?_
          refine r_iload_n rfl rfl ?_
          refine s_virV [.int (nI ((nu x (tE x (nu x (tE x j) 0 9999999).2.1) 0 100).2.2))] [] rfl lkX5_178 rfl rfl rfl (c_putAsset hE.1.2.2.1 (by omega)) rfl rfl (Nat.le_refl _) (Nat.le_refl _) rfl (rV ?_)
          refine m_mz (L' := [(2, b2), (1, a2), (11, f11), (4, (aup (σ.1 4) 4 (nI (d 0 1 + 1)))), (7, (aup (σ.1 7) (d 0 1) (nI ((nu x (tE x (nu x (tE x j) 0 9999999).2.1) 0 100).2.2))))]) (M' := []) rfl rfl ?_
          refine n_iconst 1 rfl ?_
          have e9 : sAss x (j, d, u, o) = (0, (chr x (nu x (tE x j) 0 9999999).2.1).2.1, up3 d 5 6 1 (nu x (tE x j) 0 9999999).2.2 (chr x (nu x (tE x j) 0 9999999).2.1).2.2, u, o) := (if_neg hnc).trans ((if_neg (fun z => z hz1)).trans (if_neg (fun z => z (by rw [eC]; exact hz2))))
          exact s_ret (st := []) rfl rfl rfl (Nat.zero_le _) (Nat.zero_le _) (⟨_, rfl, by rw [e9]; rfl, FrP_mz rfl rfl (r2.1.trans (gg1.trans (r1.1.trans g1))), by rw [e9, eC]; exact CR_ok ⟨c2, ER_ass hE, SR_st (SR_st h11 (Or.inl (by decide))) (by decide), NM_cg hN (up3_z (v := (nu x (tE x j) 0 9999999).2.2) (w := (chr x (nu x (tE x j) 0 9999999).2.1).2.2) (a := 5) (b := 6) (i := 1) (k := 0) d (by decide) (by decide) (by decide)), FL5_k (FL5_k hF k1 (by decide)) k2 (by decide)⟩⟩)
        · refine n_iconst 0 rfl ?_
          have hn2 := tbq_n hh2
          have e9 : sAss x (j, d, u, o) = ((nu x (tE x (nu x (tE x j) 0 9999999).2.1) 0 100).1, (nu x (tE x (nu x (tE x j) 0 9999999).2.1) 0 100).2.1, d, u, o) := by rw [← eC]; exact (if_neg hnc).trans ((if_neg (fun z => z hz1)).trans (if_pos (by rw [eC]; exact hn2)))
          exact s_ret (st := []) rfl rfl rfl (Nat.zero_le _) (Nat.zero_le _) (⟨_, rfl, by rw [e9]; exact tb_no hn2, FrP_mz rfl rfl (r2.1.trans (gg1.trans (r1.1.trans g1))), by rw [e9]; exact CR_no hn2 (r2.2.2 hn2).1 (r2.2.2 hn2).2⟩)
    · refine n_iconst 0 rfl ?_
      have hn1 := tbq_n hh1
      have e9 : sAss x (j, d, u, o) = ((nu x (tE x j) 0 9999999).1, (nu x (tE x j) 0 9999999).2.1, d, u, o) := (if_neg hnc).trans (if_pos hn1)
      exact s_ret (st := []) rfl rfl rfl (Nat.zero_le _) (Nat.zero_le _) (⟨_, rfl, by rw [e9]; exact tb_no hn1, FrP_mz rfl rfl (r1.1.trans g1), by rw [e9]; exact CR_no hn1 (r1.2.2 hn1).1 (r1.2.2 hn1).2⟩)
  · refine r_aload_n rfl rfl ?_
    refine n_iconst 5 rfl ?_
    refine s_virI [.int (nI 5)] [] rfl lkX5_120 rfl rfl rfl (c_fail hC.2.2.1) rfl rfl (Nat.le_refl _) (Nat.le_refl _) rfl (rI (e1 := nI 0) rfl ?_)
    refine m_mz (L' := [(1, (aup (aup (σ.1 1) 4 (nI 5)) 3 (nI (tS x j))))]) (M' := []) rfl rfl ?_
    have e9 : sAss x (j, d, u, o) = (5, j, d, u, o) := if_pos (by show 8 ≤ d 0 1; omega)
    exact s_ret (st := []) rfl rfl rfl (Nat.zero_le _) (Nat.zero_le _) (⟨_, rfl, by rw [e9]; exact tb_nr rfl, FrP_mz rfl rfl rfl, by rw [e9]; exact CR_no (by decide) rfl rfl⟩)

theorem c_readStanding {z : SZ} {sc : SC} {σ : SS} {j : Nat} {d : D} {u : Nat → List Nat} {o : Nat → Bool} {m q : Nat} {x : TX} (hx : x.1 ≤ 700) (hb : ∀ i, x.2 i < 256) (hT : ∀ i, i < x.1 → σ.1 3 i = bI (x.2 i)) (hP : CP σ x (j, d, u, o)) (hm : m < 12) (hq : q ≤ 12) (h05 : d 0 5 ≤ 12) : Cs z sc mX5_readStanding 0 0 [.ref 1, .int (nI m), .int (oI q)] σ (RI fun v σ' => v = nI (tb ((pst3 x j q m d u o).1 == 0)) ∧ FrP σ σ' ∧ CR σ' x (pst3 x j q m d u o)) := by
  refine Cs.of gmX5_readStanding (Nat.le_of_ble_eq_true rfl) ?_
  show Ws z sc mX5_readStanding 0 0 0 0 0 [(0, .ref 1), (1, .int (nI m)), (2, .int (oI q))] [] (mz σ [] []) (RI fun v σ' => v = nI (tb ((pst3 x j q m d u o).1 == 0)) ∧ FrP σ σ' ∧ CR σ' x (pst3 x j q m d u o))
  have hC : CT (σ.1 2) x j := hP.1
  have hE : EE4 σ d := hP.2.1
  have hS : SR (σ.1 11) d := hP.2.2.1
  have hN : NM (σ.2 5) (d 0 0) u := hP.2.2.2.1
  have hF : FL5 (σ.1 1) o := hP.2.2.2.2
  refine r_aload_n rfl rfl ?_
  refine s_getR (r := 2) rfl flX5_12 rfl rfl ?_
  refine r_ldcS (i := 4) rfl rfl ?_
  refine s_virI [.retAddr 4] [] rfl lkX5_78 rfl rfl rfl (c_isWord sq4 sv4 hx hb hT hC) rfl rfl (Nat.le_refl _) (Nat.le_refl _) rfl (rI (e1 := nI (tb (iw x j Wdead))) rfl ?_)
  have ht1 := tb_le (iw x j Wdead)
  refine n_if_eq (tgt := 30) rfl rfl (by omega) (fun h1 => ?_) (fun h1 => ?_)
  · have hnd : ¬ iw x j Wdead = true := by rw [tb_z h1]; decide
    refine r_aload_n rfl rfl ?_
    refine s_getR (r := 2) rfl flX5_12 rfl rfl ?_
    refine r_ldcS (i := 5) rfl rfl ?_
    refine s_virI [.retAddr 5] [] rfl lkX5_78 rfl rfl rfl (c_isWord sq5 sv5 hx hb hT hC) rfl rfl (Nat.le_refl _) (Nat.le_refl _) rfl (rI (e1 := nI (tb (iw x j Wspouse))) rfl ?_)
    have ht2 := tb_le (iw x j Wspouse)
    refine n_if_eq (tgt := 79) rfl rfl (by omega) (fun h2 => ?_) (fun h2 => ?_)
    · refine n_iconst 1 rfl ?_
      have e9 : pst3 x j q m d u o = (0, j, d, u, o) := (if_neg hnd).trans (if_neg (fun z => by rw [z.1] at h2; exact absurd h2 (by decide)))
      exact s_ret (st := []) rfl rfl rfl (Nat.zero_le _) (Nat.zero_le _) (⟨_, rfl, by rw [e9]; rfl, FrP_mz rfl rfl rfl, by rw [e9]; exact CR_ok ⟨hC, hE, hS, hN, hF⟩⟩)
    · have hiw := tb_ne h2
      refine r_iload_n rfl rfl ?_
      refine n_m1 rfl ?_
      refine r_icmp_ne (tgt := 79) rfl rfl (fun h3 => ?_) (fun h3 => ?_)
      · refine n_iconst 1 rfl ?_
        have e9 : pst3 x j q m d u o = (0, j, d, u, o) := (if_neg hnd).trans (if_neg (fun z => h3 (by rw [z.2]; exact oI_0)))
        exact s_ret (st := []) rfl rfl rfl (Nat.zero_le _) (Nat.zero_le _) (⟨_, rfl, by rw [e9]; rfl, FrP_mz rfl rfl rfl, by rw [e9]; exact CR_ok ⟨hC, hE, hS, hN, hF⟩⟩)
      · have hq0 := oI_z (by omega) h3
        refine r_aload_n rfl rfl ?_
        refine s_getR (r := 4) rfl flX5_21 rfl rfl ?_
        refine s_getI (x := oI (d 0 5)) rfl flX5_140 rfl rfl hE.1.2.1 ?_
        refine n_m1 rfl ?_
        refine r_icmp_eq (tgt := 64) rfl rfl (fun h4 => ?_) (fun h4 => ?_)
        · have h50 := oI_z (by omega) h4
          refine r_aload_n rfl rfl ?_
          refine s_getR (r := 4) rfl flX5_21 rfl rfl ?_
          refine r_iload_n rfl rfl ?_
          refine m_putI (L' := [(4, (aup (σ.1 4) 3 (nI m)))]) rfl flX5_140 rfl rfl (okv_i _) rfl ?_
          refine r_aload_n rfl rfl ?_
          refine s_getR (r := 2) rfl flX5_12 rfl rfl ?_
          refine s_virV [] [] rfl lkX5_124 rfl rfl rfl (c_adv hx hb hT hC.1 hC.2.2.2 (Nat.le_succ_of_le (iw_E hiw))) rfl rfl (Nat.le_refl _) (Nat.le_refl _) rfl ?_
          rintro _ ⟨f2, rfl, g1, g⟩
          refine m_mz (L' := [(4, (aup (σ.1 4) 3 (nI m))), (2, f2)]) (M' := []) rfl rfl ?_
          refine n_iconst 1 rfl ?_
          have e9 : pst3 x j q m d u o = (0, tE x j, up d 0 5 (m + 1), u, o) := (if_neg hnd).trans ((if_pos ⟨hiw, hq0⟩).trans (if_pos h50))
          exact s_ret (st := []) rfl rfl rfl (Nat.zero_le _) (Nat.zero_le _) (⟨_, rfl, by rw [e9]; rfl, FrP_mz rfl rfl g1, by rw [e9]; exact CR_ok ⟨g, ER_0 hE (Or.inl ⟨rfl, rfl, (oI_s m).symm⟩), SR_st hS (by decide), NM_cg hN rfl, hF⟩⟩)
        · refine r_aload_n rfl rfl ?_
          refine n_iconst 2 rfl ?_
          refine s_virI [.int (nI 2)] [] rfl lkX5_120 rfl rfl rfl (c_fail hC.2.2.1) rfl rfl (Nat.le_refl _) (Nat.le_refl _) rfl (rI (e1 := nI 0) rfl ?_)
          refine m_mz (L' := [(1, (aup (aup (σ.1 1) 4 (nI 2)) 3 (nI (tS x j))))]) (M' := []) rfl rfl ?_
          have e9 : pst3 x j q m d u o = (2, j, d, u, o) := (if_neg hnd).trans ((if_pos ⟨hiw, hq0⟩).trans (if_neg (oI_nz h4)))
          exact s_ret (st := []) rfl rfl rfl (Nat.zero_le _) (Nat.zero_le _) (⟨_, rfl, by rw [e9]; exact tb_nr rfl, FrP_mz rfl rfl rfl, by rw [e9]; exact CR_no (by decide) rfl rfl⟩)
  · have hiw := tb_ne h1
    refine r_aload_n rfl rfl ?_
    refine s_getR (r := 10) rfl flX5_28 rfl rfl ?_
    refine r_iload_n rfl rfl ?_
    refine s_virV [.int (nI m)] [] rfl lkX5_165 rfl rfl rfl (c_putDead_10 hS hm) rfl rfl (Nat.le_refl _) (Nat.le_refl _) rfl ?_
    rintro _ ⟨f11, rfl, h11⟩
    refine m_mz (L' := [(11, f11)]) (M' := []) rfl rfl ?_
    refine r_aload_n rfl rfl ?_
    refine s_getR (r := 2) rfl flX5_12 rfl rfl ?_
    refine s_virV [] [] rfl lkX5_124 rfl rfl rfl (c_adv hx hb hT hC.1 hC.2.2.2 (Nat.le_succ_of_le (iw_E hiw))) rfl rfl (Nat.le_refl _) (Nat.le_refl _) rfl ?_
    rintro _ ⟨f2, rfl, g1, g⟩
    refine m_mz (L' := [(11, f11), (2, f2)]) (M' := []) rfl rfl ?_
    refine r_goto (tgt := 79) rfl rfl ?_
    refine n_iconst 1 rfl ?_
    have e9 : pst3 x j q m d u o = (0, tE x j, up d 3 m 1, u, o) := if_pos hiw
    exact s_ret (st := []) rfl rfl rfl (Nat.zero_le _) (Nat.zero_le _) (⟨_, rfl, by rw [e9]; rfl, FrP_mz rfl rfl g1, by rw [e9]; exact CR_ok ⟨g, ER_dyn hE rfl, h11, NM_cg hN rfl, hF⟩⟩)

theorem c_readPerson {z : SZ} {sc : SC} {σ : SS} {j : Nat} {d : D} {u : Nat → List Nat} {o : Nat → Bool} {x : TX} (hx : x.1 ≤ 700) (hb : ∀ i, x.2 i < 256) (hT : ∀ i, i < x.1 → σ.1 3 i = bI (x.2 i)) (hP : CP σ x (j, d, u, o)) (hVP : VP x (j, d, u, o)) (hk : tK x j = 1) : Cs z sc mX5_readPerson 0 0 [.ref 1] σ (RI fun v σ' => v = nI (tb ((sPer x (j, d, u, o)).1 == 0)) ∧ FrP σ σ' ∧ CR σ' x (sPer x (j, d, u, o))) := by
  refine Cs.of gmX5_readPerson (Nat.le_of_ble_eq_true rfl) ?_
  show Ws z sc mX5_readPerson 0 0 0 0 0 [(0, .ref 1)] [] (mz σ [] []) (RI fun v σ' => v = nI (tb ((sPer x (j, d, u, o)).1 == 0)) ∧ FrP σ σ' ∧ CR σ' x (sPer x (j, d, u, o)))
  have hC : CT (σ.1 2) x j := hP.1
  have hE : EE4 σ d := hP.2.1
  have hS : SR (σ.1 11) d := hP.2.2.1
  have hN : NM (σ.2 5) (d 0 0) u := hP.2.2.2.1
  have hF : FL5 (σ.1 1) o := hP.2.2.2.2
  have hV : Vd d := hVP.1
  have hu : ∀ p, p < d 0 0 → okW (u p) := hVP.2.2.1
  have hj : j ≤ x.1 := hVP.2.2.2
  have hCC := vC hV
  have hkl := tK_le x j
  have hEg := tE_j x j
  refine r_aload_n rfl rfl ?_
  refine s_getR (r := 4) rfl flX5_21 rfl rfl ?_
  refine s_getI (x := nI (d 0 0)) rfl flX5_127 rfl rfl hE.1.1 ?_
  refine n_bipush 12 rfl (by decide) ?_
  refine n_icmp_lt (tgt := 18) rfl rfl (by omega) (by omega) (fun h1 => ?_) (fun h1 => ?_)
  · have hnc : ¬ 12 ≤ d 0 0 := by omega
    have hkl1 := tK_le x (tE x j)
    refine r_aload_n rfl rfl ?_
    refine s_getR (r := 2) rfl flX5_12 rfl rfl ?_
    refine s_virV [] [] rfl lkX5_124 rfl rfl rfl (c_adv hx hb hT hC.1 hC.2.2.2 (Nat.le_succ_of_le (tE_le (by omega)))) rfl rfl (Nat.le_refl _) (Nat.le_refl _) rfl ?_
    rintro _ ⟨f2, rfl, g1, g⟩
    refine m_mz (L' := [(2, f2)]) (M' := []) rfl rfl ?_
    refine r_aload_n rfl rfl ?_
    refine s_getR (r := 2) rfl flX5_12 rfl rfl ?_
    refine s_getI (x := nI (tK x (tE x j))) rfl flX5_63 rfl rfl g.2.1 ?_
    refine n_iconst 1 rfl ?_
    refine n_icmp_eq (tgt := 42) rfl rfl (by omega) (by omega) (fun h2 => ?_) (fun h2 => ?_)
    · have hw := wl_ok h2
      have hnl := nmd_le u (d 0 0) (wl x (tE x j))
      have hEg2 := tE_j x (tE x j)
      refine r_aload_n rfl rfl ?_
      refine s_getR (r := 2) rfl flX5_12 rfl rfl ?_
      refine s_virL [] [] rfl lkX5_130 rfl rfl rfl (c_word hx hb hT g h2) rfl rfl (Nat.le_refl _) (Nat.le_refl _) rfl (rL (e1 := lN (w27 (wl x (tE x j)) 0)) rfl ?_)
      refine r_lstore_n (lv' := [(1, .long (lN (w27 (wl x (tE x j)) 0))), (0, .ref 1)]) rfl rfl (Nat.le_of_ble_eq_true rfl) rfl ?_
      refine r_aload_n rfl rfl ?_
      refine s_getR (r := 4) rfl flX5_21 rfl rfl ?_
      refine r_lload_n rfl rfl ?_
      refine s_virI [.long (lN (w27 (wl x (tE x j)) 0))] [] rfl lkX5_134 rfl rfl rfl (c_named_4 hE.1.1 (by omega) hN (fun p hp => w27_lt (hu p hp)) (w27_lt hw)) rfl rfl (Nat.le_refl _) (Nat.le_refl _) rfl (rI (e1 := oI (nmd u (d 0 0) (wl x (tE x j)))) rfl ?_)
      refine n_m1 rfl ?_
      refine r_icmp_eq (tgt := 68) rfl rfl (fun h3 => ?_) (fun h3 => ?_)
      · have hn0 := oI_z (by omega) h3
        have eT : sPer x (j, d, u, o) = pst2 x (tE x (tE x j)) (wl x (tE x j)) d u o := (if_neg hnc).trans ((if_neg (fun z => z h2)).trans (if_neg (fun z => z hn0)))
        have hj2 : tE x (tE x j) ≤ x.1 := tE_le (by omega)
        refine r_aload_n rfl rfl ?_
        refine s_getR (r := 2) rfl flX5_12 rfl rfl ?_
        refine s_virV [] [] rfl lkX5_124 rfl rfl rfl (c_adv hx hb hT g.1 g.2.2.2 (Nat.le_succ_of_le hj2)) rfl rfl (Nat.le_refl _) (Nat.le_refl _) rfl ?_
        rintro _ ⟨f3, rfl, gg1, gg⟩
        refine m_mz (L' := [(2, f3)]) (M' := []) rfl rfl ?_
        refine n_m1 rfl ?_
        refine r_istore_n (lv' := [(3, .int ((-1))), (1, .long (lN (w27 (wl x (tE x j)) 0))), (0, .ref 1)]) rfl rfl (Nat.le_of_ble_eq_true rfl) rfl ?_
        refine r_aload_n rfl rfl ?_
        refine s_getR (r := 2) rfl flX5_12 rfl rfl ?_
        refine r_ldcS (i := 2) rfl rfl ?_
        refine s_virI [.retAddr 2] [] rfl lkX5_78 rfl rfl rfl (c_isWord sq2 sv2 hx hb hT gg) rfl rfl (Nat.le_refl _) (Nat.le_refl _) rfl (rI (e1 := nI (tb (iw x (tE x (tE x j)) Wunder))) rfl ?_)
        have htu := tb_le (iw x (tE x (tE x j)) Wunder)
        refine n_if_eq (tgt := 117) rfl rfl (by omega) (fun h4 => ?_) (fun h4 => ?_)
        · have eU : unr x (tE x (tE x j)) d u = (0, tE x (tE x j), 0) := if_neg (by rw [tb_z h4]; decide)
          have hzU : (unr x (tE x (tE x j)) d u).1 = 0 := by rw [eU]
          have cU : CT f3 x (unr x (tE x (tE x j)) d u).2.1 := by rw [eU]; exact gg
          have eU2 : (-1 : Int32) = oI (unr x (tE x (tE x j)) d u).2.2 := by rw [eU]; exact oI_0.symm
          rw [eU2]
          have wU := unr_fw (x := x) (d := d) (u := u) hj2 hzU
          refine n_bipush 50 rfl (by decide) ?_
          refine r_istore (lv' := [(4, .int (nI 50)), (3, .int (oI ((unr x (tE x (tE x j)) d u).2.2))), (1, .long (lN (w27 (wl x (tE x j)) 0))), (0, .ref 1)]) rfl (Nat.le_of_ble_eq_true rfl) rfl ?_
          refine r_aload_n rfl rfl ?_
          refine s_getR (r := 2) rfl flX5_12 rfl rfl ?_
          refine r_ldcS (i := 3) rfl rfl ?_
          refine s_virI [.retAddr 3] [] rfl lkX5_78 rfl rfl rfl (c_isWord sq3 sv3 hx hb hT cU) rfl rfl (Nat.le_refl _) (Nat.le_refl _) rfl (rI (e1 := nI (tb (iw x ((unr x (tE x (tE x j)) d u).2.1) Wage))) rfl ?_)
          have hta1 := tb_le (iw x (unr x (tE x (tE x j)) d u).2.1 Wage)
          refine n_if_eq (tgt := 158) rfl rfl (by omega) (fun h5 => ?_) (fun h5 => ?_)
          · have eA : agr x (unr x (tE x (tE x j)) d u).2.1 = (0, (unr x (tE x (tE x j)) d u).2.1, 50) := if_neg (by rw [tb_z h5]; decide)
            have hzA : (agr x (unr x (tE x (tE x j)) d u).2.1).1 = 0 := by rw [eA]
            have eA2 : nI 50 = nI (agr x (unr x (tE x (tE x j)) d u).2.1).2.2 := by rw [eA]
            have cA : CT (f3) x (agr x (unr x (tE x (tE x j)) d u).2.1).2.1 := by rw [eA]; exact cU
            rw [eA2]
            have wA := agr_fw (x := x) wU.2.1 hzA
            refine r_aload_n rfl rfl ?_
            refine s_getR (r := 4) rfl flX5_21 rfl rfl ?_
            refine s_getI (x := nI (d 0 0)) rfl flX5_127 rfl rfl hE.1.1 ?_
            refine r_istore (lv' := [(5, .int (nI (d 0 0))), (4, .int (nI ((agr x (unr x (tE x (tE x j)) d u).2.1).2.2))), (3, .int (oI ((unr x (tE x (tE x j)) d u).2.2))), (1, .long (lN (w27 (wl x (tE x j)) 0))), (0, .ref 1)]) rfl (Nat.le_of_ble_eq_true rfl) rfl ?_
            refine r_aload_n rfl rfl ?_
            refine s_getR (r := 4) rfl flX5_21 rfl rfl ?_
            refine r_lload_n rfl rfl ?_
            refine r_iload_n rfl rfl ?_
            refine s_virV [.long (lN (w27 (wl x (tE x j)) 0)), .int (oI ((unr x (tE x (tE x j)) d u).2.2))] [] rfl lkX5_152 rfl rfl rfl (c_putPerson hE.1.1 (by omega)) rfl rfl (Nat.le_refl _) (Nat.le_refl _) rfl (rV ?_)
            refine m_mz (L' := [(2, f3), (4, (aup (σ.1 4) 0 (nI (d 0 0 + 1)))), (6, (aup (σ.1 6) (d 0 0) (oI (unr x (tE x (tE x j)) d u).2.2)))]) (M' := [(5, (aup (σ.2 5) (d 0 0) (lN (w27 (wl x (tE x j)) 0))))]) rfl rfl ?_
            refine r_aload_n rfl rfl ?_
            refine s_getR (r := 10) rfl flX5_28 rfl rfl ?_
            refine r_iload rfl rfl ?_
            refine r_iload rfl rfl ?_
            refine s_virV [.int (nI (d 0 0)), .int (nI ((agr x (unr x (tE x (tE x j)) d u).2.1).2.2))] [] rfl lkX5_156 rfl rfl rfl (c_putAge_10 (d := up d 1 (d 0 0) (unr x (tE x (tE x j)) d u).2.2) (SR_st hS (by simp)) (by omega)) rfl rfl (Nat.le_refl _) (Nat.le_refl _) rfl ?_
            rintro _ ⟨f11, rfl, h11⟩
            refine m_mz (L' := [(2, f3), (4, (aup (σ.1 4) 0 (nI (d 0 0 + 1)))), (6, (aup (σ.1 6) (d 0 0) (oI (unr x (tE x (tE x j)) d u).2.2))), (11, f11)]) (M' := [(5, (aup (σ.2 5) (d 0 0) (lN (w27 (wl x (tE x j)) 0))))]) rfl rfl ?_
            refine r_aload_n rfl rfl ?_
            refine r_iload rfl rfl ?_
            refine r_iload_n rfl rfl ?_
            have hCP : CP (mz σ [(2, f3), (4, (aup (σ.1 4) 0 (nI (d 0 0 + 1)))), (6, (aup (σ.1 6) (d 0 0) (oI (unr x (tE x (tE x j)) d u).2.2))), (11, f11)] [(5, (aup (σ.2 5) (d 0 0) (lN (w27 (wl x (tE x j)) 0))))]) x ((agr x (unr x (tE x (tE x j)) d u).2.1).2.1, upP d (unr x (tE x (tE x j)) d u).2.2 (agr x (unr x (tE x (tE x j)) d u).2.1).2.2, aup u (d 0 0) (wl x (tE x j)), o) := ⟨cA, ER_per hE, SR_st h11 (by decide), NM_cg (NM_up hN) (upP_0 d (unr x (tE x (tE x j)) d u).2.2 (agr x (unr x (tE x (tE x j)) d u).2.1).2.2), hF⟩
            have e95 : upP d (unr x (tE x (tE x j)) d u).2.2 (agr x (unr x (tE x (tE x j)) d u).2.1).2.2 0 5 = d 0 5 := by unfold upP; rw [up_n2 _ _ (by decide), up_n1 _ _ (by decide), up_n1 _ _ (by decide)]
            have hF0 : FrP σ (mz σ [(2, f3), (4, (aup (σ.1 4) 0 (nI (d 0 0 + 1)))), (6, (aup (σ.1 6) (d 0 0) (oI (unr x (tE x (tE x j)) d u).2.2))), (11, f11)] [(5, (aup (σ.2 5) (d 0 0) (lN (w27 (wl x (tE x j)) 0))))]) := FrP_mz rfl rfl (gg1.trans g1)
            refine s_virI [.int (nI (d 0 0)), .int (oI ((unr x (tE x (tE x j)) d u).2.2))] [] rfl lkX5_160 rfl rfl rfl (c_readStanding (d := upP d (unr x (tE x (tE x j)) d u).2.2 (agr x (unr x (tE x (tE x j)) d u).2.1).2.2) (u := aup u (d 0 0) (wl x (tE x j))) (o := o) (j := (agr x (unr x (tE x (tE x j)) d u).2.1).2.1) hx hb hT hCP (by omega) (by omega) (by omega)) rfl rfl (Nat.le_refl _) (Nat.le_refl _) rfl ?_
            rintro _ σ9 ⟨rfl, hF9, hR9⟩
            have e9 := eT.trans ((if_neg (fun z => z hzU)).trans (if_neg (fun z => z hzA)))
            exact s_ret (st := []) rfl rfl (nar_tb _) (Nat.zero_le _) (Nat.zero_le _) (⟨_, rfl, by rw [e9], hF0.tr hF9, by rw [e9]; exact hR9⟩)
          · have hiw5 := tb_ne h5
            have eA : agr x (unr x (tE x (tE x j)) d u).2.1 = nu x (tE x (unr x (tE x (tE x j)) d u).2.1) 0 120 := if_pos hiw5
            refine r_aload_n rfl rfl ?_
            refine s_getR (r := 2) rfl flX5_12 rfl rfl ?_
            refine s_virV [] [] rfl lkX5_124 rfl rfl rfl (c_adv hx hb hT cU.1 cU.2.2.2 (Nat.le_succ_of_le (iw_E hiw5))) rfl rfl (Nat.le_refl _) (Nat.le_refl _) rfl ?_
            rintro _ ⟨f5, rfl, g51, g5⟩
            refine m_mz (L' := [(2, f5)]) (M' := []) rfl rfl ?_
            refine r_aload_n rfl rfl ?_
            refine n_iconst 0 rfl ?_
            refine n_bipush 120 rfl (by decide) ?_
            refine s_virI [.int (nI 0), .int (nI 120)] [] rfl lkX5_148 rfl rfl rfl (c_rdNum (l := 0) (m := 120) hx hb hT g5 (by omega) (by omega)) rfl rfl (Nat.le_refl _) (Nat.le_refl _) rfl ?_
            rintro _ _ ⟨a5, b5, rfl, rfl, r5⟩
            refine m_mz (L' := [(2, b5), (1, a5)]) (M' := []) rfl rfl ?_
            have ht5 := tb_le ((nu x (tE x (unr x (tE x (tE x j)) d u).2.1) 0 120).1 == 0)
            refine n_if_ne (tgt := 152) rfl rfl (by omega) (fun hh5 => ?_) (fun hh5 => ?_)
            · have hz5 := tbq_y hh5
              obtain ⟨c5, v5, k5⟩ := r5.2.1 hz5
              have hzA : (agr x (unr x (tE x (tE x j)) d u).2.1).1 = 0 := by rw [eA]; exact hz5
              have cA : CT b5 x (agr x (unr x (tE x (tE x j)) d u).2.1).2.1 := by rw [eA]; exact c5
              refine r_aload_n rfl rfl ?_
              refine s_getI (x := nI ((agr x (unr x (tE x (tE x j)) d u).2.1).2.2)) rfl flX5_49 rfl rfl (v5.trans (by rw [eA])) ?_
              refine r_istore (lv' := [(4, .int (nI ((agr x (unr x (tE x (tE x j)) d u).2.1).2.2))), (3, .int (oI ((unr x (tE x (tE x j)) d u).2.2))), (1, .long (lN (w27 (wl x (tE x j)) 0))), (0, .ref 1)]) rfl (Nat.le_of_ble_eq_true rfl) rfl ?_
              have wA := agr_fw (x := x) wU.2.1 hzA
              refine r_aload_n rfl rfl ?_
              refine s_getR (r := 4) rfl flX5_21 rfl rfl ?_
              refine s_getI (x := nI (d 0 0)) rfl flX5_127 rfl rfl hE.1.1 ?_
              refine r_istore (lv' := [(5, .int (nI (d 0 0))), (4, .int (nI ((agr x (unr x (tE x (tE x j)) d u).2.1).2.2))), (3, .int (oI ((unr x (tE x (tE x j)) d u).2.2))), (1, .long (lN (w27 (wl x (tE x j)) 0))), (0, .ref 1)]) rfl (Nat.le_of_ble_eq_true rfl) rfl ?_
              refine r_aload_n rfl rfl ?_
              refine s_getR (r := 4) rfl flX5_21 rfl rfl ?_
              refine r_lload_n rfl rfl ?_
              refine r_iload_n rfl rfl ?_
              refine s_virV [.long (lN (w27 (wl x (tE x j)) 0)), .int (oI ((unr x (tE x (tE x j)) d u).2.2))] [] rfl lkX5_152 rfl rfl rfl (c_putPerson hE.1.1 (by omega)) rfl rfl (Nat.le_refl _) (Nat.le_refl _) rfl (rV ?_)
              refine m_mz (L' := [(2, b5), (1, a5), (4, (aup (σ.1 4) 0 (nI (d 0 0 + 1)))), (6, (aup (σ.1 6) (d 0 0) (oI (unr x (tE x (tE x j)) d u).2.2)))]) (M' := [(5, (aup (σ.2 5) (d 0 0) (lN (w27 (wl x (tE x j)) 0))))]) rfl rfl ?_
              refine r_aload_n rfl rfl ?_
              refine s_getR (r := 10) rfl flX5_28 rfl rfl ?_
              refine r_iload rfl rfl ?_
              refine r_iload rfl rfl ?_
              refine s_virV [.int (nI (d 0 0)), .int (nI ((agr x (unr x (tE x (tE x j)) d u).2.1).2.2))] [] rfl lkX5_156 rfl rfl rfl (c_putAge_10 (d := up d 1 (d 0 0) (unr x (tE x (tE x j)) d u).2.2) (SR_st hS (by simp)) (by omega)) rfl rfl (Nat.le_refl _) (Nat.le_refl _) rfl ?_
              rintro _ ⟨f11, rfl, h11⟩
              refine m_mz (L' := [(2, b5), (1, a5), (4, (aup (σ.1 4) 0 (nI (d 0 0 + 1)))), (6, (aup (σ.1 6) (d 0 0) (oI (unr x (tE x (tE x j)) d u).2.2))), (11, f11)]) (M' := [(5, (aup (σ.2 5) (d 0 0) (lN (w27 (wl x (tE x j)) 0))))]) rfl rfl ?_
              refine r_aload_n rfl rfl ?_
              refine r_iload rfl rfl ?_
              refine r_iload_n rfl rfl ?_
              have hCP : CP (mz σ [(2, b5), (1, a5), (4, (aup (σ.1 4) 0 (nI (d 0 0 + 1)))), (6, (aup (σ.1 6) (d 0 0) (oI (unr x (tE x (tE x j)) d u).2.2))), (11, f11)] [(5, (aup (σ.2 5) (d 0 0) (lN (w27 (wl x (tE x j)) 0))))]) x ((agr x (unr x (tE x (tE x j)) d u).2.1).2.1, upP d (unr x (tE x (tE x j)) d u).2.2 (agr x (unr x (tE x (tE x j)) d u).2.1).2.2, aup u (d 0 0) (wl x (tE x j)), o) := ⟨cA, ER_per hE, SR_st h11 (by decide), NM_cg (NM_up hN) (upP_0 d (unr x (tE x (tE x j)) d u).2.2 (agr x (unr x (tE x (tE x j)) d u).2.1).2.2), FL5_k (hF) k5 (by decide)⟩
              have e95 : upP d (unr x (tE x (tE x j)) d u).2.2 (agr x (unr x (tE x (tE x j)) d u).2.1).2.2 0 5 = d 0 5 := by unfold upP; rw [up_n2 _ _ (by decide), up_n1 _ _ (by decide), up_n1 _ _ (by decide)]
              have hF0 : FrP σ (mz σ [(2, b5), (1, a5), (4, (aup (σ.1 4) 0 (nI (d 0 0 + 1)))), (6, (aup (σ.1 6) (d 0 0) (oI (unr x (tE x (tE x j)) d u).2.2))), (11, f11)] [(5, (aup (σ.2 5) (d 0 0) (lN (w27 (wl x (tE x j)) 0))))]) := FrP_mz rfl rfl (r5.1.trans (g51.trans (gg1.trans g1)))
              refine s_virI [.int (nI (d 0 0)), .int (oI ((unr x (tE x (tE x j)) d u).2.2))] [] rfl lkX5_160 rfl rfl rfl (c_readStanding (d := upP d (unr x (tE x (tE x j)) d u).2.2 (agr x (unr x (tE x (tE x j)) d u).2.1).2.2) (u := aup u (d 0 0) (wl x (tE x j))) (o := o) (j := (agr x (unr x (tE x (tE x j)) d u).2.1).2.1) hx hb hT hCP (by omega) (by omega) (by omega)) rfl rfl (Nat.le_refl _) (Nat.le_refl _) rfl ?_
              rintro _ σ9 ⟨rfl, hF9, hR9⟩
              have e9 := eT.trans ((if_neg (fun z => z hzU)).trans (if_neg (fun z => z hzA)))
              exact s_ret (st := []) rfl rfl (nar_tb _) (Nat.zero_le _) (Nat.zero_le _) (⟨_, rfl, by rw [e9], hF0.tr hF9, by rw [e9]; exact hR9⟩)
            · refine n_iconst 0 rfl ?_
              have hn5 := tbq_n hh5
              have e9 : sPer x (j, d, u, o) = ((nu x (tE x (unr x (tE x (tE x j)) d u).2.1) 0 120).1, (nu x (tE x (unr x (tE x (tE x j)) d u).2.1) 0 120).2.1, d, u, o) := by rw [← eA]; exact eT.trans ((if_neg (fun z => z hzU)).trans (if_pos (by rw [eA]; exact hn5)))
              exact s_ret (st := []) rfl rfl rfl (Nat.zero_le _) (Nat.zero_le _) (⟨_, rfl, by rw [e9]; exact tb_no hn5, FrP_mz rfl rfl (r5.1.trans (g51.trans (gg1.trans g1))), by rw [e9]; exact CR_no hn5 (r5.2.2 hn5).1 (r5.2.2 hn5).2⟩)
        · have hiw4 := tb_ne h4
          have eU : unr x (tE x (tE x j)) d u = kp x (tE x (tE x (tE x j))) (d 0 0) u (d 0 5) := if_pos hiw4
          refine r_aload_n rfl rfl ?_
          refine s_getR (r := 2) rfl flX5_12 rfl rfl ?_
          refine s_virV [] [] rfl lkX5_124 rfl rfl rfl (c_adv hx hb hT gg.1 gg.2.2.2 (Nat.le_succ_of_le (iw_E hiw4))) rfl rfl (Nat.le_refl _) (Nat.le_refl _) rfl ?_
          rintro _ ⟨f4, rfl, g41, g4⟩
          refine m_mz (L' := [(2, f4)]) (M' := []) rfl rfl ?_
          refine r_aload_n rfl rfl ?_
          refine r_aload_n rfl rfl ?_
          refine s_getR (r := 4) rfl flX5_21 rfl rfl ?_
          refine s_getI (x := oI (d 0 5)) rfl flX5_140 rfl rfl hE.1.2.1 ?_
          refine s_virI [.int (oI (d 0 5))] [] rfl lkX5_143 rfl rfl rfl (c_rdPer (q := d 0 5) hx hb hT g4 hE.1.1 (by omega) hN hu (by omega)) rfl rfl (Nat.le_refl _) (Nat.le_refl _) rfl ?_
          rintro _ _ ⟨a4, b4, rfl, rfl, r4⟩
          refine m_mz (L' := [(2, b4), (1, a4)]) (M' := []) rfl rfl ?_
          have ht4 := tb_le ((kp x (tE x (tE x (tE x j))) (d 0 0) u (d 0 5)).1 == 0)
          refine n_if_ne (tgt := 112) rfl rfl (by omega) (fun hh4 => ?_) (fun hh4 => ?_)
          · have hz4 := tbq_y hh4
            obtain ⟨c4, v4, k4⟩ := r4.2.1 hz4
            have hzU : (unr x (tE x (tE x j)) d u).1 = 0 := by rw [eU]; exact hz4
            have cU : CT b4 x (unr x (tE x (tE x j)) d u).2.1 := by rw [eU]; exact c4
            refine r_aload_n rfl rfl ?_
            refine s_getI (x := oI ((unr x (tE x (tE x j)) d u).2.2)) rfl flX5_52 rfl rfl (v4.trans (by rw [eU])) ?_
            refine r_istore_n (lv' := [(3, .int (oI ((unr x (tE x (tE x j)) d u).2.2))), (1, .long (lN (w27 (wl x (tE x j)) 0))), (0, .ref 1)]) rfl rfl (Nat.le_of_ble_eq_true rfl) rfl ?_
            have wU := unr_fw (x := x) (d := d) (u := u) hj2 hzU
            refine n_bipush 50 rfl (by decide) ?_
            refine r_istore (lv' := [(4, .int (nI 50)), (3, .int (oI ((unr x (tE x (tE x j)) d u).2.2))), (1, .long (lN (w27 (wl x (tE x j)) 0))), (0, .ref 1)]) rfl (Nat.le_of_ble_eq_true rfl) rfl ?_
            refine r_aload_n rfl rfl ?_
            refine s_getR (r := 2) rfl flX5_12 rfl rfl ?_
            refine r_ldcS (i := 3) rfl rfl ?_
            refine s_virI [.retAddr 3] [] rfl lkX5_78 rfl rfl rfl (c_isWord sq3 sv3 hx hb hT cU) rfl rfl (Nat.le_refl _) (Nat.le_refl _) rfl (rI (e1 := nI (tb (iw x ((unr x (tE x (tE x j)) d u).2.1) Wage))) rfl ?_)
            have hta2 := tb_le (iw x (unr x (tE x (tE x j)) d u).2.1 Wage)
            refine n_if_eq (tgt := 158) rfl rfl (by omega) (fun h5 => ?_) (fun h5 => ?_)
            · have eA : agr x (unr x (tE x (tE x j)) d u).2.1 = (0, (unr x (tE x (tE x j)) d u).2.1, 50) := if_neg (by rw [tb_z h5]; decide)
              have hzA : (agr x (unr x (tE x (tE x j)) d u).2.1).1 = 0 := by rw [eA]
              have eA2 : nI 50 = nI (agr x (unr x (tE x (tE x j)) d u).2.1).2.2 := by rw [eA]
              have cA : CT (b4) x (agr x (unr x (tE x (tE x j)) d u).2.1).2.1 := by rw [eA]; exact cU
              rw [eA2]
              have wA := agr_fw (x := x) wU.2.1 hzA
              refine r_aload_n rfl rfl ?_
              refine s_getR (r := 4) rfl flX5_21 rfl rfl ?_
              refine s_getI (x := nI (d 0 0)) rfl flX5_127 rfl rfl hE.1.1 ?_
              refine r_istore (lv' := [(5, .int (nI (d 0 0))), (4, .int (nI ((agr x (unr x (tE x (tE x j)) d u).2.1).2.2))), (3, .int (oI ((unr x (tE x (tE x j)) d u).2.2))), (1, .long (lN (w27 (wl x (tE x j)) 0))), (0, .ref 1)]) rfl (Nat.le_of_ble_eq_true rfl) rfl ?_
              refine r_aload_n rfl rfl ?_
              refine s_getR (r := 4) rfl flX5_21 rfl rfl ?_
              refine r_lload_n rfl rfl ?_
              refine r_iload_n rfl rfl ?_
              refine s_virV [.long (lN (w27 (wl x (tE x j)) 0)), .int (oI ((unr x (tE x (tE x j)) d u).2.2))] [] rfl lkX5_152 rfl rfl rfl (c_putPerson hE.1.1 (by omega)) rfl rfl (Nat.le_refl _) (Nat.le_refl _) rfl (rV ?_)
              refine m_mz (L' := [(2, b4), (1, a4), (4, (aup (σ.1 4) 0 (nI (d 0 0 + 1)))), (6, (aup (σ.1 6) (d 0 0) (oI (unr x (tE x (tE x j)) d u).2.2)))]) (M' := [(5, (aup (σ.2 5) (d 0 0) (lN (w27 (wl x (tE x j)) 0))))]) rfl rfl ?_
              refine r_aload_n rfl rfl ?_
              refine s_getR (r := 10) rfl flX5_28 rfl rfl ?_
              refine r_iload rfl rfl ?_
              refine r_iload rfl rfl ?_
              refine s_virV [.int (nI (d 0 0)), .int (nI ((agr x (unr x (tE x (tE x j)) d u).2.1).2.2))] [] rfl lkX5_156 rfl rfl rfl (c_putAge_10 (d := up d 1 (d 0 0) (unr x (tE x (tE x j)) d u).2.2) (SR_st hS (by simp)) (by omega)) rfl rfl (Nat.le_refl _) (Nat.le_refl _) rfl ?_
              rintro _ ⟨f11, rfl, h11⟩
              refine m_mz (L' := [(2, b4), (1, a4), (4, (aup (σ.1 4) 0 (nI (d 0 0 + 1)))), (6, (aup (σ.1 6) (d 0 0) (oI (unr x (tE x (tE x j)) d u).2.2))), (11, f11)]) (M' := [(5, (aup (σ.2 5) (d 0 0) (lN (w27 (wl x (tE x j)) 0))))]) rfl rfl ?_
              refine r_aload_n rfl rfl ?_
              refine r_iload rfl rfl ?_
              refine r_iload_n rfl rfl ?_
              have hCP : CP (mz σ [(2, b4), (1, a4), (4, (aup (σ.1 4) 0 (nI (d 0 0 + 1)))), (6, (aup (σ.1 6) (d 0 0) (oI (unr x (tE x (tE x j)) d u).2.2))), (11, f11)] [(5, (aup (σ.2 5) (d 0 0) (lN (w27 (wl x (tE x j)) 0))))]) x ((agr x (unr x (tE x (tE x j)) d u).2.1).2.1, upP d (unr x (tE x (tE x j)) d u).2.2 (agr x (unr x (tE x (tE x j)) d u).2.1).2.2, aup u (d 0 0) (wl x (tE x j)), o) := ⟨cA, ER_per hE, SR_st h11 (by decide), NM_cg (NM_up hN) (upP_0 d (unr x (tE x (tE x j)) d u).2.2 (agr x (unr x (tE x (tE x j)) d u).2.1).2.2), FL5_k hF k4 (by decide)⟩
              have e95 : upP d (unr x (tE x (tE x j)) d u).2.2 (agr x (unr x (tE x (tE x j)) d u).2.1).2.2 0 5 = d 0 5 := by unfold upP; rw [up_n2 _ _ (by decide), up_n1 _ _ (by decide), up_n1 _ _ (by decide)]
              have hF0 : FrP σ (mz σ [(2, b4), (1, a4), (4, (aup (σ.1 4) 0 (nI (d 0 0 + 1)))), (6, (aup (σ.1 6) (d 0 0) (oI (unr x (tE x (tE x j)) d u).2.2))), (11, f11)] [(5, (aup (σ.2 5) (d 0 0) (lN (w27 (wl x (tE x j)) 0))))]) := FrP_mz rfl rfl (r4.1.trans (g41.trans (gg1.trans g1)))
              refine s_virI [.int (nI (d 0 0)), .int (oI ((unr x (tE x (tE x j)) d u).2.2))] [] rfl lkX5_160 rfl rfl rfl (c_readStanding (d := upP d (unr x (tE x (tE x j)) d u).2.2 (agr x (unr x (tE x (tE x j)) d u).2.1).2.2) (u := aup u (d 0 0) (wl x (tE x j))) (o := o) (j := (agr x (unr x (tE x (tE x j)) d u).2.1).2.1) hx hb hT hCP (by omega) (by omega) (by omega)) rfl rfl (Nat.le_refl _) (Nat.le_refl _) rfl ?_
              rintro _ σ9 ⟨rfl, hF9, hR9⟩
              have e9 := eT.trans ((if_neg (fun z => z hzU)).trans (if_neg (fun z => z hzA)))
              exact s_ret (st := []) rfl rfl (nar_tb _) (Nat.zero_le _) (Nat.zero_le _) (⟨_, rfl, by rw [e9], hF0.tr hF9, by rw [e9]; exact hR9⟩)
            · have hiw5 := tb_ne h5
              have eA : agr x (unr x (tE x (tE x j)) d u).2.1 = nu x (tE x (unr x (tE x (tE x j)) d u).2.1) 0 120 := if_pos hiw5
              refine r_aload_n rfl rfl ?_
              refine s_getR (r := 2) rfl flX5_12 rfl rfl ?_
              refine s_virV [] [] rfl lkX5_124 rfl rfl rfl (c_adv hx hb hT cU.1 cU.2.2.2 (Nat.le_succ_of_le (iw_E hiw5))) rfl rfl (Nat.le_refl _) (Nat.le_refl _) rfl ?_
              rintro _ ⟨f5, rfl, g51, g5⟩
              refine m_mz (L' := [(2, f5), (1, a4)]) (M' := []) rfl rfl ?_
              refine r_aload_n rfl rfl ?_
              refine n_iconst 0 rfl ?_
              refine n_bipush 120 rfl (by decide) ?_
              refine s_virI [.int (nI 0), .int (nI 120)] [] rfl lkX5_148 rfl rfl rfl (c_rdNum (l := 0) (m := 120) hx hb hT g5 (by omega) (by omega)) rfl rfl (Nat.le_refl _) (Nat.le_refl _) rfl ?_
              rintro _ _ ⟨a5, b5, rfl, rfl, r5⟩
              refine m_mz (L' := [(2, b5), (1, a5)]) (M' := []) rfl rfl ?_
              have ht5 := tb_le ((nu x (tE x (unr x (tE x (tE x j)) d u).2.1) 0 120).1 == 0)
              refine n_if_ne (tgt := 152) rfl rfl (by omega) (fun hh5 => ?_) (fun hh5 => ?_)
              · have hz5 := tbq_y hh5
                obtain ⟨c5, v5, k5⟩ := r5.2.1 hz5
                have hzA : (agr x (unr x (tE x (tE x j)) d u).2.1).1 = 0 := by rw [eA]; exact hz5
                have cA : CT b5 x (agr x (unr x (tE x (tE x j)) d u).2.1).2.1 := by rw [eA]; exact c5
                refine r_aload_n rfl rfl ?_
                refine s_getI (x := nI ((agr x (unr x (tE x (tE x j)) d u).2.1).2.2)) rfl flX5_49 rfl rfl (v5.trans (by rw [eA])) ?_
                refine r_istore (lv' := [(4, .int (nI ((agr x (unr x (tE x (tE x j)) d u).2.1).2.2))), (3, .int (oI ((unr x (tE x (tE x j)) d u).2.2))), (1, .long (lN (w27 (wl x (tE x j)) 0))), (0, .ref 1)]) rfl (Nat.le_of_ble_eq_true rfl) rfl ?_
                have wA := agr_fw (x := x) wU.2.1 hzA
                refine r_aload_n rfl rfl ?_
                refine s_getR (r := 4) rfl flX5_21 rfl rfl ?_
                refine s_getI (x := nI (d 0 0)) rfl flX5_127 rfl rfl hE.1.1 ?_
                refine r_istore (lv' := [(5, .int (nI (d 0 0))), (4, .int (nI ((agr x (unr x (tE x (tE x j)) d u).2.1).2.2))), (3, .int (oI ((unr x (tE x (tE x j)) d u).2.2))), (1, .long (lN (w27 (wl x (tE x j)) 0))), (0, .ref 1)]) rfl (Nat.le_of_ble_eq_true rfl) rfl ?_
                refine r_aload_n rfl rfl ?_
                refine s_getR (r := 4) rfl flX5_21 rfl rfl ?_
                refine r_lload_n rfl rfl ?_
                refine r_iload_n rfl rfl ?_
                refine s_virV [.long (lN (w27 (wl x (tE x j)) 0)), .int (oI ((unr x (tE x (tE x j)) d u).2.2))] [] rfl lkX5_152 rfl rfl rfl (c_putPerson hE.1.1 (by omega)) rfl rfl (Nat.le_refl _) (Nat.le_refl _) rfl (rV ?_)
                refine m_mz (L' := [(2, b5), (1, a5), (4, (aup (σ.1 4) 0 (nI (d 0 0 + 1)))), (6, (aup (σ.1 6) (d 0 0) (oI (unr x (tE x (tE x j)) d u).2.2)))]) (M' := [(5, (aup (σ.2 5) (d 0 0) (lN (w27 (wl x (tE x j)) 0))))]) rfl rfl ?_
                refine r_aload_n rfl rfl ?_
                refine s_getR (r := 10) rfl flX5_28 rfl rfl ?_
                refine r_iload rfl rfl ?_
                refine r_iload rfl rfl ?_
                refine s_virV [.int (nI (d 0 0)), .int (nI ((agr x (unr x (tE x (tE x j)) d u).2.1).2.2))] [] rfl lkX5_156 rfl rfl rfl (c_putAge_10 (d := up d 1 (d 0 0) (unr x (tE x (tE x j)) d u).2.2) (SR_st hS (by simp)) (by omega)) rfl rfl (Nat.le_refl _) (Nat.le_refl _) rfl ?_
                rintro _ ⟨f11, rfl, h11⟩
                refine m_mz (L' := [(2, b5), (1, a5), (4, (aup (σ.1 4) 0 (nI (d 0 0 + 1)))), (6, (aup (σ.1 6) (d 0 0) (oI (unr x (tE x (tE x j)) d u).2.2))), (11, f11)]) (M' := [(5, (aup (σ.2 5) (d 0 0) (lN (w27 (wl x (tE x j)) 0))))]) rfl rfl ?_
                refine r_aload_n rfl rfl ?_
                refine r_iload rfl rfl ?_
                refine r_iload_n rfl rfl ?_
                have hCP : CP (mz σ [(2, b5), (1, a5), (4, (aup (σ.1 4) 0 (nI (d 0 0 + 1)))), (6, (aup (σ.1 6) (d 0 0) (oI (unr x (tE x (tE x j)) d u).2.2))), (11, f11)] [(5, (aup (σ.2 5) (d 0 0) (lN (w27 (wl x (tE x j)) 0))))]) x ((agr x (unr x (tE x (tE x j)) d u).2.1).2.1, upP d (unr x (tE x (tE x j)) d u).2.2 (agr x (unr x (tE x (tE x j)) d u).2.1).2.2, aup u (d 0 0) (wl x (tE x j)), o) := ⟨cA, ER_per hE, SR_st h11 (by decide), NM_cg (NM_up hN) (upP_0 d (unr x (tE x (tE x j)) d u).2.2 (agr x (unr x (tE x (tE x j)) d u).2.1).2.2), FL5_k (FL5_k hF k4 (by decide)) k5 (by decide)⟩
                have e95 : upP d (unr x (tE x (tE x j)) d u).2.2 (agr x (unr x (tE x (tE x j)) d u).2.1).2.2 0 5 = d 0 5 := by unfold upP; rw [up_n2 _ _ (by decide), up_n1 _ _ (by decide), up_n1 _ _ (by decide)]
                have hF0 : FrP σ (mz σ [(2, b5), (1, a5), (4, (aup (σ.1 4) 0 (nI (d 0 0 + 1)))), (6, (aup (σ.1 6) (d 0 0) (oI (unr x (tE x (tE x j)) d u).2.2))), (11, f11)] [(5, (aup (σ.2 5) (d 0 0) (lN (w27 (wl x (tE x j)) 0))))]) := FrP_mz rfl rfl (r5.1.trans (g51.trans (r4.1.trans (g41.trans (gg1.trans g1)))))
                refine s_virI [.int (nI (d 0 0)), .int (oI ((unr x (tE x (tE x j)) d u).2.2))] [] rfl lkX5_160 rfl rfl rfl (c_readStanding (d := upP d (unr x (tE x (tE x j)) d u).2.2 (agr x (unr x (tE x (tE x j)) d u).2.1).2.2) (u := aup u (d 0 0) (wl x (tE x j))) (o := o) (j := (agr x (unr x (tE x (tE x j)) d u).2.1).2.1) hx hb hT hCP (by omega) (by omega) (by omega)) rfl rfl (Nat.le_refl _) (Nat.le_refl _) rfl ?_
                rintro _ σ9 ⟨rfl, hF9, hR9⟩
                have e9 := eT.trans ((if_neg (fun z => z hzU)).trans (if_neg (fun z => z hzA)))
                exact s_ret (st := []) rfl rfl (nar_tb _) (Nat.zero_le _) (Nat.zero_le _) (⟨_, rfl, by rw [e9], hF0.tr hF9, by rw [e9]; exact hR9⟩)
              · refine n_iconst 0 rfl ?_
                have hn5 := tbq_n hh5
                have e9 : sPer x (j, d, u, o) = ((nu x (tE x (unr x (tE x (tE x j)) d u).2.1) 0 120).1, (nu x (tE x (unr x (tE x (tE x j)) d u).2.1) 0 120).2.1, d, u, o) := by rw [← eA]; exact eT.trans ((if_neg (fun z => z hzU)).trans (if_pos (by rw [eA]; exact hn5)))
                exact s_ret (st := []) rfl rfl rfl (Nat.zero_le _) (Nat.zero_le _) (⟨_, rfl, by rw [e9]; exact tb_no hn5, FrP_mz rfl rfl (r5.1.trans (g51.trans (r4.1.trans (g41.trans (gg1.trans g1))))), by rw [e9]; exact CR_no hn5 (r5.2.2 hn5).1 (r5.2.2 hn5).2⟩)
          · refine n_iconst 0 rfl ?_
            have hn4 := tbq_n hh4
            have e9 : sPer x (j, d, u, o) = ((kp x (tE x (tE x (tE x j))) (d 0 0) u (d 0 5)).1, (kp x (tE x (tE x (tE x j))) (d 0 0) u (d 0 5)).2.1, d, u, o) := by rw [← eU]; exact eT.trans (if_pos (by rw [eU]; exact hn4))
            exact s_ret (st := []) rfl rfl rfl (Nat.zero_le _) (Nat.zero_le _) (⟨_, rfl, by rw [e9]; exact tb_no hn4, FrP_mz rfl rfl (r4.1.trans (g41.trans (gg1.trans g1))), by rw [e9]; exact CR_no hn4 (r4.2.2 hn4).1 (r4.2.2 hn4).2⟩)
      · refine r_aload_n rfl rfl ?_
        refine n_iconst 2 rfl ?_
        refine s_virI [.int (nI 2)] [] rfl lkX5_120 rfl rfl rfl (c_fail g.2.2.1) rfl rfl (Nat.le_refl _) (Nat.le_refl _) rfl (rI (e1 := nI 0) rfl ?_)
        refine m_mz (L' := [(2, f2), (1, (aup (aup (σ.1 1) 4 (nI 2)) 3 (nI (tS x (tE x j)))))]) (M' := []) rfl rfl ?_
        have e9 : sPer x (j, d, u, o) = (2, tE x j, d, u, o) := (if_neg hnc).trans ((if_neg (fun z => z h2)).trans (if_pos (oI_nz h3)))
        exact s_ret (st := []) rfl rfl rfl (Nat.zero_le _) (Nat.zero_le _) (⟨_, rfl, by rw [e9]; exact tb_nr rfl, FrP_mz rfl rfl g1, by rw [e9]; exact CR_no (by decide) rfl rfl⟩)
    · refine r_aload_n rfl rfl ?_
      refine n_iconst 1 rfl ?_
      refine s_virI [.int (nI 1)] [] rfl lkX5_120 rfl rfl rfl (c_fail g.2.2.1) rfl rfl (Nat.le_refl _) (Nat.le_refl _) rfl (rI (e1 := nI 0) rfl ?_)
      refine m_mz (L' := [(2, f2), (1, (aup (aup (σ.1 1) 4 (nI 1)) 3 (nI (tS x (tE x j)))))]) (M' := []) rfl rfl ?_
      have e9 : sPer x (j, d, u, o) = (1, tE x j, d, u, o) := (if_neg hnc).trans (if_pos h2)
      exact s_ret (st := []) rfl rfl rfl (Nat.zero_le _) (Nat.zero_le _) (⟨_, rfl, by rw [e9]; exact tb_nr rfl, FrP_mz rfl rfl g1, by rw [e9]; exact CR_no (by decide) rfl rfl⟩)
  · refine r_aload_n rfl rfl ?_
    refine n_iconst 5 rfl ?_
    refine s_virI [.int (nI 5)] [] rfl lkX5_120 rfl rfl rfl (c_fail hC.2.2.1) rfl rfl (Nat.le_refl _) (Nat.le_refl _) rfl (rI (e1 := nI 0) rfl ?_)
    refine m_mz (L' := [(1, (aup (aup (σ.1 1) 4 (nI 5)) 3 (nI (tS x j))))]) (M' := []) rfl rfl ?_
    have e9 : sPer x (j, d, u, o) = (5, j, d, u, o) := if_pos (by show 12 ≤ d 0 0; omega)
    exact s_ret (st := []) rfl rfl rfl (Nat.zero_le _) (Nat.zero_le _) (⟨_, rfl, by rw [e9]; exact tb_nr rfl, FrP_mz rfl rfl rfl, by rw [e9]; exact CR_no (by decide) rfl rfl⟩)

