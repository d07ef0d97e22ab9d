theorem c_readStm {z : SZ} {sc : SC} {σ : SS} {j : Nat} {d : D} {u : Nat → List Nat} {o : Nat → Bool} {x : TX} (hx : x.1 ≤ 700) (hb : ∀ i, x.2 i < 256) (hT : ∀ i, i < x.1 → σ.1 3 i = bI (x.2 i)) (hP : CP σ x (j, d, u, o)) (hVP : VP x (j, d, u, o)) : Cs z sc mX5_readStatement 0 0 [.ref 1] σ (RI fun v σ' => v = nI (tb ((stm x (j, d, u, o)).1 == 0)) ∧ FrP σ σ' ∧ CR σ' x (stm x (j, d, u, o))) := by
  refine Cs.of gmX5_readStatement (Nat.le_of_ble_eq_true rfl) ?_
  show Ws z sc mX5_readStatement 0 0 0 0 0 [(0, .ref 1)] [] (mz σ [] []) (RI fun v σ' => v = nI (tb ((stm x (j, d, u, o)).1 == 0)) ∧ FrP σ σ' ∧ CR σ' x (stm x (j, d, u, o)))
  have hC : CT (σ.1 2) x j := hP.1
  refine r_aload_n rfl rfl ?_
  refine s_getR (r := 2) rfl flX5_12 rfl rfl ?_
  refine r_ldcS (i := 1) rfl rfl ?_
  refine s_virI [.retAddr 1] [] rfl lkX5_78 rfl rfl rfl (c_isWord sq1 sv1 hx hb hT hC) rfl rfl (Nat.le_refl _) (Nat.le_refl _) rfl (rI (e1 := nI (tb (iw x j Wperson))) rfl ?_)
  have ht0 := tb_le (iw x j Wperson)
  refine n_if_eq (tgt := 17) rfl rfl (by omega) (fun h0 => ?_) (fun h0 => ?_)
  · refine r_aload_n rfl rfl ?_
    refine s_getR (r := 2) rfl flX5_12 rfl rfl ?_
    refine r_ldcS (i := 6) rfl rfl ?_
    refine s_virI [.retAddr 6] [] rfl lkX5_78 rfl rfl rfl (c_isWord sq6 sv6 hx hb hT hC) rfl rfl (Nat.le_refl _) (Nat.le_refl _) rfl (rI (e1 := nI (tb (iw x j Wasset))) rfl ?_)
    have ht1 := tb_le (iw x j Wasset)
    refine n_if_eq (tgt := 34) rfl rfl (by omega) (fun h1 => ?_) (fun h1 => ?_)
    · refine r_aload_n rfl rfl ?_
      refine s_getR (r := 2) rfl flX5_12 rfl rfl ?_
      refine r_ldcS (i := 8) rfl rfl ?_
      refine s_virI [.retAddr 8] [] rfl lkX5_78 rfl rfl rfl (c_isWord sq8 sv8 hx hb hT hC) rfl rfl (Nat.le_refl _) (Nat.le_refl _) rfl (rI (e1 := nI (tb (iw x j Wdebt))) rfl ?_)
      have ht2 := tb_le (iw x j Wdebt)
      refine n_if_eq (tgt := 51) rfl rfl (by omega) (fun h2 => ?_) (fun h2 => ?_)
      · refine r_aload_n rfl rfl ?_
        refine s_getR (r := 2) rfl flX5_12 rfl rfl ?_
        refine r_ldcS (i := 9) rfl rfl ?_
        refine s_virI [.retAddr 9] [] rfl lkX5_78 rfl rfl rfl (c_isWord sq9 sv9 hx hb hT hC) rfl rfl (Nat.le_refl _) (Nat.le_refl _) rfl (rI (e1 := nI (tb (iw x j Wgift))) rfl ?_)
        have ht3 := tb_le (iw x j Wgift)
        refine n_if_eq (tgt := 68) rfl rfl (by omega) (fun h3 => ?_) (fun h3 => ?_)
        · refine r_aload_n rfl rfl ?_
          refine s_getR (r := 2) rfl flX5_12 rfl rfl ?_
          refine r_ldcS (i := 10) rfl rfl ?_
          refine s_virI [.retAddr 10] [] rfl lkX5_78 rfl rfl rfl (c_isWord sq10 sv10 hx hb hT hC) rfl rfl (Nat.le_refl _) (Nat.le_refl _) rfl (rI (e1 := nI (tb (iw x j Wlegacy))) rfl ?_)
          have ht4 := tb_le (iw x j Wlegacy)
          refine n_if_eq (tgt := 85) rfl rfl (by omega) (fun h4 => ?_) (fun h4 => ?_)
          · refine r_aload_n rfl rfl ?_
            refine s_getR (r := 2) rfl flX5_12 rfl rfl ?_
            refine r_ldcS (i := 11) rfl rfl ?_
            refine s_virI [.retAddr 11] [] rfl lkX5_78 rfl rfl rfl (c_isWord sq11 sv11 hx hb hT hC) rfl rfl (Nat.le_refl _) (Nat.le_refl _) rfl (rI (e1 := nI (tb (iw x j Wshare))) rfl ?_)
            have ht5 := tb_le (iw x j Wshare)
            refine n_if_eq (tgt := 102) rfl rfl (by omega) (fun h5 => ?_) (fun h5 => ?_)
            · refine r_aload_n rfl rfl ?_
              refine s_getR (r := 2) rfl flX5_12 rfl rfl ?_
              refine r_ldcS (i := 12) rfl rfl ?_
              refine s_virI [.retAddr 12] [] rfl lkX5_78 rfl rfl rfl (c_isWord sq12 sv12 hx hb hT hC) rfl rfl (Nat.le_refl _) (Nat.le_refl _) rfl (rI (e1 := nI (tb (iw x j Wlife))) rfl ?_)
              have ht6 := tb_le (iw x j Wlife)
              refine n_if_eq (tgt := 119) rfl rfl (by omega) (fun h6 => ?_) (fun h6 => ?_)
              · refine r_aload_n rfl rfl ?_
                refine s_getR (r := 2) rfl flX5_12 rfl rfl ?_
                refine r_ldcS (i := 13) rfl rfl ?_
                refine s_virI [.retAddr 13] [] rfl lkX5_78 rfl rfl rfl (c_isWord sq13 sv13 hx hb hT hC) rfl rfl (Nat.le_refl _) (Nat.le_refl _) rfl (rI (e1 := nI (tb (iw x j Waccrue))) rfl ?_)
                have ht7 := tb_le (iw x j Waccrue)
                refine n_if_eq (tgt := 136) rfl rfl (by omega) (fun h7 => ?_) (fun h7 => ?_)
                · refine r_aload_n rfl rfl ?_
                  refine n_iconst 1 rfl ?_
                  refine s_virI [.int (nI 1)] [] rfl lkX5_120 rfl rfl rfl (c_fail hC.2.2.1) rfl rfl (Nat.le_refl _) (Nat.le_refl _) rfl (rI (e1 := nI 0) rfl ?_)
                  refine m_mz (L' := [(1, (aup (aup (σ.1 1) 4 (nI 1)) 3 (nI (tS x j))))]) (M' := []) rfl rfl ?_
                  have e9 : stm x (j, d, u, o) = (1, j, d, u, o) := (if_neg (by rw [tb_z h0]; decide)).trans ((if_neg (by rw [tb_z h1]; decide)).trans ((if_neg (by rw [tb_z h2]; decide)).trans ((if_neg (by rw [tb_z h3]; decide)).trans ((if_neg (by rw [tb_z h4]; decide)).trans ((if_neg (by rw [tb_z h5]; decide)).trans ((if_neg (by rw [tb_z h6]; decide)).trans (if_neg (by rw [tb_z h7]; decide))))))))
                  exact s_ret (st := []) rfl rfl rfl (Nat.zero_le _) (Nat.zero_le _) (⟨_, rfl, by rw [e9]; exact tb_nr rfl, FrP_mz rfl rfl rfl, by rw [e9]; exact CR_no (by decide) rfl rfl⟩)
                · have hiw := tb_ne h7
                  have e9 : stm x (j, d, u, o) = sAcc x (j, d, u, o) := (if_neg (by rw [tb_z h0]; decide)).trans ((if_neg (by rw [tb_z h1]; decide)).trans ((if_neg (by rw [tb_z h2]; decide)).trans ((if_neg (by rw [tb_z h3]; decide)).trans ((if_neg (by rw [tb_z h4]; decide)).trans ((if_neg (by rw [tb_z h5]; decide)).trans ((if_neg (by rw [tb_z h6]; decide)).trans (if_pos hiw)))))))
                  refine r_aload_n rfl rfl ?_
                  refine s_virI [] [] rfl lkX5_117 rfl rfl rfl (c_readAccrue hx hb hT hP hVP (iw_1 hiw)) rfl rfl (Nat.le_refl _) (Nat.le_refl _) rfl ?_
                  rintro _ σ9 ⟨rfl, hF9, hR9⟩
                  exact s_ret (st := []) rfl rfl (nar_tb _) (Nat.zero_le _) (Nat.zero_le _) (⟨_, rfl, by rw [e9], hF9, by rw [e9]; exact hR9⟩)
              · have hiw := tb_ne h6
                have e9 : stm x (j, d, u, o) = sLif x (j, d, u, o) := (if_neg (by rw [tb_z h0]; decide)).trans ((if_neg (by rw [tb_z h1]; decide)).trans ((if_neg (by rw [tb_z h2]; decide)).trans ((if_neg (by rw [tb_z h3]; decide)).trans ((if_neg (by rw [tb_z h4]; decide)).trans ((if_neg (by rw [tb_z h5]; decide)).trans (if_pos hiw))))))
                refine r_aload_n rfl rfl ?_
                refine s_virI [] [] rfl lkX5_112 rfl rfl rfl (c_readLife hx hb hT hP hVP (iw_1 hiw)) rfl rfl (Nat.le_refl _) (Nat.le_refl _) rfl ?_
                rintro _ σ9 ⟨rfl, hF9, hR9⟩
                exact s_ret (st := []) rfl rfl (nar_tb _) (Nat.zero_le _) (Nat.zero_le _) (⟨_, rfl, by rw [e9], hF9, by rw [e9]; exact hR9⟩)
            · have hiw := tb_ne h5
              have e9 : stm x (j, d, u, o) = sSha x (j, d, u, o) := (if_neg (by rw [tb_z h0]; decide)).trans ((if_neg (by rw [tb_z h1]; decide)).trans ((if_neg (by rw [tb_z h2]; decide)).trans ((if_neg (by rw [tb_z h3]; decide)).trans ((if_neg (by rw [tb_z h4]; decide)).trans (if_pos hiw)))))
              refine r_aload_n rfl rfl ?_
              refine s_virI [] [] rfl lkX5_107 rfl rfl rfl (c_readShare hx hb hT hP hVP (iw_1 hiw)) rfl rfl (Nat.le_refl _) (Nat.le_refl _) rfl ?_
              rintro _ σ9 ⟨rfl, hF9, hR9⟩
              exact s_ret (st := []) rfl rfl (nar_tb _) (Nat.zero_le _) (Nat.zero_le _) (⟨_, rfl, by rw [e9], hF9, by rw [e9]; exact hR9⟩)
          · have hiw := tb_ne h4
            have e9 : stm x (j, d, u, o) = sLeg x (j, d, u, o) := (if_neg (by rw [tb_z h0]; decide)).trans ((if_neg (by rw [tb_z h1]; decide)).trans ((if_neg (by rw [tb_z h2]; decide)).trans ((if_neg (by rw [tb_z h3]; decide)).trans (if_pos hiw))))
            refine r_aload_n rfl rfl ?_
            refine s_virI [] [] rfl lkX5_102 rfl rfl rfl (c_readLegacy hx hb hT hP hVP (iw_1 hiw)) rfl rfl (Nat.le_refl _) (Nat.le_refl _) rfl ?_
            rintro _ σ9 ⟨rfl, hF9, hR9⟩
            exact s_ret (st := []) rfl rfl (nar_tb _) (Nat.zero_le _) (Nat.zero_le _) (⟨_, rfl, by rw [e9], hF9, by rw [e9]; exact hR9⟩)
        · have hiw := tb_ne h3
          have e9 : stm x (j, d, u, o) = sGif x (j, d, u, o) := (if_neg (by rw [tb_z h0]; decide)).trans ((if_neg (by rw [tb_z h1]; decide)).trans ((if_neg (by rw [tb_z h2]; decide)).trans (if_pos hiw)))
          refine r_aload_n rfl rfl ?_
          refine s_virI [] [] rfl lkX5_97 rfl rfl rfl (c_readGift hx hb hT hP hVP (iw_1 hiw)) rfl rfl (Nat.le_refl _) (Nat.le_refl _) rfl ?_
          rintro _ σ9 ⟨rfl, hF9, hR9⟩
          exact s_ret (st := []) rfl rfl (nar_tb _) (Nat.zero_le _) (Nat.zero_le _) (⟨_, rfl, by rw [e9], hF9, by rw [e9]; exact hR9⟩)
      · have hiw := tb_ne h2
        have e9 : stm x (j, d, u, o) = sDeb x (j, d, u, o) := (if_neg (by rw [tb_z h0]; decide)).trans ((if_neg (by rw [tb_z h1]; decide)).trans (if_pos hiw))
        refine r_aload_n rfl rfl ?_
        refine s_virI [] [] rfl lkX5_92 rfl rfl rfl (c_readDebt hx hb hT hP hVP (iw_1 hiw)) rfl rfl (Nat.le_refl _) (Nat.le_refl _) rfl ?_
        rintro _ σ9 ⟨rfl, hF9, hR9⟩
        exact s_ret (st := []) rfl rfl (nar_tb _) (Nat.zero_le _) (Nat.zero_le _) (⟨_, rfl, by rw [e9], hF9, by rw [e9]; exact hR9⟩)
    · have hiw := tb_ne h1
      have e9 : stm x (j, d, u, o) = sAss x (j, d, u, o) := (if_neg (by rw [tb_z h0]; decide)).trans (if_pos hiw)
      refine r_aload_n rfl rfl ?_
      refine s_virI [] [] rfl lkX5_87 rfl rfl rfl (c_readAsset hx hb hT hP hVP (iw_1 hiw)) rfl rfl (Nat.le_refl _) (Nat.le_refl _) rfl ?_
      rintro _ σ9 ⟨rfl, hF9, hR9⟩
      exact s_ret (st := []) rfl rfl (nar_tb _) (Nat.zero_le _) (Nat.zero_le _) (⟨_, rfl, by rw [e9], hF9, by rw [e9]; exact hR9⟩)
  · have hiw := tb_ne h0
    have e9 : stm x (j, d, u, o) = sPer x (j, d, u, o) := if_pos hiw
    refine r_aload_n rfl rfl ?_
    refine s_virI [] [] rfl lkX5_82 rfl rfl rfl (c_readPerson hx hb hT hP hVP (iw_1 hiw)) rfl rfl (Nat.le_refl _) (Nat.le_refl _) rfl ?_
    rintro _ σ9 ⟨rfl, hF9, hR9⟩
    exact s_ret (st := []) rfl rfl (nar_tb _) (Nat.zero_le _) (Nat.zero_le _) (⟨_, rfl, by rw [e9], hF9, by rw [e9]; exact hR9⟩)

theorem c_readSemi {z : SZ} {sc : SC} {σ : SS} {j : Nat} {d : D} {u : Nat → List Nat} {o : Nat → Bool} {x : TX} (hx : x.1 ≤ 700) (hb : ∀ i, x.2 i < 256) (hT : ∀ i, i < x.1 → σ.1 3 i = bI (x.2 i)) (hP : CP σ x (j, d, u, o)) : Cs z sc mX5_readSemicolon 0 0 [.ref 1] σ (RI fun v σ' => v = nI (tb (tK x j == 3)) ∧ FrP σ σ' ∧ (tK x j = 3 → CP σ' x (tE x j, d, u, o)) ∧ (tK x j ≠ 3 → σ'.1 1 4 = nI 1 ∧ σ'.1 1 3 = nI (tS x j))) := by
  refine Cs.of gmX5_readSemicolon (Nat.le_of_ble_eq_true rfl) ?_
  show Ws z sc mX5_readSemicolon 0 0 0 0 0 [(0, .ref 1)] [] (mz σ [] []) (RI fun v σ' => v = nI (tb (tK x j == 3)) ∧ FrP σ σ' ∧ (tK x j = 3 → CP σ' x (tE x j, d, u, o)) ∧ (tK x j ≠ 3 → σ'.1 1 4 = nI 1 ∧ σ'.1 1 3 = nI (tS x j)))
  have hC : CT (σ.1 2) x j := hP.1
  have hE : EE4 σ d := hP.2.1
  have hS : SR (σ.1 11) d := hP.2.2.1
  have hN : NM (σ.2 5) (d 0 0) u := hP.2.2.2.1
  have hF : FL5 (σ.1 1) o := hP.2.2.2.2
  have hkl := tK_le x j
  refine r_aload_n rfl rfl ?_
  refine s_getR (r := 2) rfl flX5_12 rfl rfl ?_
  refine s_getI (x := nI (tK x j)) rfl flX5_63 rfl rfl hC.2.1 ?_
  refine n_iconst 3 rfl ?_
  refine n_icmp_eq (tgt := 17) rfl rfl (by omega) (by omega) (fun h1 => ?_) (fun h1 => ?_)
  · refine r_aload_n rfl rfl ?_
    refine s_getR (r := 2) rfl flX5_12 rfl rfl ?_
    refine s_virV [] [] rfl lkX5_124 rfl rfl rfl (c_adv hx hb hT hC.1 hC.2.2.2 (Nat.le_succ_of_le (tE_le (by omega)))) rfl rfl (Nat.le_refl _) (Nat.le_refl _) rfl ?_
    rintro _ ⟨f2, rfl, g1, g⟩
    refine m_mz (L' := [(2, f2)]) (M' := []) rfl rfl ?_
    refine n_iconst 1 rfl ?_
    exact s_ret (st := []) rfl rfl rfl (Nat.zero_le _) (Nat.zero_le _) (⟨_, rfl, by rw [h1]; rfl, FrP_mz rfl rfl g1, fun _ => ⟨g, hE, hS, hN, hF⟩, fun z => absurd h1 z⟩)
  · refine r_aload_n rfl rfl ?_
    refine n_iconst 1 rfl ?_
    refine s_virI [.int (nI 1)] [] rfl lkX5_120 rfl rfl rfl (c_fail hC.2.2.1) rfl rfl (Nat.le_refl _) (Nat.le_refl _) rfl (rI (e1 := nI 0) rfl ?_)
    refine m_mz (L' := [(1, (aup (aup (σ.1 1) 4 (nI 1)) 3 (nI (tS x j))))]) (M' := []) rfl rfl ?_
    exact s_ret (st := []) rfl rfl rfl (Nat.zero_le _) (Nat.zero_le _) (⟨_, rfl, by rw [beq_false_of_ne h1]; rfl, FrP_mz rfl rfl rfl, fun z => absurd z h1, fun _ => ⟨rfl, rfl⟩⟩)

theorem c_read {z : SZ} {sc : SC} {σ : SS} {x : TX} (hx : x.1 ≤ 700) (hb : ∀ i, x.2 i < 256) (hT : ∀ i, i < x.1 → σ.1 3 i = bI (x.2 i)) : Cs z sc mX5_read 0 0 [.ref 1, .int (nI x.1)] σ (RI fun v σ' => v = nI (pa x).1 ∧ FrP σ σ' ∧ ((pa x).1 = 0 → CP σ' x (pa x).2) ∧ ((pa x).1 ≠ 0 → σ'.1 1 3 = nI (tS x (pa x).2.1))) := by
  refine Cs.of gmX5_read (Nat.le_of_ble_eq_true rfl) ?_
  show Ws z sc mX5_read 0 0 0 0 0 [(0, .ref 1), (1, .int (nI x.1))] [] (mz σ [] []) (RI fun v σ' => v = nI (pa x).1 ∧ FrP σ σ' ∧ ((pa x).1 = 0 → CP σ' x (pa x).2) ∧ ((pa x).1 ≠ 0 → σ'.1 1 3 = nI (tS x (pa x).2.1)))
  refine r_aload_n rfl rfl ?_
  refine s_getR (r := 4) rfl flX5_21 rfl rfl ?_
  refine s_virV [] [] rfl lkX5_55 rfl rfl rfl c_eclear rfl rfl (Nat.le_refl _) (Nat.le_refl _) rfl ?_
  rintro _ ⟨f4, rfl, h4⟩
  refine m_mz (L' := [(4, f4)]) (M' := []) rfl rfl ?_
  refine r_aload_n rfl rfl ?_
  refine s_getR (r := 10) rfl flX5_28 rfl rfl ?_
  refine s_virV [] [] rfl lkX5_58 rfl rfl rfl c_clear_10 rfl rfl (Nat.le_refl _) (Nat.le_refl _) rfl ?_
  rintro _ ⟨f11, rfl, h11⟩
  refine m_mz (L' := [(4, f4), (11, f11)]) (M' := []) rfl rfl ?_
  refine r_aload_n rfl rfl ?_
  refine n_iconst 0 rfl ?_
  refine m_putI (L' := [(4, f4), (11, f11), (1, (aup (σ.1 1) 4 (nI 0)))]) rfl flX5_36 rfl rfl (okv_i _) rfl ?_
  refine r_aload_n rfl rfl ?_
  refine n_m1 rfl ?_
  refine m_putI (L' := [(4, f4), (11, f11), (1, (aup (aup (σ.1 1) 4 (nI 0)) 3 (-1)))]) rfl flX5_32 rfl rfl (okv_i _) rfl ?_
  refine r_aload_n rfl rfl ?_
  refine n_iconst 0 rfl ?_
  refine m_putI (L' := [(4, f4), (11, f11), (1, (aup (aup (aup (σ.1 1) 4 (nI 0)) 3 (-1)) 5 (nI 0)))]) rfl flX5_39 rfl rfl (okv_z (Or.inl rfl)) rfl ?_
  refine r_aload_n rfl rfl ?_
  refine n_iconst 0 rfl ?_
  refine m_putI (L' := [(4, f4), (11, f11), (1, (aup (aup (aup (aup (σ.1 1) 4 (nI 0)) 3 (-1)) 5 (nI 0)) 6 (nI 0)))]) rfl flX5_43 rfl rfl (okv_z (Or.inl rfl)) rfl ?_
  refine r_aload_n rfl rfl ?_
  refine n_iconst 0 rfl ?_
  refine m_putI (L' := [(4, f4), (11, f11), (1, (aup (aup (aup (aup (aup (σ.1 1) 4 (nI 0)) 3 (-1)) 5 (nI 0)) 6 (nI 0)) 7 (nI 0)))]) rfl flX5_46 rfl rfl (okv_z (Or.inl rfl)) rfl ?_
  refine r_aload_n rfl rfl ?_
  refine s_getR (r := 2) rfl flX5_12 rfl rfl ?_
  refine r_iload_n rfl rfl ?_
  refine s_virV [.int (nI x.1)] [] rfl lkX5_59 rfl rfl rfl (c_open hx hb hT) rfl rfl (Nat.le_refl _) (Nat.le_refl _) rfl ?_
  rintro _ ⟨f2, rfl, g1, g2⟩
  refine m_mz (L' := [(4, f4), (11, f11), (1, (aup (aup (aup (aup (aup (σ.1 1) 4 (nI 0)) 3 (-1)) 5 (nI 0)) 6 (nI 0)) 7 (nI 0))), (2, f2)]) (M' := []) rfl rfl ?_
  refine n_iconst 1 rfl ?_
  refine r_istore_n (lv' := [(2, .int (nI 1)), (0, .ref 1), (1, .int (nI x.1))]) rfl rfl (Nat.le_of_ble_eq_true rfl) rfl ?_
  refine n_iconst 0 rfl ?_
  refine r_istore_n (lv' := [(3, .int (nI 0)), (2, .int (nI 1)), (0, .ref 1), (1, .int (nI x.1))]) rfl rfl (Nat.le_of_ble_eq_true rfl) rfl ?_
  have hP0 : CP (mz σ [(4, f4), (11, f11), (1, (aup (aup (aup (aup (aup (σ.1 1) 4 (nI 0)) 3 (-1)) 5 (nI 0)) 6 (nI 0)) 7 (nI 0))), (2, f2)] []) x (0, dE, (fun _ => []), (fun _ => false)) := ⟨g2, h4 _ _ _ _, h11, fun p hp => absurd hp (Nat.not_lt_zero _), rfl, rfl, rfl, rfl, rfl⟩
  have hF0 : FrP σ (mz σ [(4, f4), (11, f11), (1, (aup (aup (aup (aup (aup (σ.1 1) 4 (nI 0)) 3 (-1)) 5 (nI 0)) 6 (nI 0)) 7 (nI 0))), (2, f2)] []) := FrP_mz rfl rfl g1
  refine r_lv (lv' := [(3, .int (nI 0)), (0, .ref 1), (1, .int (nI x.1)), (2, .int (nI (tb true)))]) [0, 2, 3, 1] rfl ?_
  have loop : ∀ (m9 : Nat) (i : Nat) (s : PS) (σ1 : SS), 700 - i < m9 → (i ≤ 700) → (i ≤ s.1) → (pl x (700 - i) s = pa x) → (CP σ1 x s) → (VP x s) → (FrP σ σ1) → Ws z sc mX5_read 0 0 0 0 51 [(3, .int (nI i)), (0, .ref 1), (1, .int (nI x.1)), (2, .int (nI (tb true)))] [] (mz σ1 [] []) (RI fun v σ' => v = nI (pa x).1 ∧ FrP σ σ' ∧ ((pa x).1 = 0 → CP σ' x (pa x).2) ∧ ((pa x).1 ≠ 0 → σ'.1 1 3 = nI (tS x (pa x).2.1))) := by
    intro m9
    induction m9 with
    | zero => intro i s σ1 hme; exact absurd hme (Nat.not_lt_zero _)
    | succ m9 ih =>
      intro i s σ1 hme hi his hpl hP hVP hF
      obtain ⟨j, d, u, o⟩ := s
      have hC : CT (σ1.1 2) x j := hP.1
      have hkl := tK_le x j
      have hT1 : ∀ i, i < x.1 → σ1.1 3 i = bI (x.2 i) := fun i hi => by rw [hF.T]; exact hT i hi
      refine r_iload_n rfl rfl ?_
      refine n_sipush 700 rfl (by decide) ?_
      refine n_icmp_ge (tgt := 98) rfl rfl (by omega) (by omega) (fun h1 => ?_) (fun h1 => ?_)
      · have e : pl x (700 - i) (j, d, u, o) = (0, j, d, u, o) := by rw [show 700 - i = 0 by omega]; rfl
        refine r_aload_n rfl rfl ?_
        refine s_getI (x := nI 0) rfl flX5_36 rfl rfl hP.2.2.2.2.1 ?_
        exact s_ret (st := []) rfl rfl rfl (Nat.zero_le _) (Nat.zero_le _) (⟨_, rfl, by rw [← hpl, e], hF, fun _ => by rw [← hpl, e]; exact hP, fun z => absurd (by rw [← hpl, e]) z⟩)
      · obtain ⟨f, hf⟩ : ∃ f, 700 - i = f + 1 := ⟨699 - i, by omega⟩
        rw [hf] at hpl
        refine r_iload_n rfl rfl ?_
        refine n_if_eq (tgt := 98) rfl rfl (by decide) (fun hq => absurd hq (by decide)) (fun _ => ?_)
        refine r_aload_n rfl rfl ?_
        refine s_getR (r := 2) rfl flX5_12 rfl rfl ?_
        refine s_getI (x := nI (tK x j)) rfl flX5_63 rfl rfl hC.2.1 ?_
        refine n_if_eq (tgt := 98) rfl rfl (by omega) (fun h2 => ?_) (fun h2 => ?_)
        · have e : pl x (f + 1) (j, d, u, o) = (0, j, d, u, o) := if_pos h2
          refine r_aload_n rfl rfl ?_
          refine s_getI (x := nI 0) rfl flX5_36 rfl rfl hP.2.2.2.2.1 ?_
          exact s_ret (st := []) rfl rfl rfl (Nat.zero_le _) (Nat.zero_le _) (⟨_, rfl, by rw [← hpl, e], hF, fun _ => by rw [← hpl, e]; exact hP, fun z => absurd (by rw [← hpl, e]) z⟩)
        · have e1 : pl x (f + 1) (j, d, u, o) = if (sm1 x (j, d, u, o)).1 ≠ 0 then sm1 x (j, d, u, o) else pl x f (sm1 x (j, d, u, o)).2 := if_neg h2
          have hw := stm_fw hVP
          refine r_aload_n rfl rfl ?_
          refine s_virI [] [] rfl lkX5_66 rfl rfl rfl (c_readStm hx hb hT1 hP hVP) rfl rfl (Nat.le_refl _) (Nat.le_refl _) rfl ?_
          rintro _ σ2 ⟨rfl, hF2, hR2⟩
          have ht2 := tb_le ((stm x (j, d, u, o)).1 == 0)
          refine n_if_eq (tgt := 90) rfl rfl (by omega) (fun h3 => ?_) (fun h3 => ?_)
          · have hn := tbq_n h3
            have e2 : sm1 x (j, d, u, o) = stm x (j, d, u, o) := if_pos hn
            have e3 : pa x = stm x (j, d, u, o) := by rw [← hpl, e1, e2, if_pos hn]
            have hq := hR2.2 hn
            have hc5 := hw.2.2
            refine n_iconst 0 rfl ?_
            refine r_istore_n (lv' := [(2, .int (nI 0)), (3, .int (nI i)), (0, .ref 1), (1, .int (nI x.1))]) rfl rfl (Nat.le_of_ble_eq_true rfl) rfl ?_
            refine n_iinc (lv' := [(3, .int (nI (i + 1))), (2, .int (nI 0)), (0, .ref 1), (1, .int (nI x.1))]) 1 rfl rfl (Nat.le_of_ble_eq_true rfl) rfl ?_
            refine r_goto (tgt := 51) rfl rfl ?_
            refine r_iload_n rfl rfl ?_
            refine n_sipush 700 rfl (by decide) ?_
            refine n_icmp_ge (tgt := 98) rfl rfl (by omega) (by omega) (fun h8 => ?_) (fun h8 => ?_)
            · refine r_aload_n rfl rfl ?_
              refine s_getI (x := nI ((stm x (j, d, u, o)).1)) rfl flX5_36 rfl rfl hq.1 ?_
              exact s_ret (st := []) rfl rfl rfl (Nat.zero_le _) (Nat.zero_le _) (⟨_, rfl, by rw [e3], hF.tr hF2, fun z => absurd (by rw [e3] at z; exact z) hn, fun _ => by rw [e3]; exact hq.2⟩)
            · refine r_iload_n rfl rfl ?_
              refine n_if_eq (tgt := 98) rfl rfl (by decide) (fun _ => ?_) (fun hq => absurd hq (by decide))
              refine r_aload_n rfl rfl ?_
              refine s_getI (x := nI ((stm x (j, d, u, o)).1)) rfl flX5_36 rfl rfl hq.1 ?_
              exact s_ret (st := []) rfl rfl rfl (Nat.zero_le _) (Nat.zero_le _) (⟨_, rfl, by rw [e3], hF.tr hF2, fun z => absurd (by rw [e3] at z; exact z) hn, fun _ => by rw [e3]; exact hq.2⟩)
          · have hz := tbq_y h3
            obtain ⟨hVP2, hlt⟩ := hw.1 hz
            have hP2 := hR2.1 hz
            generalize hst : stm x (j, d, u, o) = rr at *
            obtain ⟨c, j2, d2, u2, o2⟩ := rr
            have hz0 : c = 0 := hz
            subst hz0
            have hT2 : ∀ i, i < x.1 → σ2.1 3 i = bI (x.2 i) := fun i hi => by rw [hF2.T]; exact hT1 i hi
            refine r_aload_n rfl rfl ?_
            refine s_virI [] [] rfl lkX5_70 rfl rfl rfl (c_readSemi hx hb hT2 hP2) rfl rfl (Nat.le_refl _) (Nat.le_refl _) rfl ?_
            rintro _ σ3 ⟨rfl, hF3, hR3, hR4⟩
            have ht3 := tb_le (tK x j2 == 3)
            refine n_if_eq (tgt := 90) rfl rfl (by omega) (fun h4 => ?_) (fun h4 => ?_)
            · have hk3 : tK x j2 ≠ 3 := fun z => by rw [z] at h4; exact absurd h4 (by decide)
              have e2 : sm1 x (j, d, u, o) = (1, j2, d2, u2, o2) := by unfold sm1; rw [hst, if_neg (fun z => z rfl), if_neg hk3]
              have e3 : pa x = (1, j2, d2, u2, o2) := by rw [← hpl, e1, e2, if_pos (show (1 : Nat) ≠ 0 by decide)]
              have hq := hR4 hk3
              have hn : (1 : Nat) ≠ 0 := by decide
              refine n_iconst 0 rfl ?_
              refine r_istore_n (lv' := [(2, .int (nI 0)), (3, .int (nI i)), (0, .ref 1), (1, .int (nI x.1))]) rfl rfl (Nat.le_of_ble_eq_true rfl) rfl ?_
              refine n_iinc (lv' := [(3, .int (nI (i + 1))), (2, .int (nI 0)), (0, .ref 1), (1, .int (nI x.1))]) 1 rfl rfl (Nat.le_of_ble_eq_true rfl) rfl ?_
              refine r_goto (tgt := 51) rfl rfl ?_
              refine r_iload_n rfl rfl ?_
              refine n_sipush 700 rfl (by decide) ?_
              refine n_icmp_ge (tgt := 98) rfl rfl (by omega) (by omega) (fun h8 => ?_) (fun h8 => ?_)
              · refine r_aload_n rfl rfl ?_
                refine s_getI (x := nI 1) rfl flX5_36 rfl rfl hq.1 ?_
                exact s_ret (st := []) rfl rfl rfl (Nat.zero_le _) (Nat.zero_le _) (⟨_, rfl, by rw [e3], (hF.tr hF2).tr hF3, fun z => absurd (by rw [e3] at z; exact z) hn, fun _ => by rw [e3]; exact hq.2⟩)
              · refine r_iload_n rfl rfl ?_
                refine n_if_eq (tgt := 98) rfl rfl (by decide) (fun _ => ?_) (fun hq => absurd hq (by decide))
                refine r_aload_n rfl rfl ?_
                refine s_getI (x := nI 1) rfl flX5_36 rfl rfl hq.1 ?_
                exact s_ret (st := []) rfl rfl rfl (Nat.zero_le _) (Nat.zero_le _) (⟨_, rfl, by rw [e3], (hF.tr hF2).tr hF3, fun z => absurd (by rw [e3] at z; exact z) hn, fun _ => by rw [e3]; exact hq.2⟩)
            · have hk3 : tK x j2 = 3 := Classical.byContradiction fun z => by rw [beq_false_of_ne z] at h4; exact h4 rfl
              have e2 : sm1 x (j, d, u, o) = (0, tE x j2, d2, u2, o2) := by unfold sm1; rw [hst, if_neg (fun z => z rfl), if_pos hk3]
              have hsf := sm1_fw hVP
              rw [e2] at hsf
              have hs2 := hsf.1 rfl
              have e3 : pl x f (tE x j2, d2, u2, o2) = pa x := by rw [← hpl, e1, e2, if_neg (fun z => z rfl)]
              refine n_iconst 1 rfl ?_
              refine r_goto (tgt := 91) rfl rfl ?_
              refine r_istore_n (lv' := [(2, .int (nI 1)), (3, .int (nI i)), (0, .ref 1), (1, .int (nI x.1))]) rfl rfl (Nat.le_of_ble_eq_true rfl) rfl ?_
              refine n_iinc (lv' := [(3, .int (nI (i + 1))), (2, .int (nI 1)), (0, .ref 1), (1, .int (nI x.1))]) 1 rfl rfl (Nat.le_of_ble_eq_true rfl) rfl ?_
              refine r_goto (tgt := 51) rfl rfl ?_
              refine r_lv (lv' := [(3, .int (nI (i + 1))), (0, .ref 1), (1, .int (nI x.1)), (2, .int (nI (tb true)))]) [0, 2, 3, 1] rfl ?_
              exact ih (i + 1) (tE x j2, d2, u2, o2) σ3 (by omega) (by omega) (by have h9 : j < tE x j2 := hs2.2; have h8 : i ≤ j := his; show i + 1 ≤ tE x j2; omega) (by rw [show 700 - (i + 1) = f by omega]; exact e3) (hR3 hk3) hs2.1 ((hF.tr hF2).tr hF3)
  exact loop 701 0 _ _ (by omega) (by omega) (Nat.zero_le _) rfl hP0 (VP0 x) hF0

