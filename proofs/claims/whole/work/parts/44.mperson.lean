theorem k_endP {l9 : Bool} {sc : SC} {σ : SS} {j : Nat} {d : D} {u : Nat → List Nat} {o : Nat → Bool} {m q : Nat} {x : TX} (hx : x.1 ≤ 700) (hb : ∀ i, x.2 i < 256) (hT : ∀ i, i < x.1 → σ.1 58 i = bI (x.2 i)) (hC : MT (σ.1 53) (σ.2 53) x j) (hM : MR (σ.1 55) d) (hN : NM2 (σ.2 57) (m + 1) u) (hF : FE (σ.1 53) o) (hm : m < 12) (hm0 : d 0 0 = m) (hq : d 1 m = q) (hq12 : q ≤ 12) (h05 : d 0 5 ≤ 12) : Cs (true, l9) sc mX10_endOfPerson 0 0 [.ref 53, .int (nI m), .int (nI (10 + 4 * m))] σ (RI fun v σ' => v = nI (tb ((pst3 x j q m (up d 0 0 (m + 1)) u o).1 == 0)) ∧ FrQ σ σ' ∧ MW σ' x (pst3 x j q m (up d 0 0 (m + 1)) u o)) := by
  refine Cs.of gmX10_endOfPerson (Nat.le_of_ble_eq_true rfl) ?_
  show Ws (true, l9) sc mX10_endOfPerson 0 0 0 0 0 [(0, .ref 53), (1, .int (nI m)), (2, .int (nI (10 + 4 * m)))] [] (mz σ [] []) (RI fun v σ' => v = nI (tb ((pst3 x j q m (up d 0 0 (m + 1)) u o).1 == 0)) ∧ FrQ σ σ' ∧ MW σ' x (pst3 x j q m (up d 0 0 (m + 1)) u o))
  have hkl := tK_le x j
  have h00 : σ.1 55 0 = nI m := by rw [MRat hM 0 0 (by decide) (by decide), hm0]; rfl
  refine r_aload_n rfl rfl ?_
  refine r_ldcS (i := 29) rfl rfl ?_
  refine s_virI [.retAddr 29] [] rfl lkX10_168 rfl rfl rfl (k_isWord sq29 sv29 hx hb hT hC) rfl rfl (Nat.le_refl _) (Nat.le_refl _) rfl (rI (e1 := nI (tb (iw x j Wdead))) rfl ?_)
  have hbdead := tb_le (iw x j Wdead)
  refine n_if_eq (tgt := 25) rfl rfl (by omega) (fun h1 => ?_) (fun h1 => ?_)
  · have hnd : ¬ iw x j Wdead = true := by rw [tb_z h1]; decide
    refine r_aload_n rfl rfl ?_
    refine r_ldcS (i := 30) rfl rfl ?_
    refine s_virI [.retAddr 30] [] rfl lkX10_168 rfl rfl rfl (k_isWord sq30 sv30 hx hb hT hC) rfl rfl (Nat.le_refl _) (Nat.le_refl _) rfl (rI (e1 := nI (tb (iw x j Wspouse))) rfl ?_)
    have hbspouse := tb_le (iw x j Wspouse)
    refine n_if_eq (tgt := 76) rfl rfl (by omega) (fun h2 => ?_) (fun h2 => ?_)
    · refine r_aload_n rfl rfl ?_
      refine s_getR (r := 55) rfl flX10_13 rfl rfl ?_
      refine n_iconst 0 rfl ?_
      refine r_dup2 rfl rfl rfl ?_
      refine s_iald (x := nI m) rfl rfl (by decide) h00 ?_
      refine n_iconst 1 rfl ?_
      refine n_iadd rfl ?_
      refine m_iast (L' := [(55, (aup (σ.1 55) 0 (nI (m + 1))))]) rfl rfl (by decide) rfl ?_
      refine n_iconst 1 rfl ?_
      have e9 : pst3 x j q m (up d 0 0 (m + 1)) u o = (0, j, up d 0 0 (m + 1), u, o) := (if_neg hnd).trans (if_neg (fun z => by rw [z.1] at h2; exact absurd h2 (by decide)))
      exact s_ret (st := []) rfl rfl rfl (Nat.zero_le _) (Nat.zero_le _) (⟨_, rfl, by rw [e9]; rfl, FrQ_mz rfl rfl (fun k hk => rfl), by rw [e9]; exact MW_ok ⟨hC, MRup hM (by decide) (mP0 (by decide)) rfl, NM2_cg hN rfl, hF⟩⟩)
    · have hiw := tb_ne h2
      refine r_aload_n rfl rfl ?_
      refine s_getR (r := 55) rfl flX10_13 rfl rfl ?_
      refine r_iload_n rfl rfl ?_
      refine s_iald (x := oI q) rfl rfl (by omega) ((M0 hM hm).trans (by rw [hq])) ?_
      refine n_m1 rfl ?_
      refine r_icmp_ne (tgt := 76) rfl rfl (fun h3 => ?_) (fun h3 => ?_)
      · refine r_aload_n rfl rfl ?_
        refine s_getR (r := 55) rfl flX10_13 rfl rfl ?_
        refine n_iconst 0 rfl ?_
        refine r_dup2 rfl rfl rfl ?_
        refine s_iald (x := nI m) rfl rfl (by decide) h00 ?_
        refine n_iconst 1 rfl ?_
        refine n_iadd rfl ?_
        refine m_iast (L' := [(55, (aup (σ.1 55) 0 (nI (m + 1))))]) rfl rfl (by decide) rfl ?_
        refine n_iconst 1 rfl ?_
        have e9 : pst3 x j q m (up d 0 0 (m + 1)) u o = (0, j, up d 0 0 (m + 1), u, o) := (if_neg hnd).trans (if_neg (fun z => h3 (by rw [z.2]; exact oI_0)))
        exact s_ret (st := []) rfl rfl rfl (Nat.zero_le _) (Nat.zero_le _) (⟨_, rfl, by rw [e9]; rfl, FrQ_mz rfl rfl (fun k hk => rfl), by rw [e9]; exact MW_ok ⟨hC, MRup hM (by decide) (mP0 (by decide)) rfl, NM2_cg hN rfl, hF⟩⟩)
      · have hq0 := oI_z (by omega) h3
        refine r_aload_n rfl rfl ?_
        refine n_iconst 2 rfl ?_
        refine r_aload_n rfl rfl ?_
        refine s_getR (r := 55) rfl flX10_13 rfl rfl ?_
        refine n_iconst 5 rfl ?_
        refine s_iald (x := oI (d 0 5)) rfl rfl (by decide) (MRat hM 0 5 (by decide) (by decide)) ?_
        refine n_m1 rfl ?_
        suffices K : Ws (true, l9) sc mX10_endOfPerson 0 0 0 0 61 [(0, .ref 53), (1, .int (nI m)), (2, .int (nI (10 + 4 * m)))] [.int (nI (tb (decide (d 0 5 = 0)))), .int (nI 2), .ref 53] (mz σ [] []) (RI fun v σ' => v = nI (tb ((pst3 x j q m (up d 0 0 (m + 1)) u o).1 == 0)) ∧ FrQ σ σ' ∧ MW σ' x (pst3 x j q m (up d 0 0 (m + 1)) u o)) by
          refine r_icmp_ne (tgt := 60) rfl rfl (fun h4 => ?_) (fun h4 => ?_)
          · refine n_iconst 0 rfl ?_
            exact r_top (by rw [decide_eq_false (oI_nz h4)]; rfl) K
          · refine n_iconst 1 rfl ?_
            refine r_goto (tgt := 61) rfl rfl ?_
            exact r_top (by rw [decide_eq_true (oI_z (by omega) h4)]; rfl) K
        by_cases hc9 : d 0 5 = 0
        · rw [decide_eq_true hc9]
          show Ws (true, l9) sc mX10_endOfPerson 0 0 0 0 61 [(0, .ref 53), (1, .int (nI m)), (2, .int (nI (10 + 4 * m)))] [.int (nI 1), .int (nI 2), .ref 53] (mz σ [] []) (RI fun v σ' => v = nI (tb ((pst3 x j q m (up d 0 0 (m + 1)) u o).1 == 0)) ∧ FrQ σ σ' ∧ MW σ' x (pst3 x j q m (up d 0 0 (m + 1)) u o))
          refine s_virI [.int (nI 2), .int (nI 1)] [] rfl lkX10_151 rfl rfl rfl (k_starts hx hb hT hC (by rw [iw_1 hiw]; decide)) rfl rfl (Nat.le_refl _) (Nat.le_refl _) rfl ?_
          rintro _ _ ⟨m1, l1, rfl, rfl, t1, p1⟩
          refine m_mz (L' := [(53, m1)]) (M' := [(53, l1)]) rfl rfl ?_
          refine n_if_ne (tgt := 69) rfl rfl (by decide) (fun _ => ?_) (fun hq => absurd hq (by decide))
          refine r_aload_n rfl rfl ?_
          refine s_getR (r := 55) rfl flX10_13 rfl rfl ?_
          refine n_iconst 5 rfl ?_
          refine r_iload_n rfl rfl ?_
          refine m_iast (L' := [(53, m1), (55, (aup (σ.1 55) 5 (nI m)))]) rfl rfl (by decide) rfl ?_
          refine r_aload_n rfl rfl ?_
          refine s_getR (r := 55) rfl flX10_13 rfl rfl ?_
          refine n_iconst 0 rfl ?_
          refine r_dup2 rfl rfl rfl ?_
          refine s_iald (x := nI m) rfl rfl (by decide) (show aup (σ.1 55) 5 (nI m) 0 = nI m from (aup_n _ _ (by decide)).trans h00) ?_
          refine n_iconst 1 rfl ?_
          refine n_iadd rfl ?_
          refine m_iast (L' := [(53, m1), (55, (aup (aup (σ.1 55) 5 (nI m)) 0 (nI (m + 1))))]) rfl rfl (by decide) rfl ?_
          refine n_iconst 1 rfl ?_
          have e9 : pst3 x j q m (up d 0 0 (m + 1)) u o = (0, tE x j, up (up d 0 0 (m + 1)) 0 5 (m + 1), u, o) := (if_neg hnd).trans ((if_pos ⟨hiw, hq0⟩).trans (if_pos ((up_n2 _ _ (by decide)).trans hc9)))
          exact s_ret (st := []) rfl rfl rfl (Nat.zero_le _) (Nat.zero_le _) (⟨_, rfl, by rw [e9]; rfl, FrQ_mz rfl rfl p1.Q, by rw [e9]; exact MW_ok ⟨t1, MR_e (MRup (MRup hM (by decide) (mP0 (by decide)) (oI_s m).symm) (by decide) (mP0 (by decide)) rfl) (up_cm (Or.inr (by decide))), NM2_cg hN rfl, FE_k hF p1⟩⟩)
        · rw [decide_eq_false hc9]
          show Ws (true, l9) sc mX10_endOfPerson 0 0 0 0 61 [(0, .ref 53), (1, .int (nI m)), (2, .int (nI (10 + 4 * m)))] [.int (nI 0), .int (nI 2), .ref 53] (mz σ [] []) (RI fun v σ' => v = nI (tb ((pst3 x j q m (up d 0 0 (m + 1)) u o).1 == 0)) ∧ FrQ σ σ' ∧ MW σ' x (pst3 x j q m (up d 0 0 (m + 1)) u o))
          refine s_virI [.int (nI 2), .int (nI 0)] [] rfl lkX10_151 rfl rfl rfl (k_starts_no (j := tS x j) hF.1 hC.2.1) rfl rfl (Nat.le_refl _) (Nat.le_refl _) rfl (rI (e1 := nI 0) rfl ?_)
          refine m_mz (L' := [(53, (aup (aup (σ.1 53) 13 (nI 2)) 14 (nI (tS x j))))]) (M' := []) rfl rfl ?_
          refine n_if_ne (tgt := 69) rfl rfl (by decide) (fun hq => absurd hq (by decide)) (fun _ => ?_)
          refine n_iconst 0 rfl ?_
          have e9 : pst3 x j q m (up d 0 0 (m + 1)) u o = (2, j, up d 0 0 (m + 1), u, o) := (if_neg hnd).trans ((if_pos ⟨hiw, hq0⟩).trans (if_neg (fun z => hc9 ((up_n2 _ _ (by decide)).symm.trans z))))
          exact s_ret (st := []) rfl rfl rfl (Nat.zero_le _) (Nat.zero_le _) (⟨_, rfl, by rw [e9]; exact tb_nr rfl, FrQ_mz rfl rfl (fun k hk => KPq (KPq (fun _ _ => rfl) rfl) rfl k hk), by rw [e9]; exact MW_no (by decide) ⟨rfl, rfl⟩⟩)
  · have hiw := tb_ne h1
    refine r_aload_n rfl rfl ?_
    refine s_getR (r := 55) rfl flX10_13 rfl rfl ?_
    refine r_iload_n rfl rfl ?_
    refine n_iconst 2 rfl ?_
    refine n_iadd rfl ?_
    refine n_iconst 1 rfl ?_
    refine m_iast (L' := [(55, (aup (σ.1 55) ((10 + 4 * m) + 2) (nI 1)))]) rfl rfl (by omega) rfl ?_
    refine r_aload_n rfl rfl ?_
    refine s_virV [] [] rfl lkX10_145 rfl rfl rfl (k_adv hx hb hT hC.1 (hC.2.2.1 (by rw [iw_1 hiw]; decide)) (iw_E hiw)) rfl rfl (Nat.le_refl _) (Nat.le_refl _) rfl ?_
    rintro _ ⟨m1, l1, rfl, t1, s1, y1⟩
    refine m_mz (L' := [(55, (aup (σ.1 55) ((10 + 4 * m) + 2) (nI 1))), (53, m1)]) (M' := [(53, l1)]) rfl rfl ?_
    have p1 : KP m1 _ := fun k a b c d _ => s1 k a b c d
    refine r_goto (tgt := 76) rfl rfl ?_
    refine r_aload_n rfl rfl ?_
    refine s_getR (r := 55) rfl flX10_13 rfl rfl ?_
    refine n_iconst 0 rfl ?_
    refine r_dup2 rfl rfl rfl ?_
    refine s_iald (x := nI m) rfl rfl (by decide) (show aup (σ.1 55) (10 + 4 * m + 2) (nI 1) 0 = nI m from (aup_n _ _ (by omega)).trans h00) ?_
    refine n_iconst 1 rfl ?_
    refine n_iadd rfl ?_
    refine m_iast (L' := [(55, (aup (aup (σ.1 55) ((10 + 4 * m) + 2) (nI 1)) 0 (nI (m + 1)))), (53, m1)]) rfl rfl (by decide) rfl ?_
    refine n_iconst 1 rfl ?_
    have e9 : pst3 x j q m (up d 0 0 (m + 1)) u o = (0, tE x j, up (up d 0 0 (m + 1)) 3 m 1, u, o) := if_pos hiw
    exact s_ret (st := []) rfl rfl rfl (Nat.zero_le _) (Nat.zero_le _) (⟨_, rfl, by rw [e9]; rfl, FrQ_mz rfl rfl p1.Q, by rw [e9]; exact MW_ok ⟨t1, MR_e (MRup (MRup hM (by omega) (mPp hm (by decide)) rfl) (by decide) (mP0 (by decide)) rfl) (up_cm (Or.inl (by decide))), NM2_cg hN rfl, FE_k hF p1⟩⟩)

theorem k_personLine {l9 : Bool} {sc : SC} {σ : SS} {j : Nat} {d : D} {u : Nat → List Nat} {o : Nat → Bool} {x : TX} (hx : x.1 ≤ 700) (hb : ∀ i, x.2 i < 256) (hT : ∀ i, i < x.1 → σ.1 58 i = bI (x.2 i)) (hP : MP σ x (j, d, u, o)) (hVP : VP x (j, d, u, o)) (hk : tK x j = 1) : Cs (true, l9) sc mX10_personLine 0 0 [.ref 53] σ (RI fun v σ' => v = nI (tb ((sPer x (j, d, u, o)).1 == 0)) ∧ FrQ σ σ' ∧ MW σ' x (sPer x (j, d, u, o))) := by
  refine Cs.of gmX10_personLine (Nat.le_of_ble_eq_true rfl) ?_
  show Ws (true, l9) sc mX10_personLine 0 0 0 0 0 [(0, .ref 53)] [] (mz σ [] []) (RI fun v σ' => v = nI (tb ((sPer x (j, d, u, o)).1 == 0)) ∧ FrQ σ σ' ∧ MW σ' x (sPer x (j, d, u, o)))
  have hC : MT (σ.1 53) (σ.2 53) x j := hP.1
  have hM : MR (σ.1 55) d := hP.2.1
  have hN : NM2 (σ.2 57) (d 0 0) u := hP.2.2.1
  have hF : FE (σ.1 53) o := hP.2.2.2
  have hV : Vd d := hVP.1
  have h6 : Z6 d := hVP.2.1
  have hu : ∀ p, p < d 0 0 → okW (u p) := hVP.2.2.1
  have hj : j ≤ x.1 := hVP.2.2.2
  have hCC := vC hV
  have hEg := tE_j x j
  have hk0 : tK x j ≠ 0 := by omega
  have hml1 := mt_le (tK_le x (tE x j))
  have hm11 := mt_eq (c := 1) (by decide) (tK_4 x (tE x j))
  refine r_aload_n rfl rfl ?_
  refine s_getR (r := 55) rfl flX10_13 rfl rfl ?_
  refine n_iconst 0 rfl ?_
  refine s_iald (x := nI (d 0 0)) rfl rfl (by decide) (MRat hM 0 0 (by decide) (by decide)) ?_
  refine r_istore_n (lv' := [(1, .int (nI (d 0 0))), (0, .ref 53)]) rfl rfl (Nat.le_of_ble_eq_true rfl) rfl ?_
  refine r_aload_n rfl rfl ?_
  refine n_iconst 5 rfl ?_
  refine r_iload_n rfl rfl ?_
  refine n_bipush 12 rfl (by decide) ?_
  suffices K : Ws (true, l9) sc mX10_personLine 0 0 0 0 20 [(1, .int (nI (d 0 0))), (0, .ref 53)] [.int (nI (tb (decide (d 0 0 < 12)))), .int (nI 5), .ref 53] (mz σ [] []) (RI fun v σ' => v = nI (tb ((sPer x (j, d, u, o)).1 == 0)) ∧ FrQ σ σ' ∧ MW σ' x (sPer x (j, d, u, o))) by
    refine n_icmp_ge (tgt := 19) rfl rfl (by omega) (by omega) (fun hc => ?_) (fun hc => ?_)
    · refine n_iconst 0 rfl ?_
      exact r_top (by rw [decide_eq_false (by omega)]; rfl) K
    · refine n_iconst 1 rfl ?_
      refine r_goto (tgt := 20) rfl rfl ?_
      exact r_top (by rw [decide_eq_true (by omega)]; rfl) K
  have hcb := tb_le (decide (d 0 0 < 12))
  by_cases hc9 : d 0 0 < 12
  · rw [decide_eq_true hc9]
    show Ws (true, l9) sc mX10_personLine 0 0 0 0 20 [(1, .int (nI (d 0 0))), (0, .ref 53)] [.int (nI 1), .int (nI 5), .ref 53] (mz σ [] []) (RI fun v σ' => v = nI (tb ((sPer x (j, d, u, o)).1 == 0)) ∧ FrQ σ σ' ∧ MW σ' x (sPer x (j, d, u, o)))
    have hnc : ¬ 12 ≤ d 0 0 := by omega
    refine s_virI [.int (nI 5), .int (nI 1)] [] rfl lkX10_151 rfl rfl rfl (k_starts hx hb hT hC hk0) rfl rfl (Nat.le_refl _) (Nat.le_refl _) rfl ?_
    rintro _ _ ⟨m1, l1, rfl, rfl, t1, p1⟩
    refine m_mz (L' := [(53, m1)]) (M' := [(53, l1)]) rfl rfl ?_
    have F1 := FE_k hF p1
    refine n_if_ne (tgt := 28) rfl rfl (by decide) (fun _ => ?_) (fun hq => absurd hq (by decide))
    refine r_aload_n rfl rfl ?_
    refine s_getI (x := nI (mt (tK x (tE x j)))) rfl flX10_123 rfl rfl t1.2.2.2.1 ?_
    refine n_iconst 1 rfl ?_
    refine n_icmp_eq (tgt := 42) rfl rfl (by omega) (by omega) (fun h2 => ?_) (fun h2 => ?_)
    · have hk1 := hm11.mp h2
      have hw := wl_ok hk1
      have hnl := nmd_le u (d 0 0) (wl x (tE x j))
      have hEg2 := tE_j x (tE x j)
      have hE2 : tE x (tE x j) ≤ x.1 := tE_le (by omega)
      refine r_aload_n rfl rfl ?_
      refine s_getR (r := 57) rfl flX10_20 rfl rfl ?_
      refine r_iload_n rfl rfl ?_
      refine r_aload_n rfl rfl ?_
      refine s_getL (x := lN (w256 (wl x (tE x j)) 0)) rfl flX10_102 rfl rfl (t1.2.2.2.2.2 hk1) ?_
      refine m_last (M' := [(53, l1), (57, (aup (σ.2 57) (d 0 0) (lN (w256 (wl x (tE x j)) 0))))]) rfl rfl (by omega) rfl ?_
      refine r_aload_n rfl rfl ?_
      refine n_iconst 2 rfl ?_
      refine r_aload_n rfl rfl ?_
      refine s_getR (r := 57) rfl flX10_20 rfl rfl ?_
      refine r_iload_n rfl rfl ?_
      refine r_aload_n rfl rfl ?_
      refine s_getL (x := lN (w256 (wl x (tE x j)) 0)) rfl flX10_102 rfl rfl (t1.2.2.2.2.2 hk1) ?_
      refine s_staI [.ref 57, .int (nI (d 0 0)), .long (lN (w256 (wl x (tE x j)) 0))] [.int (nI 2), .ref 53] rfl lkX10_162 (k_named_57 (by omega) (NM2_lt hN) (fun p hp => w256_lt (hu p hp)) (w256_lt hw)) rfl rfl (Nat.le_refl _) (Nat.le_refl _) rfl (rI (e1 := oI (nmd u (d 0 0) (wl x (tE x j)))) (by rw [nmd_256 hu hw]) ?_)
      refine n_m1 rfl ?_
      suffices K : Ws (true, l9) sc mX10_personLine 0 0 0 0 75 [(1, .int (nI (d 0 0))), (0, .ref 53)] [.int (nI (tb (decide (nmd u (d 0 0) (wl x (tE x j)) = 0)))), .int (nI 2), .ref 53] (mz σ [(53, m1)] [(53, l1), (57, (aup (σ.2 57) (d 0 0) (lN (w256 (wl x (tE x j)) 0))))]) (RI fun v σ' => v = nI (tb ((sPer x (j, d, u, o)).1 == 0)) ∧ FrQ σ σ' ∧ MW σ' x (sPer x (j, d, u, o))) by
        refine r_icmp_ne (tgt := 74) rfl rfl (fun h3 => ?_) (fun h3 => ?_)
        · refine n_iconst 0 rfl ?_
          exact r_top (by rw [decide_eq_false (oI_nz h3)]; rfl) K
        · refine n_iconst 1 rfl ?_
          refine r_goto (tgt := 75) rfl rfl ?_
          exact r_top (by rw [decide_eq_true (oI_z (by omega) h3)]; rfl) K
      by_cases hc8 : nmd u (d 0 0) (wl x (tE x j)) = 0
      · rw [decide_eq_true hc8]
        show Ws (true, l9) sc mX10_personLine 0 0 0 0 75 [(1, .int (nI (d 0 0))), (0, .ref 53)] [.int (nI 1), .int (nI 2), .ref 53] (mz σ [(53, m1)] [(53, l1), (57, (aup (σ.2 57) (d 0 0) (lN (w256 (wl x (tE x j)) 0))))]) (RI fun v σ' => v = nI (tb ((sPer x (j, d, u, o)).1 == 0)) ∧ FrQ σ σ' ∧ MW σ' x (sPer x (j, d, u, o)))
        have eT : sPer x (j, d, u, o) = pst2 x (tE x (tE x j)) (wl x (tE x j)) d u o := (if_neg hnc).trans ((if_neg (fun z => z hk1)).trans (if_neg (fun z => z hc8)))
        refine s_virI [.int (nI 2), .int (nI 1)] [] rfl lkX10_151 rfl rfl rfl (k_starts hx hb hT t1 (by omega)) rfl rfl (Nat.le_refl _) (Nat.le_refl _) rfl ?_
        rintro _ _ ⟨m2, l2, rfl, rfl, t2, p2⟩
        refine m_mz (L' := [(53, m2)]) (M' := [(53, l2), (57, (aup (σ.2 57) (d 0 0) (lN (w256 (wl x (tE x j)) 0))))]) rfl rfl ?_
        have F2 := FE_k F1 p2
        refine n_if_ne (tgt := 83) rfl rfl (by decide) (fun _ => ?_) (fun hq => absurd hq (by decide))
        refine n_bipush 10 rfl (by decide) ?_
        refine n_iconst 4 rfl ?_
        refine r_iload_n rfl rfl ?_
        refine n_imul rfl ?_
        refine n_iadd rfl ?_
        refine r_istore_n (lv' := [(2, .int (nI (10 + (4 * (d 0 0))))), (1, .int (nI (d 0 0))), (0, .ref 53)]) rfl rfl (Nat.le_of_ble_eq_true rfl) rfl ?_
        refine r_aload_n rfl rfl ?_
        refine s_getR (r := 55) rfl flX10_13 rfl rfl ?_
        refine r_iload_n rfl rfl ?_
        refine n_m1 rfl ?_
        refine m_iast (L' := [(53, m2), (55, (aup (σ.1 55) (10 + (4 * (d 0 0))) (-1)))]) rfl rfl (by omega) rfl ?_
        refine r_aload_n rfl rfl ?_
        refine s_getR (r := 55) rfl flX10_13 rfl rfl ?_
        refine r_iload_n rfl rfl ?_
        refine n_iconst 1 rfl ?_
        refine n_iadd rfl ?_
        refine n_bipush 50 rfl (by decide) ?_
        refine m_iast (L' := [(53, m2), (55, (aup (aup (σ.1 55) (10 + (4 * (d 0 0))) (-1)) ((10 + (4 * (d 0 0))) + 1) (nI 50)))]) rfl rfl (by omega) rfl ?_
        refine r_aload_n rfl rfl ?_
        refine r_ldcS (i := 27) rfl rfl ?_
        refine s_virI [.retAddr 27] [] rfl lkX10_168 rfl rfl rfl (k_isWord sq27 sv27 hx hb hT t2) rfl rfl (Nat.le_refl _) (Nat.le_refl _) rfl (rI (e1 := nI (tb (iw x (tE x (tE x j)) Wunder))) rfl ?_)
        have hbunder := tb_le (iw x (tE x (tE x j)) Wunder)
        have hM0 : MR ((aup (aup (σ.1 55) (10 + (4 * (d 0 0))) (-1)) ((10 + (4 * (d 0 0))) + 1) (nI 50))) (up (up d 1 (d 0 0) 0) 2 (d 0 0) 50) := MRup (MRup hM (by omega) (mPp (w := 0) (by omega) (by decide)) oI_0.symm) (by omega) (mPp (w := 1) (by omega) (by decide)) rfl
        have hN1 : NM2 ((aup (σ.2 57) (d 0 0) (lN (w256 (wl x (tE x j)) 0)))) (d 0 0 + 1) (aup u (d 0 0) (wl x (tE x j))) := NM2_up hN
        refine n_if_eq (tgt := 131) rfl rfl (by omega) (fun h4 => ?_) (fun h4 => ?_)
        · have eU : unr x (tE x (tE x j)) d u = (0, tE x (tE x j), 0) := if_neg (by rw [tb_z h4]; decide)
          have hzU : (unr x (tE x (tE x j)) d u).1 = 0 := by rw [eU]
          have cU : MT m2 l2 x (unr x (tE x (tE x j)) d u).2.1 := by rw [eU]; exact t2
          have wU := unr_fw (x := x) (d := d) (u := u) hE2 hzU
          refine r_aload_n rfl rfl ?_
          refine r_ldcS (i := 28) rfl rfl ?_
          refine s_virI [.retAddr 28] [] rfl lkX10_168 rfl rfl rfl (k_isWord sq28 sv28 hx hb hT cU) rfl rfl (Nat.le_refl _) (Nat.le_refl _) rfl (rI (e1 := nI (tb (iw x ((unr x (tE x (tE x j)) d u).2.1) Wage))) rfl ?_)
          have hbage := tb_le (iw x ((unr x (tE x (tE x j)) d u).2.1) Wage)
          refine n_if_eq (tgt := 159) rfl rfl (by omega) (fun h5 => ?_) (fun h5 => ?_)
          · have eA : agr x (unr x (tE x (tE x j)) d u).2.1 = (0, (unr x (tE x (tE x j)) d u).2.1, 50) := if_neg (by rw [tb_z h5]; decide)
            have hzA : (agr x (unr x (tE x (tE x j)) d u).2.1).1 = 0 := by rw [eA]
            have cA : MT (m2) (l2) x (agr x (unr x (tE x (tE x j)) d u).2.1).2.1 := by rw [eA]; exact cU
            refine r_aload_n rfl rfl ?_
            refine r_iload_n rfl rfl ?_
            refine r_iload_n rfl rfl ?_
            have wA := agr_fw (x := x) wU.2.1 hzA
            have hMM : MR ((aup (aup (σ.1 55) (10 + (4 * (d 0 0))) (-1)) ((10 + (4 * (d 0 0))) + 1) (nI 50))) (up (up d 1 (d 0 0) (unr x (tE x (tE x j)) d u).2.2) 2 (d 0 0) (agr x (unr x (tE x (tE x j)) d u).2.1).2.2) := by rw [eA]; exact (by rw [eU]; exact hM0 : MR _ (up (up d 1 (d 0 0) (unr x (tE x (tE x j)) d u).2.2) 2 (d 0 0) 50))
            have hFQ : FrQ σ (mz σ [(53, m2), (55, (aup (aup (σ.1 55) (10 + (4 * (d 0 0))) (-1)) ((10 + (4 * (d 0 0))) + 1) (nI 50)))] [(53, l2), (57, (aup (σ.2 57) (d 0 0) (lN (w256 (wl x (tE x j)) 0))))]) := FrQ_mz rfl rfl (fun k hk => (p2.Q k hk).trans (p1.Q k hk))
            refine s_virI [.int (nI (d 0 0)), .int (nI (10 + (4 * (d 0 0))))] [] rfl lkX10_180 rfl rfl rfl (k_endP (j := (agr x (unr x (tE x (tE x j)) d u).2.1).2.1) (q := (unr x (tE x (tE x j)) d u).2.2) (d := up (up d 1 (d 0 0) (unr x (tE x (tE x j)) d u).2.2) 2 (d 0 0) (agr x (unr x (tE x (tE x j)) d u).2.1).2.2) (u := aup u (d 0 0) (wl x (tE x j))) (o := o) hx hb hT cA hMM hN1 F2 (by omega) ((up_n1 _ _ (by decide)).trans (up_n1 _ _ (by decide))) ((up_n1 _ _ (by decide)).trans (up_s _ _ _ _)) (by omega) (by rw [up_n1 _ _ (by decide), up_n1 _ _ (by decide)]; omega)) rfl rfl (Nat.le_refl _) (Nat.le_refl _) rfl ?_
            rintro _ σ9 ⟨rfl, hF9, hR9⟩
            have e9 := eT.trans ((if_neg (fun z => z hzU)).trans (if_neg (fun z => z hzA)))
            exact s_ret (st := []) rfl rfl (nar_tb _) (Nat.zero_le _) (Nat.zero_le _) (⟨_, rfl, by rw [e9]; rfl, hFQ.tr hF9, by rw [e9]; exact hR9⟩)
          · have hiw5 := tb_ne h5
            have eA : agr x (unr x (tE x (tE x j)) d u).2.1 = nu x (tE x (unr x (tE x (tE x j)) d u).2.1) 0 120 := if_pos hiw5
            refine r_aload_n rfl rfl ?_
            refine s_virV [] [] rfl lkX10_145 rfl rfl rfl (k_adv hx hb hT cU.1 (cU.2.2.1 (by rw [iw_1 hiw5]; decide)) (iw_E hiw5)) rfl rfl (Nat.le_refl _) (Nat.le_refl _) rfl ?_
            rintro _ ⟨m5, l5, rfl, t5, s5, y5⟩
            refine m_mz (L' := [(53, m5), (55, (aup (aup (σ.1 55) (10 + (4 * (d 0 0))) (-1)) ((10 + (4 * (d 0 0))) + 1) (nI 50)))]) (M' := [(53, l5), (57, (aup (σ.2 57) (d 0 0) (lN (w256 (wl x (tE x j)) 0))))]) rfl rfl ?_
            have p5 : KP m5 _ := fun k a b c d _ => s5 k a b c d
            have F5 := FE_k F2 p5
            refine r_aload_n rfl rfl ?_
            refine r_iload_n rfl rfl ?_
            refine n_iconst 1 rfl ?_
            refine n_iadd rfl ?_
            refine n_iconst 0 rfl ?_
            refine n_bipush 120 rfl (by decide) ?_
            refine s_virI [.int (nI ((10 + (4 * (d 0 0))) + 1)), .int (nI 0), .int (nI 120)] [] rfl lkX10_177 rfl rfl rfl (k_lays (b := 10 + 4 * d 0 0 + 1) (l := 0) (m := 120) hx hb hT t5 F5.1 (by omega) (by omega) (by omega)) rfl rfl (Nat.le_refl _) (Nat.le_refl _) rfl ?_
            rintro _ _ ⟨m6, e6, l6, rfl, rfl, r6⟩
            refine m_mz (L' := [(53, m6), (55, e6)]) (M' := [(53, l6), (57, (aup (σ.2 57) (d 0 0) (lN (w256 (wl x (tE x j)) 0))))]) rfl rfl ?_
            have hb6 := tb_le ((nu x (tE x (unr x (tE x (tE x j)) d u).2.1) 0 120).1 == 0)
            refine n_if_ne (tgt := 159) rfl rfl (by omega) (fun hh6 => ?_) (fun hh6 => ?_)
            · have hz6 := tbq_y hh6
              obtain ⟨t6, q6, p6⟩ := r6.1 hz6
              have F6 := FE_k F5 p6
              have hzA : (agr x (unr x (tE x (tE x j)) d u).2.1).1 = 0 := by rw [eA]; exact hz6
              have cA : MT m6 l6 x (agr x (unr x (tE x (tE x j)) d u).2.1).2.1 := by rw [eA]; exact t6
              refine r_aload_n rfl rfl ?_
              refine r_iload_n rfl rfl ?_
              refine r_iload_n rfl rfl ?_
              have wA := agr_fw (x := x) wU.2.1 hzA
              have hMM : MR (e6) (up (up d 1 (d 0 0) (unr x (tE x (tE x j)) d u).2.2) 2 (d 0 0) (agr x (unr x (tE x (tE x j)) d u).2.1).2.2) := by show MR e6 _; rw [q6, eA]; exact MR_e (MRup (by rw [eU]; exact hM0 : MR _ (up (up d 1 (d 0 0) (unr x (tE x (tE x j)) d u).2.2) 2 (d 0 0) 50)) (by omega) (mPp (w := 1) (by omega) (by decide)) rfl) (up_up _ _ _ _ _)
              have hFQ : FrQ σ (mz σ [(53, m6), (55, e6)] [(53, l6), (57, (aup (σ.2 57) (d 0 0) (lN (w256 (wl x (tE x j)) 0))))]) := FrQ_mz rfl rfl (fun k hk => (p6.Q k hk).trans ((p5.Q k hk).trans ((fun k hk => (p2.Q k hk).trans (p1.Q k hk)) k hk)))
              refine s_virI [.int (nI (d 0 0)), .int (nI (10 + (4 * (d 0 0))))] [] rfl lkX10_180 rfl rfl rfl (k_endP (j := (agr x (unr x (tE x (tE x j)) d u).2.1).2.1) (q := (unr x (tE x (tE x j)) d u).2.2) (d := up (up d 1 (d 0 0) (unr x (tE x (tE x j)) d u).2.2) 2 (d 0 0) (agr x (unr x (tE x (tE x j)) d u).2.1).2.2) (u := aup u (d 0 0) (wl x (tE x j))) (o := o) hx hb hT cA hMM hN1 F6 (by omega) ((up_n1 _ _ (by decide)).trans (up_n1 _ _ (by decide))) ((up_n1 _ _ (by decide)).trans (up_s _ _ _ _)) (by omega) (by rw [up_n1 _ _ (by decide), up_n1 _ _ (by decide)]; omega)) rfl rfl (Nat.le_refl _) (Nat.le_refl _) rfl ?_
              rintro _ σ9 ⟨rfl, hF9, hR9⟩
              have e9 := eT.trans ((if_neg (fun z => z hzU)).trans (if_neg (fun z => z hzA)))
              exact s_ret (st := []) rfl rfl (nar_tb _) (Nat.zero_le _) (Nat.zero_le _) (⟨_, rfl, by rw [e9]; rfl, hFQ.tr hF9, by rw [e9]; exact hR9⟩)
            · have hn6 := tbq_n hh6
              refine n_iconst 0 rfl ?_
              have e9 : sPer x (j, d, u, o) = ((nu x (tE x (unr x (tE x (tE x j)) d u).2.1) 0 120).1, (nu x (tE x (unr x (tE x (tE x j)) d u).2.1) 0 120).2.1, d, u, o) := by rw [← eA]; exact eT.trans ((if_neg (fun z => z hzU)).trans (if_pos (by rw [eA]; exact hn6)))
              exact s_ret (st := []) rfl rfl rfl (Nat.zero_le _) (Nat.zero_le _) (⟨_, rfl, by rw [e9]; exact tb_no hn6, FrQ_mz rfl rfl (fun k hk => ((r6.2 hn6).2 k hk).trans ((fun k hk => (p5.Q k hk).trans ((fun k hk => (p2.Q k hk).trans (p1.Q k hk)) k hk)) k hk)), by rw [e9]; exact MW_no hn6 (r6.2 hn6).1⟩)
        · have hiw4 := tb_ne h4
          have eU : unr x (tE x (tE x j)) d u = kp x (tE x (tE x (tE x j))) (d 0 0) u (d 0 5) := if_pos hiw4
          refine r_aload_n rfl rfl ?_
          refine s_virV [] [] rfl lkX10_145 rfl rfl rfl (k_adv hx hb hT t2.1 (t2.2.2.1 (by rw [iw_1 hiw4]; decide)) (iw_E hiw4)) rfl rfl (Nat.le_refl _) (Nat.le_refl _) rfl ?_
          rintro _ ⟨m3, l3, rfl, t3, s3, y3⟩
          refine m_mz (L' := [(53, m3), (55, (aup (aup (σ.1 55) (10 + (4 * (d 0 0))) (-1)) ((10 + (4 * (d 0 0))) + 1) (nI 50)))]) (M' := [(53, l3), (57, (aup (σ.2 57) (d 0 0) (lN (w256 (wl x (tE x j)) 0))))]) rfl rfl ?_
          have p3 : KP m3 _ := fun k a b c d _ => s3 k a b c d
          have F3 := FE_k F2 p3
          refine r_aload_n rfl rfl ?_
          refine r_iload_n rfl rfl ?_
          refine n_iconst 1 rfl ?_
          refine s_virI [.int (nI (10 + (4 * (d 0 0)))), .int (nI 1)] [] rfl lkX10_172 rfl rfl rfl (k_laysPerson_1 (b := 10 + 4 * d 0 0) (d := d) hx hb hT t3 F3.1 (by show ((aup (aup (σ.1 55) (10 + (4 * (d 0 0))) (-1)) ((10 + (4 * (d 0 0))) + 1) (nI 50))) 0 = _; rw [aup_n _ _ (by omega), aup_n _ _ (by omega)]; exact MRat hM 0 0 (by decide) (by decide)) (by show ((aup (aup (σ.1 55) (10 + (4 * (d 0 0))) (-1)) ((10 + (4 * (d 0 0))) + 1) (nI 50))) 5 = _; rw [aup_n _ _ (by omega), aup_n _ _ (by omega)]; exact MRat hM 0 5 (by decide) (by decide)) (by omega) (by omega) (NM2_lt hN) hu (by omega)) rfl rfl (Nat.le_refl _) (Nat.le_refl _) rfl ?_
          rintro _ _ ⟨m4, e4, l4, rfl, rfl, r4⟩
          refine m_mz (L' := [(53, m4), (55, e4)]) (M' := [(53, l4), (57, (aup (σ.2 57) (d 0 0) (lN (w256 (wl x (tE x j)) 0))))]) rfl rfl ?_
          have hb4 := tb_le ((kp x (tE x (tE x (tE x j))) (d 0 0) u (d 0 5)).1 == 0)
          refine n_if_ne (tgt := 131) rfl rfl (by omega) (fun hh4 => ?_) (fun hh4 => ?_)
          · have hz4 := tbq_y hh4
            obtain ⟨t4, q4, p4⟩ := r4.1 hz4
            have F4 := FE_k F3 p4
            have hzU : (unr x (tE x (tE x j)) d u).1 = 0 := by rw [eU]; exact hz4
            have cU : MT m4 l4 x (unr x (tE x (tE x j)) d u).2.1 := by rw [eU]; exact t4
            have hM4 : MR e4 (up (up d 1 (d 0 0) (unr x (tE x (tE x j)) d u).2.2) 2 (d 0 0) 50) := by rw [q4, eU]; exact MR_e (MRup hM0 (by omega) (mPp (w := 0) (by omega) (by decide)) rfl) (by rw [up_cm (d := up d 1 (d 0 0) 0) (Or.inl (by decide)), up_up])
            have wU := unr_fw (x := x) (d := d) (u := u) hE2 hzU
            refine r_aload_n rfl rfl ?_
            refine r_ldcS (i := 28) rfl rfl ?_
            refine s_virI [.retAddr 28] [] rfl lkX10_168 rfl rfl rfl (k_isWord sq28 sv28 hx hb hT cU) rfl rfl (Nat.le_refl _) (Nat.le_refl _) rfl (rI (e1 := nI (tb (iw x ((unr x (tE x (tE x j)) d u).2.1) Wage))) rfl ?_)
            have hbage := tb_le (iw x ((unr x (tE x (tE x j)) d u).2.1) Wage)
            refine n_if_eq (tgt := 159) rfl rfl (by omega) (fun h5 => ?_) (fun h5 => ?_)
            · have eA : agr x (unr x (tE x (tE x j)) d u).2.1 = (0, (unr x (tE x (tE x j)) d u).2.1, 50) := if_neg (by rw [tb_z h5]; decide)
              have hzA : (agr x (unr x (tE x (tE x j)) d u).2.1).1 = 0 := by rw [eA]
              have cA : MT (m4) (l4) x (agr x (unr x (tE x (tE x j)) d u).2.1).2.1 := by rw [eA]; exact cU
              refine r_aload_n rfl rfl ?_
              refine r_iload_n rfl rfl ?_
              refine r_iload_n rfl rfl ?_
              have wA := agr_fw (x := x) wU.2.1 hzA
              have hMM : MR (e4) (up (up d 1 (d 0 0) (unr x (tE x (tE x j)) d u).2.2) 2 (d 0 0) (agr x (unr x (tE x (tE x j)) d u).2.1).2.2) := by rw [eA]; exact hM4
              have hFQ : FrQ σ (mz σ [(53, m4), (55, e4)] [(53, l4), (57, (aup (σ.2 57) (d 0 0) (lN (w256 (wl x (tE x j)) 0))))]) := FrQ_mz rfl rfl (fun k hk => (p4.Q k hk).trans ((p3.Q k hk).trans ((p2.Q k hk).trans (p1.Q k hk))))
              refine s_virI [.int (nI (d 0 0)), .int (nI (10 + (4 * (d 0 0))))] [] rfl lkX10_180 rfl rfl rfl (k_endP (j := (agr x (unr x (tE x (tE x j)) d u).2.1).2.1) (q := (unr x (tE x (tE x j)) d u).2.2) (d := up (up d 1 (d 0 0) (unr x (tE x (tE x j)) d u).2.2) 2 (d 0 0) (agr x (unr x (tE x (tE x j)) d u).2.1).2.2) (u := aup u (d 0 0) (wl x (tE x j))) (o := o) hx hb hT cA hMM hN1 F4 (by omega) ((up_n1 _ _ (by decide)).trans (up_n1 _ _ (by decide))) ((up_n1 _ _ (by decide)).trans (up_s _ _ _ _)) (by omega) (by rw [up_n1 _ _ (by decide), up_n1 _ _ (by decide)]; omega)) rfl rfl (Nat.le_refl _) (Nat.le_refl _) rfl ?_
              rintro _ σ9 ⟨rfl, hF9, hR9⟩
              have e9 := eT.trans ((if_neg (fun z => z hzU)).trans (if_neg (fun z => z hzA)))
              exact s_ret (st := []) rfl rfl (nar_tb _) (Nat.zero_le _) (Nat.zero_le _) (⟨_, rfl, by rw [e9]; rfl, hFQ.tr hF9, by rw [e9]; exact hR9⟩)
            · have hiw5 := tb_ne h5
              have eA : agr x (unr x (tE x (tE x j)) d u).2.1 = nu x (tE x (unr x (tE x (tE x j)) d u).2.1) 0 120 := if_pos hiw5
              refine r_aload_n rfl rfl ?_
              refine s_virV [] [] rfl lkX10_145 rfl rfl rfl (k_adv hx hb hT cU.1 (cU.2.2.1 (by rw [iw_1 hiw5]; decide)) (iw_E hiw5)) rfl rfl (Nat.le_refl _) (Nat.le_refl _) rfl ?_
              rintro _ ⟨m5, l5, rfl, t5, s5, y5⟩
              refine m_mz (L' := [(53, m5), (55, e4)]) (M' := [(53, l5), (57, (aup (σ.2 57) (d 0 0) (lN (w256 (wl x (tE x j)) 0))))]) rfl rfl ?_
              have p5 : KP m5 _ := fun k a b c d _ => s5 k a b c d
              have F5 := FE_k F4 p5
              refine r_aload_n rfl rfl ?_
              refine r_iload_n rfl rfl ?_
              refine n_iconst 1 rfl ?_
              refine n_iadd rfl ?_
              refine n_iconst 0 rfl ?_
              refine n_bipush 120 rfl (by decide) ?_
              refine s_virI [.int (nI ((10 + (4 * (d 0 0))) + 1)), .int (nI 0), .int (nI 120)] [] rfl lkX10_177 rfl rfl rfl (k_lays (b := 10 + 4 * d 0 0 + 1) (l := 0) (m := 120) hx hb hT t5 F5.1 (by omega) (by omega) (by omega)) rfl rfl (Nat.le_refl _) (Nat.le_refl _) rfl ?_
              rintro _ _ ⟨m6, e6, l6, rfl, rfl, r6⟩
              refine m_mz (L' := [(53, m6), (55, e6)]) (M' := [(53, l6), (57, (aup (σ.2 57) (d 0 0) (lN (w256 (wl x (tE x j)) 0))))]) rfl rfl ?_
              have hb6 := tb_le ((nu x (tE x (unr x (tE x (tE x j)) d u).2.1) 0 120).1 == 0)
              refine n_if_ne (tgt := 159) rfl rfl (by omega) (fun hh6 => ?_) (fun hh6 => ?_)
              · have hz6 := tbq_y hh6
                obtain ⟨t6, q6, p6⟩ := r6.1 hz6
                have F6 := FE_k F5 p6
                have hzA : (agr x (unr x (tE x (tE x j)) d u).2.1).1 = 0 := by rw [eA]; exact hz6
                have cA : MT m6 l6 x (agr x (unr x (tE x (tE x j)) d u).2.1).2.1 := by rw [eA]; exact t6
                refine r_aload_n rfl rfl ?_
                refine r_iload_n rfl rfl ?_
                refine r_iload_n rfl rfl ?_
                have wA := agr_fw (x := x) wU.2.1 hzA
                have hMM : MR (e6) (up (up d 1 (d 0 0) (unr x (tE x (tE x j)) d u).2.2) 2 (d 0 0) (agr x (unr x (tE x (tE x j)) d u).2.1).2.2) := by show MR e6 _; rw [q6, eA]; exact MR_e (MRup hM4 (by omega) (mPp (w := 1) (by omega) (by decide)) rfl) (up_up _ _ _ _ _)
                have hFQ : FrQ σ (mz σ [(53, m6), (55, e6)] [(53, l6), (57, (aup (σ.2 57) (d 0 0) (lN (w256 (wl x (tE x j)) 0))))]) := FrQ_mz rfl rfl (fun k hk => (p6.Q k hk).trans ((p5.Q k hk).trans ((fun k hk => (p4.Q k hk).trans ((p3.Q k hk).trans ((p2.Q k hk).trans (p1.Q k hk)))) k hk)))
                refine s_virI [.int (nI (d 0 0)), .int (nI (10 + (4 * (d 0 0))))] [] rfl lkX10_180 rfl rfl rfl (k_endP (j := (agr x (unr x (tE x (tE x j)) d u).2.1).2.1) (q := (unr x (tE x (tE x j)) d u).2.2) (d := up (up d 1 (d 0 0) (unr x (tE x (tE x j)) d u).2.2) 2 (d 0 0) (agr x (unr x (tE x (tE x j)) d u).2.1).2.2) (u := aup u (d 0 0) (wl x (tE x j))) (o := o) hx hb hT cA hMM hN1 F6 (by omega) ((up_n1 _ _ (by decide)).trans (up_n1 _ _ (by decide))) ((up_n1 _ _ (by decide)).trans (up_s _ _ _ _)) (by omega) (by rw [up_n1 _ _ (by decide), up_n1 _ _ (by decide)]; omega)) rfl rfl (Nat.le_refl _) (Nat.le_refl _) rfl ?_
                rintro _ σ9 ⟨rfl, hF9, hR9⟩
                have e9 := eT.trans ((if_neg (fun z => z hzU)).trans (if_neg (fun z => z hzA)))
                exact s_ret (st := []) rfl rfl (nar_tb _) (Nat.zero_le _) (Nat.zero_le _) (⟨_, rfl, by rw [e9]; rfl, hFQ.tr hF9, by rw [e9]; exact hR9⟩)
              · have hn6 := tbq_n hh6
                refine n_iconst 0 rfl ?_
                have e9 : sPer x (j, d, u, o) = ((nu x (tE x (unr x (tE x (tE x j)) d u).2.1) 0 120).1, (nu x (tE x (unr x (tE x (tE x j)) d u).2.1) 0 120).2.1, d, u, o) := by rw [← eA]; exact eT.trans ((if_neg (fun z => z hzU)).trans (if_pos (by rw [eA]; exact hn6)))
                exact s_ret (st := []) rfl rfl rfl (Nat.zero_le _) (Nat.zero_le _) (⟨_, rfl, by rw [e9]; exact tb_no hn6, FrQ_mz rfl rfl (fun k hk => ((r6.2 hn6).2 k hk).trans ((fun k hk => (p5.Q k hk).trans ((fun k hk => (p4.Q k hk).trans ((p3.Q k hk).trans ((p2.Q k hk).trans (p1.Q k hk)))) k hk)) k hk)), by rw [e9]; exact MW_no hn6 (r6.2 hn6).1⟩)
          · have hn4 := tbq_n hh4
            refine n_iconst 0 rfl ?_
            have e9 : sPer x (j, d, u, o) = ((kp x (tE x (tE x (tE x j))) (d 0 0) u (d 0 5)).1, (kp x (tE x (tE x (tE x j))) (d 0 0) u (d 0 5)).2.1, d, u, o) := by rw [← eU]; exact eT.trans (if_pos (by rw [eU]; exact hn4))
            exact s_ret (st := []) rfl rfl rfl (Nat.zero_le _) (Nat.zero_le _) (⟨_, rfl, by rw [e9]; exact tb_no hn4, FrQ_mz rfl rfl (fun k hk => ((r4.2 hn4).2 k hk).trans ((fun k hk => (p3.Q k hk).trans ((p2.Q k hk).trans (p1.Q k hk))) k hk)), by rw [e9]; exact MW_no hn4 (r4.2 hn4).1⟩)
      · rw [decide_eq_false hc8]
        show Ws (true, l9) sc mX10_personLine 0 0 0 0 75 [(1, .int (nI (d 0 0))), (0, .ref 53)] [.int (nI 0), .int (nI 2), .ref 53] (mz σ [(53, m1)] [(53, l1), (57, (aup (σ.2 57) (d 0 0) (lN (w256 (wl x (tE x j)) 0))))]) (RI fun v σ' => v = nI (tb ((sPer x (j, d, u, o)).1 == 0)) ∧ FrQ σ σ' ∧ MW σ' x (sPer x (j, d, u, o)))
        refine s_virI [.int (nI 2), .int (nI 0)] [] rfl lkX10_151 rfl rfl rfl (k_starts_no (j := tS x (tE x j)) F1.1 t1.2.1) rfl rfl (Nat.le_refl _) (Nat.le_refl _) rfl (rI (e1 := nI 0) rfl ?_)
        refine m_mz (L' := [(53, (aup (aup m1 13 (nI 2)) 14 (nI (tS x (tE x j)))))]) (M' := [(53, l1), (57, (aup (σ.2 57) (d 0 0) (lN (w256 (wl x (tE x j)) 0))))]) rfl rfl ?_
        refine n_if_ne (tgt := 83) rfl rfl (by decide) (fun hq => absurd hq (by decide)) (fun _ => ?_)
        refine n_iconst 0 rfl ?_
        have e9 : sPer x (j, d, u, o) = (2, tE x j, d, u, o) := (if_neg hnc).trans ((if_neg (fun z => z hk1)).trans (if_pos hc8))
        exact s_ret (st := []) rfl rfl rfl (Nat.zero_le _) (Nat.zero_le _) (⟨_, rfl, by rw [e9]; exact tb_nr rfl, FrQ_mz rfl rfl (fun k hk => KPq (KPq (fun i hi => p1.Q i hi) rfl) rfl k hk), by rw [e9]; exact MW_no (by decide) ⟨rfl, rfl⟩⟩)
    · refine r_aload_n rfl rfl ?_
      refine n_iconst 1 rfl ?_
      refine s_virI [.int (nI 1)] [] rfl lkX10_141 rfl rfl rfl (k_fails F1.1 t1.2.1) rfl rfl (Nat.le_refl _) (Nat.le_refl _) rfl (rI (e1 := nI 0) rfl ?_)
      refine m_mz (L' := [(53, (aup (aup m1 13 (nI 1)) 14 (nI (tS x (tE x j)))))]) (M' := [(53, l1)]) rfl rfl ?_
      have e9 : sPer x (j, d, u, o) = (1, tE x j, d, u, o) := (if_neg hnc).trans (if_pos (fun z => h2 (hm11.mpr z)))
      exact s_ret (st := []) rfl rfl rfl (Nat.zero_le _) (Nat.zero_le _) (⟨_, rfl, by rw [e9]; exact tb_nr rfl, FrQ_mz rfl rfl (fun k hk => KPq (KPq (fun i hi => p1.Q i hi) rfl) rfl k hk), by rw [e9]; exact MW_no (by decide) ⟨rfl, rfl⟩⟩)
  · rw [decide_eq_false hc9]
    show Ws (true, l9) sc mX10_personLine 0 0 0 0 20 [(1, .int (nI (d 0 0))), (0, .ref 53)] [.int (nI 0), .int (nI 5), .ref 53] (mz σ [] []) (RI fun v σ' => v = nI (tb ((sPer x (j, d, u, o)).1 == 0)) ∧ FrQ σ σ' ∧ MW σ' x (sPer x (j, d, u, o)))
    refine s_virI [.int (nI 5), .int (nI 0)] [] rfl lkX10_151 rfl rfl rfl (k_starts_no (j := tS x j) hF.1 hC.2.1) rfl rfl (Nat.le_refl _) (Nat.le_refl _) rfl (rI (e1 := nI 0) rfl ?_)
    refine m_mz (L' := [(53, (aup (aup (σ.1 53) 13 (nI 5)) 14 (nI (tS x j))))]) (M' := []) rfl rfl ?_
    refine n_if_ne (tgt := 28) rfl rfl (by decide) (fun hq => absurd hq (by decide)) (fun _ => ?_)
    refine n_iconst 0 rfl ?_
    have e9 : sPer x (j, d, u, o) = (5, j, d, u, o) := if_pos (by show 12 ≤ d 0 0; omega)
    exact s_ret (st := []) rfl rfl rfl (Nat.zero_le _) (Nat.zero_le _) (⟨_, rfl, by rw [e9]; exact tb_nr rfl, FrQ_mz rfl rfl (fun k hk => KPq (KPq (fun _ _ => rfl) rfl) rfl k hk), by rw [e9]; exact MW_no (by decide) ⟨rfl, rfl⟩⟩)

