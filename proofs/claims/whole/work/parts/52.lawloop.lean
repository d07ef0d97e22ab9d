theorem and31 (x : Int32) : ∃ t, t < 32 ∧ x &&& nI 31 = nI t := by
  refine ⟨(x &&& nI 31).toBitVec.toNat, ?_, ?_⟩
  · rw [Int32.toBitVec_and, BitVec.toNat_and]
    exact Nat.and_lt_two_pow (n := 5) _ (by decide)
  · apply Int32.toBitVec_inj.mp
    show _ = BitVec.ofNat 32 _
    rw [BitVec.ofNat_toNat, BitVec.setWidth_eq]
theorem sub_ge {a b g : Nat} (ha : a < 2147483648) (hb : b < 2147483648) (hg : g < 2147483648) (h : ¬ nI a - nI b < nI g) : g + b ≤ a := by
  by_cases e : b ≤ a
  · rw [nI_s e] at h
    have h3 : ¬ (a - b < g) := fun q => h ((nI_ltI (by omega) hg).mpr q)
    omega
  · refine absurd (Int32.lt_iff_toInt_lt.mpr ?_) h
    rw [Int32.toInt_sub, nI_toInt ha, nI_toInt hb, nI_toInt hg, Int.bmod_eq_of_le]
    · omega
    · omega
    · omega
set_option maxRecDepth 100000 in
theorem law_loop {sc : SC} {Q : Out → SS → Prop} (hL : sc.1 ≤ 3072) (hQ : ∀ σ, Q (.inl (some (.int (nI 1)))) σ) : ∀ (f : Nat) (σ : SS) (a : AB) (i k n : Nat), sc.1 < i + f → AV a → CI9 σ a → MI9 σ a → i ≤ sc.1 → 6 * k ≤ 462 + i → n ≤ 4931 + i → Ws (true, true) sc mL_law 1112 13189 k n 23 [(0, .retAddr 100), (1, .ref 0), (2, .ref 53), (3, .ref 76), (4, .int (nI i))] [] σ Q := by
  intro f
  induction f with
  | zero => intro σ a i k n h1 hA hI hM hi hk hn; exact absurd hi (by omega)
  | succ f ih =>
    intro σ a i k n h1 hA hI hM hi hk hn
    refine r_iload (x := nI i) rfl rfl ?_
    refine r_aload_nK rfl rfl (by decide) ?_
    refine r_slen rfl (by decide) ?_
    refine n_bipush 6 rfl (by decide) ?_
    refine r_isub rfl ?_
    refine r_icmp_gt (tgt := 1775) rfl rfl (fun _ => ?_) (fun h2 => ?_)
    · refine n_iconst 1 rfl ?_
      exact s_ret (st := []) rfl rfl rfl (by omega) (by omega) (hQ σ)
    · have hi2 : i + 6 ≤ sc.1 := sub_ge (by omega) (by decide) (by omega) h2
      have K : ∀ σ' a' k' n', AV a' → CI9 σ' a' → MI9 σ' a' → k' ≤ k + 1 → n' ≤ n + 6 → Ws (true, true) sc mL_law 1112 13189 k' n' 1769 [(0, .retAddr 100), (1, .ref 0), (2, .ref 53), (3, .ref 76), (4, .int (nI i))] [] σ' Q := by
        intro σ' a' k' n' hA' hI' hM' hk' hn'
        refine n_iinc (lv' := [(4, .int (nI (i + 6))), (0, .retAddr 100), (1, .ref 0), (2, .ref 53), (3, .ref 76)]) 6 rfl rfl (Nat.le_of_ble_eq_true rfl) rfl ?_
        refine r_goto (tgt := 23) rfl rfl ?_
        refine r_lv (lv' := [(0, .retAddr 100), (1, .ref 0), (2, .ref 53), (3, .ref 76), (4, .int (nI (i + 6)))]) [1, 2, 3, 4, 0] rfl ?_
        exact ih σ' a' (i + 6) k' n' (by omega) hA' hI' hM' (by omega) (by omega) (by omega)
      refine r_aload_nK rfl rfl (by decide) ?_
      refine r_iload (x := nI i) rfl rfl ?_
      refine r_sld (j := i) rfl (by decide) (by omega) (by omega) ?_
      refine n_bipush 31 rfl (by decide) ?_
      refine r_iand rfl ?_
      obtain ⟨t, ht, e⟩ := and31 (sc.2 i)
      rw [e]
      by_cases e0 : t = 0
      · rw [e0]
        refine r_tblIn (off := 136) (tgt := 176) rfl (by decide) (by decide) (by decide) rfl ?_
        exact law_append hA hI hM hi2 hL (by omega) (by omega) K
      by_cases e1 : t = 1
      · rw [e1]
        refine r_tblIn (off := 209) (tgt := 249) rfl (by decide) (by decide) (by decide) rfl ?_
        exact law_parse hA hI hM hi2 hL (by omega) (by omega) K
      by_cases e2 : t = 2
      · rw [e2]
        refine r_tblIn (off := 265) (tgt := 305) rfl (by decide) (by decide) (by decide) rfl ?_
        exact law_errorPosition hA hI hM hi2 hL (by omega) (by omega) K
      by_cases e3 : t = 3
      · rw [e3]
        refine r_tblIn (off := 278) (tgt := 318) rfl (by decide) (by decide) (by decide) rfl ?_
        exact law_size hA hI hM hi2 hL (by omega) (by omega) K
      by_cases e4 : t = 4
      · rw [e4]
        refine r_tblIn (off := 334) (tgt := 374) rfl (by decide) (by decide) (by decide) rfl ?_
        exact law_find hA hI hM hi2 hL (by omega) (by omega) K
      by_cases e5 : t = 5
      · rw [e5]
        refine r_tblIn (off := 347) (tgt := 387) rfl (by decide) (by decide) (by decide) rfl ?_
        exact law_person hA hI hM hi2 hL (by omega) (by omega) K
      by_cases e6 : t = 6
      · rw [e6]
        refine r_tblIn (off := 415) (tgt := 455) rfl (by decide) (by decide) (by decide) rfl ?_
        exact law_asset hA hI hM hi2 hL (by omega) (by omega) K
      by_cases e7 : t = 7
      · rw [e7]
        refine r_tblIn (off := 483) (tgt := 523) rfl (by decide) (by decide) (by decide) rfl ?_
        exact law_debt hA hI hM hi2 hL (by omega) (by omega) K
      by_cases e8 : t = 8
      · rw [e8]
        refine r_tblIn (off := 551) (tgt := 591) rfl (by decide) (by decide) (by decide) rfl ?_
        exact law_legacy hA hI hM hi2 hL (by omega) (by omega) K
      by_cases e9 : t = 9
      · rw [e9]
        refine r_tblIn (off := 619) (tgt := 659) rfl (by decide) (by decide) (by decide) rfl ?_
        exact law_account hA hI hM hi2 hL (by omega) (by omega) K
      by_cases e10 : t = 10
      · rw [e10]
        refine r_tblIn (off := 675) (tgt := 715) rfl (by decide) (by decide) (by decide) rfl ?_
        exact law_factor hA hI hM hi2 hL (by omega) (by omega) K
      by_cases e11 : t = 11
      · rw [e11]
        refine r_tblIn (off := 731) (tgt := 771) rfl (by decide) (by decide) (by decide) rfl ?_
        exact law_heirs hA hI hM hi2 hL (by omega) (by omega) K
      by_cases e12 : t = 12
      · rw [e12]
        refine r_tblIn (off := 744) (tgt := 784) rfl (by decide) (by decide) (by decide) rfl ?_
        exact law_leftOut hA hI hM hi2 hL (by omega) (by omega) K
      by_cases e13 : t = 13
      · rw [e13]
        refine r_tblIn (off := 757) (tgt := 797) rfl (by decide) (by decide) (by decide) rfl ?_
        exact law_isEmpty hA hI hM hi2 hL (by omega) (by omega) K
      by_cases e14 : t = 14
      · rw [e14]
        refine r_tblIn (off := 820) (tgt := 860) rfl (by decide) (by decide) (by decide) rfl ?_
        exact law_step hA hI hM hi2 hL (by omega) (by omega) K
      by_cases e15 : t = 15
      · rw [e15]
        refine r_tblIn (off := 888) (tgt := 928) rfl (by decide) (by decide) (by decide) rfl ?_
        exact law_given hA hI hM hi2 hL (by omega) (by omega) K
      by_cases e16 : t = 16
      · rw [e16]
        refine r_tblIn (off := 944) (tgt := 984) rfl (by decide) (by decide) (by decide) rfl ?_
        exact law_isBalanced hA hI hM hi2 hL (by omega) (by omega) K
      by_cases e17 : t = 17
      · rw [e17]
        refine r_tblIn (off := 957) (tgt := 997) rfl (by decide) (by decide) (by decide) rfl ?_
        exact law_givenIf hA hI hM hi2 hL (by omega) (by omega) K
      by_cases e18 : t = 18
      · rw [e18]
        refine r_tblIn (off := 1025) (tgt := 1065) rfl (by decide) (by decide) (by decide) rfl ?_
        exact law_helper hA hI hM hi2 hL (by omega) (by omega) K
      by_cases e19 : t = 19
      · rw [e19]
        refine r_tblIn (off := 1081) (tgt := 1121) rfl (by decide) (by decide) (by decide) rfl ?_
        exact law_tooMuch hA hI hM hi2 hL (by omega) (by omega) K
      by_cases e20 : t = 20
      · rw [e20]
        refine r_tblIn (off := 1137) (tgt := 1177) rfl (by decide) (by decide) (by decide) rfl ?_
        exact law_refuse hA hI hM hi2 hL (by omega) (by omega) K
      by_cases e21 : t = 21
      · rw [e21]
        refine r_tblIn (off := 1228) (tgt := 1268) rfl (by decide) (by decide) (by decide) rfl ?_
        exact law_die hA hI hM hi2 hL (by omega) (by omega) K
      by_cases e22 : t = 22
      · rw [e22]
        refine r_tblIn (off := 1284) (tgt := 1324) rfl (by decide) (by decide) (by decide) rfl ?_
        exact law_setAge hA hI hM hi2 hL (by omega) (by omega) K
      by_cases e23 : t = 23
      · rw [e23]
        refine r_tblIn (off := 1352) (tgt := 1392) rfl (by decide) (by decide) (by decide) rfl ?_
        exact law_addGift hA hI hM hi2 hL (by omega) (by omega) K
      by_cases e24 : t = 24
      · rw [e24]
        refine r_tblIn (off := 1420) (tgt := 1460) rfl (by decide) (by decide) (by decide) rfl ?_
        exact law_addDebt hA hI hM hi2 hL (by omega) (by omega) K
      by_cases e25 : t = 25
      · rw [e25]
        refine r_tblIn (off := 1488) (tgt := 1528) rfl (by decide) (by decide) (by decide) rfl ?_
        exact law_setValue hA hI hM hi2 hL (by omega) (by omega) K
      by_cases e26 : t = 26
      · rw [e26]
        refine r_tblIn (off := 1556) (tgt := 1596) rfl (by decide) (by decide) (by decide) rfl ?_
        exact law_setAccrue hA hI hM hi2 hL (by omega) (by omega) K
      by_cases e27 : t = 27
      · rw [e27]
        refine r_tblIn (off := 1597) (tgt := 1637) rfl (by decide) (by decide) (by decide) rfl ?_
        exact law_undo hA hI hM hi2 hL (by omega) (by omega) K
      by_cases e28 : t = 28
      · rw [e28]
        refine r_tblIn (off := 1610) (tgt := 1650) rfl (by decide) (by decide) (by decide) rfl ?_
        exact law_saveSnapshot hA hI hM hi2 hL (by omega) (by omega) K
      by_cases e29 : t = 29
      · rw [e29]
        refine r_tblIn (off := 1673) (tgt := 1713) rfl (by decide) (by decide) (by decide) rfl ?_
        exact law_restoreSnapshot hA hI hM hi2 hL (by omega) (by omega) K
      rcases (show t = 30 ∨ t = 31 by omega) with e30 | e31
      · rw [e30]
        refine r_tblOut (tgt := 1769) rfl (by decide) rfl ?_
        exact K σ a k n hA hI hM (by omega) (by omega)
      · rw [e31]
        refine r_tblOut (tgt := 1769) rfl (by decide) rfl ?_
        exact K σ a k n hA hI hM (by omega) (by omega)
set_option maxRecDepth 100000 in
theorem law_start {sc : SC} (hL : sc.1 ≤ 3072) : Wp sc mL_law 1112 13189 0 0 0 [(0, .retAddr 100)] [] (TB, 0, true) (fun r _ => r = .inl (some (.int (nI 1)))) := by
  refine r_new (V := dV 0 9 8) rfl ciX9 nwL_8.1 nwL_8.2.1 nwL_8.2.2 (dV_cv 0 9 8) rfl (by decide) (by decide) ?_
  show Wp sc mL_law 1112 13189 1 8 3 [(0, .retAddr 100)] [.ref 0] (aup TB 0 (.inr (.inr (9, dV 0 9 8))), 1, true) _
  refine r_dup rfl rfl ?_
  refine r_ini [] [.ref 0] rfl lkL_85 (n_X9_0 (B := TB) (fun i _ _ => rfl)) (fun ec S' q => nomatch q.1) rfl rfl (by decide) (by decide) ?_
  rintro r S' ⟨hr, σ1, rfl, hI1⟩
  cases hr
  show Wp sc mL_law 1112 13189 53 2302 7 [(0, .retAddr 100)] [.ref 0] (mkG (false, false) σ1, 53, true) _
  refine r_astore_n (lv' := [(1, .ref 0), (0, .retAddr 100)]) rfl rfl (Nat.le_of_ble_eq_true rfl) rfl ?_
  refine r_new (V := dV 53 10 36) rfl ciX10 nwL_86.1 nwL_86.2.1 nwL_86.2.2 (dV_cv 53 10 36) rfl (by decide) (by decide) ?_
  obtain ⟨σ2, e2⟩ : ∃ σ2 : SS, σ2 = (fun i => if i < 53 then σ1.1 i else s0.1 i, fun i => if i < 53 then σ1.2 i else s0.2 i) := ⟨_, rfl⟩
  have eA : ∀ i, i < 53 → σ2.1 i = σ1.1 i ∧ σ2.2 i = σ1.2 i := fun i hi => by rw [e2]; exact ⟨if_pos hi, if_pos hi⟩
  have eB : ∀ i, 53 ≤ i → i < 76 → σ2.1 i = s0.1 i ∧ σ2.2 i = s0.2 i := fun i hi _ => by rw [e2]; exact ⟨if_neg (by omega), if_neg (by omega)⟩
  refine Wp.congr (S' := (aup (mkG (true, true) σ2) 53 (.inr (.inr (10, dV 53 10 36))), 54, true)) rfl (fun i hi => ?_) ?_
  · show aup (mkG (true, true) σ2) 53 _ i = aup (mkG (false, false) σ1) 53 _ i
    have hi : i < 54 := hi
    by_cases e : i = 53
    · rw [e, aup_s, aup_s]
    · rw [aup_n _ _ e, aup_n _ _ e]
      exact (mkG_n (eA i (by omega)).1 (eA i (by omega)).2).trans (mk_zz (by omega))
  · show Wp sc mL_law 1112 13189 54 2338 11 [(1, .ref 0), (0, .retAddr 100)] [.ref 53] _ _
    refine r_dup rfl rfl ?_
    refine r_ini [] [.ref 53] rfl lkL_88 (n_X10_53 eB) (fun ec S' q => nomatch q.1) rfl rfl (by decide) (by decide) ?_
    rintro r S' ⟨hr, σ3, rfl, hF, hM3⟩
    cases hr
    have hI3 : CI9 σ3 a0 := CI9_fr hF.D (CI9_fr (fun o ho => eA o ho) hI1)
    show Wp sc mL_law 1112 13189 76 4930 15 [(1, .ref 0), (0, .retAddr 100)] [.ref 53] (mkG (true, false) σ3, 76, true) _
    refine r_astore_n (lv' := [(2, .ref 53), (1, .ref 0), (0, .retAddr 100)]) rfl rfl (Nat.le_of_ble_eq_true rfl) rfl ?_
    refine n_iconst 1 rfl ?_
    refine r_newa3 rfl ac_long (by decide) rfl (by decide) (by decide) ?_
    refine Wp.congr (S' := (mkG (true, true) (setL σ3 76 (fun _ => 0)), 77, true)) rfl (fun i hi => ?_) ?_
    · show mkG (true, true) (setL σ3 76 (fun _ => 0)) i = aup (mkG (true, false) σ3) 76 _ i
      have hi : i < 77 := hi
      by_cases e : i = 76
      · rw [e, aup_s]; exact (mkG_l (z := (true, true)) (o := 76) (nn := 1) rfl).trans (by rw [setL_s])
      · rw [aup_n _ _ e]
        exact (mkG_n (setL_n σ3 76 _ i e).1 (setL_n σ3 76 _ i e).2).trans (mk_76 (by omega)).symm
    · show Wp sc mL_law 1112 13189 77 4931 19 [(2, .ref 53), (1, .ref 0), (0, .retAddr 100)] [.ref 76] _ _
      refine r_astore_n (lv' := [(3, .ref 76), (2, .ref 53), (1, .ref 0), (0, .retAddr 100)]) rfl rfl (Nat.le_of_ble_eq_true rfl) rfl ?_
      refine n_iconst 0 rfl ?_
      refine r_istore (lv' := [(4, .int (nI 0)), (3, .ref 76), (2, .ref 53), (1, .ref 0), (0, .retAddr 100)]) rfl (Nat.le_of_ble_eq_true rfl) rfl ?_
      refine r_lv (lv' := [(0, .retAddr 100), (1, .ref 0), (2, .ref 53), (3, .ref 76), (4, .int (nI 0))]) [4, 3, 2, 1, 0] rfl ?_
      refine Wp.weak ?_
      exact Wp.mono (law_loop (Q := fun r _ => r = .inl (some (.int (nI 1)))) hL (fun _ => rfl) (sc.1 + 1) (setL σ3 76 (fun _ => 0)) a0 0 77 4931 (by omega) a0_ok (CI9_fr (fun o ho => setL_n σ3 76 _ o (by omega)) hI3) (MI9_fr (fun o h1 h2 => setL_n σ3 76 _ o (by omega)) hM3) (Nat.zero_le _) (by omega) (by omega)) (fun o S' ⟨σ', h1, h2⟩ => h2)
