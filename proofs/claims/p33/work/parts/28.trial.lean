theorem c_givenIfR {z : SZ} {sc : SC} {σ : SS} {q u : Nat} {a : AB} (hA : AV a) (hI : CI9 σ a) (hq : q < 12) (hu : u < 12) : Cs z sc mX9_givenIfRefused 0 0 [.ref 0, .int (nI q), .int (nI u)] σ (RI fun v σ' => v = gv (up (aD a) 4 u 1) q ∧ FrM σ σ' ∧ CI9 σ' a) := by
  refine Cs.of gmX9_givenIfRefused (Nat.le_of_ble_eq_true rfl) ?_
  show Ws z sc mX9_givenIfRefused 0 0 0 0 0 [(0, .ref 0), (1, .int (nI q)), (2, .int (nI u))] [] (mz σ [] []) (RI fun v σ' => v = gv (up (aD a) 4 u 1) q ∧ FrM σ σ' ∧ CI9 σ' a)
  have hV := hA.1
  have hC := vC hV
  have hS := hI.1.1.1
  have hE := hI.1.1.2
  have hSm := Smup (d := aD a) (a := 4) (i := u) (v := 1) rfl
  have hV2 : Vd (up (aD a) 4 u 1) := Vdup hV rfl ⟨fun z => absurd z (by decide), fun z => absurd z (by decide), fun _ => Nat.le_refl 1, fun z => absurd z (by decide), fun z => absurd z (by decide), fun z => absurd z (by decide), fun z => absurd z (by decide), fun z => absurd z (by decide), fun z => absurd z (by decide)⟩
  have hE2 := SmEE hSm hE
  refine r_aload_n rfl rfl ?_
  refine s_getR (r := 34) rfl flX9_37 rfl rfl ?_
  refine r_aload_n rfl rfl ?_
  refine s_getR (r := 18) rfl flX9_26 rfl rfl ?_
  refine s_virV [.ref 18] [] rfl lkX9_97 rfl rfl rfl c_copyS_34 rfl rfl (Nat.le_refl _) (Nat.le_refl _) rfl (rV ?_)
  refine m_mz (L' := [(35, (va_cpy (σ.1 19) (σ.1 35) 0 0 79))]) (M' := []) rfl rfl ?_
  refine r_aload_n rfl rfl ?_
  refine s_getR (r := 34) rfl flX9_37 rfl rfl ?_
  refine r_iload_n rfl rfl ?_
  refine n_iconst 1 rfl ?_
  refine s_virV [.int (nI u), .int (nI (tb true))] [] rfl lkX9_319 rfl rfl rfl (c_putRefusing_34 (b := true) (SRcpy hS) hu) rfl rfl (Nat.le_refl _) (Nat.le_refl _) rfl ?_
  rintro _ ⟨f35, rfl, h35⟩
  refine m_mz (L' := [(35, f35)]) (M' := []) rfl rfl ?_
  refine r_aload_n rfl rfl ?_
  refine s_getR (r := 36) rfl flX9_40 rfl rfl ?_
  refine r_aload_n rfl rfl ?_
  refine s_getR (r := 12) rfl flX9_19 rfl rfl ?_
  refine r_aload_n rfl rfl ?_
  refine s_getR (r := 34) rfl flX9_37 rfl rfl ?_
  refine s_virV [.ref 12, .ref 34] [] rfl lkX9_54 rfl rfl rfl (c_settle_B (d := up (aD a) 4 u 1) h35 hE2 hV2) rfl rfl (Nat.le_refl _) (Nat.le_refl _) rfl ?_
  rintro _ ⟨g0, g1, g2, g3, g4, g5, g6, g7, g8, g9, g10, g11, g12, g13, rfl, hSE⟩
  refine m_mz (L' := [(35, f35), (46, g13), (48, g12), (49, g11), (47, g10), (36, g9), (45, g8), (44, g7), (42, g6), (43, g5), (39, g4), (38, g3), (40, g2), (41, g1), (37, g0)]) (M' := []) rfl rfl ?_
  refine r_aload_n rfl rfl ?_
  refine s_getR (r := 36) rfl flX9_40 rfl rfl ?_
  refine r_aload_n rfl rfl ?_
  refine s_getR (r := 12) rfl flX9_19 rfl rfl ?_
  refine r_iload_n rfl rfl ?_
  refine s_virI [.ref 12, .int (nI q)] [] rfl lkX9_307 rfl rfl rfl (c_givenTo_B (d := up (aD a) 4 u 1) hE2 hV2 hSE hq) rfl rfl (Nat.le_refl _) (Nat.le_refl _) rfl (rI (e1 := gv (up (aD a) 4 u 1) q) rfl ?_)
  exact s_ret (st := []) rfl rfl rfl (Nat.zero_le _) (Nat.zero_le _) (⟨_, rfl, rfl, FrM_mz rfl rfl, hI⟩)

theorem c_givenIf {z : SZ} {sc : SC} {σ : SS} {q u : Nat} {a : AB} (hA : AV a) (hI : CI9 σ a) (hq : q < aD a 0 0) (hu : u < aD a 0 0) : Cs z sc mX9_givenIf 0 0 [.ref 0, .int (nI q), .int (nI u)] σ (RI fun v σ' => v = gv (up (aD a) 4 u 1) q ∧ FrM σ σ' ∧ CI9 σ' a) := by
  refine Cs.of gmX9_givenIf (Nat.le_of_ble_eq_true rfl) ?_
  show Ws z sc mX9_givenIf 0 0 0 0 0 [(0, .ref 0), (1, .int (nI q)), (2, .int (nI u))] [] (mz σ [] []) (RI fun v σ' => v = gv (up (aD a) 4 u 1) q ∧ FrM σ σ' ∧ CI9 σ' a)
  have hV := hA.1
  have hC := vC hV
  have hS := hI.1.1.1
  have hE := hI.1.1.2
  refine r_aload_n rfl rfl ?_
  refine r_iload_n rfl rfl ?_
  refine s_virV [.int (nI q)] [] rfl lkX9_153 rfl rfl rfl (c_reqPerson hE hV hq) rfl rfl (Nat.le_refl _) (Nat.le_refl _) rfl (rV ?_)
  refine r_aload_n rfl rfl ?_
  refine r_iload_n rfl rfl ?_
  refine s_virV [.int (nI u)] [] rfl lkX9_153 rfl rfl rfl (c_reqPerson hE hV hu) rfl rfl (Nat.le_refl _) (Nat.le_refl _) rfl (rV ?_)
  refine r_aload_n rfl rfl ?_
  refine r_iload_n rfl rfl ?_
  refine r_iload_n rfl rfl ?_
  refine s_virI [.int (nI q), .int (nI u)] [] rfl lkX9_311 rfl rfl rfl (c_givenIfR hA hI (by omega) (by omega)) rfl rfl (Nat.le_refl _) (Nat.le_refl _) rfl ?_
  rintro _ σ1 ⟨rfl, hF, hI2⟩
  exact s_ret (st := []) rfl rfl rfl (Nat.zero_le _) (Nat.zero_le _) (⟨_, rfl, rfl, hF, hI2⟩)

theorem c_helper {z : SZ} {sc : SC} {σ : SS} {q : Nat} {a : AB} (hA : AV a) (hI : CI9 σ a) (hq : q < aD a 0 0) : Cs z sc mX9_helper 0 0 [.ref 0, .int (nI q)] σ (RI fun v σ' => v = oI (hp9 (aD a) q (aD a 0 0)).1 ∧ FrM σ σ' ∧ CI9 σ' a) := by
  refine Cs.of gmX9_helper (Nat.le_of_ble_eq_true rfl) ?_
  show Ws z sc mX9_helper 0 0 0 0 0 [(0, .ref 0), (1, .int (nI q))] [] (mz σ [] []) (RI fun v σ' => v = oI (hp9 (aD a) q (aD a 0 0)).1 ∧ FrM σ σ' ∧ CI9 σ' a)
  have hV := hA.1
  have hC := vC hV
  have hS := hI.1.1.1
  have hE := hI.1.1.2
  refine r_aload_n rfl rfl ?_
  refine r_iload_n rfl rfl ?_
  refine s_virV [.int (nI q)] [] rfl lkX9_153 rfl rfl rfl (c_reqPerson hE hV hq) rfl rfl (Nat.le_refl _) (Nat.le_refl _) rfl (rV ?_)
  refine n_m1 rfl ?_
  refine r_istore_n (lv' := [(2, .int ((-1))), (0, .ref 0), (1, .int (nI q))]) rfl rfl (Nat.le_of_ble_eq_true rfl) rfl ?_
  refine r_aload_n rfl rfl ?_
  refine s_getR (r := 20) rfl flX9_33 rfl rfl ?_
  refine r_aload_n rfl rfl ?_
  refine s_getR (r := 12) rfl flX9_19 rfl rfl ?_
  refine r_iload_n rfl rfl ?_
  refine s_virI [.ref 12, .int (nI q)] [] rfl lkX9_307 rfl rfl rfl (c_givenTo_A hE hV hI.2 (by omega)) rfl rfl (Nat.le_refl _) (Nat.le_refl _) rfl (rI (e1 := gv (aD a) q) rfl ?_)
  refine r_istore_n (lv' := [(3, .int (gv (aD a) q)), (2, .int ((-1))), (0, .ref 0), (1, .int (nI q))]) rfl rfl (Nat.le_of_ble_eq_true rfl) rfl ?_
  refine n_iconst 0 rfl ?_
  refine r_istore (lv' := [(4, .int (nI 0)), (3, .int (gv (aD a) q)), (2, .int ((-1))), (0, .ref 0), (1, .int (nI q))]) rfl (Nat.le_of_ble_eq_true rfl) rfl ?_
  rw [show ((-1 : Int32)) = oI (hp9 (aD a) q 0).1 from oI_0.symm]
  refine r_lv (lv' := [(4, .int (nI 0)), (0, .ref 0), (1, .int (nI q)), (2, .int (oI ((hp9 (aD a) q 0).1))), (3, .int ((hp9 (aD a) q 0).2))]) [0, 3, 4, 2, 1] rfl ?_
  have loop : ∀ (m9 : Nat) (k : Nat) (σ1 : SS), aD a 0 0 - k < m9 → (k ≤ aD a 0 0) → (FrM σ σ1) → (CI9 σ1 a) → Ws z sc mX9_helper 0 0 0 0 23 [(4, .int (nI k)), (0, .ref 0), (1, .int (nI q)), (2, .int (oI ((hp9 (aD a) q k).1))), (3, .int ((hp9 (aD a) q k).2))] [] (mz σ1 [] []) (RI fun v σ' => v = oI (hp9 (aD a) q (aD a 0 0)).1 ∧ FrM σ σ' ∧ CI9 σ' a) := by
    intro m9
    induction m9 with
    | zero => intro k σ1 hme; exact absurd hme (Nat.not_lt_zero _)
    | succ m9 ih =>
      intro k σ1 hme hk hF hI1
      refine r_iload rfl rfl ?_
      refine r_aload_n rfl rfl ?_
      refine s_getR (r := 12) rfl flX9_19 rfl rfl ?_
      refine s_getI (x := nI (aD a 0 0)) rfl flX9_110 rfl rfl hI1.1.1.2.1.1 ?_
      refine n_icmp_ge (tgt := 62) rfl rfl (by omega) (by omega) (fun h1 => ?_) (fun h1 => ?_)
      · refine r_iload_n rfl rfl ?_
        exact s_ret (st := []) rfl rfl rfl (Nat.zero_le _) (Nat.zero_le _) (⟨_, rfl, by rw [show k = aD a 0 0 by omega], hF, hI1⟩)
      · refine r_aload_n rfl rfl ?_
        refine r_iload_n rfl rfl ?_
        refine r_iload rfl rfl ?_
        refine s_virI [.int (nI q), .int (nI k)] [] rfl lkX9_311 rfl rfl rfl (c_givenIfR hA hI1 (by omega) (by omega)) rfl rfl (Nat.le_refl _) (Nat.le_refl _) rfl ?_
        rintro _ σ2 ⟨rfl, hF2, hI2⟩
        refine r_istore (lv' := [(5, .int (gv (up (aD a) 4 k 1) q)), (4, .int (nI k)), (0, .ref 0), (1, .int (nI q)), (2, .int (oI ((hp9 (aD a) q k).1))), (3, .int ((hp9 (aD a) q k).2))]) rfl (Nat.le_of_ble_eq_true rfl) rfl ?_
        refine r_iload rfl rfl ?_
        refine r_iload_n rfl rfl ?_
        refine r_icmp_le (tgt := 56) rfl rfl (fun h2 => ?_) (fun h2 => ?_)
        · have e : hp9 (aD a) q (k + 1) = hp9 (aD a) q k := if_neg (fun z => absurd h2 (Int32.not_le.mpr z))
          refine n_iinc (lv' := [(4, .int (nI (k + 1))), (5, .int (gv (up (aD a) 4 k 1) q)), (0, .ref 0), (1, .int (nI q)), (2, .int (oI ((hp9 (aD a) q k).1))), (3, .int ((hp9 (aD a) q k).2))]) 1 rfl rfl (Nat.le_of_ble_eq_true rfl) rfl ?_
          refine r_goto (tgt := 23) rfl rfl ?_
          rw [← e]
          refine r_lv (lv' := [(4, .int (nI (k + 1))), (0, .ref 0), (1, .int (nI q)), (2, .int (oI ((hp9 (aD a) q (k + 1)).1))), (3, .int ((hp9 (aD a) q (k + 1)).2))]) [0, 2, 3, 4, 5] rfl ?_
          exact ih (k + 1) σ2 (by omega) (by omega) (hF.tr hF2) hI2
        · have e : hp9 (aD a) q (k + 1) = (k + 1, gv (up (aD a) 4 k 1) q) := if_pos (Int32.not_le.mp h2)
          have e1 : oI (hp9 (aD a) q (k + 1)).1 = nI k := by rw [e]; exact oI_s k
          have e2 : (hp9 (aD a) q (k + 1)).2 = gv (up (aD a) 4 k 1) q := by rw [e]
          refine r_iload rfl rfl ?_
          refine r_istore_n (lv' := [(2, .int (nI k)), (5, .int (gv (up (aD a) 4 k 1) q)), (4, .int (nI k)), (0, .ref 0), (1, .int (nI q)), (3, .int ((hp9 (aD a) q k).2))]) rfl rfl (Nat.le_of_ble_eq_true rfl) rfl ?_
          refine r_iload rfl rfl ?_
          refine r_istore_n (lv' := [(3, .int (gv (up (aD a) 4 k 1) q)), (2, .int (nI k)), (5, .int (gv (up (aD a) 4 k 1) q)), (4, .int (nI k)), (0, .ref 0), (1, .int (nI q))]) rfl rfl (Nat.le_of_ble_eq_true rfl) rfl ?_
          refine n_iinc (lv' := [(4, .int (nI (k + 1))), (3, .int (gv (up (aD a) 4 k 1) q)), (2, .int (nI k)), (5, .int (gv (up (aD a) 4 k 1) q)), (0, .ref 0), (1, .int (nI q))]) 1 rfl rfl (Nat.le_of_ble_eq_true rfl) rfl ?_
          refine r_goto (tgt := 23) rfl rfl ?_
          refine r_lv (lv' := [(4, .int (nI (k + 1))), (0, .ref 0), (1, .int (nI q)), (2, .int (nI k)), (3, .int (gv (up (aD a) 4 k 1) q))]) [0, 4, 5, 2, 1] rfl ?_
          have ii := ih (k + 1) σ2 (by omega) (by omega) (hF.tr hF2) hI2
          rw [e1, e2] at ii
          exact ii
  exact loop (aD a 0 0 + 1) 0 σ (by omega) (by omega) (FrM.rf σ) hI

theorem c_leftWith {z : SZ} {sc : SC} {σ : SS} {q v : Nat} {a : AB} (hA : AV a) (hI : CI9 σ a) (hq : q < aD a 0 0) (hv : v ≤ 9999999) : Cs z sc mX9_isLeftOutWith 0 0 [.ref 0, .int (nI q), .int (nI v)] σ (RI fun z σ' => z = nI (tb (lw9 (aD a) q v)) ∧ FrM σ σ' ∧ CI9 σ' a) := by
  refine Cs.of gmX9_isLeftOutWith (Nat.le_of_ble_eq_true rfl) ?_
  show Ws z sc mX9_isLeftOutWith 0 0 0 0 0 [(0, .ref 0), (1, .int (nI q)), (2, .int (nI v))] [] (mz σ [] []) (RI fun z σ' => z = nI (tb (lw9 (aD a) q v)) ∧ FrM σ σ' ∧ CI9 σ' a)
  have hV := hA.1
  have hC := vC hV
  have hS := hI.1.1.1
  have hE := hI.1.1.2
  obtain ⟨x1, x2, x3, x4, x5, x6, x7, x8, x9, x10, x11⟩ := id hI.2
  have hmh := mk_lt12 (he (aD a)) (Nat.le_refl 12)
  have hml := mk_lt12 (isL (aD a)) (Nat.le_refl 12)
  have hmo := mk_lt12 (ou (aD a)) (Nat.le_refl 12)
  have hgf := gf_le hV q
  refine r_aload_n rfl rfl ?_
  refine s_getR (r := 36) rfl flX9_40 rfl rfl ?_
  refine s_getR (r := 46) rfl flX9_270 rfl rfl ?_
  refine r_aload_n rfl rfl ?_
  refine s_getR (r := 18) rfl flX9_26 rfl rfl ?_
  refine s_virV [.ref 18] [] rfl lkX9_323 rfl rfl rfl (c_bring_B18 hS hV) rfl rfl (Nat.le_refl _) (Nat.le_refl _) rfl ?_
  rintro _ ⟨f1, rfl, h1⟩
  refine m_mz (L' := [(47, f1)]) (M' := []) rfl rfl ?_
  refine r_aload_n rfl rfl ?_
  refine s_getR (r := 36) rfl flX9_40 rfl rfl ?_
  refine s_getR (r := 46) rfl flX9_270 rfl rfl ?_
  refine r_iload_n rfl rfl ?_
  refine r_iload_n rfl rfl ?_
  refine s_virV [.int (nI q), .int (nI v)] [] rfl lkX9_326 rfl rfl rfl (c_further (by omega) (h1 q (by omega))) rfl rfl (Nat.le_refl _) (Nat.le_refl _) rfl (rV ?_)
  refine m_mz (L' := [(47, (aup f1 q (nI (gf (aD a) q + v))))]) (M' := []) rfl rfl ?_
  refine r_aload_n rfl rfl ?_
  refine s_getR (r := 36) rfl flX9_40 rfl rfl ?_
  refine s_getR (r := 46) rfl flX9_270 rfl rfl ?_
  refine r_aload_n rfl rfl ?_
  refine s_getR (r := 20) rfl flX9_33 rfl rfl ?_
  refine s_getI (x := nI (a8 (aD a))) rfl flX9_248 rfl rfl x11.2.2.2.1 ?_
  refine r_aload_n rfl rfl ?_
  refine s_getR (r := 20) rfl flX9_33 rfl rfl ?_
  refine s_getR (r := 26) rfl flX9_261 rfl rfl ?_
  refine s_virV [.int (nI (a8 (aD a))), .ref 26] [] rfl lkX9_329 rfl rfl rfl (c_divide_BA (G := aup (gf (aD a)) q (gf (aD a) q + v)) (a8_le hV) x6 (fun i _ => wt_le hV i) (aup_all h1 (by rw [aup_s]) (fun i _ z => by rw [aup_n _ _ z])) (gf_up hV hv)) rfl rfl (Nat.le_refl _) (Nat.le_refl _) rfl ?_
  rintro _ ⟨f2, f3, f4, rfl, h2, h3, h4⟩
  refine m_mz (L' := [(47, (aup f1 q (nI (gf (aD a) q + v)))), (49, f4), (48, f3), (46, f2)]) (M' := []) rfl rfl ?_
  refine r_aload_n rfl rfl ?_
  refine s_getR (r := 36) rfl flX9_40 rfl rfl ?_
  refine s_getR (r := 46) rfl flX9_270 rfl rfl ?_
  refine s_getI (x := nI (mk (ot (a8 (aD a)) (aup (gf (aD a)) q (gf (aD a) q + v)) (wt (aD a)) 12) 12)) rfl flX9_274 rfl rfl h2.1 ?_
  refine r_iload_n rfl rfl ?_
  refine s_staI [.int (nI (mk (ot (a8 (aD a)) (aup (gf (aD a)) q (gf (aD a) q + v)) (wt (aD a)) 12) 12)), .int (nI q)] [] rfl lkX9_282 (c_hasBit (mk_lt12 _ (Nat.le_refl 12)) (by omega)) rfl rfl (Nat.le_refl _) (Nat.le_refl _) rfl (rI (e1 := nI (tb (lw9 (aD a) q v))) (by rw [mk_bit, decide_eq_true (by omega : q < 12), Bool.true_and]; rfl) ?_)
  exact s_ret (st := []) rfl rfl (nar_tb _) (Nat.zero_le _) (Nat.zero_le _) (⟨_, rfl, rfl, FrM_mz rfl rfl, hI⟩)

theorem c_tooMuch {z : SZ} {sc : SC} {σ : SS} {q : Nat} {a : AB} (hA : AV a) (hI : CI9 σ a) (hq : q < aD a 0 0) : Cs z sc mX9_tooMuch 0 0 [.ref 0, .int (nI q)] σ (RI fun v σ' => v = oI (tm (aD a) q) ∧ FrM σ σ' ∧ CI9 σ' a) := by
  refine Cs.of gmX9_tooMuch (Nat.le_of_ble_eq_true rfl) ?_
  show Ws z sc mX9_tooMuch 0 0 0 0 0 [(0, .ref 0), (1, .int (nI q))] [] (mz σ [] []) (RI fun v σ' => v = oI (tm (aD a) q) ∧ FrM σ σ' ∧ CI9 σ' a)
  have hV := hA.1
  have hC := vC hV
  have hS := hI.1.1.1
  have hE := hI.1.1.2
  obtain ⟨x1, x2, x3, x4, x5, x6, x7, x8, x9, x10, x11⟩ := id hI.2
  have hmh := mk_lt12 (he (aD a)) (Nat.le_refl 12)
  have hml := mk_lt12 (isL (aD a)) (Nat.le_refl 12)
  have hmo := mk_lt12 (ou (aD a)) (Nat.le_refl 12)
  have ht := tb_le (he (aD a) q)
  have ht2 := tb_le (ou (aD a) q)
  refine r_aload_n rfl rfl ?_
  refine r_iload_n rfl rfl ?_
  refine s_virV [.int (nI q)] [] rfl lkX9_153 rfl rfl rfl (c_reqPerson hE hV hq) rfl rfl (Nat.le_refl _) (Nat.le_refl _) rfl (rV ?_)
  refine r_aload_n rfl rfl ?_
  refine s_getR (r := 20) rfl flX9_33 rfl rfl ?_
  refine s_getR (r := 26) rfl flX9_261 rfl rfl ?_
  refine s_getI (x := nI (mk (he (aD a)) 12)) rfl flX9_265 rfl rfl x4.1 ?_
  refine r_iload_n rfl rfl ?_
  refine s_staI [.int (nI (mk (he (aD a)) 12)), .int (nI q)] [] rfl lkX9_282 (c_hasBit hmh (by omega)) rfl rfl (Nat.le_refl _) (Nat.le_refl _) rfl (rI (e1 := nI (tb (he (aD a) q))) (by rw [mk_bit, decide_eq_true (by omega : q < 12), Bool.true_and]) ?_)
  suffices K : Ws z sc mX9_tooMuch 0 0 0 0 44 [(0, .ref 0), (1, .int (nI q))] [.int (nI (tb (he (aD a) q && !(ou (aD a) q))))] (mz σ [] []) (RI fun v σ' => v = oI (tm (aD a) q) ∧ FrM σ σ' ∧ CI9 σ' a) by
    refine n_if_eq (tgt := 43) rfl rfl (by omega) (fun h1 => ?_) (fun h1 => ?_)
    · refine n_iconst 0 rfl ?_
      exact r_top (by rw [tb_z h1]; rfl) K
    · refine r_aload_n rfl rfl ?_
      refine s_getR (r := 20) rfl flX9_33 rfl rfl ?_
      refine s_getR (r := 30) rfl flX9_270 rfl rfl ?_
      refine s_getI (x := nI (mk (ou (aD a)) 12)) rfl flX9_274 rfl rfl x7.1 ?_
      refine r_iload_n rfl rfl ?_
      refine s_staI [.int (nI (mk (ou (aD a)) 12)), .int (nI q)] [] rfl lkX9_282 (c_hasBit hmo (by omega)) rfl rfl (Nat.le_refl _) (Nat.le_refl _) rfl (rI (e1 := nI (tb (ou (aD a) q))) (by rw [mk_bit, decide_eq_true (by omega : q < 12), Bool.true_and]) ?_)
      refine n_if_ne (tgt := 43) rfl rfl (by omega) (fun h2 => ?_) (fun h2 => ?_)
      · refine n_iconst 0 rfl ?_
        exact r_top (by rw [tb_ne h2, Bool.not_true, Bool.and_false]; rfl) K
      · refine n_iconst 1 rfl ?_
        refine r_goto (tgt := 44) rfl rfl ?_
        exact r_top (by rw [tb_ne h1, tb_z h2]; rfl) K
  have ht3 := tb_le (he (aD a) q && !(ou (aD a) q))
  refine r_istore_n (lv' := [(2, .int (nI (tb (he (aD a) q && !(ou (aD a) q))))), (0, .ref 0), (1, .int (nI q))]) rfl rfl (Nat.le_of_ble_eq_true rfl) rfl ?_
  refine r_iload_n rfl rfl ?_
  refine n_if_eq (tgt := 60) rfl rfl (by omega) (fun h3 => ?_) (fun h3 => ?_)
  · refine n_m1 rfl ?_
    exact s_ret (st := []) rfl rfl rfl (Nat.zero_le _) (Nat.zero_le _) (⟨_, rfl, by rw [show tm (aD a) q = 0 from if_neg (fun z => by rw [z.1, z.2.1] at h3; exact absurd h3 (by decide))]; exact oI_0.symm, FrM.rf σ, hI⟩)
  · have hb := tb_ne h3
    have hh : he (aD a) q = true := (Bool.and_eq_true_iff.mp hb).1
    have ho : ou (aD a) q = false := by have := (Bool.and_eq_true_iff.mp hb).2; revert this; cases ou (aD a) q <;> simp
    refine r_aload_n rfl rfl ?_
    refine r_iload_n rfl rfl ?_
    refine r_ldcw (v := nI 9999999) rfl kcX9_315 ?_
    refine s_virI [.int (nI q), .int (nI 9999999)] [] rfl lkX9_316 rfl rfl rfl (c_leftWith hA hI hq (by decide)) rfl rfl (Nat.le_refl _) (Nat.le_refl _) rfl ?_
    rintro _ σ1 ⟨rfl, hF, hI1⟩
    have ht4 := tb_le (lw9 (aD a) q 9999999)
    refine n_if_ne (tgt := 62) rfl rfl (by omega) (fun h4 => ?_) (fun h4 => ?_)
    · have hl := tb_ne h4
      have hm1 : hm (aD a) ≠ 1 := fun z => by rw [lw9_one hV hh z] at hl; exact absurd hl (by decide)
      have hfp := fu_pos hV hh ho hm1
      have hfu : fu (aD a) q ≤ 9999999 := by have := (lw9_iff hV hh hm1 9999999).mp hl; unfold fu; omega
      have hf1 : 1 ≤ fu (aD a) q := by unfold fu; omega
      have hif : ∀ g, lw9 (aD a) q g = true ↔ fu (aD a) q ≤ g := fun g => by rw [lw9_iff hV hh hm1]; unfold fu; omega
      have htm : tm (aD a) q = fu (aD a) q + 1 := if_pos ⟨hh, ho, hm1, hfu⟩
      refine n_iconst 1 rfl ?_
      refine r_istore_n (lv' := [(3, .int (nI 1)), (2, .int (nI (tb (he (aD a) q && !(ou (aD a) q))))), (0, .ref 0), (1, .int (nI q))]) rfl rfl (Nat.le_of_ble_eq_true rfl) rfl ?_
      refine r_ldcw (v := nI 9999999) rfl kcX9_315 ?_
      refine r_istore (lv' := [(4, .int (nI 9999999)), (3, .int (nI 1)), (2, .int (nI (tb (he (aD a) q && !(ou (aD a) q))))), (0, .ref 0), (1, .int (nI q))]) rfl (Nat.le_of_ble_eq_true rfl) rfl ?_
      refine n_iconst 0 rfl ?_
      refine r_istore (lv' := [(5, .int (nI 0)), (4, .int (nI 9999999)), (3, .int (nI 1)), (2, .int (nI (tb (he (aD a) q && !(ou (aD a) q))))), (0, .ref 0), (1, .int (nI q))]) rfl (Nat.le_of_ble_eq_true rfl) rfl ?_
      refine r_lv (lv' := [(5, .int (nI 0)), (0, .ref 0), (1, .int (nI q)), (3, .int (nI 1)), (4, .int (nI 9999999))]) [0, 4, 5, 2, 1] rfl ?_
      have loop : ∀ (m9 : Nat) (j : Nat) (lo9 hi9 : Nat) (σ2 : SS), 32 - j < m9 → (j ≤ 32) → (lo9 ≤ fu (aD a) q) → (fu (aD a) q ≤ hi9) → (hi9 ≤ 9999999) → (hi9 - lo9 < 2 ^ (24 - j)) → (FrM σ σ2) → (CI9 σ2 a) → Ws z sc mX9_tooMuch 0 0 0 0 72 [(5, .int (nI j)), (0, .ref 0), (1, .int (nI q)), (3, .int (nI lo9)), (4, .int (nI hi9))] [] (mz σ2 [] []) (RI fun v σ' => v = oI (tm (aD a) q) ∧ FrM σ σ' ∧ CI9 σ' a) := by
        intro m9
        induction m9 with
        | zero => intro j lo9 hi9 σ2 hme; exact absurd hme (Nat.not_lt_zero _)
        | succ m9 ih =>
          intro j lo9 hi9 σ2 hme hj h5 h6 h7 h8 hF2 hI2
          refine r_iload rfl rfl ?_
          refine n_bipush 32 rfl (by decide) ?_
          refine n_icmp_ge (tgt := 121) rfl rfl (by omega) (by omega) (fun h9 => ?_) (fun h9 => ?_)
          · refine r_iload rfl rfl ?_
            exact s_ret (st := []) rfl rfl rfl (Nat.zero_le _) (Nat.zero_le _) (⟨_, rfl, by rw [htm, oI_s]; congr 1; (have e : (2 : Nat) ^ (24 - j) = 1 := by rw [show 24 - j = 0 by omega]); rw [e] at h8; omega, hF2, hI2⟩)
          · refine r_iload_n rfl rfl ?_
            refine r_iload rfl rfl ?_
            refine n_icmp_ge (tgt := 121) rfl rfl (by omega) (by omega) (fun h10 => ?_) (fun h10 => ?_)
            · refine r_iload rfl rfl ?_
              exact s_ret (st := []) rfl rfl rfl (Nat.zero_le _) (Nat.zero_le _) (⟨_, rfl, by rw [htm, oI_s]; congr 1; omega, hF2, hI2⟩)
            · refine r_iload_n rfl rfl ?_
              refine r_iload rfl rfl ?_
              refine n_iadd rfl ?_
              refine n_iconst 2 rfl ?_
              refine n_idiv rfl (by omega) (by omega) (by omega) ?_
              refine r_istore (lv' := [(6, .int (nI ((lo9 + hi9) / 2))), (5, .int (nI j)), (0, .ref 0), (1, .int (nI q)), (3, .int (nI lo9)), (4, .int (nI hi9))]) rfl (Nat.le_of_ble_eq_true rfl) rfl ?_
              refine r_aload_n rfl rfl ?_
              refine r_iload_n rfl rfl ?_
              refine r_iload rfl rfl ?_
              refine s_virI [.int (nI q), .int (nI ((lo9 + hi9) / 2))] [] rfl lkX9_316 rfl rfl rfl (c_leftWith hA hI2 hq (by omega)) rfl rfl (Nat.le_refl _) (Nat.le_refl _) rfl ?_
              rintro _ σ3 ⟨rfl, hF3, hI3⟩
              have ht5 := tb_le (lw9 (aD a) q ((lo9 + hi9) / 2))
              have hi5 := hif ((lo9 + hi9) / 2)
              have hpw : j < 24 ∧ 2 ^ (24 - j) = 2 * 2 ^ (24 - (j + 1)) := by
                have hj24 : j < 24 := by
                  apply Classical.byContradiction
                  intro z
                  have e : (2 : Nat) ^ (24 - j) = 1 := by rw [show 24 - j = 0 by omega]
                  rw [e] at h8
                  omega
                refine ⟨hj24, ?_⟩
                rw [show 24 - j = (24 - (j + 1)) + 1 by omega, Nat.pow_succ, Nat.mul_comm]
              have hpw1 := hpw.1
              have hpw2 := hpw.2
              refine n_if_eq (tgt := 110) rfl rfl (by omega) (fun h11 => ?_) (fun h11 => ?_)
              · have hnl : ¬ fu (aD a) q ≤ (lo9 + hi9) / 2 := fun z => by have := hi5.mpr z; rw [tb_z h11] at this; exact absurd this (by decide)
                refine r_iload rfl rfl ?_
                refine n_iconst 1 rfl ?_
                refine n_iadd rfl ?_
                refine r_istore_n (lv' := [(3, .int (nI (((lo9 + hi9) / 2) + 1))), (6, .int (nI ((lo9 + hi9) / 2))), (5, .int (nI j)), (0, .ref 0), (1, .int (nI q)), (4, .int (nI hi9))]) rfl rfl (Nat.le_of_ble_eq_true rfl) rfl ?_
                refine n_iinc (lv' := [(5, .int (nI (j + 1))), (3, .int (nI (((lo9 + hi9) / 2) + 1))), (6, .int (nI ((lo9 + hi9) / 2))), (0, .ref 0), (1, .int (nI q)), (4, .int (nI hi9))]) 1 rfl rfl (Nat.le_of_ble_eq_true rfl) rfl ?_
                refine r_goto (tgt := 72) rfl rfl ?_
                refine r_lv (lv' := [(5, .int (nI (j + 1))), (0, .ref 0), (1, .int (nI q)), (3, .int (nI (((lo9 + hi9) / 2) + 1))), (4, .int (nI hi9))]) [0, 3, 4, 1, 5] rfl ?_
                exact ih (j + 1) ((lo9 + hi9) / 2 + 1) hi9 σ3 (by omega) (by omega) (by omega) h6 h7 (by omega) (hF2.tr hF3) hI3
              · have hnl : fu (aD a) q ≤ (lo9 + hi9) / 2 := hi5.mp (tb_ne h11)
                refine r_iload rfl rfl ?_
                refine r_istore (lv' := [(4, .int (nI ((lo9 + hi9) / 2))), (6, .int (nI ((lo9 + hi9) / 2))), (5, .int (nI j)), (0, .ref 0), (1, .int (nI q)), (3, .int (nI lo9))]) rfl (Nat.le_of_ble_eq_true rfl) rfl ?_
                refine r_goto (tgt := 115) rfl rfl ?_
                refine n_iinc (lv' := [(5, .int (nI (j + 1))), (4, .int (nI ((lo9 + hi9) / 2))), (6, .int (nI ((lo9 + hi9) / 2))), (0, .ref 0), (1, .int (nI q)), (3, .int (nI lo9))]) 1 rfl rfl (Nat.le_of_ble_eq_true rfl) rfl ?_
                refine r_goto (tgt := 72) rfl rfl ?_
                refine r_lv (lv' := [(5, .int (nI (j + 1))), (0, .ref 0), (1, .int (nI q)), (3, .int (nI lo9)), (4, .int (nI ((lo9 + hi9) / 2)))]) [0, 3, 4, 5, 1] rfl ?_
                exact ih (j + 1) lo9 ((lo9 + hi9) / 2) σ3 (by omega) (by omega) h5 hnl (by omega) (by omega) (hF2.tr hF3) hI3
      exact loop 33 0 1 9999999 σ1 (by omega) (by omega) hf1 hfu (by decide) (by decide) hF hI1
    · have hz := tb_z h4
      have htm : tm (aD a) q = 0 := by
        apply if_neg
        rintro ⟨_, _, z1, z2⟩
        have z3 := (lw9_iff hV hh z1 9999999).mpr (by unfold fu at z2; omega)
        rw [hz] at z3
        exact absurd z3 (by decide)
      refine n_m1 rfl ?_
      exact s_ret (st := []) rfl rfl rfl (Nat.zero_le _) (Nat.zero_le _) (⟨_, rfl, by rw [show tm (aD a) q = 0 from htm]; exact oI_0.symm, hF, hI1⟩)

