theorem mup_back {f : Nat → Int32} {d : D} {k : Nat} {x : Int32} (h : MR f d) : MR (aup (aup f k x) k (f k)) d := by
  intro j hj
  by_cases e : j = k
  · subst e; rw [aup_s]; exact h j hj
  · rw [aup_n _ _ e, aup_n _ _ e]; exact h j hj
theorem hm_le {d : D} (hV : Vd d) : hm d ≤ 12 := by
  have hC := vC hV
  have h := sm_le (f := fun p => tb (he d p)) (b := 1) (m := d 0 0) (fun i _ => by have := tb_le (he d i); show tb _ ≤ 1; omega)
  have h2 : hm d ≤ d 0 0 * 1 := h
  omega
theorem lk9_pos {d : D} (hV : Vd d) {p : Nat} (hh : he d p = true) (hm1 : hm d ≠ 1) : 0 < sm (lk9 d (p + 1) 12) 12 := by
  have hs := (wt_sum hV hh).mpr hm1
  have A := wf_stab (F := a8 d) (G := gf d) hs
  have e1 : lk9 d (p + 1) 12 = wf (a8 d) (gf d) (aup (wt d) p 0) := by unfold lk9 wf; rw [wb_aup]
  rw [e1]
  exact A.1
theorem k_givenBy {l9 : Bool} {sc : SC} {σ : SS} {q u : Nat} {a : AB} (hA : AV a) (hI : MI9 σ a) (hq : q < aD a 0 0) (hu : u < aD a 0 0) : Cs (true, l9) sc mX10_givenBy 0 0 [.ref 53, .int (nI q), .int (nI u)] σ (RI fun v σ' => v = gv (up (aD a) 4 u 1) q ∧ σ'.1 53 = σ.1 53 ∧ FrC σ σ' ∧ MI9 σ' a) := by
  refine Cs.of gmX10_givenBy (Nat.le_of_ble_eq_true rfl) ?_
  show Ws (true, l9) sc mX10_givenBy 0 0 0 0 0 [(0, .ref 53), (1, .int (nI q)), (2, .int (nI u))] [] (mz σ [] []) (RI fun v σ' => v = gv (up (aD a) 4 u 1) q ∧ σ'.1 53 = σ.1 53 ∧ FrC σ σ' ∧ MI9 σ' a)
  have hV := hA.1
  have hC := vC hV
  have hM := hI.1
  have hV2 : Vd (up (aD a) 4 u 1) := Vdup hV rfl ⟨fun z => absurd z (by decide), fun z => absurd z (by decide), fun _ => Nat.le_refl 1, fun z => absurd z (by decide), fun z => absurd z (by decide), fun z => absurd z (by decide), fun z => absurd z (by decide), fun z => absurd z (by decide), fun z => absurd z (by decide)⟩
  have hSm : Sm (aD a) (up (aD a) 4 u 1) := Smup rfl
  have he0 : (up (aD a) 4 u 1) 0 0 = aD a 0 0 := hSm.1.1
  refine n_bipush 10 rfl (by decide) ?_
  refine n_iconst 4 rfl ?_
  refine r_iload_n rfl rfl ?_
  refine n_imul rfl ?_
  refine n_iadd rfl ?_
  refine n_iconst 3 rfl ?_
  refine n_iadd rfl ?_
  refine r_istore_n (lv' := [(3, .int (nI ((10 + (4 * u)) + 3))), (0, .ref 53), (1, .int (nI q)), (2, .int (nI u))]) rfl rfl (Nat.le_of_ble_eq_true rfl) rfl ?_
  refine r_aload_n rfl rfl ?_
  refine s_getR (r := 54) rfl flX10_7 rfl rfl ?_
  refine r_iload_n rfl rfl ?_
  refine s_iald (x := σ.1 54 (10 + 4 * u + 3)) rfl rfl (by omega) rfl ?_
  refine r_istore (lv' := [(4, .int (σ.1 54 (10 + 4 * u + 3))), (3, .int (nI ((10 + (4 * u)) + 3))), (0, .ref 53), (1, .int (nI q)), (2, .int (nI u))]) rfl (Nat.le_of_ble_eq_true rfl) rfl ?_
  refine r_aload_n rfl rfl ?_
  refine s_getR (r := 54) rfl flX10_7 rfl rfl ?_
  refine r_iload_n rfl rfl ?_
  refine n_iconst 1 rfl ?_
  refine m_iast (L' := [(54, (aup (σ.1 54) ((10 + (4 * u)) + 3) (nI 1)))]) rfl rfl (by omega) rfl ?_
  refine r_aload_n rfl rfl ?_
  have hM2 : MR ((aup (σ.1 54) ((10 + (4 * u)) + 3) (nI 1))) (up (aD a) 4 u 1) := MRup hM (by omega) (mPp (by omega) (by decide)) rfl
  refine s_virV [] [] rfl lkX10_323 rfl rfl rfl (c_settles (d := up (aD a) 4 u 1) hM2 hV2) rfl rfl (Nat.le_refl _) (Nat.le_refl _) rfl ?_
  rintro _ ⟨g0, g1, g2, g3, g4, g5, g6, g7, g8, g9, g10, g11, l0, l1, l2, rfl, hMS, h12⟩
  refine m_mz (L' := [(54, (aup (σ.1 54) ((10 + (4 * u)) + 3) (nI 1))), (67, g11), (72, g10), (71, g9), (70, g8), (65, g7), (68, g6), (66, g5), (63, g4), (64, g3), (62, g2), (61, g1), (60, g0)]) (M' := [(53, l2), (69, l1), (59, l0)]) rfl rfl ?_
  have hX : MSE g3 g2 g4 g7 g5 g11 g6 g8 g9 g10 l1 l2 (up (aD a) 4 u 1) := hMS
  obtain ⟨x1, x2, x3, x4, x5, x6, x7, x8, x9, x10, x11, x12⟩ := hX
  refine r_aload_n rfl rfl ?_
  refine r_iload_n rfl rfl ?_
  refine s_virI [.int (nI q)] [] rfl lkX10_329 rfl rfl rfl (k_givenTo (a := nx a (up (aD a) 4 u 1)) hV2 hM2 (by show q < (up (aD a) 4 u 1) 0 0; omega) x5 x8 x3 x1.2.2.2.2.2.1 x1.2.2.2.2.2.2.2.1) rfl rfl (Nat.le_refl _) (Nat.le_refl _) rfl (rI (e1 := gv (up (aD a) 4 u 1) q) rfl ?_)
  refine r_istore (lv' := [(5, .int (gv (up (aD a) 4 u 1) q)), (4, .int (σ.1 54 (10 + 4 * u + 3))), (3, .int (nI ((10 + (4 * u)) + 3))), (0, .ref 53), (1, .int (nI q)), (2, .int (nI u))]) rfl (Nat.le_of_ble_eq_true rfl) rfl ?_
  refine r_aload_n rfl rfl ?_
  refine s_getR (r := 54) rfl flX10_7 rfl rfl ?_
  refine r_iload_n rfl rfl ?_
  refine r_iload rfl rfl ?_
  refine m_iast (L' := [(54, (aup (aup (σ.1 54) ((10 + (4 * u)) + 3) (nI 1)) ((10 + (4 * u)) + 3) (σ.1 54 (10 + 4 * u + 3)))), (67, g11), (72, g10), (71, g9), (70, g8), (65, g7), (68, g6), (66, g5), (63, g4), (64, g3), (62, g2), (61, g1), (60, g0)]) rfl rfl (by omega) rfl ?_
  refine r_iload rfl rfl ?_
  exact s_ret (st := []) rfl rfl rfl (Nat.zero_le _) (Nat.zero_le _) (⟨_, rfl, rfl, rfl, FrC_mz rfl rfl, mup_back hM, hI.2⟩)

theorem k_givenIf {l9 : Bool} {sc : SC} {σ : SS} {q u : Nat} {a : AB} (hA : AV a) (hI : MI9 σ a) (hq : q < aD a 0 0) (hu : u < aD a 0 0) : Cs (true, l9) sc mX10_givenIf 0 0 [.ref 53, .int (nI q), .int (nI u)] σ (QM σ a (gv (up (aD a) 4 u 1) q) 0) := by
  refine Cs.of gmX10_givenIf (Nat.le_of_ble_eq_true rfl) ?_
  show Ws (true, l9) sc mX10_givenIf 0 0 0 0 0 [(0, .ref 53), (1, .int (nI q)), (2, .int (nI u))] [] (mz σ [] []) (QM σ a (gv (up (aD a) 4 u 1) q) 0)
  have hV := hA.1
  have hC := vC hV
  have hM := hI.1
  refine r_aload_n rfl rfl ?_
  refine r_iload_n rfl rfl ?_
  refine s_virI [.int (nI q)] [] rfl lkX10_249 rfl rfl rfl (k_noPerson_in (hM := hI.1) hV hq) rfl rfl (Nat.le_refl _) (Nat.le_refl _) rfl (rI (e1 := nI 0) rfl ?_)
  refine m_mz (L' := [(53, (aup (σ.1 53) 0 (nI 0)))]) (M' := []) rfl rfl ?_
  refine n_if_ne (tgt := 22) rfl rfl (by decide) (fun hq => absurd hq (by decide)) (fun _ => ?_)
  refine r_aload_n rfl rfl ?_
  refine r_iload_n rfl rfl ?_
  refine r_aload_n rfl rfl ?_
  refine s_getR (r := 54) rfl flX10_7 rfl rfl ?_
  refine n_iconst 0 rfl ?_
  refine s_iald (x := nI ((aD a) 0 0)) rfl rfl (by decide) (MRat hM 0 0 (by decide) (by decide)) ?_
  refine s_virI [.int (nI u), .int (nI ((aD a) 0 0))] [] rfl lkX10_242 rfl rfl rfl (k_no_in rfl hu (by omega)) rfl rfl (Nat.le_refl _) (Nat.le_refl _) rfl (rI (e1 := nI 0) rfl ?_)
  refine n_if_eq (tgt := 26) rfl rfl (by decide) (fun _ => ?_) (fun hq => absurd hq (by decide))
  refine r_aload_n rfl rfl ?_
  refine r_iload_n rfl rfl ?_
  refine r_iload_n rfl rfl ?_
  have hI1 : MI9 (mz σ [(53, (aup (σ.1 53) 0 (nI 0)))] []) a := ⟨hI.1, ⟨hI.2.1.1, hI.2.1.2.1, hI.2.1.2.2⟩, hI.2.2.1, hI.2.2.2.1, hI.2.2.2.2.1, hI.2.2.2.2.2.1, hI.2.2.2.2.2.2⟩
  refine s_virI [.int (nI q), .int (nI u)] [] rfl lkX10_332 rfl rfl rfl (k_givenBy hA hI1 hq hu) rfl rfl (Nat.le_refl _) (Nat.le_refl _) rfl ?_
  rintro _ σ1 ⟨rfl, hT, hF, hI2⟩
  exact s_ret (st := []) rfl rfl rfl (Nat.zero_le _) (Nat.zero_le _) (⟨_, rfl, rfl, by rw [hT]; rfl, FrC.tr (FrC_mz rfl rfl) hF, hI2⟩)

theorem k_helper {l9 : Bool} {sc : SC} {σ : SS} {q : Nat} {a : AB} (hA : AV a) (hI : MI9 σ a) (hq : q < aD a 0 0) : Cs (true, l9) sc mX10_helper 0 0 [.ref 53, .int (nI q)] σ (QM σ a (oI (hp9 (aD a) q (aD a 0 0)).1) 0) := by
  refine Cs.of gmX10_helper (Nat.le_of_ble_eq_true rfl) ?_
  show Ws (true, l9) sc mX10_helper 0 0 0 0 0 [(0, .ref 53), (1, .int (nI q))] [] (mz σ [] []) (QM σ a (oI (hp9 (aD a) q (aD a 0 0)).1) 0)
  have hV := hA.1
  have hC := vC hV
  have hM := hI.1
  refine r_aload_n rfl rfl ?_
  refine r_iload_n rfl rfl ?_
  refine s_virI [.int (nI q)] [] rfl lkX10_249 rfl rfl rfl (k_noPerson_in (hM := hI.1) hV hq) rfl rfl (Nat.le_refl _) (Nat.le_refl _) rfl (rI (e1 := nI 0) rfl ?_)
  refine m_mz (L' := [(53, (aup (σ.1 53) 0 (nI 0)))]) (M' := []) rfl rfl ?_
  refine n_if_eq (tgt := 10) rfl rfl (by decide) (fun _ => ?_) (fun hq => absurd hq (by decide))
  refine r_aload_n rfl rfl ?_
  refine s_virV [] [] rfl lkX10_323 rfl rfl rfl (c_settles (d := aD a) hM hV) rfl rfl (Nat.le_refl _) (Nat.le_refl _) rfl ?_
  rintro _ ⟨g0, g1, g2, g3, g4, g5, g6, g7, g8, g9, g10, g11, l0, l1, l2, rfl, hMS, h12⟩
  refine m_mz (L' := [(53, (aup (σ.1 53) 0 (nI 0))), (67, g11), (72, g10), (71, g9), (70, g8), (65, g7), (68, g6), (66, g5), (63, g4), (64, g3), (62, g2), (61, g1), (60, g0)]) (M' := [(53, l2), (69, l1), (59, l0)]) rfl rfl ?_
  have hX : MSE g3 g2 g4 g7 g5 g11 g6 g8 g9 g10 l1 l2 (aD a) := hMS
  obtain ⟨x1, x2, x3, x4, x5, x6, x7, x8, x9, x10, x11, x12⟩ := hX
  refine r_aload_n rfl rfl ?_
  refine r_iload_n rfl rfl ?_
  refine s_virI [.int (nI q)] [] rfl lkX10_329 rfl rfl rfl (k_givenTo hV hM hq x5 x8 x3 x1.2.2.2.2.2.1 x1.2.2.2.2.2.2.2.1) rfl rfl (Nat.le_refl _) (Nat.le_refl _) rfl (rI (e1 := gv (aD a) q) rfl ?_)
  refine r_istore_n (lv' := [(2, .int (gv (aD a) q)), (0, .ref 53), (1, .int (nI q))]) rfl rfl (Nat.le_of_ble_eq_true rfl) rfl ?_
  refine n_m1 rfl ?_
  refine r_istore_n (lv' := [(3, .int ((-1))), (2, .int (gv (aD a) q)), (0, .ref 53), (1, .int (nI q))]) rfl rfl (Nat.le_of_ble_eq_true rfl) rfl ?_
  refine n_iconst 0 rfl ?_
  refine r_istore (lv' := [(4, .int (nI 0)), (3, .int ((-1))), (2, .int (gv (aD a) q)), (0, .ref 53), (1, .int (nI q))]) rfl (Nat.le_of_ble_eq_true rfl) rfl ?_
  have hI0 : MI9 (mz σ [(53, (aup (σ.1 53) 0 (nI 0))), (67, g11), (72, g10), (71, g9), (70, g8), (65, g7), (68, g6), (66, g5), (63, g4), (64, g3), (62, g2), (61, g1), (60, g0)] [(53, l2), (69, l1), (59, l0)]) a := ⟨hI.1, ⟨hI.2.1.1, hI.2.1.2.1, hI.2.1.2.2⟩, hI.2.2.1, hI.2.2.2.1, hI.2.2.2.2.1, hI.2.2.2.2.2.1, hI.2.2.2.2.2.2⟩
  have hF0 : FrC σ (mz σ [(53, (aup (σ.1 53) 0 (nI 0))), (67, g11), (72, g10), (71, g9), (70, g8), (65, g7), (68, g6), (66, g5), (63, g4), (64, g3), (62, g2), (61, g1), (60, g0)] [(53, l2), (69, l1), (59, l0)]) := FrC_mz rfl rfl
  rw [show ((-1 : Int32)) = oI (hp9 (aD a) q 0).1 from oI_0.symm]
  refine r_lv (lv' := [(4, .int (nI 0)), (0, .ref 53), (1, .int (nI q)), (2, .int ((hp9 (aD a) q 0).2)), (3, .int (oI ((hp9 (aD a) q 0).1)))]) [0, 3, 4, 2, 1] rfl ?_
  have loop : ∀ (m9 : Nat) (k : Nat) (σ1 : SS), aD a 0 0 - k < m9 → (k ≤ aD a 0 0) → (σ1.1 53 0 = nI 0) → (FrC σ σ1) → (MI9 σ1 a) → Ws (true, l9) sc mX10_helper 0 0 0 0 25 [(4, .int (nI k)), (0, .ref 53), (1, .int (nI q)), (2, .int ((hp9 (aD a) q k).2)), (3, .int (oI ((hp9 (aD a) q k).1)))] [] (mz σ1 [] []) (QM σ a (oI (hp9 (aD a) q (aD a 0 0)).1) 0) := by
    intro m9
    induction m9 with
    | zero => intro k σ1 hme; exact absurd hme (Nat.not_lt_zero _)
    | succ m9 ih =>
      intro k σ1 hme hk hT hF hI1
      refine r_iload rfl rfl ?_
      refine r_aload_n rfl rfl ?_
      refine s_getR (r := 54) rfl flX10_7 rfl rfl ?_
      refine n_iconst 0 rfl ?_
      refine s_iald (x := nI (aD a 0 0)) rfl rfl (by decide) (MRat hI1.1 0 0 (by decide) (by decide)) ?_
      refine n_icmp_ge (tgt := 77) rfl rfl (by omega) (by omega) (fun h1 => ?_) (fun h1 => ?_)
      · refine r_iload_n rfl rfl ?_
        exact s_ret (st := []) rfl rfl rfl (Nat.zero_le _) (Nat.zero_le _) (⟨_, rfl, by rw [show k = aD a 0 0 by omega], hT, hF, hI1⟩)
      · refine r_aload_n rfl rfl ?_
        refine r_iload_n rfl rfl ?_
        refine r_iload rfl rfl ?_
        refine s_virI [.int (nI q), .int (nI k)] [] rfl lkX10_332 rfl rfl rfl (k_givenBy hA hI1 hq (by omega)) rfl rfl (Nat.le_refl _) (Nat.le_refl _) rfl ?_
        rintro _ σ2 ⟨rfl, hT2, hF2, hI2⟩
        refine r_istore (lv' := [(5, .int (gv (up (aD a) 4 k 1) q)), (4, .int (nI k)), (0, .ref 53), (1, .int (nI q)), (2, .int ((hp9 (aD a) q k).2)), (3, .int (oI ((hp9 (aD a) q k).1)))]) rfl (Nat.le_of_ble_eq_true rfl) rfl ?_
        refine r_iload rfl rfl ?_
        refine r_iload_n rfl rfl ?_
        have eno : gv (up (aD a) 4 k 1) q ≤ (hp9 (aD a) q k).2 → hp9 (aD a) q (k + 1) = hp9 (aD a) q k := fun z => if_neg (Int32.not_lt.mpr z)
        have eye : ¬ gv (up (aD a) 4 k 1) q ≤ (hp9 (aD a) q k).2 → hp9 (aD a) q (k + 1) = (k + 1, gv (up (aD a) 4 k 1) q) := fun z => if_pos (Int32.not_le.mp z)
        suffices K : Ws (true, l9) sc mX10_helper 0 0 0 0 57 [(5, .int (gv (up (aD a) 4 k 1) q)), (4, .int (nI k)), (0, .ref 53), (1, .int (nI q)), (2, .int ((hp9 (aD a) q k).2)), (3, .int (oI ((hp9 (aD a) q k).1)))] [.int (oI ((hp9 (aD a) q (k + 1)).1))] (mz σ2 [] []) (QM σ a (oI (hp9 (aD a) q (aD a 0 0)).1) 0) by
          refine r_icmp_le (tgt := 56) rfl rfl (fun h2 => ?_) (fun h2 => ?_)
          · refine r_iload_n rfl rfl ?_
            exact r_top (by rw [eno h2]) K
          · refine r_iload rfl rfl ?_
            refine r_goto (tgt := 57) rfl rfl ?_
            exact r_top (by rw [eye h2]; exact (oI_s k).symm) K
        refine r_istore_n (lv' := [(3, .int (oI ((hp9 (aD a) q (k + 1)).1))), (5, .int (gv (up (aD a) 4 k 1) q)), (4, .int (nI k)), (0, .ref 53), (1, .int (nI q)), (2, .int ((hp9 (aD a) q k).2))]) rfl rfl (Nat.le_of_ble_eq_true rfl) rfl ?_
        refine r_iload rfl rfl ?_
        refine r_iload_n rfl rfl ?_
        suffices K : Ws (true, l9) sc mX10_helper 0 0 0 0 70 [(3, .int (oI ((hp9 (aD a) q (k + 1)).1))), (5, .int (gv (up (aD a) 4 k 1) q)), (4, .int (nI k)), (0, .ref 53), (1, .int (nI q)), (2, .int ((hp9 (aD a) q k).2))] [.int ((hp9 (aD a) q (k + 1)).2)] (mz σ2 [] []) (QM σ a (oI (hp9 (aD a) q (aD a 0 0)).1) 0) by
          refine r_icmp_le (tgt := 69) rfl rfl (fun h2 => ?_) (fun h2 => ?_)
          · refine r_iload_n rfl rfl ?_
            exact r_top (by rw [eno h2]) K
          · refine r_iload rfl rfl ?_
            refine r_goto (tgt := 70) rfl rfl ?_
            exact r_top (by rw [eye h2]) K
        refine r_istore_n (lv' := [(2, .int ((hp9 (aD a) q (k + 1)).2)), (3, .int (oI ((hp9 (aD a) q (k + 1)).1))), (5, .int (gv (up (aD a) 4 k 1) q)), (4, .int (nI k)), (0, .ref 53), (1, .int (nI q))]) rfl rfl (Nat.le_of_ble_eq_true rfl) rfl ?_
        refine n_iinc (lv' := [(4, .int (nI (k + 1))), (2, .int ((hp9 (aD a) q (k + 1)).2)), (3, .int (oI ((hp9 (aD a) q (k + 1)).1))), (5, .int (gv (up (aD a) 4 k 1) q)), (0, .ref 53), (1, .int (nI q))]) 1 rfl rfl (Nat.le_of_ble_eq_true rfl) rfl ?_
        refine r_goto (tgt := 25) rfl rfl ?_
        refine r_lv (lv' := [(4, .int (nI (k + 1))), (0, .ref 53), (1, .int (nI q)), (2, .int ((hp9 (aD a) q (k + 1)).2)), (3, .int (oI ((hp9 (aD a) q (k + 1)).1)))]) [0, 4, 5, 1, 2] rfl ?_
        exact ih (k + 1) σ2 (by omega) (by omega) (by rw [hT2]; exact hT) (hF.tr hF2) hI2
  exact loop (aD a 0 0 + 1) 0 _ (by omega) (by omega) rfl hF0 hI0

theorem k_tooMuch {l9 : Bool} {sc : SC} {σ : SS} {q : Nat} {a : AB} (hA : AV a) (hI : MI9 σ a) (hq : q < aD a 0 0) : Cs (true, l9) sc mX10_tooMuch 0 0 [.ref 53, .int (nI q)] σ (QM σ a (oI (tm (aD a) q)) 0) := by
  refine Cs.of gmX10_tooMuch (Nat.le_of_ble_eq_true rfl) ?_
  show Ws (true, l9) sc mX10_tooMuch 0 0 0 0 0 [(0, .ref 53), (1, .int (nI q))] [] (mz σ [] []) (QM σ a (oI (tm (aD a) q)) 0)
  have hV := hA.1
  have hC := vC hV
  have hM := hI.1
  have ht := tb_le (he (aD a) q)
  have ht2 := tb_le (ou (aD a) q)
  have hmb := hm_le hV
  have hgf := gf_le hV q
  have hwt := wt_le hV q
  refine r_aload_n rfl rfl ?_
  refine r_iload_n rfl rfl ?_
  refine s_virI [.int (nI q)] [] rfl lkX10_249 rfl rfl rfl (k_noPerson_in (hM := hI.1) hV hq) rfl rfl (Nat.le_refl _) (Nat.le_refl _) rfl (rI (e1 := nI 0) rfl ?_)
  refine m_mz (L' := [(53, (aup (σ.1 53) 0 (nI 0)))]) (M' := []) rfl rfl ?_
  refine n_if_eq (tgt := 10) rfl rfl (by decide) (fun _ => ?_) (fun hq => absurd hq (by decide))
  refine r_aload_n rfl rfl ?_
  refine s_virV [] [] rfl lkX10_323 rfl rfl rfl (c_settles (d := aD a) hM hV) rfl rfl (Nat.le_refl _) (Nat.le_refl _) rfl ?_
  rintro _ ⟨g0, g1, g2, g3, g4, g5, g6, g7, g8, g9, g10, g11, l0, l1, l2, rfl, hMS, h12⟩
  refine m_mz (L' := [(53, (aup (σ.1 53) 0 (nI 0))), (67, g11), (72, g10), (71, g9), (70, g8), (65, g7), (68, g6), (66, g5), (63, g4), (64, g3), (62, g2), (61, g1), (60, g0)]) (M' := [(53, l2), (69, l1), (59, l0)]) rfl rfl ?_
  have hX : MSE g3 g2 g4 g7 g5 g11 g6 g8 g9 g10 l1 l2 (aD a) := hMS
  obtain ⟨x1, x2, x3, x4, x5, x6, x7, x8, x9, x10, x11, x12⟩ := hX
  refine r_aload_n rfl rfl ?_
  refine s_getR (r := 66) rfl flX10_53 rfl rfl ?_
  refine r_iload_n rfl rfl ?_
  refine s_zald (x := nI (tb (he (aD a) q))) rfl rfl (by omega) (x5 q (by omega)) ?_
  refine n_if_eq (tgt := 40) rfl rfl (by omega) (fun h1 => ?_) (fun h1 => ?_)
  · refine n_m1 rfl ?_
    exact s_ret (st := []) rfl rfl rfl (Nat.zero_le _) (Nat.zero_le _) (⟨_, rfl, (by rw [show tm (aD a) q = 0 from if_neg (fun z => by rw [z.1] at h1; exact absurd h1 (by decide))]; exact oI_0.symm), rfl, FrC_mz rfl rfl, ⟨hI.1, ⟨hI.2.1.1, hI.2.1.2.1, hI.2.1.2.2⟩, hI.2.2.1, hI.2.2.2.1, hI.2.2.2.2.1, hI.2.2.2.2.2.1, hI.2.2.2.2.2.2⟩⟩)
  · refine r_aload_n rfl rfl ?_
    refine s_getR (r := 67) rfl flX10_56 rfl rfl ?_
    refine r_iload_n rfl rfl ?_
    refine s_zald (x := nI (tb (ou (aD a) q))) rfl rfl (by omega) (x6 q (by omega)) ?_
    refine n_if_ne (tgt := 40) rfl rfl (by omega) (fun h2 => ?_) (fun h2 => ?_)
    · refine n_m1 rfl ?_
      exact s_ret (st := []) rfl rfl rfl (Nat.zero_le _) (Nat.zero_le _) (⟨_, rfl, (by rw [show tm (aD a) q = 0 from if_neg (fun z => by rw [z.2.1] at h2; exact h2 rfl)]; exact oI_0.symm), rfl, FrC_mz rfl rfl, ⟨hI.1, ⟨hI.2.1.1, hI.2.1.2.1, hI.2.1.2.2⟩, hI.2.2.1, hI.2.2.2.1, hI.2.2.2.2.1, hI.2.2.2.2.2.1, hI.2.2.2.2.2.2⟩⟩)
    · refine r_aload_n rfl rfl ?_
      refine s_virI [] [] rfl lkX10_281 rfl rfl rfl (c_heirMany hM hV x5) rfl rfl (Nat.le_refl _) (Nat.le_refl _) rfl (rI (e1 := nI (hm (aD a))) rfl ?_)
      refine n_iconst 1 rfl ?_
      refine n_icmp_ne (tgt := 42) rfl rfl (by omega) (by omega) (fun h3 => ?_) (fun h3 => ?_)
      · have hh := tb_ne h1
        have ho := tb_z h2
        have hs0 := lk9_pos hV hh h3
        have hfp := fu_pos hV hh ho h3
        have hpb : pb (aD a) (q + 1) 12 ≤ 79999992 + 12 * 79999992 := Nat.le_trans (pt_le (b := 79999992) (fun i _ => gf_le hV i)) (by have := a8_le hV; omega)
        have hsw : sm (lk9 (aD a) (q + 1) 12) 12 ≤ 12 * 4096 := sm_w (fun i _ => lk9_le hV (q + 1) 12 i)
        have hmu : pb (aD a) (q + 1) 12 * wt (aD a) q ≤ (79999992 + 12 * 79999992) * 4096 := Nat.mul_le_mul hpb hwt
        have hdv := Nat.div_le_self (pb (aD a) (q + 1) 12 * wt (aD a) q) (sm (lk9 (aD a) (q + 1) 12) 12)
        have hfue : fu (aD a) q = pb (aD a) (q + 1) 12 * wt (aD a) q / sm (lk9 (aD a) (q + 1) 12) 12 + 1 - gf (aD a) q := rfl
        refine r_aload_n rfl rfl ?_
        refine r_iload_n rfl rfl ?_
        refine r_top (y := oI (q + 1)) ((oI_s q).symm) ?_
        refine s_virV [.int (oI (q + 1))] [] rfl lkX10_299 rfl rfl rfl (c_leavesOut hM hV (by omega) x5 x11 x1.2.2.2.2.2.2.2.2.1) rfl rfl (Nat.le_refl _) (Nat.le_refl _) rfl ?_
        rintro _ ⟨f67, rfl, h67⟩
        refine m_mz (L' := [(53, (aup (σ.1 53) 0 (nI 0))), (67, f67), (72, g10), (71, g9), (70, g8), (65, g7), (68, g6), (66, g5), (63, g4), (64, g3), (62, g2), (61, g1), (60, g0)]) (M' := [(53, l2), (69, l1), (59, l0)]) rfl rfl ?_
        have hO : ∀ p, p < aD a 0 0 → f67 p = nI (tb (otb (aD a) (q + 1) 12 p)) := fun p hp => h67 p (by omega)
        refine r_aload_n rfl rfl ?_
        refine r_iload_n rfl rfl ?_
        refine r_top (y := oI (q + 1)) ((oI_s q).symm) ?_
        refine s_virL [.int (oI (q + 1))] [] rfl lkX10_292 rfl rfl rfl (c_potOf hM hV (by omega) x5 hO x11 x1.2.2.2.2.2.2.2.2.1) rfl rfl (Nat.le_refl _) (Nat.le_refl _) rfl (rL (e1 := lN (pb (aD a) (q + 1) 12)) rfl ?_)
        refine r_aload_n rfl rfl ?_
        refine s_getR (r := 69) rfl flX10_62 rfl rfl ?_
        refine r_iload_n rfl rfl ?_
        refine s_lald (x := lN (wt (aD a) q)) rfl rfl (by omega) (x11 q (by omega)) ?_
        refine n_lmul rfl ?_
        refine r_aload_n rfl rfl ?_
        refine r_iload_n rfl rfl ?_
        refine r_top (y := oI (q + 1)) ((oI_s q).symm) ?_
        refine s_virL [.int (oI (q + 1))] [.long (lN ((pb (aD a) (q + 1) 12) * (wt (aD a) q)))] rfl lkX10_296 rfl rfl rfl (c_weightsM hM hV (by omega) x5 hO x11) rfl rfl (Nat.le_refl _) (Nat.le_refl _) rfl (rL (e1 := lN (sm (lk9 (aD a) (q + 1) 12) 12)) rfl ?_)
        refine n_ldiv rfl (by omega) (by omega) (by omega) ?_
        refine n_lconst1 rfl ?_
        refine n_ladd rfl ?_
        refine r_aload_n rfl rfl ?_
        refine r_iload_n rfl rfl ?_
        refine s_virI [.int (nI q)] [.long (lN ((((pb (aD a) (q + 1) 12) * (wt (aD a) q)) / (sm (lk9 (aD a) (q + 1) 12) 12)) + 1))] rfl lkX10_258 rfl rfl rfl (c_giftOf hM hV (by omega)) rfl rfl (Nat.le_refl _) (Nat.le_refl _) rfl (rI (e1 := nI (gf (aD a) q)) rfl ?_)
        refine n_i2l rfl (by omega) ?_
        refine n_lsub rfl (by omega) ?_
        refine r_lstore_n (lv' := [(2, .long (lN (((((pb (aD a) (q + 1) 12) * (wt (aD a) q)) / (sm (lk9 (aD a) (q + 1) 12) 12)) + 1) - (gf (aD a) q)))), (0, .ref 53), (1, .int (nI q))]) rfl rfl (Nat.le_of_ble_eq_true rfl) rfl ?_
        refine r_lload_n rfl rfl ?_
        refine r_ldc2 (v := lN 9999999) rfl kcX10_335 ?_
        refine n_lcmp_le (tgt := 87) rfl rfl rfl (by omega) (by omega) (fun h4 => ?_) (fun h4 => ?_)
        · refine r_lload_n rfl rfl ?_
          refine n_l2i rfl ?_
          exact s_ret (st := []) rfl rfl rfl (Nat.zero_le _) (Nat.zero_le _) (⟨_, rfl, (by rw [show tm (aD a) q = fu (aD a) q + 1 from if_pos ⟨hh, ho, h3, h4⟩]; exact (oI_s _).symm), rfl, FrC_mz rfl rfl, ⟨hI.1, ⟨hI.2.1.1, hI.2.1.2.1, hI.2.1.2.2⟩, hI.2.2.1, hI.2.2.2.1, hI.2.2.2.2.1, hI.2.2.2.2.2.1, hI.2.2.2.2.2.2⟩⟩)
        · refine n_m1 rfl ?_
          refine r_goto (tgt := 89) rfl rfl ?_
          exact s_ret (st := []) rfl rfl rfl (Nat.zero_le _) (Nat.zero_le _) (⟨_, rfl, (by rw [show tm (aD a) q = 0 from if_neg (fun z => by omega)]; exact oI_0.symm), rfl, FrC_mz rfl rfl, ⟨hI.1, ⟨hI.2.1.1, hI.2.1.2.1, hI.2.1.2.2⟩, hI.2.2.1, hI.2.2.2.1, hI.2.2.2.2.1, hI.2.2.2.2.2.1, hI.2.2.2.2.2.2⟩⟩)
      · refine n_m1 rfl ?_
        exact s_ret (st := []) rfl rfl rfl (Nat.zero_le _) (Nat.zero_le _) (⟨_, rfl, (by rw [show tm (aD a) q = 0 from if_neg (fun z => z.2.2.1 h3)]; exact oI_0.symm), rfl, FrC_mz rfl rfl, ⟨hI.1, ⟨hI.2.1.1, hI.2.1.2.1, hI.2.1.2.2⟩, hI.2.2.1, hI.2.2.2.1, hI.2.2.2.2.1, hI.2.2.2.2.2.1, hI.2.2.2.2.2.2⟩⟩)

