theorem y_person_P {l9 : Bool} {sc : SC} {σ : SS} {a : AB} {x y : Int32} (hA : AV a) (hI : MI9 σ a) (hx : (x < 0 ∨ (¬ x < 0 ∧ nI (aD a 0 0) ≤ x))) : Cs (true, l9) sc mX10_person 0 0 [.ref 53, .int x, .int y] σ (QM σ a (nI 0) 1) := by
  refine Cs.of gmX10_person (Nat.le_of_ble_eq_true rfl) ?_
  show Ws (true, l9) sc mX10_person 0 0 0 0 0 [(0, .ref 53), (1, .int x), (2, .int y)] [] (mz σ [] []) (QM σ a (nI 0) 1)
  have hV := hA.1
  have hC := vC hV
  have hM := hI.1
  refine r_aload_n rfl rfl ?_
  refine r_iload_n rfl rfl ?_
  refine s_virI [.int x] [] rfl lkX10_249 rfl rfl rfl (k_noPerson_out (hM := hM) hV hx) rfl rfl (Nat.le_refl _) (Nat.le_refl _) rfl (rI (e1 := nI 1) rfl ?_)
  refine m_mz (L' := [(53, (aup (aup (σ.1 53) 0 (nI 0)) 0 (nI 1)))]) (M' := []) rfl rfl ?_
  refine n_if_ne (tgt := 17) rfl rfl (by decide) (fun _ => ?_) (fun hq => absurd hq (by decide))
  refine n_iconst 0 rfl ?_
  exact s_ret (st := []) rfl rfl rfl (Nat.zero_le _) (Nat.zero_le _) (⟨_, rfl, rfl, rfl, FrC_mz rfl rfl, ⟨hI.1, ⟨hI.2.1.1, hI.2.1.2.1, hI.2.1.2.2⟩, hI.2.2.1, hI.2.2.2.1, hI.2.2.2.2.1, hI.2.2.2.2.2.1, hI.2.2.2.2.2.2⟩⟩)

theorem y_step_P {l9 : Bool} {sc : SC} {σ : SS} {a : AB} {x y : Int32} (hA : AV a) (hI : MI9 σ a) (hx : (x < 0 ∨ (¬ x < 0 ∧ nI (aD a 0 0) ≤ x))) : Cs (true, l9) sc mX10_step 0 0 [.ref 53, .int x, .int y] σ (QM σ a (nI 0) 1) := by
  refine Cs.of gmX10_step (Nat.le_of_ble_eq_true rfl) ?_
  show Ws (true, l9) sc mX10_step 0 0 0 0 0 [(0, .ref 53), (1, .int x), (2, .int y)] [] (mz σ [] []) (QM σ a (nI 0) 1)
  have hV := hA.1
  have hC := vC hV
  have hM := hI.1
  refine r_aload_n rfl rfl ?_
  refine r_iload_n rfl rfl ?_
  refine s_virI [.int x] [] rfl lkX10_249 rfl rfl rfl (k_noPerson_out (hM := hM) hV hx) rfl rfl (Nat.le_refl _) (Nat.le_refl _) rfl (rI (e1 := nI 1) rfl ?_)
  refine m_mz (L' := [(53, (aup (aup (σ.1 53) 0 (nI 0)) 0 (nI 1)))]) (M' := []) rfl rfl ?_
  refine n_if_ne (tgt := 18) rfl rfl (by decide) (fun _ => ?_) (fun hq => absurd hq (by decide))
  refine n_iconst 0 rfl ?_
  exact s_ret (st := []) rfl rfl rfl (Nat.zero_le _) (Nat.zero_le _) (⟨_, rfl, rfl, rfl, FrC_mz rfl rfl, ⟨hI.1, ⟨hI.2.1.1, hI.2.1.2.1, hI.2.1.2.2⟩, hI.2.2.1, hI.2.2.2.1, hI.2.2.2.2.1, hI.2.2.2.2.2.1, hI.2.2.2.2.2.2⟩⟩)

theorem y_isEmpty_P {l9 : Bool} {sc : SC} {σ : SS} {a : AB} {x : Int32} (hA : AV a) (hI : MI9 σ a) (hx : (x < 0 ∨ (¬ x < 0 ∧ nI (aD a 0 0) ≤ x))) : Cs (true, l9) sc mX10_isEmpty 0 0 [.ref 53, .int x] σ (QM σ a (nI 0) 1) := by
  refine Cs.of gmX10_isEmpty (Nat.le_of_ble_eq_true rfl) ?_
  show Ws (true, l9) sc mX10_isEmpty 0 0 0 0 0 [(0, .ref 53), (1, .int x)] [] (mz σ [] []) (QM σ a (nI 0) 1)
  have hV := hA.1
  have hC := vC hV
  have hM := hI.1
  refine r_aload_n rfl rfl ?_
  refine r_iload_n rfl rfl ?_
  refine s_virI [.int x] [] rfl lkX10_249 rfl rfl rfl (k_noPerson_out (hM := hM) hV hx) rfl rfl (Nat.le_refl _) (Nat.le_refl _) rfl (rI (e1 := nI 1) rfl ?_)
  refine m_mz (L' := [(53, (aup (aup (σ.1 53) 0 (nI 0)) 0 (nI 1)))]) (M' := []) rfl rfl ?_
  refine n_if_eq (tgt := 10) rfl rfl (by decide) (fun hq => absurd hq (by decide)) (fun _ => ?_)
  refine n_iconst 0 rfl ?_
  exact s_ret (st := []) rfl rfl rfl (Nat.zero_le _) (Nat.zero_le _) (⟨_, rfl, rfl, rfl, FrC_mz rfl rfl, ⟨hI.1, ⟨hI.2.1.1, hI.2.1.2.1, hI.2.1.2.2⟩, hI.2.2.1, hI.2.2.2.1, hI.2.2.2.2.1, hI.2.2.2.2.2.1, hI.2.2.2.2.2.2⟩⟩)

theorem y_given_P {l9 : Bool} {sc : SC} {σ : SS} {a : AB} {x : Int32} (hA : AV a) (hI : MI9 σ a) (hx : (x < 0 ∨ (¬ x < 0 ∧ nI (aD a 0 0) ≤ x))) : Cs (true, l9) sc mX10_given 0 0 [.ref 53, .int x] σ (QM σ a (nI 0) 1) := by
  refine Cs.of gmX10_given (Nat.le_of_ble_eq_true rfl) ?_
  show Ws (true, l9) sc mX10_given 0 0 0 0 0 [(0, .ref 53), (1, .int x)] [] (mz σ [] []) (QM σ a (nI 0) 1)
  have hV := hA.1
  have hC := vC hV
  have hM := hI.1
  refine r_aload_n rfl rfl ?_
  refine r_iload_n rfl rfl ?_
  refine s_virI [.int x] [] rfl lkX10_249 rfl rfl rfl (k_noPerson_out (hM := hM) hV hx) rfl rfl (Nat.le_refl _) (Nat.le_refl _) rfl (rI (e1 := nI 1) rfl ?_)
  refine m_mz (L' := [(53, (aup (aup (σ.1 53) 0 (nI 0)) 0 (nI 1)))]) (M' := []) rfl rfl ?_
  refine n_if_eq (tgt := 10) rfl rfl (by decide) (fun hq => absurd hq (by decide)) (fun _ => ?_)
  refine n_iconst 0 rfl ?_
  exact s_ret (st := []) rfl rfl rfl (Nat.zero_le _) (Nat.zero_le _) (⟨_, rfl, rfl, rfl, FrC_mz rfl rfl, ⟨hI.1, ⟨hI.2.1.1, hI.2.1.2.1, hI.2.1.2.2⟩, hI.2.2.1, hI.2.2.2.1, hI.2.2.2.2.1, hI.2.2.2.2.2.1, hI.2.2.2.2.2.2⟩⟩)

theorem y_givenIf_P {l9 : Bool} {sc : SC} {σ : SS} {a : AB} {x y : Int32} (hA : AV a) (hI : MI9 σ a) (hx : (x < 0 ∨ (¬ x < 0 ∧ nI (aD a 0 0) ≤ x))) : Cs (true, l9) sc mX10_givenIf 0 0 [.ref 53, .int x, .int y] σ (QM σ a (nI 0) 1) := by
  refine Cs.of gmX10_givenIf (Nat.le_of_ble_eq_true rfl) ?_
  show Ws (true, l9) sc mX10_givenIf 0 0 0 0 0 [(0, .ref 53), (1, .int x), (2, .int y)] [] (mz σ [] []) (QM σ a (nI 0) 1)
  have hV := hA.1
  have hC := vC hV
  have hM := hI.1
  refine r_aload_n rfl rfl ?_
  refine r_iload_n rfl rfl ?_
  refine s_virI [.int x] [] rfl lkX10_249 rfl rfl rfl (k_noPerson_out (hM := hM) hV hx) rfl rfl (Nat.le_refl _) (Nat.le_refl _) rfl (rI (e1 := nI 1) rfl ?_)
  refine m_mz (L' := [(53, (aup (aup (σ.1 53) 0 (nI 0)) 0 (nI 1)))]) (M' := []) rfl rfl ?_
  refine n_if_ne (tgt := 22) rfl rfl (by decide) (fun _ => ?_) (fun hq => absurd hq (by decide))
  refine n_iconst 0 rfl ?_
  refine r_goto (tgt := 32) rfl rfl ?_
  exact s_ret (st := []) rfl rfl rfl (Nat.zero_le _) (Nat.zero_le _) (⟨_, rfl, rfl, rfl, FrC_mz rfl rfl, ⟨hI.1, ⟨hI.2.1.1, hI.2.1.2.1, hI.2.1.2.2⟩, hI.2.2.1, hI.2.2.2.1, hI.2.2.2.2.1, hI.2.2.2.2.2.1, hI.2.2.2.2.2.2⟩⟩)

theorem y_helper_P {l9 : Bool} {sc : SC} {σ : SS} {a : AB} {x : Int32} (hA : AV a) (hI : MI9 σ a) (hx : (x < 0 ∨ (¬ x < 0 ∧ nI (aD a 0 0) ≤ x))) : Cs (true, l9) sc mX10_helper 0 0 [.ref 53, .int x] σ (QM σ a (nI 0) 1) := by
  refine Cs.of gmX10_helper (Nat.le_of_ble_eq_true rfl) ?_
  show Ws (true, l9) sc mX10_helper 0 0 0 0 0 [(0, .ref 53), (1, .int x)] [] (mz σ [] []) (QM σ a (nI 0) 1)
  have hV := hA.1
  have hC := vC hV
  have hM := hI.1
  refine r_aload_n rfl rfl ?_
  refine r_iload_n rfl rfl ?_
  refine s_virI [.int x] [] rfl lkX10_249 rfl rfl rfl (k_noPerson_out (hM := hM) hV hx) rfl rfl (Nat.le_refl _) (Nat.le_refl _) rfl (rI (e1 := nI 1) rfl ?_)
  refine m_mz (L' := [(53, (aup (aup (σ.1 53) 0 (nI 0)) 0 (nI 1)))]) (M' := []) rfl rfl ?_
  refine n_if_eq (tgt := 10) rfl rfl (by decide) (fun hq => absurd hq (by decide)) (fun _ => ?_)
  refine n_iconst 0 rfl ?_
  exact s_ret (st := []) rfl rfl rfl (Nat.zero_le _) (Nat.zero_le _) (⟨_, rfl, rfl, rfl, FrC_mz rfl rfl, ⟨hI.1, ⟨hI.2.1.1, hI.2.1.2.1, hI.2.1.2.2⟩, hI.2.2.1, hI.2.2.2.1, hI.2.2.2.2.1, hI.2.2.2.2.2.1, hI.2.2.2.2.2.2⟩⟩)

theorem y_tooMuch_P {l9 : Bool} {sc : SC} {σ : SS} {a : AB} {x : Int32} (hA : AV a) (hI : MI9 σ a) (hx : (x < 0 ∨ (¬ x < 0 ∧ nI (aD a 0 0) ≤ x))) : Cs (true, l9) sc mX10_tooMuch 0 0 [.ref 53, .int x] σ (QM σ a (nI 0) 1) := by
  refine Cs.of gmX10_tooMuch (Nat.le_of_ble_eq_true rfl) ?_
  show Ws (true, l9) sc mX10_tooMuch 0 0 0 0 0 [(0, .ref 53), (1, .int x)] [] (mz σ [] []) (QM σ a (nI 0) 1)
  have hV := hA.1
  have hC := vC hV
  have hM := hI.1
  refine r_aload_n rfl rfl ?_
  refine r_iload_n rfl rfl ?_
  refine s_virI [.int x] [] rfl lkX10_249 rfl rfl rfl (k_noPerson_out (hM := hM) hV hx) rfl rfl (Nat.le_refl _) (Nat.le_refl _) rfl (rI (e1 := nI 1) rfl ?_)
  refine m_mz (L' := [(53, (aup (aup (σ.1 53) 0 (nI 0)) 0 (nI 1)))]) (M' := []) rfl rfl ?_
  refine n_if_eq (tgt := 10) rfl rfl (by decide) (fun hq => absurd hq (by decide)) (fun _ => ?_)
  refine n_iconst 0 rfl ?_
  exact s_ret (st := []) rfl rfl rfl (Nat.zero_le _) (Nat.zero_le _) (⟨_, rfl, rfl, rfl, FrC_mz rfl rfl, ⟨hI.1, ⟨hI.2.1.1, hI.2.1.2.1, hI.2.1.2.2⟩, hI.2.2.1, hI.2.2.2.1, hI.2.2.2.2.1, hI.2.2.2.2.2.1, hI.2.2.2.2.2.2⟩⟩)

theorem y_refuse_P {l9 : Bool} {sc : SC} {σ : SS} {a : AB} {x y : Int32} (hA : AV a) (hI : MI9 σ a) (hx : (x < 0 ∨ (¬ x < 0 ∧ nI (aD a 0 0) ≤ x))) : Cs (true, l9) sc mX10_refuse 0 0 [.ref 53, .int x, .int y] σ (QM σ a (nI 0) 1) := by
  refine Cs.of gmX10_refuse (Nat.le_of_ble_eq_true rfl) ?_
  show Ws (true, l9) sc mX10_refuse 0 0 0 0 0 [(0, .ref 53), (1, .int x), (2, .int y)] [] (mz σ [] []) (QM σ a (nI 0) 1)
  have hV := hA.1
  have hC := vC hV
  have hM := hI.1
  refine r_aload_n rfl rfl ?_
  refine r_iload_n rfl rfl ?_
  refine s_virI [.int x] [] rfl lkX10_249 rfl rfl rfl (k_noPerson_out (hM := hM) hV hx) rfl rfl (Nat.le_refl _) (Nat.le_refl _) rfl (rI (e1 := nI 1) rfl ?_)
  refine m_mz (L' := [(53, (aup (aup (σ.1 53) 0 (nI 0)) 0 (nI 1)))]) (M' := []) rfl rfl ?_
  refine n_if_eq (tgt := 10) rfl rfl (by decide) (fun hq => absurd hq (by decide)) (fun _ => ?_)
  refine n_iconst 0 rfl ?_
  exact s_ret (st := []) rfl rfl rfl (Nat.zero_le _) (Nat.zero_le _) (⟨_, rfl, rfl, rfl, FrC_mz rfl rfl, ⟨hI.1, ⟨hI.2.1.1, hI.2.1.2.1, hI.2.1.2.2⟩, hI.2.2.1, hI.2.2.2.1, hI.2.2.2.2.1, hI.2.2.2.2.2.1, hI.2.2.2.2.2.2⟩⟩)

theorem y_die_P {l9 : Bool} {sc : SC} {σ : SS} {a : AB} {x : Int32} (hA : AV a) (hI : MI9 σ a) (hx : (x < 0 ∨ (¬ x < 0 ∧ nI (aD a 0 0) ≤ x))) : Cs (true, l9) sc mX10_die 0 0 [.ref 53, .int x] σ (QM σ a (nI 0) 1) := by
  refine Cs.of gmX10_die (Nat.le_of_ble_eq_true rfl) ?_
  show Ws (true, l9) sc mX10_die 0 0 0 0 0 [(0, .ref 53), (1, .int x)] [] (mz σ [] []) (QM σ a (nI 0) 1)
  have hV := hA.1
  have hC := vC hV
  have hM := hI.1
  refine r_aload_n rfl rfl ?_
  refine r_iload_n rfl rfl ?_
  refine s_virI [.int x] [] rfl lkX10_249 rfl rfl rfl (k_noPerson_out (hM := hM) hV hx) rfl rfl (Nat.le_refl _) (Nat.le_refl _) rfl (rI (e1 := nI 1) rfl ?_)
  refine m_mz (L' := [(53, (aup (aup (σ.1 53) 0 (nI 0)) 0 (nI 1)))]) (M' := []) rfl rfl ?_
  refine n_if_eq (tgt := 10) rfl rfl (by decide) (fun hq => absurd hq (by decide)) (fun _ => ?_)
  refine n_iconst 0 rfl ?_
  exact s_ret (st := []) rfl rfl rfl (Nat.zero_le _) (Nat.zero_le _) (⟨_, rfl, rfl, rfl, FrC_mz rfl rfl, ⟨hI.1, ⟨hI.2.1.1, hI.2.1.2.1, hI.2.1.2.2⟩, hI.2.2.1, hI.2.2.2.1, hI.2.2.2.2.1, hI.2.2.2.2.2.1, hI.2.2.2.2.2.2⟩⟩)

theorem y_setAge_P {l9 : Bool} {sc : SC} {σ : SS} {a : AB} {x y : Int32} (hA : AV a) (hI : MI9 σ a) (hx : (x < 0 ∨ (¬ x < 0 ∧ nI (aD a 0 0) ≤ x))) : Cs (true, l9) sc mX10_setAge 0 0 [.ref 53, .int x, .int y] σ (QM σ a (nI 0) 1) := by
  refine Cs.of gmX10_setAge (Nat.le_of_ble_eq_true rfl) ?_
  show Ws (true, l9) sc mX10_setAge 0 0 0 0 0 [(0, .ref 53), (1, .int x), (2, .int y)] [] (mz σ [] []) (QM σ a (nI 0) 1)
  have hV := hA.1
  have hC := vC hV
  have hM := hI.1
  refine r_aload_n rfl rfl ?_
  refine r_iload_n rfl rfl ?_
  refine s_virI [.int x] [] rfl lkX10_249 rfl rfl rfl (k_noPerson_out (hM := hM) hV hx) rfl rfl (Nat.le_refl _) (Nat.le_refl _) rfl (rI (e1 := nI 1) rfl ?_)
  refine m_mz (L' := [(53, (aup (aup (σ.1 53) 0 (nI 0)) 0 (nI 1)))]) (M' := []) rfl rfl ?_
  refine n_if_ne (tgt := 31) rfl rfl (by decide) (fun _ => ?_) (fun hq => absurd hq (by decide))
  refine n_iconst 0 rfl ?_
  exact s_ret (st := []) rfl rfl rfl (Nat.zero_le _) (Nat.zero_le _) (⟨_, rfl, rfl, rfl, FrC_mz rfl rfl, ⟨hI.1, ⟨hI.2.1.1, hI.2.1.2.1, hI.2.1.2.2⟩, hI.2.2.1, hI.2.2.2.1, hI.2.2.2.2.1, hI.2.2.2.2.2.1, hI.2.2.2.2.2.2⟩⟩)

theorem y_addGift_P {l9 : Bool} {sc : SC} {σ : SS} {a : AB} {x y : Int32} (hA : AV a) (hI : MI9 σ a) (hx : (x < 0 ∨ (¬ x < 0 ∧ nI (aD a 0 0) ≤ x))) : Cs (true, l9) sc mX10_addGift 0 0 [.ref 53, .int x, .int y] σ (QM σ a (nI 0) 1) := by
  refine Cs.of gmX10_addGift (Nat.le_of_ble_eq_true rfl) ?_
  show Ws (true, l9) sc mX10_addGift 0 0 0 0 0 [(0, .ref 53), (1, .int x), (2, .int y)] [] (mz σ [] []) (QM σ a (nI 0) 1)
  have hV := hA.1
  have hC := vC hV
  have hM := hI.1
  refine r_aload_n rfl rfl ?_
  refine r_iload_n rfl rfl ?_
  refine s_virI [.int x] [] rfl lkX10_249 rfl rfl rfl (k_noPerson_out (hM := hM) hV hx) rfl rfl (Nat.le_refl _) (Nat.le_refl _) rfl (rI (e1 := nI 1) rfl ?_)
  refine m_mz (L' := [(53, (aup (aup (σ.1 53) 0 (nI 0)) 0 (nI 1)))]) (M' := []) rfl rfl ?_
  refine n_if_ne (tgt := 55) rfl rfl (by decide) (fun _ => ?_) (fun hq => absurd hq (by decide))
  refine n_iconst 0 rfl ?_
  exact s_ret (st := []) rfl rfl rfl (Nat.zero_le _) (Nat.zero_le _) (⟨_, rfl, rfl, rfl, FrC_mz rfl rfl, ⟨hI.1, ⟨hI.2.1.1, hI.2.1.2.1, hI.2.1.2.2⟩, hI.2.2.1, hI.2.2.2.1, hI.2.2.2.2.1, hI.2.2.2.2.2.1, hI.2.2.2.2.2.2⟩⟩)

theorem y_asset_P {l9 : Bool} {sc : SC} {σ : SS} {a : AB} {x y : Int32} (hA : AV a) (hI : MI9 σ a) (hx : (x < 0 ∨ (¬ x < 0 ∧ nI (aD a 0 1) ≤ x))) : Cs (true, l9) sc mX10_asset 0 0 [.ref 53, .int x, .int y] σ (QM σ a (nI 0) 1) := by
  refine Cs.of gmX10_asset (Nat.le_of_ble_eq_true rfl) ?_
  show Ws (true, l9) sc mX10_asset 0 0 0 0 0 [(0, .ref 53), (1, .int x), (2, .int y)] [] (mz σ [] []) (QM σ a (nI 0) 1)
  have hV := hA.1
  have hC := vC hV
  have hM := hI.1
  refine r_aload_n rfl rfl ?_
  refine n_iconst 0 rfl ?_
  refine m_putI (L' := [(53, (aup (σ.1 53) 0 (nI 0)))]) rfl flX10_89 rfl rfl (okv_i _) rfl ?_
  refine r_aload_n rfl rfl ?_
  refine r_iload_n rfl rfl ?_
  refine r_aload_n rfl rfl ?_
  refine s_getR (r := 54) rfl flX10_7 rfl rfl ?_
  refine n_iconst 1 rfl ?_
  refine s_iald (x := nI ((aD a) 0 1)) rfl rfl (by decide) (MRat hM 0 1 (by decide) (by decide)) ?_
  refine s_virI [.int x, .int (nI ((aD a) 0 1))] [] rfl lkX10_242 rfl rfl rfl (k_no_out rfl (by omega) hx) rfl rfl (Nat.le_refl _) (Nat.le_refl _) rfl (rI (e1 := nI 1) rfl ?_)
  refine m_mz (L' := [(53, (aup (aup (σ.1 53) 0 (nI 0)) 0 (nI 1)))]) (M' := []) rfl rfl ?_
  refine n_if_ne (tgt := 28) rfl rfl (by decide) (fun _ => ?_) (fun hq => absurd hq (by decide))
  refine n_iconst 0 rfl ?_
  exact s_ret (st := []) rfl rfl rfl (Nat.zero_le _) (Nat.zero_le _) (⟨_, rfl, rfl, rfl, FrC_mz rfl rfl, ⟨hI.1, ⟨hI.2.1.1, hI.2.1.2.1, hI.2.1.2.2⟩, hI.2.2.1, hI.2.2.2.1, hI.2.2.2.2.1, hI.2.2.2.2.2.1, hI.2.2.2.2.2.2⟩⟩)

theorem y_setValue_P {l9 : Bool} {sc : SC} {σ : SS} {a : AB} {x y : Int32} (hA : AV a) (hI : MI9 σ a) (hx : (x < 0 ∨ (¬ x < 0 ∧ nI (aD a 0 1) ≤ x))) : Cs (true, l9) sc mX10_setValue 0 0 [.ref 53, .int x, .int y] σ (QM σ a (nI 0) 1) := by
  refine Cs.of gmX10_setValue (Nat.le_of_ble_eq_true rfl) ?_
  show Ws (true, l9) sc mX10_setValue 0 0 0 0 0 [(0, .ref 53), (1, .int x), (2, .int y)] [] (mz σ [] []) (QM σ a (nI 0) 1)
  have hV := hA.1
  have hC := vC hV
  have hM := hI.1
  refine r_aload_n rfl rfl ?_
  refine n_iconst 0 rfl ?_
  refine m_putI (L' := [(53, (aup (σ.1 53) 0 (nI 0)))]) rfl flX10_89 rfl rfl (okv_i _) rfl ?_
  refine r_aload_n rfl rfl ?_
  refine r_iload_n rfl rfl ?_
  refine r_aload_n rfl rfl ?_
  refine s_getR (r := 54) rfl flX10_7 rfl rfl ?_
  refine n_iconst 1 rfl ?_
  refine s_iald (x := nI ((aD a) 0 1)) rfl rfl (by decide) (MRat hM 0 1 (by decide) (by decide)) ?_
  refine s_virI [.int x, .int (nI ((aD a) 0 1))] [] rfl lkX10_242 rfl rfl rfl (k_no_out rfl (by omega) hx) rfl rfl (Nat.le_refl _) (Nat.le_refl _) rfl (rI (e1 := nI 1) rfl ?_)
  refine m_mz (L' := [(53, (aup (aup (σ.1 53) 0 (nI 0)) 0 (nI 1)))]) (M' := []) rfl rfl ?_
  refine n_if_ne (tgt := 42) rfl rfl (by decide) (fun _ => ?_) (fun hq => absurd hq (by decide))
  refine n_iconst 0 rfl ?_
  exact s_ret (st := []) rfl rfl rfl (Nat.zero_le _) (Nat.zero_le _) (⟨_, rfl, rfl, rfl, FrC_mz rfl rfl, ⟨hI.1, ⟨hI.2.1.1, hI.2.1.2.1, hI.2.1.2.2⟩, hI.2.2.1, hI.2.2.2.1, hI.2.2.2.2.1, hI.2.2.2.2.2.1, hI.2.2.2.2.2.2⟩⟩)

theorem y_givenIf_Q {l9 : Bool} {sc : SC} {σ : SS} {a : AB} {q : Nat} {y : Int32} (hA : AV a) (hI : MI9 σ a) (hq : q < aD a 0 0) (hx : (y < 0 ∨ (¬ y < 0 ∧ nI (aD a 0 0) ≤ y))) : Cs (true, l9) sc mX10_givenIf 0 0 [.ref 53, .int (nI q), .int y] σ (QM σ a (nI 0) 1) := by
  refine Cs.of gmX10_givenIf (Nat.le_of_ble_eq_true rfl) ?_
  show Ws (true, l9) sc mX10_givenIf 0 0 0 0 0 [(0, .ref 53), (1, .int (nI q)), (2, .int y)] [] (mz σ [] []) (QM σ a (nI 0) 1)
  have hV := hA.1
  have hC := vC hV
  have hM := hI.1
  refine r_aload_n rfl rfl ?_
  refine r_iload_n rfl rfl ?_
  refine s_virI [.int (nI q)] [] rfl lkX10_249 rfl rfl rfl (k_noPerson_in (hM := hI.1) hV hq) rfl rfl (Nat.le_refl _) (Nat.le_refl _) rfl (rI (e1 := nI 0) rfl ?_)
  refine m_mz (L' := [(53, (aup (σ.1 53) 0 (nI 0)))]) (M' := []) rfl rfl ?_
  refine n_if_ne (tgt := 22) rfl rfl (by decide) (fun hq => absurd hq (by decide)) (fun _ => ?_)
  refine r_aload_n rfl rfl ?_
  refine r_iload_n rfl rfl ?_
  refine r_aload_n rfl rfl ?_
  refine s_getR (r := 54) rfl flX10_7 rfl rfl ?_
  refine n_iconst 0 rfl ?_
  refine s_iald (x := nI ((aD a) 0 0)) rfl rfl (by decide) (MRat hM 0 0 (by decide) (by decide)) ?_
  refine s_virI [.int y, .int (nI ((aD a) 0 0))] [] rfl lkX10_242 rfl rfl rfl (k_no_out rfl (by omega) hx) rfl rfl (Nat.le_refl _) (Nat.le_refl _) rfl (rI (e1 := nI 1) rfl ?_)
  refine m_mz (L' := [(53, (aup (aup (σ.1 53) 0 (nI 0)) 0 (nI 1)))]) (M' := []) rfl rfl ?_
  refine n_if_eq (tgt := 26) rfl rfl (by decide) (fun hq => absurd hq (by decide)) (fun _ => ?_)
  refine n_iconst 0 rfl ?_
  refine r_goto (tgt := 32) rfl rfl ?_
  exact s_ret (st := []) rfl rfl rfl (Nat.zero_le _) (Nat.zero_le _) (⟨_, rfl, rfl, rfl, FrC_mz rfl rfl, ⟨hI.1, ⟨hI.2.1.1, hI.2.1.2.1, hI.2.1.2.2⟩, hI.2.2.1, hI.2.2.2.1, hI.2.2.2.2.1, hI.2.2.2.2.2.1, hI.2.2.2.2.2.2⟩⟩)

theorem y_person_W {l9 : Bool} {sc : SC} {σ : SS} {a : AB} {q : Nat} {y : Int32} (hA : AV a) (hI : MI9 σ a) (hq : q < aD a 0 0) (hx : (y < 0 ∨ (¬ y < 0 ∧ nI (5 + 1) ≤ y))) : Cs (true, l9) sc mX10_person 0 0 [.ref 53, .int (nI q), .int y] σ (QM σ a (nI 0) 2) := by
  refine Cs.of gmX10_person (Nat.le_of_ble_eq_true rfl) ?_
  show Ws (true, l9) sc mX10_person 0 0 0 0 0 [(0, .ref 53), (1, .int (nI q)), (2, .int y)] [] (mz σ [] []) (QM σ a (nI 0) 2)
  have hV := hA.1
  have hC := vC hV
  have hM := hI.1
  refine r_aload_n rfl rfl ?_
  refine r_iload_n rfl rfl ?_
  refine s_virI [.int (nI q)] [] rfl lkX10_249 rfl rfl rfl (k_noPerson_in (hM := hI.1) hV hq) rfl rfl (Nat.le_refl _) (Nat.le_refl _) rfl (rI (e1 := nI 0) rfl ?_)
  refine m_mz (L' := [(53, (aup (σ.1 53) 0 (nI 0)))]) (M' := []) rfl rfl ?_
  refine n_if_ne (tgt := 17) rfl rfl (by decide) (fun hq => absurd hq (by decide)) (fun _ => ?_)
  refine r_aload_n rfl rfl ?_
  refine r_iload_n rfl rfl ?_
  refine n_iconst 5 rfl ?_
  refine s_virI [.int y, .int (nI 5)] [] rfl lkX10_252 rfl rfl rfl (k_noWhat_out rfl (by decide) hx) rfl rfl (Nat.le_refl _) (Nat.le_refl _) rfl (rI (e1 := nI 1) rfl ?_)
  refine m_mz (L' := [(53, (aup (aup (σ.1 53) 0 (nI 0)) 0 (nI 2)))]) (M' := []) rfl rfl ?_
  refine n_if_eq (tgt := 19) rfl rfl (by decide) (fun hq => absurd hq (by decide)) (fun _ => ?_)
  refine n_iconst 0 rfl ?_
  exact s_ret (st := []) rfl rfl rfl (Nat.zero_le _) (Nat.zero_le _) (⟨_, rfl, rfl, rfl, FrC_mz rfl rfl, ⟨hI.1, ⟨hI.2.1.1, hI.2.1.2.1, hI.2.1.2.2⟩, hI.2.2.1, hI.2.2.2.1, hI.2.2.2.2.1, hI.2.2.2.2.2.1, hI.2.2.2.2.2.2⟩⟩)

theorem y_step_W {l9 : Bool} {sc : SC} {σ : SS} {a : AB} {q : Nat} {y : Int32} (hA : AV a) (hI : MI9 σ a) (hq : q < aD a 0 0) (hx : (y < 0 ∨ (¬ y < 0 ∧ nI (6 + 1) ≤ y))) : Cs (true, l9) sc mX10_step 0 0 [.ref 53, .int (nI q), .int y] σ (QM σ a (nI 0) 2) := by
  refine Cs.of gmX10_step (Nat.le_of_ble_eq_true rfl) ?_
  show Ws (true, l9) sc mX10_step 0 0 0 0 0 [(0, .ref 53), (1, .int (nI q)), (2, .int y)] [] (mz σ [] []) (QM σ a (nI 0) 2)
  have hV := hA.1
  have hC := vC hV
  have hM := hI.1
  refine r_aload_n rfl rfl ?_
  refine r_iload_n rfl rfl ?_
  refine s_virI [.int (nI q)] [] rfl lkX10_249 rfl rfl rfl (k_noPerson_in (hM := hI.1) hV hq) rfl rfl (Nat.le_refl _) (Nat.le_refl _) rfl (rI (e1 := nI 0) rfl ?_)
  refine m_mz (L' := [(53, (aup (σ.1 53) 0 (nI 0)))]) (M' := []) rfl rfl ?_
  refine n_if_ne (tgt := 18) rfl rfl (by decide) (fun hq => absurd hq (by decide)) (fun _ => ?_)
  refine r_aload_n rfl rfl ?_
  refine r_iload_n rfl rfl ?_
  refine n_bipush 6 rfl (by decide) ?_
  refine s_virI [.int y, .int (nI 6)] [] rfl lkX10_252 rfl rfl rfl (k_noWhat_out rfl (by decide) hx) rfl rfl (Nat.le_refl _) (Nat.le_refl _) rfl (rI (e1 := nI 1) rfl ?_)
  refine m_mz (L' := [(53, (aup (aup (σ.1 53) 0 (nI 0)) 0 (nI 2)))]) (M' := []) rfl rfl ?_
  refine n_if_eq (tgt := 20) rfl rfl (by decide) (fun hq => absurd hq (by decide)) (fun _ => ?_)
  refine n_iconst 0 rfl ?_
  exact s_ret (st := []) rfl rfl rfl (Nat.zero_le _) (Nat.zero_le _) (⟨_, rfl, rfl, rfl, FrC_mz rfl rfl, ⟨hI.1, ⟨hI.2.1.1, hI.2.1.2.1, hI.2.1.2.2⟩, hI.2.2.1, hI.2.2.2.1, hI.2.2.2.2.1, hI.2.2.2.2.2.1, hI.2.2.2.2.2.2⟩⟩)

theorem y_asset_W {l9 : Bool} {sc : SC} {σ : SS} {a : AB} {q : Nat} {y : Int32} (hA : AV a) (hI : MI9 σ a) (hq : q < aD a 0 1) (hx : (y < 0 ∨ (¬ y < 0 ∧ nI (1 + 1) ≤ y))) : Cs (true, l9) sc mX10_asset 0 0 [.ref 53, .int (nI q), .int y] σ (QM σ a (nI 0) 2) := by
  refine Cs.of gmX10_asset (Nat.le_of_ble_eq_true rfl) ?_
  show Ws (true, l9) sc mX10_asset 0 0 0 0 0 [(0, .ref 53), (1, .int (nI q)), (2, .int y)] [] (mz σ [] []) (QM σ a (nI 0) 2)
  have hV := hA.1
  have hC := vC hV
  have hM := hI.1
  refine r_aload_n rfl rfl ?_
  refine n_iconst 0 rfl ?_
  refine m_putI (L' := [(53, (aup (σ.1 53) 0 (nI 0)))]) rfl flX10_89 rfl rfl (okv_i _) rfl ?_
  refine r_aload_n rfl rfl ?_
  refine r_iload_n rfl rfl ?_
  refine r_aload_n rfl rfl ?_
  refine s_getR (r := 54) rfl flX10_7 rfl rfl ?_
  refine n_iconst 1 rfl ?_
  refine s_iald (x := nI ((aD a) 0 1)) rfl rfl (by decide) (MRat hM 0 1 (by decide) (by decide)) ?_
  refine s_virI [.int (nI q), .int (nI ((aD a) 0 1))] [] rfl lkX10_242 rfl rfl rfl (k_no_in rfl hq (by omega)) rfl rfl (Nat.le_refl _) (Nat.le_refl _) rfl (rI (e1 := nI 0) rfl ?_)
  refine n_if_ne (tgt := 28) rfl rfl (by decide) (fun hq => absurd hq (by decide)) (fun _ => ?_)
  refine r_aload_n rfl rfl ?_
  refine r_iload_n rfl rfl ?_
  refine n_iconst 1 rfl ?_
  refine s_virI [.int y, .int (nI 1)] [] rfl lkX10_252 rfl rfl rfl (k_noWhat_out rfl (by decide) hx) rfl rfl (Nat.le_refl _) (Nat.le_refl _) rfl (rI (e1 := nI 1) rfl ?_)
  refine m_mz (L' := [(53, (aup (aup (σ.1 53) 0 (nI 0)) 0 (nI 2)))]) (M' := []) rfl rfl ?_
  refine n_if_eq (tgt := 30) rfl rfl (by decide) (fun hq => absurd hq (by decide)) (fun _ => ?_)
  refine n_iconst 0 rfl ?_
  exact s_ret (st := []) rfl rfl rfl (Nat.zero_le _) (Nat.zero_le _) (⟨_, rfl, rfl, rfl, FrC_mz rfl rfl, ⟨hI.1, ⟨hI.2.1.1, hI.2.1.2.1, hI.2.1.2.2⟩, hI.2.2.1, hI.2.2.2.1, hI.2.2.2.2.1, hI.2.2.2.2.2.1, hI.2.2.2.2.2.2⟩⟩)

theorem y_size_W {l9 : Bool} {sc : SC} {σ : SS} {a : AB} {y : Int32} (hA : AV a) (hI : MI9 σ a) (hx : (y < 0 ∨ (¬ y < 0 ∧ nI (9 + 1) ≤ y))) : Cs (true, l9) sc mX10_size 0 0 [.ref 53, .int y] σ (QM σ a (nI 0) 1) := by
  refine Cs.of gmX10_size (Nat.le_of_ble_eq_true rfl) ?_
  show Ws (true, l9) sc mX10_size 0 0 0 0 0 [(0, .ref 53), (1, .int y)] [] (mz σ [] []) (QM σ a (nI 0) 1)
  have hV := hA.1
  have hC := vC hV
  have hM := hI.1
  refine r_aload_n rfl rfl ?_
  refine n_iconst 0 rfl ?_
  refine m_putI (L' := [(53, (aup (σ.1 53) 0 (nI 0)))]) rfl flX10_89 rfl rfl (okv_i _) rfl ?_
  refine r_aload_n rfl rfl ?_
  refine r_iload_n rfl rfl ?_
  refine n_iconst 0 rfl ?_
  refine n_bipush 9 rfl (by decide) ?_
  refine s_staI [.int y, .int (nI 0), .int (nI 9)] [.ref 53] rfl lkX10_113 (k_within_out (by decide) hx) rfl rfl (Nat.le_refl _) (Nat.le_refl _) rfl (rI (e1 := nI 0) rfl ?_)
  refine n_if_ne (tgt := 20) rfl rfl (by decide) (fun hq => absurd hq (by decide)) (fun _ => ?_)
  refine n_iconst 1 rfl ?_
  refine r_goto (tgt := 21) rfl rfl ?_
  refine n_iconst 1 rfl ?_
  refine s_virI [.int (nI 1), .int (nI 1)] [] rfl lkX10_235 rfl rfl rfl (k_tI_yes rfl (by decide) (by decide)) rfl rfl (Nat.le_refl _) (Nat.le_refl _) rfl (rI (e1 := nI 1) rfl ?_)
  refine m_mz (L' := [(53, (aup (aup (σ.1 53) 0 (nI 0)) 0 (nI 1)))]) (M' := []) rfl rfl ?_
  refine n_if_eq (tgt := 32) rfl rfl (by decide) (fun hq => absurd hq (by decide)) (fun _ => ?_)
  refine n_iconst 0 rfl ?_
  refine r_goto (tgt := 38) rfl rfl ?_
  exact s_ret (st := []) rfl rfl rfl (Nat.zero_le _) (Nat.zero_le _) (⟨_, rfl, rfl, rfl, FrC_mz rfl rfl, ⟨hI.1, ⟨hI.2.1.1, hI.2.1.2.1, hI.2.1.2.2⟩, hI.2.2.1, hI.2.2.2.1, hI.2.2.2.2.1, hI.2.2.2.2.2.1, hI.2.2.2.2.2.2⟩⟩)

theorem y_account_W {l9 : Bool} {sc : SC} {σ : SS} {a : AB} {y : Int32} (hA : AV a) (hI : MI9 σ a) (hx : (y < 0 ∨ (¬ y < 0 ∧ nI (9 + 1) ≤ y))) : Cs (true, l9) sc mX10_account 0 0 [.ref 53, .int y] σ (QM σ a (nI 0) 1) := by
  refine Cs.of gmX10_account (Nat.le_of_ble_eq_true rfl) ?_
  show Ws (true, l9) sc mX10_account 0 0 0 0 0 [(0, .ref 53), (1, .int y)] [] (mz σ [] []) (QM σ a (nI 0) 1)
  have hV := hA.1
  have hC := vC hV
  have hM := hI.1
  refine r_aload_n rfl rfl ?_
  refine n_iconst 0 rfl ?_
  refine m_putI (L' := [(53, (aup (σ.1 53) 0 (nI 0)))]) rfl flX10_89 rfl rfl (okv_i _) rfl ?_
  refine r_aload_n rfl rfl ?_
  refine r_iload_n rfl rfl ?_
  refine n_iconst 0 rfl ?_
  refine n_bipush 9 rfl (by decide) ?_
  refine s_staI [.int y, .int (nI 0), .int (nI 9)] [.ref 53] rfl lkX10_113 (k_within_out (by decide) hx) rfl rfl (Nat.le_refl _) (Nat.le_refl _) rfl (rI (e1 := nI 0) rfl ?_)
  refine n_if_ne (tgt := 20) rfl rfl (by decide) (fun hq => absurd hq (by decide)) (fun _ => ?_)
  refine n_iconst 1 rfl ?_
  refine r_goto (tgt := 21) rfl rfl ?_
  refine n_iconst 1 rfl ?_
  refine s_virI [.int (nI 1), .int (nI 1)] [] rfl lkX10_235 rfl rfl rfl (k_tI_yes rfl (by decide) (by decide)) rfl rfl (Nat.le_refl _) (Nat.le_refl _) rfl (rI (e1 := nI 1) rfl ?_)
  refine m_mz (L' := [(53, (aup (aup (σ.1 53) 0 (nI 0)) 0 (nI 1)))]) (M' := []) rfl rfl ?_
  refine n_if_eq (tgt := 30) rfl rfl (by decide) (fun hq => absurd hq (by decide)) (fun _ => ?_)
  refine n_iconst 0 rfl ?_
  exact s_ret (st := []) rfl rfl rfl (Nat.zero_le _) (Nat.zero_le _) (⟨_, rfl, rfl, rfl, FrC_mz rfl rfl, ⟨hI.1, ⟨hI.2.1.1, hI.2.1.2.1, hI.2.1.2.2⟩, hI.2.2.1, hI.2.2.2.1, hI.2.2.2.2.1, hI.2.2.2.2.2.1, hI.2.2.2.2.2.2⟩⟩)

theorem y_debt_P {l9 : Bool} {sc : SC} {σ : SS} {a : AB} {x y : Int32} (hA : AV a) (hI : MI9 σ a) (hx : (x < 0 ∨ (¬ x < 0 ∧ nI (aD a 0 2) ≤ x))) : Cs (true, l9) sc mX10_debt 0 0 [.ref 53, .int x, .int y] σ (QM σ a (nI 0) 1) := by
  refine Cs.of gmX10_debt (Nat.le_of_ble_eq_true rfl) ?_
  show Ws (true, l9) sc mX10_debt 0 0 0 0 0 [(0, .ref 53), (1, .int x), (2, .int y)] [] (mz σ [] []) (QM σ a (nI 0) 1)
  have hV := hA.1
  have hC := vC hV
  have hM := hI.1
  refine r_aload_n rfl rfl ?_
  refine n_iconst 0 rfl ?_
  refine m_putI (L' := [(53, (aup (σ.1 53) 0 (nI 0)))]) rfl flX10_89 rfl rfl (okv_i _) rfl ?_
  refine r_aload_n rfl rfl ?_
  refine r_iload_n rfl rfl ?_
  refine r_aload_n rfl rfl ?_
  refine s_getR (r := 54) rfl flX10_7 rfl rfl ?_
  refine n_iconst 2 rfl ?_
  refine s_iald (x := nI ((aD a) 0 2)) rfl rfl (by decide) (MRat hM 0 2 (by decide) (by decide)) ?_
  refine s_virI [.int x, .int (nI ((aD a) 0 2))] [] rfl lkX10_242 rfl rfl rfl (k_no_out rfl (by omega) hx) rfl rfl (Nat.le_refl _) (Nat.le_refl _) rfl (rI (e1 := nI 1) rfl ?_)
  refine m_mz (L' := [(53, (aup (aup (σ.1 53) 0 (nI 0)) 0 (nI 1)))]) (M' := []) rfl rfl ?_
  refine n_if_ne (tgt := 28) rfl rfl (by decide) (fun _ => ?_) (fun hq => absurd hq (by decide))
  refine n_iconst 0 rfl ?_
  exact s_ret (st := []) rfl rfl rfl (Nat.zero_le _) (Nat.zero_le _) (⟨_, rfl, rfl, rfl, FrC_mz rfl rfl, ⟨hI.1, ⟨hI.2.1.1, hI.2.1.2.1, hI.2.1.2.2⟩, hI.2.2.1, hI.2.2.2.1, hI.2.2.2.2.1, hI.2.2.2.2.2.1, hI.2.2.2.2.2.2⟩⟩)

theorem y_debt_W {l9 : Bool} {sc : SC} {σ : SS} {a : AB} {q : Nat} {y : Int32} (hA : AV a) (hI : MI9 σ a) (hq : q < aD a 0 2) (hx : (y < 0 ∨ (¬ y < 0 ∧ nI (2 + 1) ≤ y))) : Cs (true, l9) sc mX10_debt 0 0 [.ref 53, .int (nI q), .int y] σ (QM σ a (nI 0) 2) := by
  refine Cs.of gmX10_debt (Nat.le_of_ble_eq_true rfl) ?_
  show Ws (true, l9) sc mX10_debt 0 0 0 0 0 [(0, .ref 53), (1, .int (nI q)), (2, .int y)] [] (mz σ [] []) (QM σ a (nI 0) 2)
  have hV := hA.1
  have hC := vC hV
  have hM := hI.1
  refine r_aload_n rfl rfl ?_
  refine n_iconst 0 rfl ?_
  refine m_putI (L' := [(53, (aup (σ.1 53) 0 (nI 0)))]) rfl flX10_89 rfl rfl (okv_i _) rfl ?_
  refine r_aload_n rfl rfl ?_
  refine r_iload_n rfl rfl ?_
  refine r_aload_n rfl rfl ?_
  refine s_getR (r := 54) rfl flX10_7 rfl rfl ?_
  refine n_iconst 2 rfl ?_
  refine s_iald (x := nI ((aD a) 0 2)) rfl rfl (by decide) (MRat hM 0 2 (by decide) (by decide)) ?_
  refine s_virI [.int (nI q), .int (nI ((aD a) 0 2))] [] rfl lkX10_242 rfl rfl rfl (k_no_in rfl hq (by omega)) rfl rfl (Nat.le_refl _) (Nat.le_refl _) rfl (rI (e1 := nI 0) rfl ?_)
  refine n_if_ne (tgt := 28) rfl rfl (by decide) (fun hq => absurd hq (by decide)) (fun _ => ?_)
  refine r_aload_n rfl rfl ?_
  refine r_iload_n rfl rfl ?_
  refine n_iconst 2 rfl ?_
  refine s_virI [.int y, .int (nI 2)] [] rfl lkX10_252 rfl rfl rfl (k_noWhat_out rfl (by decide) hx) rfl rfl (Nat.le_refl _) (Nat.le_refl _) rfl (rI (e1 := nI 1) rfl ?_)
  refine m_mz (L' := [(53, (aup (aup (σ.1 53) 0 (nI 0)) 0 (nI 2)))]) (M' := []) rfl rfl ?_
  refine n_if_eq (tgt := 30) rfl rfl (by decide) (fun hq => absurd hq (by decide)) (fun _ => ?_)
  refine n_iconst 0 rfl ?_
  exact s_ret (st := []) rfl rfl rfl (Nat.zero_le _) (Nat.zero_le _) (⟨_, rfl, rfl, rfl, FrC_mz rfl rfl, ⟨hI.1, ⟨hI.2.1.1, hI.2.1.2.1, hI.2.1.2.2⟩, hI.2.2.1, hI.2.2.2.1, hI.2.2.2.2.1, hI.2.2.2.2.2.1, hI.2.2.2.2.2.2⟩⟩)

theorem y_legacy_P {l9 : Bool} {sc : SC} {σ : SS} {a : AB} {x y : Int32} (hA : AV a) (hI : MI9 σ a) (hx : (x < 0 ∨ (¬ x < 0 ∧ nI (aD a 0 4) ≤ x))) : Cs (true, l9) sc mX10_legacy 0 0 [.ref 53, .int x, .int y] σ (QM σ a (nI 0) 1) := by
  refine Cs.of gmX10_legacy (Nat.le_of_ble_eq_true rfl) ?_
  show Ws (true, l9) sc mX10_legacy 0 0 0 0 0 [(0, .ref 53), (1, .int x), (2, .int y)] [] (mz σ [] []) (QM σ a (nI 0) 1)
  have hV := hA.1
  have hC := vC hV
  have hM := hI.1
  refine r_aload_n rfl rfl ?_
  refine n_iconst 0 rfl ?_
  refine m_putI (L' := [(53, (aup (σ.1 53) 0 (nI 0)))]) rfl flX10_89 rfl rfl (okv_i _) rfl ?_
  refine r_aload_n rfl rfl ?_
  refine r_iload_n rfl rfl ?_
  refine r_aload_n rfl rfl ?_
  refine s_getR (r := 54) rfl flX10_7 rfl rfl ?_
  refine n_iconst 4 rfl ?_
  refine s_iald (x := nI ((aD a) 0 4)) rfl rfl (by decide) (MRat hM 0 4 (by decide) (by decide)) ?_
  refine s_virI [.int x, .int (nI ((aD a) 0 4))] [] rfl lkX10_242 rfl rfl rfl (k_no_out rfl (by omega) hx) rfl rfl (Nat.le_refl _) (Nat.le_refl _) rfl (rI (e1 := nI 1) rfl ?_)
  refine m_mz (L' := [(53, (aup (aup (σ.1 53) 0 (nI 0)) 0 (nI 1)))]) (M' := []) rfl rfl ?_
  refine n_if_ne (tgt := 28) rfl rfl (by decide) (fun _ => ?_) (fun hq => absurd hq (by decide))
  refine n_iconst 0 rfl ?_
  exact s_ret (st := []) rfl rfl rfl (Nat.zero_le _) (Nat.zero_le _) (⟨_, rfl, rfl, rfl, FrC_mz rfl rfl, ⟨hI.1, ⟨hI.2.1.1, hI.2.1.2.1, hI.2.1.2.2⟩, hI.2.2.1, hI.2.2.2.1, hI.2.2.2.2.1, hI.2.2.2.2.2.1, hI.2.2.2.2.2.2⟩⟩)

theorem y_legacy_W {l9 : Bool} {sc : SC} {σ : SS} {a : AB} {q : Nat} {y : Int32} (hA : AV a) (hI : MI9 σ a) (hq : q < aD a 0 4) (hx : (y < 0 ∨ (¬ y < 0 ∧ nI (3 + 1) ≤ y))) : Cs (true, l9) sc mX10_legacy 0 0 [.ref 53, .int (nI q), .int y] σ (QM σ a (nI 0) 2) := by
  refine Cs.of gmX10_legacy (Nat.le_of_ble_eq_true rfl) ?_
  show Ws (true, l9) sc mX10_legacy 0 0 0 0 0 [(0, .ref 53), (1, .int (nI q)), (2, .int y)] [] (mz σ [] []) (QM σ a (nI 0) 2)
  have hV := hA.1
  have hC := vC hV
  have hM := hI.1
  refine r_aload_n rfl rfl ?_
  refine n_iconst 0 rfl ?_
  refine m_putI (L' := [(53, (aup (σ.1 53) 0 (nI 0)))]) rfl flX10_89 rfl rfl (okv_i _) rfl ?_
  refine r_aload_n rfl rfl ?_
  refine r_iload_n rfl rfl ?_
  refine r_aload_n rfl rfl ?_
  refine s_getR (r := 54) rfl flX10_7 rfl rfl ?_
  refine n_iconst 4 rfl ?_
  refine s_iald (x := nI ((aD a) 0 4)) rfl rfl (by decide) (MRat hM 0 4 (by decide) (by decide)) ?_
  refine s_virI [.int (nI q), .int (nI ((aD a) 0 4))] [] rfl lkX10_242 rfl rfl rfl (k_no_in rfl hq (by omega)) rfl rfl (Nat.le_refl _) (Nat.le_refl _) rfl (rI (e1 := nI 0) rfl ?_)
  refine n_if_ne (tgt := 28) rfl rfl (by decide) (fun hq => absurd hq (by decide)) (fun _ => ?_)
  refine r_aload_n rfl rfl ?_
  refine r_iload_n rfl rfl ?_
  refine n_iconst 3 rfl ?_
  refine s_virI [.int y, .int (nI 3)] [] rfl lkX10_252 rfl rfl rfl (k_noWhat_out rfl (by decide) hx) rfl rfl (Nat.le_refl _) (Nat.le_refl _) rfl (rI (e1 := nI 1) rfl ?_)
  refine m_mz (L' := [(53, (aup (aup (σ.1 53) 0 (nI 0)) 0 (nI 2)))]) (M' := []) rfl rfl ?_
  refine n_if_eq (tgt := 30) rfl rfl (by decide) (fun hq => absurd hq (by decide)) (fun _ => ?_)
  refine n_iconst 0 rfl ?_
  exact s_ret (st := []) rfl rfl rfl (Nat.zero_le _) (Nat.zero_le _) (⟨_, rfl, rfl, rfl, FrC_mz rfl rfl, ⟨hI.1, ⟨hI.2.1.1, hI.2.1.2.1, hI.2.1.2.2⟩, hI.2.2.1, hI.2.2.2.1, hI.2.2.2.2.1, hI.2.2.2.2.2.1, hI.2.2.2.2.2.2⟩⟩)

theorem y_factor {l9 : Bool} {sc : SC} {σ : SS} {a : AB} {y : Int32} (hI : MI9 σ a) (hx : (y < nI 0 ∨ (¬ y < nI 0 ∧ nI (120 + 1) ≤ y))) : Cs (true, l9) sc mX10_factor 0 0 [.ref 53, .int y] σ (QM σ a (nI 0) 1) := by
  refine Cs.of gmX10_factor (Nat.le_of_ble_eq_true rfl) ?_
  show Ws (true, l9) sc mX10_factor 0 0 0 0 0 [(0, .ref 53), (1, .int y)] [] (mz σ [] []) (QM σ a (nI 0) 1)
  refine r_aload_n rfl rfl ?_
  refine n_iconst 0 rfl ?_
  refine m_putI (L' := [(53, (aup (σ.1 53) 0 (nI 0)))]) rfl flX10_89 rfl rfl (okv_i _) rfl ?_
  refine r_aload_n rfl rfl ?_
  refine r_iload_n rfl rfl ?_
  refine n_iconst 0 rfl ?_
  refine n_bipush 120 rfl (by decide) ?_
  refine s_staI [.int y, .int (nI 0), .int (nI 120)] [.ref 53] rfl lkX10_113 (k_within_out (by decide) hx) rfl rfl (Nat.le_refl _) (Nat.le_refl _) rfl (rI (e1 := nI 0) rfl ?_)
  refine n_if_ne (tgt := 20) rfl rfl (by decide) (fun hq => absurd hq (by decide)) (fun _ => ?_)
  refine n_iconst 1 rfl ?_
  refine r_goto (tgt := 21) rfl rfl ?_
  refine n_iconst 1 rfl ?_
  refine s_virI [.int (nI 1), .int (nI 1)] [] rfl lkX10_235 rfl rfl rfl (k_tI_yes rfl (by decide) (by decide)) rfl rfl (Nat.le_refl _) (Nat.le_refl _) rfl (rI (e1 := nI 1) rfl ?_)
  refine m_mz (L' := [(53, (aup (aup (σ.1 53) 0 (nI 0)) 0 (nI 1)))]) (M' := []) rfl rfl ?_
  refine n_if_eq (tgt := 32) rfl rfl (by decide) (fun hq => absurd hq (by decide)) (fun _ => ?_)
  refine n_iconst 0 rfl ?_
  refine r_goto (tgt := 36) rfl rfl ?_
  exact s_ret (st := []) rfl rfl rfl (Nat.zero_le _) (Nat.zero_le _) (⟨_, rfl, rfl, rfl, FrC_mz rfl rfl, ⟨hI.1, ⟨hI.2.1.1, hI.2.1.2.1, hI.2.1.2.2⟩, hI.2.2.1, hI.2.2.2.1, hI.2.2.2.2.1, hI.2.2.2.2.2.1, hI.2.2.2.2.2.2⟩⟩)

theorem y_setAge_W {l9 : Bool} {sc : SC} {σ : SS} {a : AB} {q : Nat} {y : Int32} (hA : AV a) (hI : MI9 σ a) (hq : q < aD a 0 0) (hx : (y < nI 0 ∨ (¬ y < nI 0 ∧ nI (120 + 1) ≤ y))) : Cs (true, l9) sc mX10_setAge 0 0 [.ref 53, .int (nI q), .int y] σ (QM σ a (nI 0) 2) := by
  refine Cs.of gmX10_setAge (Nat.le_of_ble_eq_true rfl) ?_
  show Ws (true, l9) sc mX10_setAge 0 0 0 0 0 [(0, .ref 53), (1, .int (nI q)), (2, .int y)] [] (mz σ [] []) (QM σ a (nI 0) 2)
  have hV := hA.1
  have hC := vC hV
  have hM := hI.1
  refine r_aload_n rfl rfl ?_
  refine r_iload_n rfl rfl ?_
  refine s_virI [.int (nI q)] [] rfl lkX10_249 rfl rfl rfl (k_noPerson_in (hM := hI.1) hV hq) rfl rfl (Nat.le_refl _) (Nat.le_refl _) rfl (rI (e1 := nI 0) rfl ?_)
  refine m_mz (L' := [(53, (aup (σ.1 53) 0 (nI 0)))]) (M' := []) rfl rfl ?_
  refine n_if_ne (tgt := 31) rfl rfl (by decide) (fun hq => absurd hq (by decide)) (fun _ => ?_)
  refine r_aload_n rfl rfl ?_
  refine r_iload_n rfl rfl ?_
  refine n_iconst 0 rfl ?_
  refine n_bipush 120 rfl (by decide) ?_
  refine s_staI [.int y, .int (nI 0), .int (nI 120)] [.ref 53] rfl lkX10_113 (k_within_out (by decide) hx) rfl rfl (Nat.le_refl _) (Nat.le_refl _) rfl (rI (e1 := nI 0) rfl ?_)
  refine n_if_ne (tgt := 23) rfl rfl (by decide) (fun hq => absurd hq (by decide)) (fun _ => ?_)
  refine n_iconst 1 rfl ?_
  refine r_goto (tgt := 24) rfl rfl ?_
  refine n_iconst 2 rfl ?_
  refine s_virI [.int (nI 1), .int (nI 2)] [] rfl lkX10_235 rfl rfl rfl (k_tI_yes rfl (by decide) (by decide)) rfl rfl (Nat.le_refl _) (Nat.le_refl _) rfl (rI (e1 := nI 1) rfl ?_)
  refine m_mz (L' := [(53, (aup (aup (σ.1 53) 0 (nI 0)) 0 (nI 2)))]) (M' := []) rfl rfl ?_
  refine n_if_eq (tgt := 33) rfl rfl (by decide) (fun hq => absurd hq (by decide)) (fun _ => ?_)
  refine n_iconst 0 rfl ?_
  exact s_ret (st := []) rfl rfl rfl (Nat.zero_le _) (Nat.zero_le _) (⟨_, rfl, rfl, rfl, FrC_mz rfl rfl, ⟨hI.1, ⟨hI.2.1.1, hI.2.1.2.1, hI.2.1.2.2⟩, hI.2.2.1, hI.2.2.2.1, hI.2.2.2.2.1, hI.2.2.2.2.2.1, hI.2.2.2.2.2.2⟩⟩)

theorem y_addGift_W {l9 : Bool} {sc : SC} {σ : SS} {a : AB} {q : Nat} {y : Int32} (hA : AV a) (hI : MI9 σ a) (hq : q < aD a 0 0) (hx : (y < nI 0 ∨ (¬ y < nI 0 ∧ nI (9999999 + 1) ≤ y))) : Cs (true, l9) sc mX10_addGift 0 0 [.ref 53, .int (nI q), .int y] σ (QM σ a (nI 0) 2) := by
  refine Cs.of gmX10_addGift (Nat.le_of_ble_eq_true rfl) ?_
  show Ws (true, l9) sc mX10_addGift 0 0 0 0 0 [(0, .ref 53), (1, .int (nI q)), (2, .int y)] [] (mz σ [] []) (QM σ a (nI 0) 2)
  have hV := hA.1
  have hC := vC hV
  have hM := hI.1
  refine r_aload_n rfl rfl ?_
  refine r_iload_n rfl rfl ?_
  refine s_virI [.int (nI q)] [] rfl lkX10_249 rfl rfl rfl (k_noPerson_in (hM := hI.1) hV hq) rfl rfl (Nat.le_refl _) (Nat.le_refl _) rfl (rI (e1 := nI 0) rfl ?_)
  refine m_mz (L' := [(53, (aup (σ.1 53) 0 (nI 0)))]) (M' := []) rfl rfl ?_
  refine n_if_ne (tgt := 55) rfl rfl (by decide) (fun hq => absurd hq (by decide)) (fun _ => ?_)
  refine r_aload_n rfl rfl ?_
  refine r_iload_n rfl rfl ?_
  refine n_iconst 0 rfl ?_
  refine r_ldc (v := nI 9999999) rfl kcX10_187 ?_
  refine s_staI [.int y, .int (nI 0), .int (nI 9999999)] [.ref 53] rfl lkX10_113 (k_within_out (by decide) hx) rfl rfl (Nat.le_refl _) (Nat.le_refl _) rfl (rI (e1 := nI 0) rfl ?_)
  refine n_if_ne (tgt := 23) rfl rfl (by decide) (fun hq => absurd hq (by decide)) (fun _ => ?_)
  refine n_iconst 1 rfl ?_
  refine r_goto (tgt := 24) rfl rfl ?_
  refine n_iconst 2 rfl ?_
  refine s_virI [.int (nI 1), .int (nI 2)] [] rfl lkX10_235 rfl rfl rfl (k_tI_yes rfl (by decide) (by decide)) rfl rfl (Nat.le_refl _) (Nat.le_refl _) rfl (rI (e1 := nI 1) rfl ?_)
  refine m_mz (L' := [(53, (aup (aup (σ.1 53) 0 (nI 0)) 0 (nI 2)))]) (M' := []) rfl rfl ?_
  refine n_if_ne (tgt := 55) rfl rfl (by decide) (fun _ => ?_) (fun hq => absurd hq (by decide))
  refine n_iconst 0 rfl ?_
  exact s_ret (st := []) rfl rfl rfl (Nat.zero_le _) (Nat.zero_le _) (⟨_, rfl, rfl, rfl, FrC_mz rfl rfl, ⟨hI.1, ⟨hI.2.1.1, hI.2.1.2.1, hI.2.1.2.2⟩, hI.2.2.1, hI.2.2.2.1, hI.2.2.2.2.1, hI.2.2.2.2.2.1, hI.2.2.2.2.2.2⟩⟩)

theorem y_setValue_W {l9 : Bool} {sc : SC} {σ : SS} {a : AB} {q : Nat} {y : Int32} (hA : AV a) (hI : MI9 σ a) (hq : q < aD a 0 1) (hx : (y < nI 0 ∨ (¬ y < nI 0 ∧ nI (9999999 + 1) ≤ y))) : Cs (true, l9) sc mX10_setValue 0 0 [.ref 53, .int (nI q), .int y] σ (QM σ a (nI 0) 2) := by
  refine Cs.of gmX10_setValue (Nat.le_of_ble_eq_true rfl) ?_
  show Ws (true, l9) sc mX10_setValue 0 0 0 0 0 [(0, .ref 53), (1, .int (nI q)), (2, .int y)] [] (mz σ [] []) (QM σ a (nI 0) 2)
  have hV := hA.1
  have hC := vC hV
  have hM := hI.1
  refine r_aload_n rfl rfl ?_
  refine n_iconst 0 rfl ?_
  refine m_putI (L' := [(53, (aup (σ.1 53) 0 (nI 0)))]) rfl flX10_89 rfl rfl (okv_i _) rfl ?_
  refine r_aload_n rfl rfl ?_
  refine r_iload_n rfl rfl ?_
  refine r_aload_n rfl rfl ?_
  refine s_getR (r := 54) rfl flX10_7 rfl rfl ?_
  refine n_iconst 1 rfl ?_
  refine s_iald (x := nI ((aD a) 0 1)) rfl rfl (by decide) (MRat hM 0 1 (by decide) (by decide)) ?_
  refine s_virI [.int (nI q), .int (nI ((aD a) 0 1))] [] rfl lkX10_242 rfl rfl rfl (k_no_in rfl hq (by omega)) rfl rfl (Nat.le_refl _) (Nat.le_refl _) rfl (rI (e1 := nI 0) rfl ?_)
  refine n_if_ne (tgt := 42) rfl rfl (by decide) (fun hq => absurd hq (by decide)) (fun _ => ?_)
  refine r_aload_n rfl rfl ?_
  refine r_iload_n rfl rfl ?_
  refine n_iconst 0 rfl ?_
  refine r_ldc (v := nI 9999999) rfl kcX10_187 ?_
  refine s_staI [.int y, .int (nI 0), .int (nI 9999999)] [.ref 53] rfl lkX10_113 (k_within_out (by decide) hx) rfl rfl (Nat.le_refl _) (Nat.le_refl _) rfl (rI (e1 := nI 0) rfl ?_)
  refine n_if_ne (tgt := 34) rfl rfl (by decide) (fun hq => absurd hq (by decide)) (fun _ => ?_)
  refine n_iconst 1 rfl ?_
  refine r_goto (tgt := 35) rfl rfl ?_
  refine n_iconst 2 rfl ?_
  refine s_virI [.int (nI 1), .int (nI 2)] [] rfl lkX10_235 rfl rfl rfl (k_tI_yes rfl (by decide) (by decide)) rfl rfl (Nat.le_refl _) (Nat.le_refl _) rfl (rI (e1 := nI 1) rfl ?_)
  refine m_mz (L' := [(53, (aup (aup (σ.1 53) 0 (nI 0)) 0 (nI 2)))]) (M' := []) rfl rfl ?_
  refine n_if_eq (tgt := 44) rfl rfl (by decide) (fun hq => absurd hq (by decide)) (fun _ => ?_)
  refine n_iconst 0 rfl ?_
  exact s_ret (st := []) rfl rfl rfl (Nat.zero_le _) (Nat.zero_le _) (⟨_, rfl, rfl, rfl, FrC_mz rfl rfl, ⟨hI.1, ⟨hI.2.1.1, hI.2.1.2.1, hI.2.1.2.2⟩, hI.2.2.1, hI.2.2.2.1, hI.2.2.2.2.1, hI.2.2.2.2.2.1, hI.2.2.2.2.2.2⟩⟩)

theorem y_addGift_F {l9 : Bool} {sc : SC} {σ : SS} {a : AB} {q v9 : Nat} (hA : AV a) (hI : MI9 σ a) (hq : q < aD a 0 0) (hv : v9 ≤ 9999999) (hg : aD a 0 3 = 8) : Cs (true, l9) sc mX10_addGift 0 0 [.ref 53, .int (nI q), .int (nI v9)] σ (QM σ a (nI 0) 3) := by
  refine Cs.of gmX10_addGift (Nat.le_of_ble_eq_true rfl) ?_
  show Ws (true, l9) sc mX10_addGift 0 0 0 0 0 [(0, .ref 53), (1, .int (nI q)), (2, .int (nI v9))] [] (mz σ [] []) (QM σ a (nI 0) 3)
  have hV := hA.1
  have hC := vC hV
  have hM := hI.1
  refine r_aload_n rfl rfl ?_
  refine r_iload_n rfl rfl ?_
  refine s_virI [.int (nI q)] [] rfl lkX10_249 rfl rfl rfl (k_noPerson_in (hM := hI.1) hV hq) rfl rfl (Nat.le_refl _) (Nat.le_refl _) rfl (rI (e1 := nI 0) rfl ?_)
  refine m_mz (L' := [(53, (aup (σ.1 53) 0 (nI 0)))]) (M' := []) rfl rfl ?_
  refine n_if_ne (tgt := 55) rfl rfl (by decide) (fun hq => absurd hq (by decide)) (fun _ => ?_)
  refine r_aload_n rfl rfl ?_
  refine r_iload_n rfl rfl ?_
  refine n_iconst 0 rfl ?_
  refine r_ldc (v := nI 9999999) rfl kcX10_187 ?_
  refine s_staI [.int (nI v9), .int (nI 0), .int (nI 9999999)] [.ref 53] rfl lkX10_113 (k_within_in (by omega) (by omega) (by decide)) rfl rfl (Nat.le_refl _) (Nat.le_refl _) rfl (rI (e1 := nI 1) rfl ?_)
  refine n_if_ne (tgt := 23) rfl rfl (by decide) (fun _ => ?_) (fun hq => absurd hq (by decide))
  refine n_iconst 0 rfl ?_
  refine n_iconst 2 rfl ?_
  refine s_virI [.int (nI 0), .int (nI 2)] [] rfl lkX10_235 rfl rfl rfl (k_tI_no rfl) rfl rfl (Nat.le_refl _) (Nat.le_refl _) rfl (rI (e1 := nI 0) rfl ?_)
  refine n_if_ne (tgt := 55) rfl rfl (by decide) (fun hq => absurd hq (by decide)) (fun _ => ?_)
  refine r_aload_n rfl rfl ?_
  refine r_aload_n rfl rfl ?_
  refine s_getR (r := 54) rfl flX10_7 rfl rfl ?_
  refine n_iconst 3 rfl ?_
  refine s_iald (x := nI ((aD a) 0 3)) rfl rfl (by decide) (MRat hM 0 3 (by decide) (by decide)) ?_
  refine n_bipush 8 rfl (by decide) ?_
  refine n_icmp_ne (tgt := 47) rfl rfl (by omega) (by omega) (fun hq => absurd hq (by omega)) (fun _ => ?_)
  refine n_iconst 1 rfl ?_
  refine r_goto (tgt := 48) rfl rfl ?_
  refine n_iconst 3 rfl ?_
  refine s_virI [.int (nI 1), .int (nI 3)] [] rfl lkX10_235 rfl rfl rfl (k_tI_yes rfl (by decide) (by decide)) rfl rfl (Nat.le_refl _) (Nat.le_refl _) rfl (rI (e1 := nI 1) rfl ?_)
  refine m_mz (L' := [(53, (aup (aup (σ.1 53) 0 (nI 0)) 0 (nI 3)))]) (M' := []) rfl rfl ?_
  refine n_if_eq (tgt := 57) rfl rfl (by decide) (fun hq => absurd hq (by decide)) (fun _ => ?_)
  refine n_iconst 0 rfl ?_
  exact s_ret (st := []) rfl rfl rfl (Nat.zero_le _) (Nat.zero_le _) (⟨_, rfl, rfl, rfl, FrC_mz rfl rfl, ⟨hI.1, ⟨hI.2.1.1, hI.2.1.2.1, hI.2.1.2.2⟩, hI.2.2.1, hI.2.2.2.1, hI.2.2.2.2.1, hI.2.2.2.2.2.1, hI.2.2.2.2.2.2⟩⟩)

theorem y_addDebt_R {l9 : Bool} {sc : SC} {σ : SS} {a : AB} {x y : Int32} (hI : MI9 σ a) (hx : (x < nI 1 ∨ (¬ x < nI 1 ∧ nI (5 + 1) ≤ x))) : Cs (true, l9) sc mX10_addDebt 0 0 [.ref 53, .int x, .int y] σ (QM σ a (nI 0) 1) := by
  refine Cs.of gmX10_addDebt (Nat.le_of_ble_eq_true rfl) ?_
  show Ws (true, l9) sc mX10_addDebt 0 0 0 0 0 [(0, .ref 53), (1, .int x), (2, .int y)] [] (mz σ [] []) (QM σ a (nI 0) 1)
  refine r_aload_n rfl rfl ?_
  refine n_iconst 0 rfl ?_
  refine m_putI (L' := [(53, (aup (σ.1 53) 0 (nI 0)))]) rfl flX10_89 rfl rfl (okv_i _) rfl ?_
  refine r_aload_n rfl rfl ?_
  refine r_iload_n rfl rfl ?_
  refine n_iconst 1 rfl ?_
  refine n_iconst 5 rfl ?_
  refine s_staI [.int x, .int (nI 1), .int (nI 5)] [.ref 53] rfl lkX10_113 (k_within_out (by decide) hx) rfl rfl (Nat.le_refl _) (Nat.le_refl _) rfl (rI (e1 := nI 0) rfl ?_)
  refine n_if_eq (tgt := 25) rfl rfl (by decide) (fun _ => ?_) (fun hq => absurd hq (by decide))
  refine n_iconst 1 rfl ?_
  refine r_goto (tgt := 30) rfl rfl ?_
  refine n_iconst 1 rfl ?_
  refine s_virI [.int (nI 1), .int (nI 1)] [] rfl lkX10_235 rfl rfl rfl (k_tI_yes rfl (by decide) (by decide)) rfl rfl (Nat.le_refl _) (Nat.le_refl _) rfl (rI (e1 := nI 1) rfl ?_)
  refine m_mz (L' := [(53, (aup (aup (σ.1 53) 0 (nI 0)) 0 (nI 1)))]) (M' := []) rfl rfl ?_
  refine n_if_ne (tgt := 61) rfl rfl (by decide) (fun _ => ?_) (fun hq => absurd hq (by decide))
  refine n_iconst 0 rfl ?_
  exact s_ret (st := []) rfl rfl rfl (Nat.zero_le _) (Nat.zero_le _) (⟨_, rfl, rfl, rfl, FrC_mz rfl rfl, ⟨hI.1, ⟨hI.2.1.1, hI.2.1.2.1, hI.2.1.2.2⟩, hI.2.2.1, hI.2.2.2.1, hI.2.2.2.2.1, hI.2.2.2.2.2.1, hI.2.2.2.2.2.2⟩⟩)

theorem y_addDebt_W {l9 : Bool} {sc : SC} {σ : SS} {a : AB} {q : Nat} {y : Int32} (hI : MI9 σ a) (hq0 : 1 ≤ q) (hq : q ≤ 5) (hx : (y < nI 0 ∨ (¬ y < nI 0 ∧ nI (9999999 + 1) ≤ y))) : Cs (true, l9) sc mX10_addDebt 0 0 [.ref 53, .int (nI q), .int y] σ (QM σ a (nI 0) 1) := by
  refine Cs.of gmX10_addDebt (Nat.le_of_ble_eq_true rfl) ?_
  show Ws (true, l9) sc mX10_addDebt 0 0 0 0 0 [(0, .ref 53), (1, .int (nI q)), (2, .int y)] [] (mz σ [] []) (QM σ a (nI 0) 1)
  refine r_aload_n rfl rfl ?_
  refine n_iconst 0 rfl ?_
  refine m_putI (L' := [(53, (aup (σ.1 53) 0 (nI 0)))]) rfl flX10_89 rfl rfl (okv_i _) rfl ?_
  refine r_aload_n rfl rfl ?_
  refine r_iload_n rfl rfl ?_
  refine n_iconst 1 rfl ?_
  refine n_iconst 5 rfl ?_
  refine s_staI [.int (nI q), .int (nI 1), .int (nI 5)] [.ref 53] rfl lkX10_113 (k_within_in hq0 hq (by decide)) rfl rfl (Nat.le_refl _) (Nat.le_refl _) rfl (rI (e1 := nI 1) rfl ?_)
  refine n_if_eq (tgt := 25) rfl rfl (by decide) (fun hq => absurd hq (by decide)) (fun _ => ?_)
  refine r_iload_n rfl rfl ?_
  refine n_iconst 0 rfl ?_
  refine r_ldc (v := nI 9999999) rfl kcX10_187 ?_
  refine s_staI [.int y, .int (nI 0), .int (nI 9999999)] [.ref 53] rfl lkX10_113 (k_within_out (by decide) hx) rfl rfl (Nat.le_refl _) (Nat.le_refl _) rfl (rI (e1 := nI 0) rfl ?_)
  refine n_if_ne (tgt := 29) rfl rfl (by decide) (fun hq => absurd hq (by decide)) (fun _ => ?_)
  refine n_iconst 1 rfl ?_
  refine r_goto (tgt := 30) rfl rfl ?_
  refine n_iconst 1 rfl ?_
  refine s_virI [.int (nI 1), .int (nI 1)] [] rfl lkX10_235 rfl rfl rfl (k_tI_yes rfl (by decide) (by decide)) rfl rfl (Nat.le_refl _) (Nat.le_refl _) rfl (rI (e1 := nI 1) rfl ?_)
  refine m_mz (L' := [(53, (aup (aup (σ.1 53) 0 (nI 0)) 0 (nI 1)))]) (M' := []) rfl rfl ?_
  refine n_if_ne (tgt := 61) rfl rfl (by decide) (fun _ => ?_) (fun hq => absurd hq (by decide))
  refine n_iconst 0 rfl ?_
  exact s_ret (st := []) rfl rfl rfl (Nat.zero_le _) (Nat.zero_le _) (⟨_, rfl, rfl, rfl, FrC_mz rfl rfl, ⟨hI.1, ⟨hI.2.1.1, hI.2.1.2.1, hI.2.1.2.2⟩, hI.2.2.1, hI.2.2.2.1, hI.2.2.2.2.1, hI.2.2.2.2.2.1, hI.2.2.2.2.2.2⟩⟩)

theorem y_addDebt_F {l9 : Bool} {sc : SC} {σ : SS} {a : AB} {q v9 : Nat} (hA : AV a) (hI : MI9 σ a) (hq0 : 1 ≤ q) (hq : q ≤ 5) (hv : v9 ≤ 9999999) (hg : aD a 0 2 = 8) : Cs (true, l9) sc mX10_addDebt 0 0 [.ref 53, .int (nI q), .int (nI v9)] σ (QM σ a (nI 0) 2) := by
  refine Cs.of gmX10_addDebt (Nat.le_of_ble_eq_true rfl) ?_
  show Ws (true, l9) sc mX10_addDebt 0 0 0 0 0 [(0, .ref 53), (1, .int (nI q)), (2, .int (nI v9))] [] (mz σ [] []) (QM σ a (nI 0) 2)
  have hV := hA.1
  have hC := vC hV
  have hM := hI.1
  refine r_aload_n rfl rfl ?_
  refine n_iconst 0 rfl ?_
  refine m_putI (L' := [(53, (aup (σ.1 53) 0 (nI 0)))]) rfl flX10_89 rfl rfl (okv_i _) rfl ?_
  refine r_aload_n rfl rfl ?_
  refine r_iload_n rfl rfl ?_
  refine n_iconst 1 rfl ?_
  refine n_iconst 5 rfl ?_
  refine s_staI [.int (nI q), .int (nI 1), .int (nI 5)] [.ref 53] rfl lkX10_113 (k_within_in hq0 hq (by decide)) rfl rfl (Nat.le_refl _) (Nat.le_refl _) rfl (rI (e1 := nI 1) rfl ?_)
  refine n_if_eq (tgt := 25) rfl rfl (by decide) (fun hq => absurd hq (by decide)) (fun _ => ?_)
  refine r_iload_n rfl rfl ?_
  refine n_iconst 0 rfl ?_
  refine r_ldc (v := nI 9999999) rfl kcX10_187 ?_
  refine s_staI [.int (nI v9), .int (nI 0), .int (nI 9999999)] [.ref 53] rfl lkX10_113 (k_within_in (by omega) hv (by decide)) rfl rfl (Nat.le_refl _) (Nat.le_refl _) rfl (rI (e1 := nI 1) rfl ?_)
  refine n_if_ne (tgt := 29) rfl rfl (by decide) (fun _ => ?_) (fun hq => absurd hq (by decide))
  refine n_iconst 0 rfl ?_
  refine n_iconst 1 rfl ?_
  refine s_virI [.int (nI 0), .int (nI 1)] [] rfl lkX10_235 rfl rfl rfl (k_tI_no rfl) rfl rfl (Nat.le_refl _) (Nat.le_refl _) rfl (rI (e1 := nI 0) rfl ?_)
  refine n_if_ne (tgt := 61) rfl rfl (by decide) (fun hq => absurd hq (by decide)) (fun _ => ?_)
  refine r_aload_n rfl rfl ?_
  refine r_aload_n rfl rfl ?_
  refine s_getR (r := 54) rfl flX10_7 rfl rfl ?_
  refine n_iconst 2 rfl ?_
  refine s_iald (x := nI ((aD a) 0 2)) rfl rfl (by decide) (MRat hM 0 2 (by decide) (by decide)) ?_
  refine n_bipush 8 rfl (by decide) ?_
  refine n_icmp_ne (tgt := 53) rfl rfl (by omega) (by omega) (fun hq => absurd hq (by omega)) (fun _ => ?_)
  refine n_iconst 1 rfl ?_
  refine r_goto (tgt := 54) rfl rfl ?_
  refine n_iconst 2 rfl ?_
  refine s_virI [.int (nI 1), .int (nI 2)] [] rfl lkX10_235 rfl rfl rfl (k_tI_yes rfl (by decide) (by decide)) rfl rfl (Nat.le_refl _) (Nat.le_refl _) rfl (rI (e1 := nI 1) rfl ?_)
  refine m_mz (L' := [(53, (aup (aup (σ.1 53) 0 (nI 0)) 0 (nI 2)))]) (M' := []) rfl rfl ?_
  refine n_if_eq (tgt := 63) rfl rfl (by decide) (fun hq => absurd hq (by decide)) (fun _ => ?_)
  refine n_iconst 0 rfl ?_
  exact s_ret (st := []) rfl rfl rfl (Nat.zero_le _) (Nat.zero_le _) (⟨_, rfl, rfl, rfl, FrC_mz rfl rfl, ⟨hI.1, ⟨hI.2.1.1, hI.2.1.2.1, hI.2.1.2.2⟩, hI.2.2.1, hI.2.2.2.1, hI.2.2.2.2.1, hI.2.2.2.2.2.1, hI.2.2.2.2.2.2⟩⟩)

theorem y_saveSnapshot_P {l9 : Bool} {sc : SC} {σ : SS} {a : AB} {x : Int32} (hI : MI9 σ a) (hx : (x < 0 ∨ (¬ x < 0 ∧ nI (2) ≤ x))) : Cs (true, l9) sc mX10_saveSnapshot 0 0 [.ref 53, .int x] σ (QM σ a (nI 0) 1) := by
  refine Cs.of gmX10_saveSnapshot (Nat.le_of_ble_eq_true rfl) ?_
  show Ws (true, l9) sc mX10_saveSnapshot 0 0 0 0 0 [(0, .ref 53), (1, .int x)] [] (mz σ [] []) (QM σ a (nI 0) 1)
  refine r_aload_n rfl rfl ?_
  refine r_iload_n rfl rfl ?_
  refine s_virI [.int x] [] rfl lkX10_343 rfl rfl rfl (k_noSlot_out hx) rfl rfl (Nat.le_refl _) (Nat.le_refl _) rfl (rI (e1 := nI 1) rfl ?_)
  refine m_mz (L' := [(53, (aup (aup (σ.1 53) 0 (nI 0)) 0 (nI 1)))]) (M' := []) rfl rfl ?_
  refine n_if_eq (tgt := 10) rfl rfl (by decide) (fun hq => absurd hq (by decide)) (fun _ => ?_)
  refine n_iconst 0 rfl ?_
  exact s_ret (st := []) rfl rfl rfl (Nat.zero_le _) (Nat.zero_le _) (⟨_, rfl, rfl, rfl, FrC_mz rfl rfl, ⟨hI.1, ⟨hI.2.1.1, hI.2.1.2.1, hI.2.1.2.2⟩, hI.2.2.1, hI.2.2.2.1, hI.2.2.2.2.1, hI.2.2.2.2.2.1, hI.2.2.2.2.2.2⟩⟩)

theorem y_restoreSnapshot_P {l9 : Bool} {sc : SC} {σ : SS} {a : AB} {x : Int32} (hI : MI9 σ a) (hx : (x < 0 ∨ (¬ x < 0 ∧ nI (2) ≤ x))) : Cs (true, l9) sc mX10_restoreSnapshot 0 0 [.ref 53, .int x] σ (QM σ a (nI 0) 1) := by
  refine Cs.of gmX10_restoreSnapshot (Nat.le_of_ble_eq_true rfl) ?_
  show Ws (true, l9) sc mX10_restoreSnapshot 0 0 0 0 0 [(0, .ref 53), (1, .int x)] [] (mz σ [] []) (QM σ a (nI 0) 1)
  refine r_aload_n rfl rfl ?_
  refine r_iload_n rfl rfl ?_
  refine s_virI [.int x] [] rfl lkX10_343 rfl rfl rfl (k_noSlot_out hx) rfl rfl (Nat.le_refl _) (Nat.le_refl _) rfl (rI (e1 := nI 1) rfl ?_)
  refine m_mz (L' := [(53, (aup (aup (σ.1 53) 0 (nI 0)) 0 (nI 1)))]) (M' := []) rfl rfl ?_
  refine n_if_ne (tgt := 30) rfl rfl (by decide) (fun _ => ?_) (fun hq => absurd hq (by decide))
  refine n_iconst 0 rfl ?_
  exact s_ret (st := []) rfl rfl rfl (Nat.zero_le _) (Nat.zero_le _) (⟨_, rfl, rfl, rfl, FrC_mz rfl rfl, ⟨hI.1, ⟨hI.2.1.1, hI.2.1.2.1, hI.2.1.2.2⟩, hI.2.2.1, hI.2.2.2.1, hI.2.2.2.2.1, hI.2.2.2.2.2.1, hI.2.2.2.2.2.2⟩⟩)

theorem y_restore_E {l9 : Bool} {sc : SC} {σ : SS} {a : AB} {q : Nat} (hA : AV a) (hI : MI9 σ a) (hq : q < 2) (hb : bS a q = false) : Cs (true, l9) sc mX10_restoreSnapshot 0 0 [.ref 53, .int (nI q)] σ (QM σ a (nI 0) 2) := by
  refine Cs.of gmX10_restoreSnapshot (Nat.le_of_ble_eq_true rfl) ?_
  show Ws (true, l9) sc mX10_restoreSnapshot 0 0 0 0 0 [(0, .ref 53), (1, .int (nI q))] [] (mz σ [] []) (QM σ a (nI 0) 2)
  have hV := hA.1
  have hC := vC hV
  have hM := hI.1
  refine r_aload_n rfl rfl ?_
  refine r_iload_n rfl rfl ?_
  refine s_virI [.int (nI q)] [] rfl lkX10_343 rfl rfl rfl (k_noSlot_in hq) rfl rfl (Nat.le_refl _) (Nat.le_refl _) rfl (rI (e1 := nI 0) rfl ?_)
  refine m_mz (L' := [(53, (aup (σ.1 53) 0 (nI 0)))]) (M' := []) rfl rfl ?_
  refine n_if_ne (tgt := 30) rfl rfl (by decide) (fun hq => absurd hq (by decide)) (fun _ => ?_)
  refine r_aload_n rfl rfl ?_
  refine r_aload_n rfl rfl ?_
  refine s_getR (r := 75) rfl flX10_80 rfl rfl ?_
  refine r_iload_n rfl rfl ?_
  refine s_zald (x := nI 0) rfl rfl (by omega) ((hI.2.2.2.1 q hq).trans (by rw [hb]; rfl)) ?_
  refine n_if_ne (tgt := 22) rfl rfl (by decide) (fun hq => absurd hq (by decide)) (fun _ => ?_)
  refine n_iconst 1 rfl ?_
  refine r_goto (tgt := 23) rfl rfl ?_
  refine n_iconst 2 rfl ?_
  refine s_virI [.int (nI 1), .int (nI 2)] [] rfl lkX10_235 rfl rfl rfl (k_tI_yes rfl (by decide) (by decide)) rfl rfl (Nat.le_refl _) (Nat.le_refl _) rfl (rI (e1 := nI 1) rfl ?_)
  refine m_mz (L' := [(53, (aup (aup (σ.1 53) 0 (nI 0)) 0 (nI 2)))]) (M' := []) rfl rfl ?_
  refine n_if_eq (tgt := 32) rfl rfl (by decide) (fun hq => absurd hq (by decide)) (fun _ => ?_)
  refine n_iconst 0 rfl ?_
  exact s_ret (st := []) rfl rfl rfl (Nat.zero_le _) (Nat.zero_le _) (⟨_, rfl, rfl, rfl, FrC_mz rfl rfl, ⟨hI.1, ⟨hI.2.1.1, hI.2.1.2.1, hI.2.1.2.2⟩, hI.2.2.1, hI.2.2.2.1, hI.2.2.2.2.1, hI.2.2.2.2.2.1, hI.2.2.2.2.2.2⟩⟩)

