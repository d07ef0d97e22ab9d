theorem x_person_P {z : SZ} {sc : SC} {σ : SS} {a : AB} {x y : Int32} (hA : AV a) (hI : CI9 σ a) (hx : (x < 0 ∨ (¬ x < 0 ∧ nI (aD a 0 0) ≤ x))) : Cs z sc mX9_person 1 6 [.ref 0, .int x, .int y] σ (RX 0 fun σ' => σ' = σ) := by
  refine Cs.of gmX9_person (Nat.le_of_ble_eq_true rfl) ?_
  show Ws z sc mX9_person 1 6 0 0 0 [(0, .ref 0), (1, .int x), (2, .int y)] [] (mz σ [] []) (RX 0 fun σ' => σ' = σ)
  have hV := hA.1
  have hC := vC hV
  have hS := hI.1.1.1
  have hE := hI.1.1.2
  refine r_aload_n rfl rfl ?_
  refine r_iload_n rfl rfl ?_
  exact s_virX [.int x] [] rfl lkX9_153 rfl rfl rfl (x_reqPerson hE hV hx) rfl rfl (by decide) (by decide) rfl (fun σ2 e2 => ⟨rfl, e2⟩)

theorem x_step_P {z : SZ} {sc : SC} {σ : SS} {a : AB} {x y : Int32} (hA : AV a) (hI : CI9 σ a) (hx : (x < 0 ∨ (¬ x < 0 ∧ nI (aD a 0 0) ≤ x))) : Cs z sc mX9_step 1 6 [.ref 0, .int x, .int y] σ (RX 0 fun σ' => σ' = σ) := by
  refine Cs.of gmX9_step (Nat.le_of_ble_eq_true rfl) ?_
  show Ws z sc mX9_step 1 6 0 0 0 [(0, .ref 0), (1, .int x), (2, .int y)] [] (mz σ [] []) (RX 0 fun σ' => σ' = σ)
  have hV := hA.1
  have hC := vC hV
  have hS := hI.1.1.1
  have hE := hI.1.1.2
  refine r_aload_n rfl rfl ?_
  refine r_iload_n rfl rfl ?_
  exact s_virX [.int x] [] rfl lkX9_153 rfl rfl rfl (x_reqPerson hE hV hx) rfl rfl (by decide) (by decide) rfl (fun σ2 e2 => ⟨rfl, e2⟩)

theorem x_isEmpty_P {z : SZ} {sc : SC} {σ : SS} {a : AB} {x : Int32} (hA : AV a) (hI : CI9 σ a) (hx : (x < 0 ∨ (¬ x < 0 ∧ nI (aD a 0 0) ≤ x))) : Cs z sc mX9_isEmpty 1 6 [.ref 0, .int x] σ (RX 0 fun σ' => σ' = σ) := by
  refine Cs.of gmX9_isEmpty (Nat.le_of_ble_eq_true rfl) ?_
  show Ws z sc mX9_isEmpty 1 6 0 0 0 [(0, .ref 0), (1, .int x)] [] (mz σ [] []) (RX 0 fun σ' => σ' = σ)
  have hV := hA.1
  have hC := vC hV
  have hS := hI.1.1.1
  have hE := hI.1.1.2
  refine r_aload_n rfl rfl ?_
  refine r_iload_n rfl rfl ?_
  exact s_virX [.int x] [] rfl lkX9_153 rfl rfl rfl (x_reqPerson hE hV hx) rfl rfl (by decide) (by decide) rfl (fun σ2 e2 => ⟨rfl, e2⟩)

theorem x_given_P {z : SZ} {sc : SC} {σ : SS} {a : AB} {x : Int32} (hA : AV a) (hI : CI9 σ a) (hx : (x < 0 ∨ (¬ x < 0 ∧ nI (aD a 0 0) ≤ x))) : Cs z sc mX9_given 1 6 [.ref 0, .int x] σ (RX 0 fun σ' => σ' = σ) := by
  refine Cs.of gmX9_given (Nat.le_of_ble_eq_true rfl) ?_
  show Ws z sc mX9_given 1 6 0 0 0 [(0, .ref 0), (1, .int x)] [] (mz σ [] []) (RX 0 fun σ' => σ' = σ)
  have hV := hA.1
  have hC := vC hV
  have hS := hI.1.1.1
  have hE := hI.1.1.2
  refine r_aload_n rfl rfl ?_
  refine r_iload_n rfl rfl ?_
  exact s_virX [.int x] [] rfl lkX9_153 rfl rfl rfl (x_reqPerson hE hV hx) rfl rfl (by decide) (by decide) rfl (fun σ2 e2 => ⟨rfl, e2⟩)

theorem x_givenIf_P {z : SZ} {sc : SC} {σ : SS} {a : AB} {x y : Int32} (hA : AV a) (hI : CI9 σ a) (hx : (x < 0 ∨ (¬ x < 0 ∧ nI (aD a 0 0) ≤ x))) : Cs z sc mX9_givenIf 1 6 [.ref 0, .int x, .int y] σ (RX 0 fun σ' => σ' = σ) := by
  refine Cs.of gmX9_givenIf (Nat.le_of_ble_eq_true rfl) ?_
  show Ws z sc mX9_givenIf 1 6 0 0 0 [(0, .ref 0), (1, .int x), (2, .int y)] [] (mz σ [] []) (RX 0 fun σ' => σ' = σ)
  have hV := hA.1
  have hC := vC hV
  have hS := hI.1.1.1
  have hE := hI.1.1.2
  refine r_aload_n rfl rfl ?_
  refine r_iload_n rfl rfl ?_
  exact s_virX [.int x] [] rfl lkX9_153 rfl rfl rfl (x_reqPerson hE hV hx) rfl rfl (by decide) (by decide) rfl (fun σ2 e2 => ⟨rfl, e2⟩)

theorem x_helper_P {z : SZ} {sc : SC} {σ : SS} {a : AB} {x : Int32} (hA : AV a) (hI : CI9 σ a) (hx : (x < 0 ∨ (¬ x < 0 ∧ nI (aD a 0 0) ≤ x))) : Cs z sc mX9_helper 1 6 [.ref 0, .int x] σ (RX 0 fun σ' => σ' = σ) := by
  refine Cs.of gmX9_helper (Nat.le_of_ble_eq_true rfl) ?_
  show Ws z sc mX9_helper 1 6 0 0 0 [(0, .ref 0), (1, .int x)] [] (mz σ [] []) (RX 0 fun σ' => σ' = σ)
  have hV := hA.1
  have hC := vC hV
  have hS := hI.1.1.1
  have hE := hI.1.1.2
  refine r_aload_n rfl rfl ?_
  refine r_iload_n rfl rfl ?_
  exact s_virX [.int x] [] rfl lkX9_153 rfl rfl rfl (x_reqPerson hE hV hx) rfl rfl (by decide) (by decide) rfl (fun σ2 e2 => ⟨rfl, e2⟩)

theorem x_tooMuch_P {z : SZ} {sc : SC} {σ : SS} {a : AB} {x : Int32} (hA : AV a) (hI : CI9 σ a) (hx : (x < 0 ∨ (¬ x < 0 ∧ nI (aD a 0 0) ≤ x))) : Cs z sc mX9_tooMuch 1 6 [.ref 0, .int x] σ (RX 0 fun σ' => σ' = σ) := by
  refine Cs.of gmX9_tooMuch (Nat.le_of_ble_eq_true rfl) ?_
  show Ws z sc mX9_tooMuch 1 6 0 0 0 [(0, .ref 0), (1, .int x)] [] (mz σ [] []) (RX 0 fun σ' => σ' = σ)
  have hV := hA.1
  have hC := vC hV
  have hS := hI.1.1.1
  have hE := hI.1.1.2
  refine r_aload_n rfl rfl ?_
  refine r_iload_n rfl rfl ?_
  exact s_virX [.int x] [] rfl lkX9_153 rfl rfl rfl (x_reqPerson hE hV hx) rfl rfl (by decide) (by decide) rfl (fun σ2 e2 => ⟨rfl, e2⟩)

theorem x_refuse_P {z : SZ} {sc : SC} {σ : SS} {a : AB} {x y : Int32} (hA : AV a) (hI : CI9 σ a) (hx : (x < 0 ∨ (¬ x < 0 ∧ nI (aD a 0 0) ≤ x))) : Cs z sc mX9_refuse 1 6 [.ref 0, .int x, .int y] σ (RX 0 fun σ' => σ' = σ) := by
  refine Cs.of gmX9_refuse (Nat.le_of_ble_eq_true rfl) ?_
  show Ws z sc mX9_refuse 1 6 0 0 0 [(0, .ref 0), (1, .int x), (2, .int y)] [] (mz σ [] []) (RX 0 fun σ' => σ' = σ)
  have hV := hA.1
  have hC := vC hV
  have hS := hI.1.1.1
  have hE := hI.1.1.2
  refine r_aload_n rfl rfl ?_
  refine r_iload_n rfl rfl ?_
  exact s_virX [.int x] [] rfl lkX9_153 rfl rfl rfl (x_reqPerson hE hV hx) rfl rfl (by decide) (by decide) rfl (fun σ2 e2 => ⟨rfl, e2⟩)

theorem x_die_P {z : SZ} {sc : SC} {σ : SS} {a : AB} {x : Int32} (hA : AV a) (hI : CI9 σ a) (hx : (x < 0 ∨ (¬ x < 0 ∧ nI (aD a 0 0) ≤ x))) : Cs z sc mX9_die 1 6 [.ref 0, .int x] σ (RX 0 fun σ' => σ' = σ) := by
  refine Cs.of gmX9_die (Nat.le_of_ble_eq_true rfl) ?_
  show Ws z sc mX9_die 1 6 0 0 0 [(0, .ref 0), (1, .int x)] [] (mz σ [] []) (RX 0 fun σ' => σ' = σ)
  have hV := hA.1
  have hC := vC hV
  have hS := hI.1.1.1
  have hE := hI.1.1.2
  refine r_aload_n rfl rfl ?_
  refine r_iload_n rfl rfl ?_
  exact s_virX [.int x] [] rfl lkX9_153 rfl rfl rfl (x_reqPerson hE hV hx) rfl rfl (by decide) (by decide) rfl (fun σ2 e2 => ⟨rfl, e2⟩)

theorem x_setAge_P {z : SZ} {sc : SC} {σ : SS} {a : AB} {x y : Int32} (hA : AV a) (hI : CI9 σ a) (hx : (x < 0 ∨ (¬ x < 0 ∧ nI (aD a 0 0) ≤ x))) : Cs z sc mX9_setAge 1 6 [.ref 0, .int x, .int y] σ (RX 0 fun σ' => σ' = σ) := by
  refine Cs.of gmX9_setAge (Nat.le_of_ble_eq_true rfl) ?_
  show Ws z sc mX9_setAge 1 6 0 0 0 [(0, .ref 0), (1, .int x), (2, .int y)] [] (mz σ [] []) (RX 0 fun σ' => σ' = σ)
  have hV := hA.1
  have hC := vC hV
  have hS := hI.1.1.1
  have hE := hI.1.1.2
  refine r_aload_n rfl rfl ?_
  refine r_iload_n rfl rfl ?_
  exact s_virX [.int x] [] rfl lkX9_153 rfl rfl rfl (x_reqPerson hE hV hx) rfl rfl (by decide) (by decide) rfl (fun σ2 e2 => ⟨rfl, e2⟩)

theorem x_addGift_P {z : SZ} {sc : SC} {σ : SS} {a : AB} {x y : Int32} (hA : AV a) (hI : CI9 σ a) (hx : (x < 0 ∨ (¬ x < 0 ∧ nI (aD a 0 0) ≤ x))) : Cs z sc mX9_addGift 1 6 [.ref 0, .int x, .int y] σ (RX 0 fun σ' => σ' = σ) := by
  refine Cs.of gmX9_addGift (Nat.le_of_ble_eq_true rfl) ?_
  show Ws z sc mX9_addGift 1 6 0 0 0 [(0, .ref 0), (1, .int x), (2, .int y)] [] (mz σ [] []) (RX 0 fun σ' => σ' = σ)
  have hV := hA.1
  have hC := vC hV
  have hS := hI.1.1.1
  have hE := hI.1.1.2
  refine r_aload_n rfl rfl ?_
  refine r_iload_n rfl rfl ?_
  exact s_virX [.int x] [] rfl lkX9_153 rfl rfl rfl (x_reqPerson hE hV hx) rfl rfl (by decide) (by decide) rfl (fun σ2 e2 => ⟨rfl, e2⟩)

theorem x_asset_P {z : SZ} {sc : SC} {σ : SS} {a : AB} {x y : Int32} (hA : AV a) (hI : CI9 σ a) (hx : (x < 0 ∨ (¬ x < 0 ∧ nI (aD a 0 1) ≤ x))) : Cs z sc mX9_asset 1 6 [.ref 0, .int x, .int y] σ (RX 0 fun σ' => σ' = σ) := by
  refine Cs.of gmX9_asset (Nat.le_of_ble_eq_true rfl) ?_
  show Ws z sc mX9_asset 1 6 0 0 0 [(0, .ref 0), (1, .int x), (2, .int y)] [] (mz σ [] []) (RX 0 fun σ' => σ' = σ)
  have hV := hA.1
  have hC := vC hV
  have hS := hI.1.1.1
  have hE := hI.1.1.2
  refine r_aload_n rfl rfl ?_
  refine r_iload_n rfl rfl ?_
  exact s_virX [.int x] [] rfl lkX9_180 rfl rfl rfl (x_reqAsset hE hV hx) rfl rfl (by decide) (by decide) rfl (fun σ2 e2 => ⟨rfl, e2⟩)

theorem x_setValue_P {z : SZ} {sc : SC} {σ : SS} {a : AB} {x y : Int32} (hA : AV a) (hI : CI9 σ a) (hx : (x < 0 ∨ (¬ x < 0 ∧ nI (aD a 0 1) ≤ x))) : Cs z sc mX9_setValue 1 6 [.ref 0, .int x, .int y] σ (RX 0 fun σ' => σ' = σ) := by
  refine Cs.of gmX9_setValue (Nat.le_of_ble_eq_true rfl) ?_
  show Ws z sc mX9_setValue 1 6 0 0 0 [(0, .ref 0), (1, .int x), (2, .int y)] [] (mz σ [] []) (RX 0 fun σ' => σ' = σ)
  have hV := hA.1
  have hC := vC hV
  have hS := hI.1.1.1
  have hE := hI.1.1.2
  refine r_aload_n rfl rfl ?_
  refine r_iload_n rfl rfl ?_
  exact s_virX [.int x] [] rfl lkX9_180 rfl rfl rfl (x_reqAsset hE hV hx) rfl rfl (by decide) (by decide) rfl (fun σ2 e2 => ⟨rfl, e2⟩)

theorem x_givenIf_Q {z : SZ} {sc : SC} {σ : SS} {a : AB} {q : Nat} {y : Int32} (hA : AV a) (hI : CI9 σ a) (hq : q < aD a 0 0) (hx : (y < 0 ∨ (¬ y < 0 ∧ nI (aD a 0 0) ≤ y))) : Cs z sc mX9_givenIf 1 6 [.ref 0, .int (nI q), .int y] σ (RX 0 fun σ' => σ' = σ) := by
  refine Cs.of gmX9_givenIf (Nat.le_of_ble_eq_true rfl) ?_
  show Ws z sc mX9_givenIf 1 6 0 0 0 [(0, .ref 0), (1, .int (nI q)), (2, .int y)] [] (mz σ [] []) (RX 0 fun σ' => σ' = σ)
  have hV := hA.1
  have hC := vC hV
  have hS := hI.1.1.1
  have hE := hI.1.1.2
  refine r_aload_n rfl rfl ?_
  refine r_iload_n rfl rfl ?_
  refine s_virV [.int (nI q)] [] rfl lkX9_153 rfl rfl rfl (c_reqPerson hE hV hq) rfl rfl (by decide) (by decide) rfl (rV ?_)
  refine r_aload_n rfl rfl ?_
  refine r_iload_n rfl rfl ?_
  exact s_virX [.int y] [] rfl lkX9_153 rfl rfl rfl (x_reqPerson hE hV hx) rfl rfl (by decide) (by decide) rfl (fun σ2 e2 => ⟨rfl, e2⟩)

theorem x_person_W {z : SZ} {sc : SC} {σ : SS} {a : AB} {q : Nat} {y : Int32} (hA : AV a) (hI : CI9 σ a) (hq : q < aD a 0 0) (hx : (y < 0 ∨ (¬ y < 0 ∧ nI (5 + 1) ≤ y))) : Cs z sc mX9_person 1 6 [.ref 0, .int (nI q), .int y] σ (RX 1 fun σ' => σ' = σ) := by
  refine Cs.of gmX9_person (Nat.le_of_ble_eq_true rfl) ?_
  show Ws z sc mX9_person 1 6 0 0 0 [(0, .ref 0), (1, .int (nI q)), (2, .int y)] [] (mz σ [] []) (RX 1 fun σ' => σ' = σ)
  have hV := hA.1
  have hC := vC hV
  have hS := hI.1.1.1
  have hE := hI.1.1.2
  refine r_aload_n rfl rfl ?_
  refine r_iload_n rfl rfl ?_
  refine s_virV [.int (nI q)] [] rfl lkX9_153 rfl rfl rfl (c_reqPerson hE hV hq) rfl rfl (by decide) (by decide) rfl (rV ?_)
  refine r_iload_n rfl rfl ?_
  refine n_iconst 5 rfl ?_
  exact s_staX [.int y, .int (nI 5)] [] rfl lkX9_106 (x_reqWhat (by decide) hx) rfl rfl (by decide) (by decide) rfl (fun σ2 e2 => ⟨rfl, e2⟩)

theorem x_step_W {z : SZ} {sc : SC} {σ : SS} {a : AB} {q : Nat} {y : Int32} (hA : AV a) (hI : CI9 σ a) (hq : q < aD a 0 0) (hx : (y < 0 ∨ (¬ y < 0 ∧ nI (6 + 1) ≤ y))) : Cs z sc mX9_step 1 6 [.ref 0, .int (nI q), .int y] σ (RX 1 fun σ' => σ' = σ) := by
  refine Cs.of gmX9_step (Nat.le_of_ble_eq_true rfl) ?_
  show Ws z sc mX9_step 1 6 0 0 0 [(0, .ref 0), (1, .int (nI q)), (2, .int y)] [] (mz σ [] []) (RX 1 fun σ' => σ' = σ)
  have hV := hA.1
  have hC := vC hV
  have hS := hI.1.1.1
  have hE := hI.1.1.2
  refine r_aload_n rfl rfl ?_
  refine r_iload_n rfl rfl ?_
  refine s_virV [.int (nI q)] [] rfl lkX9_153 rfl rfl rfl (c_reqPerson hE hV hq) rfl rfl (by decide) (by decide) rfl (rV ?_)
  refine r_iload_n rfl rfl ?_
  refine n_bipush 6 rfl (by decide) ?_
  exact s_staX [.int y, .int (nI 6)] [] rfl lkX9_106 (x_reqWhat (by decide) hx) rfl rfl (by decide) (by decide) rfl (fun σ2 e2 => ⟨rfl, e2⟩)

theorem x_asset_W {z : SZ} {sc : SC} {σ : SS} {a : AB} {q : Nat} {y : Int32} (hA : AV a) (hI : CI9 σ a) (hq : q < aD a 0 1) (hx : (y < 0 ∨ (¬ y < 0 ∧ nI (1 + 1) ≤ y))) : Cs z sc mX9_asset 1 6 [.ref 0, .int (nI q), .int y] σ (RX 1 fun σ' => σ' = σ) := by
  refine Cs.of gmX9_asset (Nat.le_of_ble_eq_true rfl) ?_
  show Ws z sc mX9_asset 1 6 0 0 0 [(0, .ref 0), (1, .int (nI q)), (2, .int y)] [] (mz σ [] []) (RX 1 fun σ' => σ' = σ)
  have hV := hA.1
  have hC := vC hV
  have hS := hI.1.1.1
  have hE := hI.1.1.2
  refine r_aload_n rfl rfl ?_
  refine r_iload_n rfl rfl ?_
  refine s_virV [.int (nI q)] [] rfl lkX9_180 rfl rfl rfl (c_reqAsset hE hV hq) rfl rfl (by decide) (by decide) rfl (rV ?_)
  refine r_iload_n rfl rfl ?_
  refine n_iconst 1 rfl ?_
  exact s_staX [.int y, .int (nI 1)] [] rfl lkX9_106 (x_reqWhat (by decide) hx) rfl rfl (by decide) (by decide) rfl (fun σ2 e2 => ⟨rfl, e2⟩)

theorem x_size_W {z : SZ} {sc : SC} {σ : SS} {a : AB} {y : Int32} (hA : AV a) (hI : CI9 σ a) (hx : (y < 0 ∨ (¬ y < 0 ∧ nI (9 + 1) ≤ y))) : Cs z sc mX9_size 1 6 [.ref 0, .int y] σ (RX 1 fun σ' => σ' = σ) := by
  refine Cs.of gmX9_size (Nat.le_of_ble_eq_true rfl) ?_
  show Ws z sc mX9_size 1 6 0 0 0 [(0, .ref 0), (1, .int y)] [] (mz σ [] []) (RX 1 fun σ' => σ' = σ)
  have hV := hA.1
  have hC := vC hV
  have hS := hI.1.1.1
  have hE := hI.1.1.2
  refine r_iload_n rfl rfl ?_
  refine n_bipush 9 rfl (by decide) ?_
  exact s_staX [.int y, .int (nI 9)] [] rfl lkX9_106 (x_reqWhat (by decide) hx) rfl rfl (by decide) (by decide) rfl (fun σ2 e2 => ⟨rfl, e2⟩)

theorem x_account_W {z : SZ} {sc : SC} {σ : SS} {a : AB} {y : Int32} (hA : AV a) (hI : CI9 σ a) (hx : (y < 0 ∨ (¬ y < 0 ∧ nI (9 + 1) ≤ y))) : Cs z sc mX9_account 1 6 [.ref 0, .int y] σ (RX 1 fun σ' => σ' = σ) := by
  refine Cs.of gmX9_account (Nat.le_of_ble_eq_true rfl) ?_
  show Ws z sc mX9_account 1 6 0 0 0 [(0, .ref 0), (1, .int y)] [] (mz σ [] []) (RX 1 fun σ' => σ' = σ)
  have hV := hA.1
  have hC := vC hV
  have hS := hI.1.1.1
  have hE := hI.1.1.2
  refine r_iload_n rfl rfl ?_
  refine n_bipush 9 rfl (by decide) ?_
  exact s_staX [.int y, .int (nI 9)] [] rfl lkX9_106 (x_reqWhat (by decide) hx) rfl rfl (by decide) (by decide) rfl (fun σ2 e2 => ⟨rfl, e2⟩)

theorem x_debt_P {z : SZ} {sc : SC} {σ : SS} {a : AB} {x y : Int32} (hA : AV a) (hI : CI9 σ a) (hx : (x < 0 ∨ (¬ x < 0 ∧ nI (aD a 0 2) ≤ x))) : Cs z sc mX9_debt 1 6 [.ref 0, .int x, .int y] σ (RX 0 fun σ' => σ' = σ) := by
  refine Cs.of gmX9_debt (Nat.le_of_ble_eq_true rfl) ?_
  show Ws z sc mX9_debt 1 6 0 0 0 [(0, .ref 0), (1, .int x), (2, .int y)] [] (mz σ [] []) (RX 0 fun σ' => σ' = σ)
  have hV := hA.1
  have hC := vC hV
  have hS := hI.1.1.1
  have hE := hI.1.1.2
  rcases hx with hx | hx
  · refine r_iload_n rfl rfl ?_
    refine r_if_lt (tgt := 15) rfl rfl (fun _ => ?_) (fun hq => absurd hq (fun z => z hx))
    exact s_throw (i := 19) rfl rfl rfl rfl rfl (by decide) thX9_192_196 rfl rfl rfl rfl (by decide) (by decide) (⟨rfl, rfl⟩)
  · refine r_iload_n rfl rfl ?_
    refine r_if_lt (tgt := 15) rfl rfl (fun hq => absurd hq hx.1) (fun _ => ?_)
    refine r_iload_n rfl rfl ?_
    refine r_aload_n rfl rfl ?_
    refine s_getR (r := 18) rfl flX9_26 rfl rfl ?_
    refine s_virI [] [.int x] rfl lkX9_116 rfl rfl rfl (c_debtCount_18 hS) rfl rfl (by decide) (by decide) rfl (rI (e1 := nI (aD a 0 2)) rfl ?_)
    refine r_icmp_lt (tgt := 25) rfl rfl (fun hq => absurd hq (Int32.not_lt.mpr hx.2)) (fun _ => ?_)
    exact s_throw (i := 19) rfl rfl rfl rfl rfl (by decide) thX9_192_196 rfl rfl rfl rfl (by decide) (by decide) (⟨rfl, rfl⟩)

theorem x_debt_W {z : SZ} {sc : SC} {σ : SS} {a : AB} {q : Nat} {y : Int32} (hA : AV a) (hI : CI9 σ a) (hq : q < aD a 0 2) (hx : (y < 0 ∨ (¬ y < 0 ∧ nI (2 + 1) ≤ y))) : Cs z sc mX9_debt 1 6 [.ref 0, .int (nI q), .int y] σ (RX 1 fun σ' => σ' = σ) := by
  refine Cs.of gmX9_debt (Nat.le_of_ble_eq_true rfl) ?_
  show Ws z sc mX9_debt 1 6 0 0 0 [(0, .ref 0), (1, .int (nI q)), (2, .int y)] [] (mz σ [] []) (RX 1 fun σ' => σ' = σ)
  have hV := hA.1
  have hC := vC hV
  have hS := hI.1.1.1
  have hE := hI.1.1.2
  refine r_iload_n rfl rfl ?_
  refine n_if_lt (tgt := 15) rfl rfl (by omega) (fun hq => hq.elim) (fun _ => ?_)
  refine r_iload_n rfl rfl ?_
  refine r_aload_n rfl rfl ?_
  refine s_getR (r := 18) rfl flX9_26 rfl rfl ?_
  refine s_virI [] [.int (nI q)] rfl lkX9_116 rfl rfl rfl (c_debtCount_18 hS) rfl rfl (by decide) (by decide) rfl (rI (e1 := nI (aD a 0 2)) rfl ?_)
  refine n_icmp_lt (tgt := 25) rfl rfl (by omega) (by omega) (fun _ => ?_) (fun hq => absurd hq (by omega))
  refine r_iload_n rfl rfl ?_
  refine n_iconst 2 rfl ?_
  exact s_staX [.int y, .int (nI 2)] [] rfl lkX9_106 (x_reqWhat (by decide) hx) rfl rfl (by decide) (by decide) rfl (fun σ2 e2 => ⟨rfl, e2⟩)

theorem x_legacy_P {z : SZ} {sc : SC} {σ : SS} {a : AB} {x y : Int32} (hA : AV a) (hI : CI9 σ a) (hx : (x < 0 ∨ (¬ x < 0 ∧ nI (aD a 0 4) ≤ x))) : Cs z sc mX9_legacy 1 6 [.ref 0, .int x, .int y] σ (RX 0 fun σ' => σ' = σ) := by
  refine Cs.of gmX9_legacy (Nat.le_of_ble_eq_true rfl) ?_
  show Ws z sc mX9_legacy 1 6 0 0 0 [(0, .ref 0), (1, .int x), (2, .int y)] [] (mz σ [] []) (RX 0 fun σ' => σ' = σ)
  have hV := hA.1
  have hC := vC hV
  have hS := hI.1.1.1
  have hE := hI.1.1.2
  rcases hx with hx | hx
  · refine r_iload_n rfl rfl ?_
    refine r_if_lt (tgt := 15) rfl rfl (fun _ => ?_) (fun hq => absurd hq (fun z => z hx))
    exact s_throw (i := 20) rfl rfl rfl rfl rfl (by decide) thX9_192_196 rfl rfl rfl rfl (by decide) (by decide) (⟨rfl, rfl⟩)
  · refine r_iload_n rfl rfl ?_
    refine r_if_lt (tgt := 15) rfl rfl (fun hq => absurd hq hx.1) (fun _ => ?_)
    refine r_iload_n rfl rfl ?_
    refine r_aload_n rfl rfl ?_
    refine s_getR (r := 12) rfl flX9_19 rfl rfl ?_
    refine s_getI (x := nI (aD a 0 4)) rfl flX9_123 rfl rfl hE.1.2.2.2.1 ?_
    refine r_icmp_lt (tgt := 25) rfl rfl (fun hq => absurd hq (Int32.not_lt.mpr hx.2)) (fun _ => ?_)
    exact s_throw (i := 20) rfl rfl rfl rfl rfl (by decide) thX9_192_196 rfl rfl rfl rfl (by decide) (by decide) (⟨rfl, rfl⟩)

theorem x_legacy_W {z : SZ} {sc : SC} {σ : SS} {a : AB} {q : Nat} {y : Int32} (hA : AV a) (hI : CI9 σ a) (hq : q < aD a 0 4) (hx : (y < 0 ∨ (¬ y < 0 ∧ nI (3 + 1) ≤ y))) : Cs z sc mX9_legacy 1 6 [.ref 0, .int (nI q), .int y] σ (RX 1 fun σ' => σ' = σ) := by
  refine Cs.of gmX9_legacy (Nat.le_of_ble_eq_true rfl) ?_
  show Ws z sc mX9_legacy 1 6 0 0 0 [(0, .ref 0), (1, .int (nI q)), (2, .int y)] [] (mz σ [] []) (RX 1 fun σ' => σ' = σ)
  have hV := hA.1
  have hC := vC hV
  have hS := hI.1.1.1
  have hE := hI.1.1.2
  refine r_iload_n rfl rfl ?_
  refine n_if_lt (tgt := 15) rfl rfl (by omega) (fun hq => hq.elim) (fun _ => ?_)
  refine r_iload_n rfl rfl ?_
  refine r_aload_n rfl rfl ?_
  refine s_getR (r := 12) rfl flX9_19 rfl rfl ?_
  refine s_getI (x := nI (aD a 0 4)) rfl flX9_123 rfl rfl hE.1.2.2.2.1 ?_
  refine n_icmp_lt (tgt := 25) rfl rfl (by omega) (by omega) (fun _ => ?_) (fun hq => absurd hq (by omega))
  refine r_iload_n rfl rfl ?_
  refine n_iconst 3 rfl ?_
  exact s_staX [.int y, .int (nI 3)] [] rfl lkX9_106 (x_reqWhat (by decide) hx) rfl rfl (by decide) (by decide) rfl (fun σ2 e2 => ⟨rfl, e2⟩)

theorem x_factor {z : SZ} {sc : SC} {σ : SS} {y : Int32} (hx : (y < nI 0 ∨ (¬ y < nI 0 ∧ nI (120 + 1) ≤ y))) : Cs z sc mX9_factor 1 6 [.ref 0, .int y] σ (RX 1 fun σ' => σ' = σ) := by
  refine Cs.of gmX9_factor (Nat.le_of_ble_eq_true rfl) ?_
  show Ws z sc mX9_factor 1 6 0 0 0 [(0, .ref 0), (1, .int y)] [] (mz σ [] []) (RX 1 fun σ' => σ' = σ)
  refine r_iload_n rfl rfl ?_
  refine n_iconst 0 rfl ?_
  refine n_bipush 120 rfl (by decide) ?_
  exact s_staX [.int y, .int (nI 0), .int (nI 120)] [] rfl lkX9_254 (x_reqRange (by decide) hx) rfl rfl (by decide) (by decide) rfl (fun σ2 e2 => ⟨rfl, e2⟩)

theorem x_setAge_W {z : SZ} {sc : SC} {σ : SS} {a : AB} {q : Nat} {y : Int32} (hA : AV a) (hI : CI9 σ a) (hq : q < aD a 0 0) (hx : (y < nI 0 ∨ (¬ y < nI 0 ∧ nI (120 + 1) ≤ y))) : Cs z sc mX9_setAge 1 6 [.ref 0, .int (nI q), .int y] σ (RX 1 fun σ' => σ' = σ) := by
  refine Cs.of gmX9_setAge (Nat.le_of_ble_eq_true rfl) ?_
  show Ws z sc mX9_setAge 1 6 0 0 0 [(0, .ref 0), (1, .int (nI q)), (2, .int y)] [] (mz σ [] []) (RX 1 fun σ' => σ' = σ)
  have hV := hA.1
  have hC := vC hV
  have hS := hI.1.1.1
  have hE := hI.1.1.2
  refine r_aload_n rfl rfl ?_
  refine r_iload_n rfl rfl ?_
  refine s_virV [.int (nI q)] [] rfl lkX9_153 rfl rfl rfl (c_reqPerson hE hV hq) rfl rfl (by decide) (by decide) rfl (rV ?_)
  refine r_iload_n rfl rfl ?_
  refine n_iconst 0 rfl ?_
  refine n_bipush 120 rfl (by decide) ?_
  exact s_staX [.int y, .int (nI 0), .int (nI 120)] [] rfl lkX9_254 (x_reqRange (by decide) hx) rfl rfl (by decide) (by decide) rfl (fun σ2 e2 => ⟨rfl, e2⟩)

theorem x_addGift_W {z : SZ} {sc : SC} {σ : SS} {a : AB} {q : Nat} {y : Int32} (hA : AV a) (hI : CI9 σ a) (hq : q < aD a 0 0) (hx : (y < nI 0 ∨ (¬ y < nI 0 ∧ nI (9999999 + 1) ≤ y))) : Cs z sc mX9_addGift 1 6 [.ref 0, .int (nI q), .int y] σ (RX 1 fun σ' => σ' = σ) := by
  refine Cs.of gmX9_addGift (Nat.le_of_ble_eq_true rfl) ?_
  show Ws z sc mX9_addGift 1 6 0 0 0 [(0, .ref 0), (1, .int (nI q)), (2, .int y)] [] (mz σ [] []) (RX 1 fun σ' => σ' = σ)
  have hV := hA.1
  have hC := vC hV
  have hS := hI.1.1.1
  have hE := hI.1.1.2
  refine r_aload_n rfl rfl ?_
  refine r_iload_n rfl rfl ?_
  refine s_virV [.int (nI q)] [] rfl lkX9_153 rfl rfl rfl (c_reqPerson hE hV hq) rfl rfl (by decide) (by decide) rfl (rV ?_)
  refine r_iload_n rfl rfl ?_
  refine n_iconst 0 rfl ?_
  refine r_ldcw (v := nI 9999999) rfl kcX9_315 ?_
  exact s_staX [.int y, .int (nI 0), .int (nI 9999999)] [] rfl lkX9_254 (x_reqRange (by decide) hx) rfl rfl (by decide) (by decide) rfl (fun σ2 e2 => ⟨rfl, e2⟩)

theorem x_setValue_W {z : SZ} {sc : SC} {σ : SS} {a : AB} {q : Nat} {y : Int32} (hA : AV a) (hI : CI9 σ a) (hq : q < aD a 0 1) (hx : (y < nI 0 ∨ (¬ y < nI 0 ∧ nI (9999999 + 1) ≤ y))) : Cs z sc mX9_setValue 1 6 [.ref 0, .int (nI q), .int y] σ (RX 1 fun σ' => σ' = σ) := by
  refine Cs.of gmX9_setValue (Nat.le_of_ble_eq_true rfl) ?_
  show Ws z sc mX9_setValue 1 6 0 0 0 [(0, .ref 0), (1, .int (nI q)), (2, .int y)] [] (mz σ [] []) (RX 1 fun σ' => σ' = σ)
  have hV := hA.1
  have hC := vC hV
  have hS := hI.1.1.1
  have hE := hI.1.1.2
  refine r_aload_n rfl rfl ?_
  refine r_iload_n rfl rfl ?_
  refine s_virV [.int (nI q)] [] rfl lkX9_180 rfl rfl rfl (c_reqAsset hE hV hq) rfl rfl (by decide) (by decide) rfl (rV ?_)
  refine r_iload_n rfl rfl ?_
  refine n_iconst 0 rfl ?_
  refine r_ldcw (v := nI 9999999) rfl kcX9_315 ?_
  exact s_staX [.int y, .int (nI 0), .int (nI 9999999)] [] rfl lkX9_254 (x_reqRange (by decide) hx) rfl rfl (by decide) (by decide) rfl (fun σ2 e2 => ⟨rfl, e2⟩)

theorem x_addGift_F {z : SZ} {sc : SC} {σ : SS} {a : AB} {q v9 : Nat} (hA : AV a) (hI : CI9 σ a) (hq : q < aD a 0 0) (hv : v9 ≤ 9999999) (hg : aD a 0 3 = 8) : Cs z sc mX9_addGift 1 6 [.ref 0, .int (nI q), .int (nI v9)] σ (RX 2 fun σ' => σ' = σ) := by
  refine Cs.of gmX9_addGift (Nat.le_of_ble_eq_true rfl) ?_
  show Ws z sc mX9_addGift 1 6 0 0 0 [(0, .ref 0), (1, .int (nI q)), (2, .int (nI v9))] [] (mz σ [] []) (RX 2 fun σ' => σ' = σ)
  have hV := hA.1
  have hC := vC hV
  have hS := hI.1.1.1
  have hE := hI.1.1.2
  refine r_aload_n rfl rfl ?_
  refine r_iload_n rfl rfl ?_
  refine s_virV [.int (nI q)] [] rfl lkX9_153 rfl rfl rfl (c_reqPerson hE hV hq) rfl rfl (by decide) (by decide) rfl (rV ?_)
  refine r_iload_n rfl rfl ?_
  refine n_iconst 0 rfl ?_
  refine r_ldcw (v := nI 9999999) rfl kcX9_315 ?_
  refine s_staV [.int (nI v9), .int (nI 0), .int (nI 9999999)] [] rfl lkX9_254 (c_reqRange (by omega) hv (by decide)) rfl rfl (by decide) (by decide) rfl (rV ?_)
  refine r_aload_n rfl rfl ?_
  refine s_getR (r := 18) rfl flX9_26 rfl rfl ?_
  refine s_virI [] [] rfl lkX9_120 rfl rfl rfl (c_giftCount_18 hS) rfl rfl (by decide) (by decide) rfl (rI (e1 := nI (aD a 0 3)) rfl ?_)
  refine n_bipush 8 rfl (by decide) ?_
  refine n_icmp_lt (tgt := 36) rfl rfl (by omega) (by omega) (fun hq => absurd hq (by omega)) (fun _ => ?_)
  exact s_throwW (i := 22) rfl rfl rfl rfl rfl (by decide) thX9_342_345 rfl rfl rfl rfl (by decide) (by decide) (⟨rfl, rfl⟩)

theorem x_addDebt_R {z : SZ} {sc : SC} {σ : SS} {x y : Int32} (hx : (x < nI 1 ∨ (¬ x < nI 1 ∧ nI (5 + 1) ≤ x))) : Cs z sc mX9_addDebt 1 6 [.ref 0, .int x, .int y] σ (RX 1 fun σ' => σ' = σ) := by
  refine Cs.of gmX9_addDebt (Nat.le_of_ble_eq_true rfl) ?_
  show Ws z sc mX9_addDebt 1 6 0 0 0 [(0, .ref 0), (1, .int x), (2, .int y)] [] (mz σ [] []) (RX 1 fun σ' => σ' = σ)
  refine r_iload_n rfl rfl ?_
  refine n_iconst 1 rfl ?_
  refine n_iconst 5 rfl ?_
  exact s_staX [.int x, .int (nI 1), .int (nI 5)] [] rfl lkX9_254 (x_reqRange (by decide) hx) rfl rfl (by decide) (by decide) rfl (fun σ2 e2 => ⟨rfl, e2⟩)

theorem x_addDebt_W {z : SZ} {sc : SC} {σ : SS} {q : Nat} {y : Int32} (hq0 : 1 ≤ q) (hq : q ≤ 5) (hx : (y < nI 0 ∨ (¬ y < nI 0 ∧ nI (9999999 + 1) ≤ y))) : Cs z sc mX9_addDebt 1 6 [.ref 0, .int (nI q), .int y] σ (RX 1 fun σ' => σ' = σ) := by
  refine Cs.of gmX9_addDebt (Nat.le_of_ble_eq_true rfl) ?_
  show Ws z sc mX9_addDebt 1 6 0 0 0 [(0, .ref 0), (1, .int (nI q)), (2, .int y)] [] (mz σ [] []) (RX 1 fun σ' => σ' = σ)
  refine r_iload_n rfl rfl ?_
  refine n_iconst 1 rfl ?_
  refine n_iconst 5 rfl ?_
  refine s_staV [.int (nI q), .int (nI 1), .int (nI 5)] [] rfl lkX9_254 (c_reqRange hq0 hq (by decide)) rfl rfl (by decide) (by decide) rfl (rV ?_)
  refine r_iload_n rfl rfl ?_
  refine n_iconst 0 rfl ?_
  refine r_ldcw (v := nI 9999999) rfl kcX9_315 ?_
  exact s_staX [.int y, .int (nI 0), .int (nI 9999999)] [] rfl lkX9_254 (x_reqRange (by decide) hx) rfl rfl (by decide) (by decide) rfl (fun σ2 e2 => ⟨rfl, e2⟩)

theorem x_addDebt_F {z : SZ} {sc : SC} {σ : SS} {a : AB} {q v9 : Nat} (hA : AV a) (hI : CI9 σ a) (hq0 : 1 ≤ q) (hq : q ≤ 5) (hv : v9 ≤ 9999999) (hg : aD a 0 2 = 8) : Cs z sc mX9_addDebt 1 6 [.ref 0, .int (nI q), .int (nI v9)] σ (RX 2 fun σ' => σ' = σ) := by
  refine Cs.of gmX9_addDebt (Nat.le_of_ble_eq_true rfl) ?_
  show Ws z sc mX9_addDebt 1 6 0 0 0 [(0, .ref 0), (1, .int (nI q)), (2, .int (nI v9))] [] (mz σ [] []) (RX 2 fun σ' => σ' = σ)
  have hV := hA.1
  have hC := vC hV
  have hS := hI.1.1.1
  have hE := hI.1.1.2
  refine r_iload_n rfl rfl ?_
  refine n_iconst 1 rfl ?_
  refine n_iconst 5 rfl ?_
  refine s_staV [.int (nI q), .int (nI 1), .int (nI 5)] [] rfl lkX9_254 (c_reqRange hq0 hq (by decide)) rfl rfl (by decide) (by decide) rfl (rV ?_)
  refine r_iload_n rfl rfl ?_
  refine n_iconst 0 rfl ?_
  refine r_ldcw (v := nI 9999999) rfl kcX9_315 ?_
  refine s_staV [.int (nI v9), .int (nI 0), .int (nI 9999999)] [] rfl lkX9_254 (c_reqRange (by omega) hv (by decide)) rfl rfl (by decide) (by decide) rfl (rV ?_)
  refine r_aload_n rfl rfl ?_
  refine s_getR (r := 18) rfl flX9_26 rfl rfl ?_
  refine s_virI [] [] rfl lkX9_116 rfl rfl rfl (c_debtCount_18 hS) rfl rfl (by decide) (by decide) rfl (rI (e1 := nI (aD a 0 2)) rfl ?_)
  refine r_istore_n (lv' := [(3, .int (nI (aD a 0 2))), (0, .ref 0), (1, .int (nI q)), (2, .int (nI v9))]) rfl rfl (Nat.le_of_ble_eq_true rfl) rfl ?_
  refine r_iload_n rfl rfl ?_
  refine n_bipush 8 rfl (by decide) ?_
  refine n_icmp_lt (tgt := 39) rfl rfl (by omega) (by omega) (fun hq => absurd hq (by omega)) (fun _ => ?_)
  exact s_throwW (i := 23) rfl rfl rfl rfl rfl (by decide) thX9_342_345 rfl rfl rfl rfl (by decide) (by decide) (⟨rfl, rfl⟩)

theorem x_saveSnapshot_P {z : SZ} {sc : SC} {σ : SS} {x : Int32} (hx : (x < 0 ∨ (¬ x < 0 ∧ nI (2) ≤ x))) : Cs z sc mX9_saveSnapshot 1 6 [.ref 0, .int x] σ (RX 0 fun σ' => σ' = σ) := by
  refine Cs.of gmX9_saveSnapshot (Nat.le_of_ble_eq_true rfl) ?_
  show Ws z sc mX9_saveSnapshot 1 6 0 0 0 [(0, .ref 0), (1, .int x)] [] (mz σ [] []) (RX 0 fun σ' => σ' = σ)
  refine r_iload_n rfl rfl ?_
  exact s_staX [.int x] [] rfl lkX9_367 (x_reqSlot hx) rfl rfl (by decide) (by decide) rfl (fun σ2 e2 => ⟨rfl, e2⟩)

theorem x_restoreSnapshot_P {z : SZ} {sc : SC} {σ : SS} {x : Int32} (hx : (x < 0 ∨ (¬ x < 0 ∧ nI (2) ≤ x))) : Cs z sc mX9_restoreSnapshot 1 6 [.ref 0, .int x] σ (RX 0 fun σ' => σ' = σ) := by
  refine Cs.of gmX9_restoreSnapshot (Nat.le_of_ble_eq_true rfl) ?_
  show Ws z sc mX9_restoreSnapshot 1 6 0 0 0 [(0, .ref 0), (1, .int x)] [] (mz σ [] []) (RX 0 fun σ' => σ' = σ)
  refine r_iload_n rfl rfl ?_
  exact s_staX [.int x] [] rfl lkX9_367 (x_reqSlot hx) rfl rfl (by decide) (by decide) rfl (fun σ2 e2 => ⟨rfl, e2⟩)

theorem x_restore_E {z : SZ} {sc : SC} {σ : SS} {a : AB} {q : Nat} (hA : AV a) (hI : CI9 σ a) (hq : q < 2) (hb : bS a q = false) : Cs z sc mX9_restoreSnapshot 1 6 [.ref 0, .int (nI q)] σ (RX 2 fun σ' => σ' = σ) := by
  refine Cs.of gmX9_restoreSnapshot (Nat.le_of_ble_eq_true rfl) ?_
  show Ws z sc mX9_restoreSnapshot 1 6 0 0 0 [(0, .ref 0), (1, .int (nI q))] [] (mz σ [] []) (RX 2 fun σ' => σ' = σ)
  have hV := hA.1
  have hC := vC hV
  have hS := hI.1.1.1
  have hE := hI.1.1.2
  have hmb := mk_lt12 (bS a) (show 2 ≤ 12 by decide)
  refine r_iload_n rfl rfl ?_
  refine s_staV [.int (nI q)] [] rfl lkX9_367 (c_reqSlot hq) rfl rfl (by decide) (by decide) rfl (rV ?_)
  refine r_aload_n rfl rfl ?_
  refine s_getR (r := 50) rfl flX9_46 rfl rfl ?_
  refine s_getI (x := nI (mk (bS a) 2)) rfl flX9_370 rfl rfl hI.1.2.1.2 ?_
  refine r_iload_n rfl rfl ?_
  refine s_staI [.int (nI (mk (bS a) 2)), .int (nI q)] [] rfl lkX9_282 (c_hasBit hmb (by omega)) rfl rfl (by decide) (by decide) rfl (rI (e1 := nI 0) (by rw [mk_bit, decide_eq_true hq, Bool.true_and, hb]; rfl) ?_)
  refine n_if_ne (tgt := 29) rfl rfl (by decide) (fun hq => absurd hq (by decide)) (fun _ => ?_)
  exact s_throwW (i := 25) rfl rfl rfl rfl rfl (by decide) thX9_342_345 rfl rfl rfl rfl (by decide) (by decide) (⟨rfl, rfl⟩)

