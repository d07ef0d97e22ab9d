/-- a run's beginning -/
def a0 : AB := (dE, (0, fun _ => dE), ((fun _ => false), fun _ => dE), (0, fun _ => 0), 0, fun _ => [])
theorem a0_ok : AV a0 := ⟨VdE, Nat.zero_le _, fun i hi => absurd hi (Nat.not_lt_zero _), fun i _ hb => absurd (show false = true from hb) Bool.false_ne_true, ⟨Nat.zero_le _, fun _ => Nat.zero_lt_succ _, Nat.zero_le _⟩, fun p hp => absurd hp (Nat.not_lt_zero _)⟩
theorem s0_SR : SR (s0.1 19) dE := by
  unfold SR
  decide +kernel
theorem s0_EE : EE s0 dE := ⟨⟨rfl, oI_0.symm, rfl, rfl, rfl, rfl, rfl⟩, fun p hp => absurd hp (Nat.not_lt_zero _), fun p hp => absurd hp (Nat.not_lt_zero _), fun p hp => absurd hp (Nat.not_lt_zero _), fun p hp => absurd hp (Nat.not_lt_zero _)⟩
theorem v_X9_0 : (aup (aup (aup (aup (aup (aup (aup (aup (dV 0 9 8) 0 (.ref 1)) 1 (.ref 12)) 2 (.ref 18)) 3 (.ref 20)) 4 (.ref 34)) 5 (.ref 36)) 6 (.ref 50)) 7 (.int (-1))) = fv s0 0 9 := by
  funext k
  exact match k with | 0 => rfl | 1 => rfl | 2 => rfl | 3 => rfl | 4 => rfl | 5 => rfl | 6 => rfl | 7 => rfl | q + 8 => rfl
theorem n_X9_0 {sc : SC} {B : Nat → AE} (hB : ∀ i, 0 ≤ i → i < 53 → B i = TB i) : Cal sc mX9_init 52 2294 [.ref 0] (aup B 0 (.inr (.inr (9, dV 0 9 8))), 1, true) (fun r S' => r = .inl none ∧ ∃ σ1, S' = (mkG (false, false) σ1, 53, true) ∧ CI9 σ1 a0) := by
  refine Cal.of gmX9_init (Nat.le_of_ble_eq_true rfl) ?_
  show Wp sc mX9_init 52 2294 0 0 0 [(0, .ref 0)] [] (aup B 0 (.inr (.inr (9, dV 0 9 8))), 1, true) _
  refine r_aload_n rfl rfl ?_
  refine r_obj rfl obX9_1 obI obC rfl rfl ?_
  refine r_aload_n rfl rfl ?_
  refine r_new (V := dV 1 5 10) rfl ciX5 nwX9_7.1 nwX9_7.2.1 nwX9_7.2.2 (dV_cv 1 5 10) rfl (by decide) (by decide) ?_
  show Wp sc mX9_init _ _ _ _ _ [(0, .ref 0)] _ (aup (aup B 0 (.inr (.inr (9, (dV 0 9 8))))) 1 (.inr (.inr (5, dV 1 5 10))), 2, true) _
  refine r_dup rfl rfl ?_
  refine q_iniN (B := aup B 0 (.inr (.inr (9, (dV 0 9 8))))) rfl lkX9_9 (n_X5_1 (fun i h1 h2 => (aup_n _ _ (by omega)).trans (hB i (by omega) (by omega)))) rfl (by decide) (by decide) ?_
  refine q_putF rfl flX9_10 (fun r hr => by cases hr; rfl) rfl (okv_o _ _) (by decide) ?_
  refine r_aload_n rfl rfl ?_
  refine r_new (V := dV 12 0 12) rfl ciX0 nwX9_16.1 nwX9_16.2.1 nwX9_16.2.2 (dV_cv 12 0 12) rfl (by decide) (by decide) ?_
  show Wp sc mX9_init _ _ _ _ _ [(0, .ref 0)] _ (aup (aup B 0 (.inr (.inr (9, (aup (dV 0 9 8) 0 (.ref 1)))))) 12 (.inr (.inr (0, dV 12 0 12))), 13, true) _
  refine r_dup rfl rfl ?_
  refine q_iniN (B := aup B 0 (.inr (.inr (9, (aup (dV 0 9 8) 0 (.ref 1)))))) rfl lkX9_18 (n_X0_12 (fun i h1 h2 => (aup_n _ _ (by omega)).trans (hB i (by omega) (by omega)))) rfl (by decide) (by decide) ?_
  refine q_putF rfl flX9_19 (fun r hr => by cases hr; rfl) rfl (okv_o _ _) (by decide) ?_
  refine r_aload_n rfl rfl ?_
  refine r_new (V := dV 18 8 1) rfl ciX8 nwX9_23.1 nwX9_23.2.1 nwX9_23.2.2 (dV_cv 18 8 1) rfl (by decide) (by decide) ?_
  show Wp sc mX9_init _ _ _ _ _ [(0, .ref 0)] _ (aup (aup B 0 (.inr (.inr (9, (aup (aup (dV 0 9 8) 0 (.ref 1)) 1 (.ref 12)))))) 18 (.inr (.inr (8, dV 18 8 1))), 19, true) _
  refine r_dup rfl rfl ?_
  refine q_ini (B := aup B 0 (.inr (.inr (9, (aup (aup (dV 0 9 8) 0 (.ref 1)) 1 (.ref 12)))))) rfl lkX9_25 (n_X8_18 (fun i h1 h2 => (aup_n _ _ (by omega)).trans (hB i (by omega) (by omega)))) rfl (by decide) (by decide) ?_
  refine q_putF rfl flX9_26 (fun r hr => by cases hr; rfl) rfl (okv_o _ _) (by decide) ?_
  refine r_aload_n rfl rfl ?_
  refine r_new (V := dV 20 7 8) rfl ciX7 nwX9_30.1 nwX9_30.2.1 nwX9_30.2.2 (dV_cv 20 7 8) rfl (by decide) (by decide) ?_
  show Wp sc mX9_init _ _ _ _ _ [(0, .ref 0)] _ (aup (aup B 0 (.inr (.inr (9, (aup (aup (aup (dV 0 9 8) 0 (.ref 1)) 1 (.ref 12)) 2 (.ref 18)))))) 20 (.inr (.inr (7, dV 20 7 8))), 21, true) _
  refine r_dup rfl rfl ?_
  refine q_iniN (B := aup B 0 (.inr (.inr (9, (aup (aup (aup (dV 0 9 8) 0 (.ref 1)) 1 (.ref 12)) 2 (.ref 18)))))) rfl lkX9_32 (n_X7_20 (fun i h1 h2 => (aup_n _ _ (by omega)).trans (hB i (by omega) (by omega)))) rfl (by decide) (by decide) ?_
  refine q_putF rfl flX9_33 (fun r hr => by cases hr; rfl) rfl (okv_o _ _) (by decide) ?_
  refine r_aload_n rfl rfl ?_
  refine r_new (V := dV 34 8 1) rfl ciX8 nwX9_23.1 nwX9_23.2.1 nwX9_23.2.2 (dV_cv 34 8 1) rfl (by decide) (by decide) ?_
  show Wp sc mX9_init _ _ _ _ _ [(0, .ref 0)] _ (aup (aup B 0 (.inr (.inr (9, (aup (aup (aup (aup (dV 0 9 8) 0 (.ref 1)) 1 (.ref 12)) 2 (.ref 18)) 3 (.ref 20)))))) 34 (.inr (.inr (8, dV 34 8 1))), 35, true) _
  refine r_dup rfl rfl ?_
  refine q_ini (B := aup B 0 (.inr (.inr (9, (aup (aup (aup (aup (dV 0 9 8) 0 (.ref 1)) 1 (.ref 12)) 2 (.ref 18)) 3 (.ref 20)))))) rfl lkX9_25 (n_X8_34 (fun i h1 h2 => (aup_n _ _ (by omega)).trans (hB i (by omega) (by omega)))) rfl (by decide) (by decide) ?_
  refine q_putF rfl flX9_37 (fun r hr => by cases hr; rfl) rfl (okv_o _ _) (by decide) ?_
  refine r_aload_n rfl rfl ?_
  refine r_new (V := dV 36 7 8) rfl ciX7 nwX9_30.1 nwX9_30.2.1 nwX9_30.2.2 (dV_cv 36 7 8) rfl (by decide) (by decide) ?_
  show Wp sc mX9_init _ _ _ _ _ [(0, .ref 0)] _ (aup (aup B 0 (.inr (.inr (9, (aup (aup (aup (aup (aup (dV 0 9 8) 0 (.ref 1)) 1 (.ref 12)) 2 (.ref 18)) 3 (.ref 20)) 4 (.ref 34)))))) 36 (.inr (.inr (7, dV 36 7 8))), 37, true) _
  refine r_dup rfl rfl ?_
  refine q_iniN (B := aup B 0 (.inr (.inr (9, (aup (aup (aup (aup (aup (dV 0 9 8) 0 (.ref 1)) 1 (.ref 12)) 2 (.ref 18)) 3 (.ref 20)) 4 (.ref 34)))))) rfl lkX9_32 (n_X7_36 (fun i h1 h2 => (aup_n _ _ (by omega)).trans (hB i (by omega) (by omega)))) rfl (by decide) (by decide) ?_
  refine q_putF rfl flX9_40 (fun r hr => by cases hr; rfl) rfl (okv_o _ _) (by decide) ?_
  refine r_aload_n rfl rfl ?_
  refine r_new (V := dV 50 4 4) rfl ciX4 nwX9_43.1 nwX9_43.2.1 nwX9_43.2.2 (dV_cv 50 4 4) rfl (by decide) (by decide) ?_
  show Wp sc mX9_init _ _ _ _ _ [(0, .ref 0)] _ (aup (aup B 0 (.inr (.inr (9, (aup (aup (aup (aup (aup (aup (dV 0 9 8) 0 (.ref 1)) 1 (.ref 12)) 2 (.ref 18)) 3 (.ref 20)) 4 (.ref 34)) 5 (.ref 36)))))) 50 (.inr (.inr (4, dV 50 4 4))), 51, true) _
  refine r_dup rfl rfl ?_
  refine q_iniN (B := aup B 0 (.inr (.inr (9, (aup (aup (aup (aup (aup (aup (dV 0 9 8) 0 (.ref 1)) 1 (.ref 12)) 2 (.ref 18)) 3 (.ref 20)) 4 (.ref 34)) 5 (.ref 36)))))) rfl lkX9_45 (n_X4_50 (fun i h1 h2 => (aup_n _ _ (by omega)).trans (hB i (by omega) (by omega)))) rfl (by decide) (by decide) ?_
  refine q_putF rfl flX9_46 (fun r hr => by cases hr; rfl) rfl (okv_o _ _) (by decide) ?_
  refine r_aload_n rfl rfl ?_
  refine r_iconst (v := -1) rfl rfl ?_
  refine q_putf rfl flX9_50 (okv_i _) (by decide) ?_
  refine Wp.congr (S' := (mkG (false, false) s0, 53, true)) rfl (fun i hi => ?_) ?_
  · show mkG (false, false) s0 i = aup B 0 _ i
    by_cases e : i = 0
    · rw [e, aup_s]; exact congrArg (fun V => (.inr (.inr (9, V)) : AE)) v_X9_0.symm
    · rw [aup_n _ _ e, hB i (Nat.zero_le _) hi]; exact mk_zz hi
  · refine r_aload_n rfl rfl ?_
    refine r_getf (V := fv s0 0 9) (v := .ref 20) rfl flX9_33 (show 0 < 53 by decide) rfl rfl ?_
    refine r_aload_n rfl rfl ?_
    refine r_getf (V := fv s0 0 9) (v := .ref 12) rfl flX9_19 (show 0 < 53 by decide) rfl rfl ?_
    refine r_aload_n rfl rfl ?_
    refine r_getf (V := fv s0 0 9) (v := .ref 18) rfl flX9_26 (show 0 < 53 by decide) rfl rfl ?_
    refine r_vir (V := fv s0 20 7) [.ref 12, .ref 18] [] rfl lkX9_54 (show 20 < 53 by decide) rfl rfl rfl (Cs.exact (z := (false, false)) (c_settle_A (σ := s0) (d := dE) s0_SR s0_EE VdE)) rfl rfl (by decide) (by decide) rfl (fun ec S' q => nomatch q.1) ?_
    rintro r S' ⟨hr, σ1, rfl, g0, g1, g2, g3, g4, g5, g6, g7, g8, g9, g10, g11, g12, g13, rfl, hSE⟩
    cases hr
    exact r_vret rfl rfl (by decide) (by decide) ⟨rfl, _, rfl, ⟨⟨s0_SR, s0_EE⟩, ⟨rfl, mk_f2⟩, fun i hi => absurd hi (Nat.not_lt_zero _), fun i _ hb => absurd (show false = true from hb) Bool.false_ne_true, ⟨rfl, fun k hk => absurd hk (Nat.not_lt_zero _)⟩, oI_0.symm, fun p hp => absurd hp (Nat.not_lt_zero _)⟩, hSE⟩
theorem v_X10_53 : (aup (aup (aup (aup (aup (aup (aup (aup (aup (aup (aup (aup (aup (aup (aup (aup (aup (aup (aup (aup (aup (aup (aup (dV 53 10 36) 1 (.ref 54)) 2 (.ref 55)) 3 (.ref 56)) 4 (.ref 57)) 5 (.ref 58)) 14 (.int (-1))) 17 (.ref 59)) 18 (.ref 60)) 19 (.ref 61)) 20 (.ref 62)) 21 (.ref 63)) 22 (.ref 64)) 23 (.ref 65)) 24 (.ref 66)) 25 (.ref 67)) 26 (.ref 68)) 27 (.ref 69)) 28 (.ref 70)) 29 (.ref 71)) 30 (.ref 72)) 33 (.ref 73)) 34 (.ref 74)) 35 (.ref 75)) = fv s0 53 10 := by
  funext k
  exact match k with | 0 => rfl | 1 => rfl | 2 => rfl | 3 => rfl | 4 => rfl | 5 => rfl | 6 => rfl | 7 => rfl | 8 => rfl | 9 => rfl | 10 => rfl | 11 => rfl | 12 => rfl | 13 => rfl | 14 => rfl | 15 => rfl | 16 => rfl | 17 => rfl | 18 => rfl | 19 => rfl | 20 => rfl | 21 => rfl | 22 => rfl | 23 => rfl | 24 => rfl | 25 => rfl | 26 => rfl | 27 => rfl | 28 => rfl | 29 => rfl | 30 => rfl | 31 => rfl | 32 => rfl | 33 => rfl | 34 => rfl | 35 => rfl | q + 36 => rfl
theorem n_X10_53 {sc : SC} {σ2 : SS} (h1 : ∀ i, 53 ≤ i → i < 76 → σ2.1 i = s0.1 i ∧ σ2.2 i = s0.2 i) : Cal sc mX10_init 22 2592 [.ref 53] (aup (mkG (true, true) σ2) 53 (.inr (.inr (10, dV 53 10 36))), 54, true) (fun r S' => r = .inl none ∧ ∃ σ', S' = (mkG (true, false) σ', 76, true) ∧ FrC σ2 σ' ∧ MI9 σ' a0) := by
  obtain ⟨B, hBe⟩ : ∃ B, B = mkG (true, true) σ2 := ⟨_, rfl⟩
  rw [← hBe]
  have hB : ∀ i, 53 ≤ i → i < 76 → B i = TB i := fun i h2 h3 => by rw [hBe]; exact mkG_n (h1 i h2 h3).1 (h1 i h2 h3).2
  refine Cal.of gmX10_init (Nat.le_of_ble_eq_true rfl) ?_
  show Wp sc mX10_init 22 2592 0 0 0 [(0, .ref 53)] [] (aup B 53 (.inr (.inr (10, dV 53 10 36))), 54, true) _
  refine r_aload_n rfl rfl ?_
  refine r_obj rfl obX10_1 obI obC rfl rfl ?_
  refine r_aload_n rfl rfl ?_
  refine n_bipush 122 rfl (by decide) ?_
  refine q_newa0 rfl (by decide) ((aup_n _ _ (by decide)).trans ((hB 54 (by decide) (by decide)).trans rfl)) (by decide) (by decide) ?_
  refine q_putF rfl flX10_7 (fun r hr => by cases hr; rfl) rfl (okv_a _ _) (by decide) ?_
  refine r_aload_n rfl rfl ?_
  refine n_bipush 122 rfl (by decide) ?_
  refine q_newa0 rfl (by decide) ((aup_n _ _ (by decide)).trans ((hB 55 (by decide) (by decide)).trans rfl)) (by decide) (by decide) ?_
  refine q_putF rfl flX10_13 (fun r hr => by cases hr; rfl) rfl (okv_a _ _) (by decide) ?_
  refine r_aload_n rfl rfl ?_
  refine n_bipush 12 rfl (by decide) ?_
  refine q_newa3 rfl (by decide) ((aup_n _ _ (by decide)).trans ((hB 56 (by decide) (by decide)).trans rfl)) (by decide) (by decide) ?_
  refine q_putF rfl flX10_16 (fun r hr => by cases hr; rfl) rfl (okv_a _ _) (by decide) ?_
  refine r_aload_n rfl rfl ?_
  refine n_bipush 12 rfl (by decide) ?_
  refine q_newa3 rfl (by decide) ((aup_n _ _ (by decide)).trans ((hB 57 (by decide) (by decide)).trans rfl)) (by decide) (by decide) ?_
  refine q_putF rfl flX10_20 (fun r hr => by cases hr; rfl) rfl (okv_a _ _) (by decide) ?_
  refine r_aload_n rfl rfl ?_
  refine n_sipush 700 rfl (by decide) ?_
  refine q_newa1 rfl (by decide) ((aup_n _ _ (by decide)).trans ((hB 58 (by decide) (by decide)).trans rfl)) (by decide) (by decide) ?_
  refine q_putF rfl flX10_23 (fun r hr => by cases hr; rfl) rfl (okv_a _ _) (by decide) ?_
  refine r_aload_n rfl rfl ?_
  refine r_iconst (v := -1) rfl rfl ?_
  refine q_putf rfl flX10_27 (okv_i _) (by decide) ?_
  refine r_aload_n rfl rfl ?_
  refine n_bipush 12 rfl (by decide) ?_
  refine q_newa3 rfl (by decide) ((aup_n _ _ (by decide)).trans ((hB 59 (by decide) (by decide)).trans rfl)) (by decide) (by decide) ?_
  refine q_putF rfl flX10_31 (fun r hr => by cases hr; rfl) rfl (okv_a _ _) (by decide) ?_
  refine r_aload_n rfl rfl ?_
  refine n_bipush 12 rfl (by decide) ?_
  refine q_newa0 rfl (by decide) ((aup_n _ _ (by decide)).trans ((hB 60 (by decide) (by decide)).trans rfl)) (by decide) (by decide) ?_
  refine q_putF rfl flX10_34 (fun r hr => by cases hr; rfl) rfl (okv_a _ _) (by decide) ?_
  refine r_aload_n rfl rfl ?_
  refine n_bipush 12 rfl (by decide) ?_
  refine q_newa2 rfl (by decide) ((aup_n _ _ (by decide)).trans ((hB 61 (by decide) (by decide)).trans rfl)) (by decide) (by decide) ?_
  refine q_putF rfl flX10_37 (fun r hr => by cases hr; rfl) rfl (okv_a _ _) (by decide) ?_
  refine r_aload_n rfl rfl ?_
  refine n_bipush 8 rfl (by decide) ?_
  refine q_newa0 rfl (by decide) ((aup_n _ _ (by decide)).trans ((hB 62 (by decide) (by decide)).trans rfl)) (by decide) (by decide) ?_
  refine q_putF rfl flX10_41 (fun r hr => by cases hr; rfl) rfl (okv_a _ _) (by decide) ?_
  refine r_aload_n rfl rfl ?_
  refine n_bipush 8 rfl (by decide) ?_
  refine q_newa0 rfl (by decide) ((aup_n _ _ (by decide)).trans ((hB 63 (by decide) (by decide)).trans rfl)) (by decide) (by decide) ?_
  refine q_putF rfl flX10_44 (fun r hr => by cases hr; rfl) rfl (okv_a _ _) (by decide) ?_
  refine r_aload_n rfl rfl ?_
  refine n_bipush 10 rfl (by decide) ?_
  refine q_newa0 rfl (by decide) ((aup_n _ _ (by decide)).trans ((hB 64 (by decide) (by decide)).trans rfl)) (by decide) (by decide) ?_
  refine q_putF rfl flX10_47 (fun r hr => by cases hr; rfl) rfl (okv_a _ _) (by decide) ?_
  refine r_aload_n rfl rfl ?_
  refine n_bipush 12 rfl (by decide) ?_
  refine q_newa2 rfl (by decide) ((aup_n _ _ (by decide)).trans ((hB 65 (by decide) (by decide)).trans rfl)) (by decide) (by decide) ?_
  refine q_putF rfl flX10_50 (fun r hr => by cases hr; rfl) rfl (okv_a _ _) (by decide) ?_
  refine r_aload_n rfl rfl ?_
  refine n_bipush 12 rfl (by decide) ?_
  refine q_newa2 rfl (by decide) ((aup_n _ _ (by decide)).trans ((hB 66 (by decide) (by decide)).trans rfl)) (by decide) (by decide) ?_
  refine q_putF rfl flX10_53 (fun r hr => by cases hr; rfl) rfl (okv_a _ _) (by decide) ?_
  refine r_aload_n rfl rfl ?_
  refine n_bipush 12 rfl (by decide) ?_
  refine q_newa2 rfl (by decide) ((aup_n _ _ (by decide)).trans ((hB 67 (by decide) (by decide)).trans rfl)) (by decide) (by decide) ?_
  refine q_putF rfl flX10_56 (fun r hr => by cases hr; rfl) rfl (okv_a _ _) (by decide) ?_
  refine r_aload_n rfl rfl ?_
  refine n_bipush 12 rfl (by decide) ?_
  refine q_newa0 rfl (by decide) ((aup_n _ _ (by decide)).trans ((hB 68 (by decide) (by decide)).trans rfl)) (by decide) (by decide) ?_
  refine q_putF rfl flX10_59 (fun r hr => by cases hr; rfl) rfl (okv_a _ _) (by decide) ?_
  refine r_aload_n rfl rfl ?_
  refine n_bipush 12 rfl (by decide) ?_
  refine q_newa3 rfl (by decide) ((aup_n _ _ (by decide)).trans ((hB 69 (by decide) (by decide)).trans rfl)) (by decide) (by decide) ?_
  refine q_putF rfl flX10_62 (fun r hr => by cases hr; rfl) rfl (okv_a _ _) (by decide) ?_
  refine r_aload_n rfl rfl ?_
  refine n_bipush 12 rfl (by decide) ?_
  refine q_newa0 rfl (by decide) ((aup_n _ _ (by decide)).trans ((hB 70 (by decide) (by decide)).trans rfl)) (by decide) (by decide) ?_
  refine q_putF rfl flX10_65 (fun r hr => by cases hr; rfl) rfl (okv_a _ _) (by decide) ?_
  refine r_aload_n rfl rfl ?_
  refine n_bipush 12 rfl (by decide) ?_
  refine q_newa0 rfl (by decide) ((aup_n _ _ (by decide)).trans ((hB 71 (by decide) (by decide)).trans rfl)) (by decide) (by decide) ?_
  refine q_putF rfl flX10_68 (fun r hr => by cases hr; rfl) rfl (okv_a _ _) (by decide) ?_
  refine r_aload_n rfl rfl ?_
  refine n_bipush 12 rfl (by decide) ?_
  refine q_newa2 rfl (by decide) ((aup_n _ _ (by decide)).trans ((hB 72 (by decide) (by decide)).trans rfl)) (by decide) (by decide) ?_
  refine q_putF rfl flX10_71 (fun r hr => by cases hr; rfl) rfl (okv_a _ _) (by decide) ?_
  refine r_aload_n rfl rfl ?_
  refine n_sipush 1220 rfl (by decide) ?_
  refine q_newa0 rfl (by decide) ((aup_n _ _ (by decide)).trans ((hB 73 (by decide) (by decide)).trans rfl)) (by decide) (by decide) ?_
  refine q_putF rfl flX10_74 (fun r hr => by cases hr; rfl) rfl (okv_a _ _) (by decide) ?_
  refine r_aload_n rfl rfl ?_
  refine n_sipush 244 rfl (by decide) ?_
  refine q_newa0 rfl (by decide) ((aup_n _ _ (by decide)).trans ((hB 74 (by decide) (by decide)).trans rfl)) (by decide) (by decide) ?_
  refine q_putF rfl flX10_77 (fun r hr => by cases hr; rfl) rfl (okv_a _ _) (by decide) ?_
  refine r_aload_n rfl rfl ?_
  refine n_iconst 2 rfl ?_
  refine q_newa2 rfl (by decide) ((aup_n _ _ (by decide)).trans ((hB 75 (by decide) (by decide)).trans rfl)) (by decide) (by decide) ?_
  refine q_putF rfl flX10_80 (fun r hr => by cases hr; rfl) rfl (okv_a _ _) (by decide) ?_
  refine Wp.congr (S' := (mkG (true, false) σ2, 76, true)) rfl (fun i hi => ?_) ?_
  · show mkG (true, false) σ2 i = aup B 53 _ i
    by_cases e : i = 53
    · rw [e, aup_s]; exact (mkG_n (z := (true, false)) (h1 53 (by decide) (by decide)).1 (h1 53 (by decide) (by decide)).2).trans (congrArg (fun V => (.inr (.inr (10, V)) : AE)) v_X10_53.symm)
    · rw [aup_n _ _ e, hBe]; exact mk_76 hi
  · refine r_aload_n rfl rfl ?_
    refine r_vir (V := fv σ2 53 10) [] [] rfl lkX10_83 (show 53 < 76 by decide) rfl rfl rfl (Cs.exact (z := (true, false)) (k_clears (σ := σ2))) rfl rfl (by decide) (by decide) rfl (fun ec S' q => nomatch q.1) ?_
    rintro r S' ⟨hr, σ3, rfl, f, rfl, hM⟩
    cases hr
    refine r_aload_n rfl rfl ?_
    refine r_vir (V := fv (mz σ2 [(55, f)] []) 53 10) [] [] rfl lkX10_86 (show 53 < 76 by decide) rfl rfl rfl (Cs.exact (z := (true, false)) (k_takesD (σ := mz σ2 [(55, f)] []) (d := dE) hM)) rfl rfl (by decide) (by decide) rfl (fun ec S' q => nomatch q.1) ?_
    rintro r S' ⟨hr, σ4, rfl, f54, g56, f53, f75, rfl, b1, b2, b3, b4⟩
    cases hr
    have e53 : (mz σ2 [(55, f)] []).1 53 = s0.1 53 := (h1 53 (by decide) (by decide)).1
    exact r_vret rfl rfl (by decide) (by decide) ⟨rfl, _, rfl, FrC.tr (FrC_mz (L := [(55, f)]) (M := []) rfl rfl) (FrC_mz rfl rfl), b1, ⟨b3.1, (b3.2 6 (by decide)).trans (by rw [e53]; rfl), (b3.2 14 (by decide)).trans (by rw [e53]; exact oI_0.symm)⟩, fun i hi => absurd hi (Nat.not_lt_zero _), fun i hi => b4 i hi, fun i _ hb => absurd (show false = true from hb) Bool.false_ne_true, fun k hk => absurd hk (Nat.not_lt_zero _), fun p hp => absurd hp (Nat.not_lt_zero _)⟩
