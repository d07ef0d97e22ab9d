/-- a run's beginning -/
def a0 : AB := (dE, (0, fun _ => dE), ((fun _ => false), fun _ => dE), (0, fun _ => 0), 0, fun _ => [])
theorem a0_ok : AV a0 := ⟨VdE, Nat.zero_le _, fun i hi => absurd hi (Nat.not_lt_zero _), fun i _ hb => absurd (show false = true from hb) Bool.false_ne_true, ⟨Nat.zero_le _, fun _ => Nat.zero_lt_succ _, Nat.zero_le _⟩, fun p hp => absurd hp (Nat.not_lt_zero _)⟩
theorem s0_SR : SR (s0.1 19) dE := by
  unfold SR
  decide +kernel
theorem s0_EE : EE s0 dE := ⟨⟨rfl, oI_0.symm, rfl, rfl, rfl, rfl, rfl⟩, fun p hp => absurd hp (Nat.not_lt_zero _), fun p hp => absurd hp (Nat.not_lt_zero _), fun p hp => absurd hp (Nat.not_lt_zero _), fun p hp => absurd hp (Nat.not_lt_zero _)⟩
theorem v_X9_0 : (aup (aup (aup (aup (aup (aup (aup (aup (dV 0 9 8) 0 (.ref 1)) 1 (.ref 12)) 2 (.ref 18)) 3 (.ref 20)) 4 (.ref 34)) 5 (.ref 36)) 6 (.ref 50)) 7 (.int (-1))) = fv s0 0 9 := by
  funext k
  exact match k with | 0 => rfl | 1 => rfl | 2 => rfl | 3 => rfl | 4 => rfl | 5 => rfl | 6 => rfl | 7 => rfl | q + 8 => rfl
theorem n_X9_0 {sc : SC} {B : Nat → AE} (hB : ∀ i, 0 ≤ i → i < 53 → B i = TB i) : Cal sc mX9_init 52 2294 [.ref 0] (aup B 0 (.inr (.inr (9, dV 0 9 8))), 1, true) (fun r S' => r = .inl none ∧ ∃ σ1, S' = (mkG (false, false) σ1, 53, true) ∧ CI9 σ1 a0) := by
  refine Cal.of gmX9_init (Nat.le_of_ble_eq_true rfl) ?_
  show Wp sc mX9_init 52 2294 0 0 0 [(0, .ref 0)] [] (aup B 0 (.inr (.inr (9, dV 0 9 8))), 1, true) _
  refine r_aload_n rfl rfl ?_
  refine r_obj rfl obX9_1 obI obC rfl rfl ?_
  refine r_aload_n rfl rfl ?_
  refine r_new (V := dV 1 5 10) rfl ciX5 nwX9_7.1 nwX9_7.2.1 nwX9_7.2.2 (dV_cv 1 5 10) rfl (by decide) (by decide) ?_
  show Wp sc mX9_init _ _ _ _ _ [(0, .ref 0)] _ (aup (aup B 0 (.inr (.inr (9, (dV 0 9 8))))) 1 (.inr (.inr (5, dV 1 5 10))), 2, true) _
  refine r_dup rfl rfl ?_
  refine q_iniN (B := aup B 0 (.inr (.inr (9, (dV 0 9 8))))) rfl lkX9_9 (n_X5_1 (fun i h1 h2 => (aup_n _ _ (by omega)).trans (hB i (by omega) (by omega)))) rfl (by decide) (by decide) ?_
  refine q_putF rfl flX9_10 (fun r hr => by cases hr; rfl) rfl (okv_o _ _) (by decide) ?_
  refine r_aload_n rfl rfl ?_
  refine r_new (V := dV 12 0 12) rfl ciX0 nwX9_16.1 nwX9_16.2.1 nwX9_16.2.2 (dV_cv 12 0 12) rfl (by decide) (by decide) ?_
  show Wp sc mX9_init _ _ _ _ _ [(0, .ref 0)] _ (aup (aup B 0 (.inr (.inr (9, (aup (dV 0 9 8) 0 (.ref 1)))))) 12 (.inr (.inr (0, dV 12 0 12))), 13, true) _
  refine r_dup rfl rfl ?_
  refine q_iniN (B := aup B 0 (.inr (.inr (9, (aup (dV 0 9 8) 0 (.ref 1)))))) rfl lkX9_18 (n_X0_12 (fun i h1 h2 => (aup_n _ _ (by omega)).trans (hB i (by omega) (by omega)))) rfl (by decide) (by decide) ?_
  refine q_putF rfl flX9_19 (fun r hr => by cases hr; rfl) rfl (okv_o _ _) (by decide) ?_
  refine r_aload_n rfl rfl ?_
  refine r_new (V := dV 18 8 1) rfl ciX8 nwX9_23.1 nwX9_23.2.1 nwX9_23.2.2 (dV_cv 18 8 1) rfl (by decide) (by decide) ?_
  show Wp sc mX9_init _ _ _ _ _ [(0, .ref 0)] _ (aup (aup B 0 (.inr (.inr (9, (aup (aup (dV 0 9 8) 0 (.ref 1)) 1 (.ref 12)))))) 18 (.inr (.inr (8, dV 18 8 1))), 19, true) _
  refine r_dup rfl rfl ?_
  refine q_ini (B := aup B 0 (.inr (.inr (9, (aup (aup (dV 0 9 8) 0 (.ref 1)) 1 (.ref 12)))))) rfl lkX9_25 (n_X8_18 (fun i h1 h2 => (aup_n _ _ (by omega)).trans (hB i (by omega) (by omega)))) rfl (by decide) (by decide) ?_
  refine q_putF rfl flX9_26 (fun r hr => by cases hr; rfl) rfl (okv_o _ _) (by decide) ?_
  refine r_aload_n rfl rfl ?_
  refine r_new (V := dV 20 7 8) rfl ciX7 nwX9_30.1 nwX9_30.2.1 nwX9_30.2.2 (dV_cv 20 7 8) rfl (by decide) (by decide) ?_
  show Wp sc mX9_init _ _ _ _ _ [(0, .ref 0)] _ (aup (aup B 0 (.inr (.inr (9, (aup (aup (aup (dV 0 9 8) 0 (.ref 1)) 1 (.ref 12)) 2 (.ref 18)))))) 20 (.inr (.inr (7, dV 20 7 8))), 21, true) _
  refine r_dup rfl rfl ?_
  refine q_iniN (B := aup B 0 (.inr (.inr (9, (aup (aup (aup (dV 0 9 8) 0 (.ref 1)) 1 (.ref 12)) 2 (.ref 18)))))) rfl lkX9_32 (n_X7_20 (fun i h1 h2 => (aup_n _ _ (by omega)).trans (hB i (by omega) (by omega)))) rfl (by decide) (by decide) ?_
  refine q_putF rfl flX9_33 (fun r hr => by cases hr; rfl) rfl (okv_o _ _) (by decide) ?_
  refine r_aload_n rfl rfl ?_
  refine r_new (V := dV 34 8 1) rfl ciX8 nwX9_23.1 nwX9_23.2.1 nwX9_23.2.2 (dV_cv 34 8 1) rfl (by decide) (by decide) ?_
  show Wp sc mX9_init _ _ _ _ _ [(0, .ref 0)] _ (aup (aup B 0 (.inr (.inr (9, (aup (aup (aup (aup (dV 0 9 8) 0 (.ref 1)) 1 (.ref 12)) 2 (.ref 18)) 3 (.ref 20)))))) 34 (.inr (.inr (8, dV 34 8 1))), 35, true) _
  refine r_dup rfl rfl ?_
  refine q_ini (B := aup B 0 (.inr (.inr (9, (aup (aup (aup (aup (dV 0 9 8) 0 (.ref 1)) 1 (.ref 12)) 2 (.ref 18)) 3 (.ref 20)))))) rfl lkX9_25 (n_X8_34 (fun i h1 h2 => (aup_n _ _ (by omega)).trans (hB i (by omega) (by omega)))) rfl (by decide) (by decide) ?_
  refine q_putF rfl flX9_37 (fun r hr => by cases hr; rfl) rfl (okv_o _ _) (by decide) ?_
  refine r_aload_n rfl rfl ?_
  refine r_new (V := dV 36 7 8) rfl ciX7 nwX9_30.1 nwX9_30.2.1 nwX9_30.2.2 (dV_cv 36 7 8) rfl (by decide) (by decide) ?_
  show Wp sc mX9_init _ _ _ _ _ [(0, .ref 0)] _ (aup (aup B 0 (.inr (.inr (9, (aup (aup (aup (aup (aup (dV 0 9 8) 0 (.ref 1)) 1 (.ref 12)) 2 (.ref 18)) 3 (.ref 20)) 4 (.ref 34)))))) 36 (.inr (.inr (7, dV 36 7 8))), 37, true) _
  refine r_dup rfl rfl ?_
  refine q_iniN (B := aup B 0 (.inr (.inr (9, (aup (aup (aup (aup (aup (dV 0 9 8) 0 (.ref 1)) 1 (.ref 12)) 2 (.ref 18)) 3 (.ref 20)) 4 (.ref 34)))))) rfl lkX9_32 (n_X7_36 (fun i h1 h2 => (aup_n _ _ (by omega)).trans (hB i (by omega) (by omega)))) rfl (by decide) (by decide) ?_
  refine q_putF rfl flX9_40 (fun r hr => by cases hr; rfl) rfl (okv_o _ _) (by decide) ?_
  refine r_aload_n rfl rfl ?_
  refine r_new (V := dV 50 4 4) rfl ciX4 nwX9_43.1 nwX9_43.2.1 nwX9_43.2.2 (dV_cv 50 4 4) rfl (by decide) (by decide) ?_
  show Wp sc mX9_init _ _ _ _ _ [(0, .ref 0)] _ (aup (aup B 0 (.inr (.inr (9, (aup (aup (aup (aup (aup (aup (dV 0 9 8) 0 (.ref 1)) 1 (.ref 12)) 2 (.ref 18)) 3 (.ref 20)) 4 (.ref 34)) 5 (.ref 36)))))) 50 (.inr (.inr (4, dV 50 4 4))), 51, true) _
  refine r_dup rfl rfl ?_
  refine q_iniN (B := aup B 0 (.inr (.inr (9, (aup (aup (aup (aup (aup (aup (dV 0 9 8) 0 (.ref 1)) 1 (.ref 12)) 2 (.ref 18)) 3 (.ref 20)) 4 (.ref 34)) 5 (.ref 36)))))) rfl lkX9_45 (n_X4_50 (fun i h1 h2 => (aup_n _ _ (by omega)).trans (hB i (by omega) (by omega)))) rfl (by decide) (by decide) ?_
  refine q_putF rfl flX9_46 (fun r hr => by cases hr; rfl) rfl (okv_o _ _) (by decide) ?_
  refine r_aload_n rfl rfl ?_
  refine r_iconst (v := -1) rfl rfl ?_
  refine q_putf rfl flX9_50 (okv_i _) (by decide) ?_
  refine Wp.congr (S' := (mkG (false, false) s0, 53, true)) rfl (fun i hi => ?_) ?_
  · show mkG (false, false) s0 i = aup B 0 _ i
    by_cases e : i = 0
    · rw [e, aup_s]; exact congrArg (fun V => (.inr (.inr (9, V)) : AE)) v_X9_0.symm
    · rw [aup_n _ _ e, hB i (Nat.zero_le _) hi]; exact mk_zz hi
  · refine r_aload_n rfl rfl ?_
    refine r_getf (V := fv s0 0 9) (v := .ref 20) rfl flX9_33 (show 0 < 53 by decide) rfl rfl ?_
    refine r_aload_n rfl rfl ?_
    refine r_getf (V := fv s0 0 9) (v := .ref 12) rfl flX9_19 (show 0 < 53 by decide) rfl rfl ?_
    refine r_aload_n rfl rfl ?_
    refine r_getf (V := fv s0 0 9) (v := .ref 18) rfl flX9_26 (show 0 < 53 by decide) rfl rfl ?_
    refine r_vir (V := fv s0 20 7) [.ref 12, .ref 18] [] rfl lkX9_54 (show 20 < 53 by decide) rfl rfl rfl (Cs.exact (z := (false, false)) (c_settle_A (σ := s0) (d := dE) s0_SR s0_EE VdE)) rfl rfl (by decide) (by decide) rfl (fun ec S' q => nomatch q.1) ?_
    rintro r S' ⟨hr, σ1, rfl, g0, g1, g2, g3, g4, g5, g6, g7, g8, g9, g10, g11, g12, g13, rfl, hSE⟩
    cases hr
    exact r_vret rfl rfl (by decide) (by decide) ⟨rfl, _, rfl, ⟨⟨s0_SR, s0_EE⟩, ⟨rfl, mk_f2⟩, fun i hi => absurd hi (Nat.not_lt_zero _), fun i _ hb => absurd (show false = true from hb) Bool.false_ne_true, ⟨rfl, fun k hk => absurd hk (Nat.not_lt_zero _)⟩, oI_0.symm, fun p hp => absurd hp (Nat.not_lt_zero _)⟩, hSE⟩
