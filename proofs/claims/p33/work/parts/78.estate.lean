set_option maxRecDepth 100000 in
theorem l_estate {sc : SC} {S : AS} {t g : Nat} {fg : Nat → Int32} (hx : S.2.2 = true) (hB : SLK (fun i => i < t) S t []) (hg : 53 ≤ g ∧ g < t) (hG : S.1 g = oI0 0 1 fg) : Cal sc mL_estate 300 320000 [.ref t, .ref g] S (AR fun v S' => v = .ref S.2.1 ∧ ∃ (d : D) (u : Nat → List Nat) (o : Nat → Bool) (l : List Nat) (K : Nat → Prop), EG K S S' t g S.2.1 l d ∧ PT l d u o ∧ l.length ≤ 698) := by
  refine Cal.of gmL_estate (Nat.le_of_ble_eq_true rfl) ?_
  obtain ⟨Vt, hVt, -, htl⟩ := hB.o
  obtain ⟨hg1, hg2⟩ := hg
  show Wp sc mL_estate 300 320000 0 0 0 [(0, .ref t), (1, .ref g)] [] S (AR fun v S' => v = .ref S.2.1 ∧ ∃ (d : D) (u : Nat → List Nat) (o : Nat → Bool) (l : List Nat) (K : Nat → Prop), EG K S S' t g S.2.1 l d ∧ PT l d u o ∧ l.length ≤ 698)
  refine t_new (V := dW tyX10) rfl ciX10 nwL_49 (fun κ j hj => dW_cv κ tyX10 j) hx (by omega) (by omega) ?_
  intro S1 w2
  have z3 := w2.1
  refine r_dup rfl rfl ?_
  refine c_iniNV [] [.ref S.2.1] rfl lkL_51 (n_X10 (S := S1) (e := S.2.1) w2.2.1 (by omega) w2.2.2.1) rfl rfl (by omega) (by omega) ?_
  rintro S4 ⟨fr5, hs1, ⟨V1, hV1, ⟨a0, a1, a2, a3, a4, a5⟩, ⟨a6, a7, a8, a9⟩⟩, ⟨b1, b2, b3, b4⟩⟩
  have z6 := fr5.1
  refine r_astore_n (lv' := [(2, .ref S.2.1), (0, .ref t), (1, .ref g)]) rfl rfl (Nat.le_of_ble_eq_true rfl) rfl ?_
  refine r_aload_n rfl rfl ?_
  refine n_iconst 1 rfl ?_
  refine r_aload_n rfl rfl ?_
  refine n_bipush 12 rfl (by decide) ?_
  have hp7 : S4.1 g = oI0 0 1 fg := ((fr5.2.2 g (by omega) (by omega)).trans ((w2.2.2.2 g (by omega)).trans hG))
  refine c_staA [.ref g, .int (nI 12)] [.int (nI 1), .ref S.2.1] rfl lkL_34 (l_draw (S := S4) (m := 12) fr5.2.1 (by omega) hp7 (by decide) (by omega)) rfl rfl (by omega) (by omega) rfl ?_
  rintro _ S8 ⟨kp, fg1, hkp, rfl, fr9, hsz1, hG1⟩
  have z10 := fr9.1
  refine n_iadd rfl ?_
  have hp11 : S8.1 S.2.1 = oO 10 V1 := ((fr9.2.2 S.2.1 (by omega) (by omega)).trans hV1)
  refine t_putfN rfl flL_52 (okv_i _) fr9.2.1 (by omega) hp11 ?_
  intro S12 w13
  have z14 := w13.1
  have J0 : ∀ (Sb : AS) (spn : Nat), (spn ≤ 1 + kp) → (EB S Sb t g S.2.1 (1 + kp) 0 [] (fun _ => 0) (fun _ => 0) (fun _ => 0)) → Wp sc mL_estate 300 320000 (0 + 1 + 8) (0 + 31 + 48) 40 [(0, .ref t), (1, .ref g), (2, .ref S.2.1)] [.int (oI spn)] Sb (AR fun v S' => v = .ref S.2.1 ∧ ∃ (d : D) (u : Nat → List Nat) (o : Nat → Bool) (l : List Nat) (K : Nat → Prop), EG K S S' t g S.2.1 l d ∧ PT l d u o ∧ l.length ≤ 698) := by
    intro Sb spn hsp hEb
    refine r_istore_n (lv' := [(3, .int (oI spn)), (0, .ref t), (1, .ref g), (2, .ref S.2.1)]) rfl rfl (Nat.le_of_ble_eq_true rfl) rfl ?_
    refine n_iconst 0 rfl ?_
    refine r_istore (lv' := [(4, .int (nI 0)), (3, .int (oI spn)), (0, .ref t), (1, .ref g), (2, .ref S.2.1)]) rfl (Nat.le_of_ble_eq_true rfl) rfl ?_
    refine r_lv (lv' := [(4, .int (nI 0)), (3, .int (oI spn)), (0, .ref t), (1, .ref g), (2, .ref S.2.1)]) [0, 1, 2, 3, 4] rfl ?_
    exact l_es_B hEb ⟨by omega, by omega⟩ hsp (by omega) (by omega)
  refine r_aload_n rfl rfl ?_
  refine n_iconst 3 rfl ?_
  have hp15 : S12.1 g = oI0 0 1 fg1 := ((w13.2.2.2 g (by omega)).trans hG1)
  refine c_staA [.ref g, .int (nI 3)] [] rfl lkL_34 (l_draw (S := S12) (m := 3) w13.2.1 (by omega) hp15 (by decide) (by omega)) rfl rfl (by omega) (by omega) rfl ?_
  rintro _ S16 ⟨kz, fg2, hkz, rfl, fr17, hsz2, hG2⟩
  have z18 := fr17.1
  refine n_if_ne (tgt := 32) rfl rfl (by omega) (fun h9 => ?_) (fun h9 => ?_)
  · refine r_aload_n rfl rfl ?_
    refine r_aload_n rfl rfl ?_
    have hp19 : S16.1 S.2.1 = oO 10 (aup V1 0 (.int (nI (1 + kp)))) := ((fr17.2.2 S.2.1 (by omega) (by omega)).trans w13.2.2.1)
    refine r_getfN (v := .int (nI (1 + kp))) rfl flL_52.f (by omega) hp19 (aup_s _ _ _) ?_
    refine c_staA [.ref g, .int (nI (1 + kp))] [] rfl lkL_34 (l_draw (S := S16) (m := 1 + kp) fr17.2.1 (by omega) hG2 (by omega) (by omega)) rfl rfl (by omega) (by omega) rfl ?_
    rintro _ S20 ⟨ks, fg3, hks, rfl, fr21, hsz3, hG3⟩
    have z22 := fr21.1
    have hp23 : S20.1 S.2.1 = oO 10 (aup V1 0 (.int (nI (1 + kp)))) := ((fr21.2.2 S.2.1 (by omega) (by omega)).trans hp19)
    have hp24 : S20.1 (S.2.1 + 1) = oI0 0 12 (fun _ => 0) := ((fr21.2.2 (S.2.1 + 1) (by omega) (by omega)).trans ((fr17.2.2 (S.2.1 + 1) (by omega) (by omega)).trans ((w13.2.2.2 (S.2.1 + 1) (by omega)).trans ((fr9.2.2 (S.2.1 + 1) (by omega) (by omega)).trans b1))))
    have hp25 : S20.1 (S.2.1 + 2) = oI0 0 12 (fun _ => 0) := ((fr21.2.2 (S.2.1 + 2) (by omega) (by omega)).trans ((fr17.2.2 (S.2.1 + 2) (by omega) (by omega)).trans ((w13.2.2.2 (S.2.1 + 2) (by omega)).trans ((fr9.2.2 (S.2.1 + 2) (by omega) (by omega)).trans b2))))
    have hp26 : S20.1 (S.2.1 + 3) = oI0 2 12 (fun _ => 0) := ((fr21.2.2 (S.2.1 + 3) (by omega) (by omega)).trans ((fr17.2.2 (S.2.1 + 3) (by omega) (by omega)).trans ((w13.2.2.2 (S.2.1 + 3) (by omega)).trans ((fr9.2.2 (S.2.1 + 3) (by omega) (by omega)).trans b3))))
    have hp27 : S20.1 (S.2.1 + 4) = oI0 2 12 (fun _ => 0) := ((fr21.2.2 (S.2.1 + 4) (by omega) (by omega)).trans ((fr17.2.2 (S.2.1 + 4) (by omega) (by omega)).trans ((w13.2.2.2 (S.2.1 + 4) (by omega)).trans ((fr9.2.2 (S.2.1 + 4) (by omega) (by omega)).trans b4))))
    have hFrhEn : Fr S S20 (fun i => i = g) := ⟨by omega, fr21.2.1, fun i hi (hn : ¬ (i = g)) => ((fr21.2.2 i (by omega) (by omega)).trans ((fr17.2.2 i (by omega) (by omega)).trans ((w13.2.2.2 i (by omega)).trans ((fr9.2.2 i (by omega) (by omega)).trans ((fr5.2.2 i (by omega) (by omega)).trans ((w2.2.2.2 i (by omega)).trans rfl))))))⟩
    have hEn : EB S S20 t g S.2.1 (1 + kp) 0 [] (fun _ => 0) (fun _ => 0) (fun _ => 0) := ⟨fr21.2.1, hFrhEn.wk (fun i z => Or.inr z), ⟨hg2, htl, hg1, by omega⟩, ⟨_, hG3⟩, hB.mv hFrhEn (fun i (z : i = g) => by rw [z]; exact hg2) (fun i z => z.elim Or.inl (fun z => Or.inr z.1)), ⟨_, hp23, ⟨(aup_s _ _ _), ((aup_n _ _ (by decide)).trans (a1.trans (congrArg Value.int oI_0.symm))), ((aup_n _ _ (by decide)).trans a2), ((aup_n _ _ (by decide)).trans a3), ((aup_n _ _ (by decide)).trans a4), ((aup_n _ _ (by decide)).trans a5)⟩, ⟨((aup_n _ _ (by decide)).trans a6), ((aup_n _ _ (by decide)).trans a7), ((aup_n _ _ (by decide)).trans a8), ((aup_n _ _ (by decide)).trans a9)⟩⟩, ⟨hp24, hp25, hp26, hp27⟩⟩
    refine r_top (y := oI ((ks + 1))) ((oI_s ks).symm) ?_
    refine r_lv (lv' := [(0, .ref t), (1, .ref g), (2, .ref S.2.1)]) [1, 2, 0] rfl ?_
    exact J0 S20 (ks + 1) (by omega) hEn
  · refine n_m1 rfl ?_
    refine r_goto (tgt := 40) rfl rfl ?_
    have hp28 : S16.1 S.2.1 = oO 10 (aup V1 0 (.int (nI (1 + kp)))) := ((fr17.2.2 S.2.1 (by omega) (by omega)).trans w13.2.2.1)
    have hp29 : S16.1 (S.2.1 + 1) = oI0 0 12 (fun _ => 0) := ((fr17.2.2 (S.2.1 + 1) (by omega) (by omega)).trans ((w13.2.2.2 (S.2.1 + 1) (by omega)).trans ((fr9.2.2 (S.2.1 + 1) (by omega) (by omega)).trans b1)))
    have hp30 : S16.1 (S.2.1 + 2) = oI0 0 12 (fun _ => 0) := ((fr17.2.2 (S.2.1 + 2) (by omega) (by omega)).trans ((w13.2.2.2 (S.2.1 + 2) (by omega)).trans ((fr9.2.2 (S.2.1 + 2) (by omega) (by omega)).trans b2)))
    have hp31 : S16.1 (S.2.1 + 3) = oI0 2 12 (fun _ => 0) := ((fr17.2.2 (S.2.1 + 3) (by omega) (by omega)).trans ((w13.2.2.2 (S.2.1 + 3) (by omega)).trans ((fr9.2.2 (S.2.1 + 3) (by omega) (by omega)).trans b3)))
    have hp32 : S16.1 (S.2.1 + 4) = oI0 2 12 (fun _ => 0) := ((fr17.2.2 (S.2.1 + 4) (by omega) (by omega)).trans ((w13.2.2.2 (S.2.1 + 4) (by omega)).trans ((fr9.2.2 (S.2.1 + 4) (by omega) (by omega)).trans b4)))
    have hFrhEn : Fr S S16 (fun i => i = g) := ⟨by omega, fr17.2.1, fun i hi (hn : ¬ (i = g)) => ((fr17.2.2 i (by omega) (by omega)).trans ((w13.2.2.2 i (by omega)).trans ((fr9.2.2 i (by omega) (by omega)).trans ((fr5.2.2 i (by omega) (by omega)).trans ((w2.2.2.2 i (by omega)).trans rfl)))))⟩
    have hEn : EB S S16 t g S.2.1 (1 + kp) 0 [] (fun _ => 0) (fun _ => 0) (fun _ => 0) := ⟨fr17.2.1, hFrhEn.wk (fun i z => Or.inr z), ⟨hg2, htl, hg1, by omega⟩, ⟨_, hG2⟩, hB.mv hFrhEn (fun i (z : i = g) => by rw [z]; exact hg2) (fun i z => z.elim Or.inl (fun z => Or.inr z.1)), ⟨_, hp28, ⟨(aup_s _ _ _), ((aup_n _ _ (by decide)).trans (a1.trans (congrArg Value.int oI_0.symm))), ((aup_n _ _ (by decide)).trans a2), ((aup_n _ _ (by decide)).trans a3), ((aup_n _ _ (by decide)).trans a4), ((aup_n _ _ (by decide)).trans a5)⟩, ⟨((aup_n _ _ (by decide)).trans a6), ((aup_n _ _ (by decide)).trans a7), ((aup_n _ _ (by decide)).trans a8), ((aup_n _ _ (by decide)).trans a9)⟩⟩, ⟨hp29, hp30, hp31, hp32⟩⟩
    refine r_top (y := oI 0) oI_0.symm ?_
    refine r_lv (lv' := [(0, .ref t), (1, .ref g), (2, .ref S.2.1)]) [1, 2, 0] rfl ?_
    exact J0 S16 0 (Nat.zero_le _) hEn

