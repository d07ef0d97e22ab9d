/-! The law's comparisons: accounts. -/
theorem r_qry {sc : SC} {μ ν : MI} {mc ms k n pc : Nat} {lv : List (Nat × Value)} {st : List Value} {S : AS} {Q : Out → AS → Prop} {σ : SS} {v : Int32} {idx : Nat} (as rest : List Value) (h : cf (mCd μ) pc = some (.invokevirtual idx, 3)) (hL : LV (mNm μ).cls idx ν as.length) (hc : RX9 = (mNm ν).cls) (hcal : Cs zf sc ν 0 0 (.ref 0 :: as) σ (PI v σ)) (hst : st = as.reverse ++ .ref 0 :: rest) (hrm : rmB μ ν rest = true) (hk : k ≤ mc) (hn : n ≤ ms) (hh : mHh μ = []) (hCL : CL S σ)
    (kk : Wp sc μ mc ms k n (pc + 3) lv (.int v :: rest) S Q) : Wp sc μ mc ms k n pc lv st S Q := by
  refine r_cls as rest h hL hc hcal hst hrm hk hn hh hCL ?_
  rintro v' σ' S' ⟨rfl, rfl⟩ h1 h2 h3
  have e : S' = S := by
    refine Prod.ext (funext fun i => ?_) h2
    by_cases q : i < 53
    · rw [h1.2 i q, hCL.2 i q]
    · exact h3 i (by omega)
  rw [e]
  exact kk
theorem l_lcmp_same {sc : SC} {μ : MI} {mc ms k n pc : Nat} {lv : List (Nat × Value)} {st : List Value} {S : AS} {Q : Out → AS → Prop} {x : Int64} {off : Int} {tgt : Nat} (h : cf (mCd μ) pc = some (.lcmp, 1)) (h2 : cf (mCd μ) (pc + 1) = some (.ifCond .eq off, 3)) (ht : (pc : Int) + 1 + off = (tgt : Int)) (kt : Wp sc μ mc ms k n tgt lv st S Q) : Wp sc μ mc ms k n pc lv (.long x :: .long x :: st) S Q := by
  refine r_lcmp h (r_if_eq h2 (by rw [← ht]; rfl) (fun _ => kt) (fun q => absurd ?_ q))
  unfold lg_cmp
  rw [if_neg Int64.lt_irrefl, if_pos rfl]
set_option maxRecDepth 100000 in
theorem l_accounts {sc : SC} {S : AS} {X : Nat → Prop} {e : Nat} {d : D} {a : AB} {σ : SS} (hd : Vd d) (hA : AV a) (hI : CI9 σ a) (hda : aD a = d) (hCL : CL S σ) (hx : S.2.2 = true) (hE : ES X S e d (gf d)) (hR0 : eOld X S e d) (hR1 : eNew X S e d (gf d)) : Cal sc mL_accounts 1 10 [.ref 0, .ref e] S (AR fun v S' => v = .int (nI 1) ∧ Fr S S' Xno ∧ S'.2.1 = S.2.1 + 1) := by
  refine Cal.of gmL_accounts (Nat.le_of_ble_eq_true rfl) ?_
  have hE9 := hE
  obtain ⟨V, qa, qd, qg, ql, hi, ⟨hV, ⟨v0, v1, v2, v3, v4, v5⟩, ⟨v6, v7, v8, v9⟩, ⟨v10, v11, v12, v13⟩⟩, ⟨f1, f2, f3, f4, ⟨hf1, k1⟩, ⟨hf2, k2⟩, ⟨hf3, k3⟩, ⟨hf4, k4⟩⟩, ⟨b1, b2, -, -⟩, b3, hEA, hED, hEG, hEL⟩ := hE9
  have hVA := vA hd
  have hVC := vC hd
  obtain ⟨q14, q15, q16, ⟨u14, u15, u16⟩, ⟨u22, u23, u24⟩, ⟨g14, r14, ⟨p14, l14, x14⟩, t14⟩, ⟨g15, r15, ⟨p15, l15, x15⟩, t15⟩, ⟨g16, r16, ⟨p16, l16, x16⟩, t16⟩⟩ := hR0 V hV
  obtain ⟨q17, q18, q19, q20, q21, ⟨u17, u18, u19, u20, u21⟩, ⟨u25, u26, u27, u28, u29, u30⟩, ⟨g17, r17, ⟨p17, l17, x17⟩, t17⟩, ⟨g18, r18, ⟨p18, l18, x18⟩, t18⟩, ⟨g19, r19, ⟨p19, l19, x19⟩, t19⟩, ⟨g20, r20, ⟨p20, l20, x20⟩, t20⟩, ⟨g21, r21, ⟨p21, l21, x21⟩, t21⟩⟩ := hR1 V hV
  obtain ⟨W2, pl2, hW2, ⟨ca2, cb2, -⟩, hrow2⟩ := hED
  obtain ⟨W4, pl4, hW4, ⟨ca4, cb4, -⟩, hrow4⟩ := hEL
  have h54 := hCL.1
  have hps := pd_sum hd
  have hls := lp_sum hd
  have hnt := nts_le hd (j := d 0 1) (by omega)
  have hnts : nts d ≤ 79999992 := hnt
  have hlf := lf_le d 5
  have hlu : lu9 d ≤ lf d 5 := Nat.min_le_left _ _
  have hpb : ∀ i, i < d 0 2 → pd d i ≤ 79999992 := fun i hi => by have := sm_pos (f := pd d) hi; omega
  have hlb : ∀ i, i < d 0 4 → lp d i ≤ 79999992 := fun i hi => by have := sm_pos (f := lp d) hi; omega
  have hdu := du_un d 5
  have hdl := du_le hd (Nat.le_refl 5)
  have how := ow_du hd
  have ha5 := a5_le hd
  have ha6 := a6_le hd
  have ha7 := a7_le hd
  have ha8 := a8_le hd
  have hrs := rs_le hd
  have ha9 : a9 d ≤ rs d := by unfold a9; split <;> omega
  show Wp sc mL_accounts 1 10 0 0 0 [(0, .ref 0), (1, .ref e)] [] S (AR fun v S' => v = .int (nI 1) ∧ Fr S S' Xno ∧ S'.2.1 = S.2.1 + 1)
  refine n_lconst0 rfl ?_
  refine r_lstore_n (lv' := [(2, .long (lN 0)), (0, .ref 0), (1, .ref e)]) rfl rfl (Nat.le_of_ble_eq_true rfl) rfl ?_
  refine n_lconst0 rfl ?_
  refine r_lstore (lv' := [(4, .long (lN 0)), (2, .long (lN 0)), (0, .ref 0), (1, .ref e)]) rfl (Nat.le_of_ble_eq_true rfl) rfl ?_
  refine n_iconst 0 rfl ?_
  refine r_istore (lv' := [(6, .int (nI 0)), (4, .long (lN 0)), (2, .long (lN 0)), (0, .ref 0), (1, .ref e)]) rfl (Nat.le_of_ble_eq_true rfl) rfl ?_
  refine r_lv (lv' := [(6, .int (nI 0)), (2, .long (lN 0)), (4, .long (lN 0)), (0, .ref 0), (1, .ref e)]) [0, 2, 1, 3, 4] rfl ?_
  have loopD : ∀ (m9 : Nat) (i : Nat) (c : Nat), d 0 2 - i < m9 → (i ≤ d 0 2) → (c = sm (pd d) i) → Wp sc mL_accounts 1 10 0 0 8 [(6, .int (nI i)), (2, .long (lN c)), (4, .long (lN 0)), (0, .ref 0), (1, .ref e)] [] S (AR fun v S' => v = .int (nI 1) ∧ Fr S S' Xno ∧ S'.2.1 = S.2.1 + 1) := by
    intro m9
    induction m9 with
    | zero => intro i c hme; exact absurd hme (Nat.not_lt_zero _)
    | succ m9 ih =>
      intro i c hme hi hcs
      refine r_iload rfl rfl ?_
      refine r_aload_n rfl rfl ?_
      refine r_getfN (v := .ref qd) rfl flL_93.f (by omega) hV v11 ?_
      refine r_alenQ rfl (by omega) hW2 ?_
      refine n_icmp_ge (tgt := 92) rfl rfl (by omega) (by omega) (fun h9 => ?_) (fun h9 => ?_)
      · have e9 : i = d 0 2 := by omega
        rw [e9, hps] at hcs
        refine n_iconst 0 rfl ?_
        refine r_istore (lv' := [(6, .int (nI 0)), (2, .long (lN c)), (4, .long (lN 0)), (0, .ref 0), (1, .ref e)]) rfl (Nat.le_of_ble_eq_true rfl) rfl ?_
        refine r_lv (lv' := [(6, .int (nI 0)), (4, .long (lN 0)), (2, .long (lN c)), (0, .ref 0), (1, .ref e)]) [0, 2, 1, 3, 4] rfl ?_
        have loopL : ∀ (m9_2 : Nat) (j : Nat) (c4 : Nat), d 0 4 - j < m9_2 → (j ≤ d 0 4) → (c4 = sm (lp d) j) → Wp sc mL_accounts 1 10 0 0 95 [(6, .int (nI j)), (4, .long (lN c4)), (2, .long (lN c)), (0, .ref 0), (1, .ref e)] [] S (AR fun v S' => v = .int (nI 1) ∧ Fr S S' Xno ∧ S'.2.1 = S.2.1 + 1) := by
          intro m9_2
          induction m9_2 with
          | zero => intro j c4 hme; exact absurd hme (Nat.not_lt_zero _)
          | succ m9_2 ih2 =>
            intro j c4 hme hj hc4
            refine r_iload rfl rfl ?_
            refine r_aload_n rfl rfl ?_
            refine r_getfN (v := .ref ql) rfl flL_103.f (by omega) hV v13 ?_
            refine r_alenQ rfl (by omega) hW4 ?_
            refine n_icmp_ge (tgt := 193) rfl rfl (by omega) (by omega) (fun h8 => ?_) (fun h8 => ?_)
            · have e8 : j = d 0 4 := by omega
              rw [e8, hls] at hc4
              have hco : c ≤ ow d := by omega
              refine n_bipush 10 rfl (by decide) ?_
              refine t_newa3 rfl hx (by decide) (by omega) (by omega) ?_
              intro S1 w2
              have z3 := w2.1
              refine r_dup rfl rfl ?_
              refine n_iconst 0 rfl ?_
              refine r_aload_n rfl rfl ?_
              have hp4 : S1.1 e = oO 10 V := ((w2.2.2.2 e (by omega)).trans hV)
              refine r_getfN (v := .long (lN (nts d))) rfl flL_178.f (by omega) hp4 u22 ?_
              refine t_last rfl w2.2.1 (by omega) w2.2.2.1 (by decide) (by decide) ?_
              intro S5 w6
              have z7 := w6.1
              refine r_dup rfl rfl ?_
              refine n_iconst 1 rfl ?_
              refine r_lload_n rfl rfl ?_
              refine t_last rfl w6.2.1 (by omega) w6.2.2.1 (by decide) (by decide) ?_
              intro S8 w9
              have z10 := w9.1
              refine r_dup rfl rfl ?_
              refine n_iconst 2 rfl ?_
              refine r_aload_n rfl rfl ?_
              have hp11 : S8.1 e = oO 10 V := ((w9.2.2.2 e (by omega)).trans ((w6.2.2.2 e (by omega)).trans hp4))
              refine r_getfN (v := .long (lN (ow d))) rfl flL_182.f (by omega) hp11 u23 ?_
              refine r_lload_n rfl rfl ?_
              refine n_lsub rfl (by omega) ?_
              refine t_last rfl w9.2.1 (by omega) w9.2.2.1 (by decide) (by decide) ?_
              intro S12 w13
              have z14 := w13.1
              refine r_dup rfl rfl ?_
              refine n_iconst 3 rfl ?_
              refine r_lload rfl rfl ?_
              refine t_last rfl w13.2.1 (by omega) w13.2.2.1 (by decide) (by decide) ?_
              intro S15 w16
              have z17 := w16.1
              refine r_dup rfl rfl ?_
              refine n_iconst 4 rfl ?_
              refine r_aload_n rfl rfl ?_
              have hp18 : S15.1 e = oO 10 V := ((w16.2.2.2 e (by omega)).trans ((w13.2.2.2 e (by omega)).trans hp11))
              refine r_getfN (v := .long (lN (rs d))) rfl flL_185.f (by omega) hp18 u24 ?_
              refine t_last rfl w16.2.1 (by omega) w16.2.2.1 (by decide) (by decide) ?_
              intro S19 w20
              have z21 := w20.1
              refine r_dup rfl rfl ?_
              refine n_iconst 5 rfl ?_
              refine r_aload_n rfl rfl ?_
              have hp22 : S19.1 e = oO 10 V := ((w20.2.2.2 e (by omega)).trans hp18)
              refine r_getfN (v := .long (lN (a5 d))) rfl flL_188.f (by omega) hp22 u25 ?_
              refine t_last rfl w20.2.1 (by omega) w20.2.2.1 (by decide) (by decide) ?_
              intro S23 w24
              have z25 := w24.1
              refine r_dup rfl rfl ?_
              refine n_bipush 6 rfl (by decide) ?_
              refine r_aload_n rfl rfl ?_
              have hp26 : S23.1 e = oO 10 V := ((w24.2.2.2 e (by omega)).trans hp22)
              refine r_getfN (v := .long (lN (a6 d))) rfl flL_191.f (by omega) hp26 u26 ?_
              refine t_last rfl w24.2.1 (by omega) w24.2.2.1 (by decide) (by decide) ?_
              intro S27 w28
              have z29 := w28.1
              refine r_dup rfl rfl ?_
              refine n_bipush 7 rfl (by decide) ?_
              refine r_aload_n rfl rfl ?_
              have hp30 : S27.1 e = oO 10 V := ((w28.2.2.2 e (by omega)).trans hp26)
              refine r_getfN (v := .long (lN (a7 d))) rfl flL_194.f (by omega) hp30 u27 ?_
              refine t_last rfl w28.2.1 (by omega) w28.2.2.1 (by decide) (by decide) ?_
              intro S31 w32
              have z33 := w32.1
              refine r_dup rfl rfl ?_
              refine n_bipush 8 rfl (by decide) ?_
              refine r_aload_n rfl rfl ?_
              have hp34 : S31.1 e = oO 10 V := ((w32.2.2.2 e (by omega)).trans hp30)
              refine r_getfN (v := .long (lN (a8 d))) rfl flL_197.f (by omega) hp34 u28 ?_
              refine t_last rfl w32.2.1 (by omega) w32.2.2.1 (by decide) (by decide) ?_
              intro S35 w36
              have z37 := w36.1
              refine r_dup rfl rfl ?_
              refine n_bipush 9 rfl (by decide) ?_
              refine r_aload_n rfl rfl ?_
              have hp38 : S35.1 e = oO 10 V := ((w36.2.2.2 e (by omega)).trans hp34)
              refine r_getfN (v := .long (lN (a9 d))) rfl flL_200.f (by omega) hp38 u29 ?_
              refine t_last rfl w36.2.1 (by omega) w36.2.2.1 (by decide) (by decide) ?_
              intro S39 w40
              have z41 := w40.1
              refine r_astore (lv' := [(6, .ref S.2.1), (4, .long (lN c4)), (2, .long (lN c)), (0, .ref 0), (1, .ref e)]) rfl (Nat.le_of_ble_eq_true rfl) rfl ?_
              refine n_iconst 0 rfl ?_
              refine r_istore (lv' := [(7, .int (nI 0)), (6, .ref S.2.1), (4, .long (lN c4)), (2, .long (lN c)), (0, .ref 0), (1, .ref e)]) rfl (Nat.le_of_ble_eq_true rfl) rfl ?_
              have hCL2 : CL S39 σ := hCL.of (by omega) (fun i hi => ((w40.2.2.2 i (by omega)).trans ((w36.2.2.2 i (by omega)).trans ((w32.2.2.2 i (by omega)).trans ((w28.2.2.2 i (by omega)).trans ((w24.2.2.2 i (by omega)).trans ((w20.2.2.2 i (by omega)).trans ((w16.2.2.2 i (by omega)).trans ((w13.2.2.2 i (by omega)).trans ((w9.2.2.2 i (by omega)).trans ((w6.2.2.2 i (by omega)).trans ((w2.2.2.2 i (by omega)).trans rfl))))))))))))
              have hdue : ∀ w, w < 10 → (acv d w).toInt64 = (aup (aup (aup (aup (aup (aup (aup (aup (aup (aup (fun _ => 0) 0 (lN (nts d))) 1 (lN c)) 2 (lN ((ow d) - c))) 3 (lN c4)) 4 (lN (rs d))) 5 (lN (a5 d))) 6 (lN (a6 d))) 7 (lN (a7 d))) 8 (lN (a8 d))) 9 (lN (a9 d))) w := fun w hw => by
                match w, hw with
                | 0, _ => exact (nI_l (by omega)).trans (rfl)
                | 1, _ => exact (nI_l (by omega)).trans (by show lN (nts d - lf d 5) = lN c; rw [hcs])
                | 2, _ => exact (nI_l (by omega)).trans (by show lN (du d 5 - (nts d - lf d 5)) = lN (ow d - c); rw [hcs, how])
                | 3, _ => exact (nI_l (by omega)).trans (by show lN (lu9 d) = lN c4; rw [hc4])
                | 4, _ => exact (nI_l (by omega)).trans (rfl)
                | 5, _ => exact (nI_l (by omega)).trans (rfl)
                | 6, _ => exact (nI_l (by omega)).trans (rfl)
                | 7, _ => exact (nI_l (by omega)).trans (rfl)
                | 8, _ => exact (nI_l (by omega)).trans (rfl)
                | 9, _ => exact (nI_l (by omega)).trans (rfl)
              refine r_lv (lv' := [(7, .int (nI 0)), (6, .ref S.2.1), (0, .ref 0), (1, .ref e)]) [0, 1, 4, 5] rfl ?_
              have loopW : ∀ (m9_3 : Nat) (w : Nat) , 10 - w < m9_3 → (w ≤ 10) → Wp sc mL_accounts 1 10 (0 + 1) (0 + 10) 273 [(7, .int (nI w)), (6, .ref S.2.1), (0, .ref 0), (1, .ref e)] [] S39 (AR fun v S' => v = .int (nI 1) ∧ Fr S S' Xno ∧ S'.2.1 = S.2.1 + 1) := by
                intro m9_3
                induction m9_3 with
                | zero => intro w hme; exact absurd hme (Nat.not_lt_zero _)
                | succ m9_3 ih3 =>
                  intro w hme hw
                  refine r_iload rfl rfl ?_
                  refine n_bipush 10 rfl (by decide) ?_
                  refine n_icmp_ge (tgt := 304) rfl rfl (by omega) (by omega) (fun h7 => ?_) (fun h7 => ?_)
                  · refine r_aload_n rfl rfl ?_
                    have hq42 := c_isBalanced (z := zf) (sc := sc) hA hI
                    rw [hda] at hq42
                    refine r_qry [] [] rfl lkL_206 rfl hq42 rfl rfl (by omega) (by omega) rfl hCL2 ?_
                    refine r_top (y := nI 1) (by rw [bal_ok hd]; rfl) ?_
                    refine n_if_eq (tgt := 327) rfl rfl (by omega) (fun hq => absurd hq (by decide)) (fun _ => ?_)
                    refine r_aload_n rfl rfl ?_
                    refine n_iconst 5 rfl ?_
                    have hq43 := c_size (z := zf) (sc := sc) hA hI (k := 5) (by decide)
                    rw [hda] at hq43
                    refine r_qry [.int (nI 5)] [] rfl lkL_210 rfl hq43 rfl rfl (by omega) (by omega) rfl hCL2 ?_
                    refine r_top (y := oI (d 0 5)) (by unfold szv; rw [if_pos rfl]) ?_
                    refine r_aload_n rfl rfl ?_
                    have hp44 : S39.1 e = oO 10 V := ((w40.2.2.2 e (by omega)).trans hp38)
                    refine r_getfN (v := .int (oI (d 0 5))) rfl flL_61.f (by omega) hp44 v1 ?_
                    refine r_icmp_ne (tgt := 327) rfl rfl (fun hq => absurd hq (fun z => z rfl)) (fun _ => ?_)
                    refine n_iconst 1 rfl ?_
                    refine r_goto (tgt := 328) rfl rfl ?_
                    exact r_ret rfl rfl rfl (by omega) (by omega) (⟨_, rfl, rfl, ⟨by omega, w40.2.1, fun i hi _ => ((w40.2.2.2 i (by omega)).trans ((w36.2.2.2 i (by omega)).trans ((w32.2.2.2 i (by omega)).trans ((w28.2.2.2 i (by omega)).trans ((w24.2.2.2 i (by omega)).trans ((w20.2.2.2 i (by omega)).trans ((w16.2.2.2 i (by omega)).trans ((w13.2.2.2 i (by omega)).trans ((w9.2.2.2 i (by omega)).trans ((w6.2.2.2 i (by omega)).trans ((w2.2.2.2 i (by omega)).trans rfl)))))))))))⟩, by omega⟩)
                  · have h7 : w < 10 := by omega
                    refine r_aload_n rfl rfl ?_
                    refine r_iload rfl rfl ?_
                    have hq45 := c_account (z := zf) (sc := sc) hA hI (k := w) (by omega)
                    rw [hda] at hq45
                    refine r_qry [.int (nI w)] [] rfl lkL_203 rfl hq45 rfl rfl (by omega) (by omega) rfl hCL2 ?_
                    refine r_i2l rfl rfl ?_
                    refine r_topL (y := (aup (aup (aup (aup (aup (aup (aup (aup (aup (aup (fun _ => 0) 0 (lN (nts d))) 1 (lN c)) 2 (lN ((ow d) - c))) 3 (lN c4)) 4 (lN (rs d))) 5 (lN (a5 d))) 6 (lN (a6 d))) 7 (lN (a7 d))) 8 (lN (a8 d))) 9 (lN (a9 d))) w) (hdue w h7) ?_
                    refine r_aload rfl rfl ?_
                    refine r_iload rfl rfl ?_
                    refine r_lald rfl (by omega) w40.2.2.1 (by omega) (by decide) ?_
                    refine l_lcmp_same (tgt := 298) rfl rfl rfl ?_
                    refine n_iinc (lv' := [(7, .int (nI (w + 1))), (6, .ref S.2.1), (0, .ref 0), (1, .ref e)]) 1 rfl rfl (Nat.le_of_ble_eq_true rfl) rfl ?_
                    refine r_goto (tgt := 273) rfl rfl ?_
                    refine r_lv (lv' := [(7, .int (nI (w + 1))), (6, .ref S.2.1), (0, .ref 0), (1, .ref e)]) [0, 1, 2, 3] rfl ?_
                    exact ih3 (w + 1) (by omega) (by omega)
              exact loopW 11 0 (by omega) (Nat.zero_le _)
            · have h8 : j < d 0 4 := by omega
              have hlj := vL hd j
              have hlp := vN hd j h8
              obtain ⟨r1, ⟨r2, r3, -⟩, fr, r4, r5, r6⟩ := hrow4 j h8
              have hpj := hlb j h8
              refine r_aload_n rfl rfl ?_
              refine r_iload rfl rfl ?_
              refine n_iconst 0 rfl ?_
              have hq46 := c_legacy (z := zf) (sc := sc) hA hI (q := j) (k := 0) (by rw [hda]; exact h8) (by decide)
              rw [hda] at hq46
              refine r_qry [.int (nI j), .int (nI 0)] [] rfl lkL_169 rfl hq46 rfl rfl (by omega) (by omega) rfl hCL ?_
              refine r_top (y := nI (d 11 j)) rfl ?_
              refine r_aload_n rfl rfl ?_
              refine r_getfN (v := .ref ql) rfl flL_103.f (by omega) hV v13 ?_
              refine r_iload rfl rfl ?_
              refine r_aald (x := (pl4 j)) rfl (by omega) hW4 (by omega) (by omega) r1 ?_
              refine n_iconst 0 rfl ?_
              refine r_iald rfl (by omega) r4 (by decide) (by decide) ?_
              refine r_top (y := nI (d 11 j)) r5 ?_
              refine n_icmp_ne (tgt := 172) rfl rfl (by omega) (by omega) (fun hq => absurd hq (fun z => z rfl)) (fun _ => ?_)
              refine r_aload_n rfl rfl ?_
              refine r_iload rfl rfl ?_
              refine n_iconst 2 rfl ?_
              have hq47 := c_legacy (z := zf) (sc := sc) hA hI (q := j) (k := 2) (by rw [hda]; exact h8) (by decide)
              rw [hda] at hq47
              refine r_qry [.int (nI j), .int (nI 2)] [] rfl lkL_169 rfl hq47 rfl rfl (by omega) (by omega) rfl hCL ?_
              refine r_top (y := nI (lp d j)) rfl ?_
              refine r_aload_n rfl rfl ?_
              refine r_getfN (v := .ref q15) rfl flL_171.f (by omega) hV u15 ?_
              refine r_iload rfl rfl ?_
              refine r_iald rfl (by omega) r15 (by omega) (by omega) ?_
              refine r_top (y := nI (lp d j)) (t15 j h8) ?_
              refine n_icmp_ne (tgt := 172) rfl rfl (by omega) (by omega) (fun hq => absurd hq (fun z => z rfl)) (fun _ => ?_)
              refine r_aload_n rfl rfl ?_
              refine r_iload rfl rfl ?_
              refine n_iconst 3 rfl ?_
              have hq48 := c_legacy (z := zf) (sc := sc) hA hI (q := j) (k := 3) (by rw [hda]; exact h8) (by decide)
              rw [hda] at hq48
              refine r_qry [.int (nI j), .int (nI 3)] [] rfl lkL_169 rfl hq48 rfl rfl (by omega) (by omega) rfl hCL ?_
              refine r_top (y := nI (tb (!(tk d (d 11 j))))) rfl ?_
              refine r_aload_n rfl rfl ?_
              refine r_aload_n rfl rfl ?_
              refine r_getfN (v := .ref ql) rfl flL_103.f (by omega) hV v13 ?_
              refine r_iload rfl rfl ?_
              refine r_aald (x := (pl4 j)) rfl (by omega) hW4 (by omega) (by omega) r1 ?_
              refine n_iconst 0 rfl ?_
              refine r_iald rfl (by omega) r4 (by decide) (by decide) ?_
              refine r_top (y := nI (d 11 j)) r5 ?_
              refine c_virA [.int (nI (d 11 j))] [.int (nI (tb (!(tk d (d 11 j)))))] rfl lkL_174 (by omega) hV rfl rfl (e_takes (S := S) hd hE hlp) rfl rfl (by omega) (by omega) rfl ?_
              rintro _ _ ⟨rfl, rfl⟩
              suffices K : Wp sc mL_accounts 1 10 0 0 169 [(6, .int (nI j)), (4, .long (lN c4)), (2, .long (lN c)), (0, .ref 0), (1, .ref e)] [.int (nI (tb (!(tk d (d 11 j))))), .int (nI (tb (!(tk d (d 11 j)))))] S (AR fun v S' => v = .int (nI 1) ∧ Fr S S' Xno ∧ S'.2.1 = S.2.1 + 1) by
                refine n_if_eq (tgt := 168) rfl rfl (tb_B _) (fun h7 => ?_) (fun h7 => ?_)
                · have hT : tk d (d 11 j) = false := by
                    cases q : tk d (d 11 j)
                    · rfl
                    · rw [q] at h7; cases h7
                  refine n_iconst 1 rfl ?_
                  exact r_top (y := nI (tb (!(tk d (d 11 j))))) (by rw [hT]; rfl) K
                · have hT : tk d (d 11 j) = true := by
                    cases q : tk d (d 11 j)
                    · rw [q] at h7; exact absurd rfl h7
                    · rfl
                  refine n_iconst 0 rfl ?_
                  refine r_goto (tgt := 169) rfl rfl ?_
                  exact r_top (y := nI (tb (!(tk d (d 11 j))))) (by rw [hT]; rfl) K
              refine n_icmp_eq (tgt := 174) rfl rfl (tb_B _) (tb_B _) (fun _ => ?_) (fun hq => absurd rfl hq)
              refine r_lload rfl rfl ?_
              refine r_aload_n rfl rfl ?_
              refine r_getfN (v := .ref q15) rfl flL_171.f (by omega) hV u15 ?_
              refine r_iload rfl rfl ?_
              refine r_iald rfl (by omega) r15 (by omega) (by omega) ?_
              refine r_top (y := nI (lp d j)) (t15 j h8) ?_
              refine n_i2l rfl (by omega) ?_
              refine n_ladd rfl ?_
              refine r_lstore (lv' := [(4, .long (lN (c4 + (lp d j)))), (6, .int (nI j)), (2, .long (lN c)), (0, .ref 0), (1, .ref e)]) rfl (Nat.le_of_ble_eq_true rfl) rfl ?_
              refine n_iinc (lv' := [(6, .int (nI (j + 1))), (4, .long (lN (c4 + (lp d j)))), (2, .long (lN c)), (0, .ref 0), (1, .ref e)]) 1 rfl rfl (Nat.le_of_ble_eq_true rfl) rfl ?_
              refine r_goto (tgt := 95) rfl rfl ?_
              refine r_lv (lv' := [(6, .int (nI (j + 1))), (4, .long (lN (c4 + (lp d j)))), (2, .long (lN c)), (0, .ref 0), (1, .ref e)]) [0, 1, 2, 3, 4] rfl ?_
              exact ih2 (j + 1) (c4 + lp d j) (by omega) (by omega) (by rw [hc4]; rfl)
        exact loopL (d 0 4 + 1) 0 0 (by omega) (Nat.zero_le _) rfl
      · have h9 : i < d 0 2 := by omega
        have hdi := vD hd i
        obtain ⟨r1, ⟨r2, r3, -⟩, fr, r4, r5, r6⟩ := hrow2 i h9
        have hpi := hpb i h9
        refine r_aload_n rfl rfl ?_
        refine r_iload rfl rfl ?_
        refine n_iconst 0 rfl ?_
        have hq49 := c_debt (z := zf) (sc := sc) hA hI (q := i) (k := 0) (by rw [hda]; exact h9) (by decide)
        rw [hda] at hq49
        refine r_qry [.int (nI i), .int (nI 0)] [] rfl lkL_163 rfl hq49 rfl rfl (by omega) (by omega) rfl hCL ?_
        refine r_top (y := nI (d 7 i)) rfl ?_
        refine r_aload_n rfl rfl ?_
        refine r_getfN (v := .ref qd) rfl flL_93.f (by omega) hV v11 ?_
        refine r_iload rfl rfl ?_
        refine r_aald (x := (pl2 i)) rfl (by omega) hW2 (by omega) (by omega) r1 ?_
        refine n_iconst 0 rfl ?_
        refine r_iald rfl (by omega) r4 (by decide) (by decide) ?_
        refine r_top (y := nI (d 7 i)) r5 ?_
        refine n_icmp_ne (tgt := 73) rfl rfl (by omega) (by omega) (fun hq => absurd hq (fun z => z rfl)) (fun _ => ?_)
        refine r_aload_n rfl rfl ?_
        refine r_iload rfl rfl ?_
        refine n_iconst 1 rfl ?_
        have hq50 := c_debt (z := zf) (sc := sc) hA hI (q := i) (k := 1) (by rw [hda]; exact h9) (by decide)
        rw [hda] at hq50
        refine r_qry [.int (nI i), .int (nI 1)] [] rfl lkL_163 rfl hq50 rfl rfl (by omega) (by omega) rfl hCL ?_
        refine r_top (y := nI (d 8 i)) rfl ?_
        refine r_aload_n rfl rfl ?_
        refine r_getfN (v := .ref qd) rfl flL_93.f (by omega) hV v11 ?_
        refine r_iload rfl rfl ?_
        refine r_aald (x := (pl2 i)) rfl (by omega) hW2 (by omega) (by omega) r1 ?_
        refine n_iconst 1 rfl ?_
        refine r_iald rfl (by omega) r4 (by decide) (by decide) ?_
        refine r_top (y := nI (d 8 i)) r6 ?_
        refine n_icmp_ne (tgt := 73) rfl rfl (by omega) (by omega) (fun hq => absurd hq (fun z => z rfl)) (fun _ => ?_)
        refine r_aload_n rfl rfl ?_
        refine r_iload rfl rfl ?_
        refine n_iconst 2 rfl ?_
        have hq51 := c_debt (z := zf) (sc := sc) hA hI (q := i) (k := 2) (by rw [hda]; exact h9) (by decide)
        rw [hda] at hq51
        refine r_qry [.int (nI i), .int (nI 2)] [] rfl lkL_163 rfl hq51 rfl rfl (by omega) (by omega) rfl hCL ?_
        refine r_top (y := nI (pd d i)) rfl ?_
        refine r_aload_n rfl rfl ?_
        refine r_getfN (v := .ref q14) rfl flL_166.f (by omega) hV u14 ?_
        refine r_iload rfl rfl ?_
        refine r_iald rfl (by omega) r14 (by omega) (by omega) ?_
        refine r_top (y := nI (pd d i)) (t14 i h9) ?_
        refine n_icmp_eq (tgt := 75) rfl rfl (by omega) (by omega) (fun _ => ?_) (fun hq => absurd rfl hq)
        refine r_lload_n rfl rfl ?_
        refine r_aload_n rfl rfl ?_
        refine r_getfN (v := .ref q14) rfl flL_166.f (by omega) hV u14 ?_
        refine r_iload rfl rfl ?_
        refine r_iald rfl (by omega) r14 (by omega) (by omega) ?_
        refine r_top (y := nI (pd d i)) (t14 i h9) ?_
        refine n_i2l rfl (by omega) ?_
        refine n_ladd rfl ?_
        refine r_lstore_n (lv' := [(2, .long (lN (c + (pd d i)))), (6, .int (nI i)), (4, .long (lN 0)), (0, .ref 0), (1, .ref e)]) rfl rfl (Nat.le_of_ble_eq_true rfl) rfl ?_
        refine n_iinc (lv' := [(6, .int (nI (i + 1))), (2, .long (lN (c + (pd d i)))), (4, .long (lN 0)), (0, .ref 0), (1, .ref e)]) 1 rfl rfl (Nat.le_of_ble_eq_true rfl) rfl ?_
        refine r_goto (tgt := 8) rfl rfl ?_
        refine r_lv (lv' := [(6, .int (nI (i + 1))), (2, .long (lN (c + (pd d i)))), (4, .long (lN 0)), (0, .ref 0), (1, .ref e)]) [0, 1, 2, 3, 4] rfl ?_
        exact ih (i + 1) (c + pd d i) (by omega) (by omega) (by rw [hcs]; rfl)
  exact loopD (d 0 2 + 1) 0 0 (by omega) (Nat.zero_le _) rfl

