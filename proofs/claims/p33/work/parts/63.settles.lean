/-! The law's settlement. -/
theorem t_minL {sc : SC} {μ : MI} {mc ms k n pc : Nat} {lv : List (Nat × Value)} {st : List Value} {S : AS} {Q : Out → AS → Prop} {a b idx : Nat} (h : cf (mCd μ) pc = some (.invokestatic idx, 3)) (hw : Cond.methodLink (mNm μ).cls idx Lib.MathLoose.min_long.x ∈ lw_gd) (hw2 : Cond.static Lib.MathLoose.min_long.x ∈ lw_gd) (hw4 : Cond.code Lib.MathLoose.min_long.x Lib.MathLoose.min_long.code 4 (some .long) ∈ lw_gd) (hfr : Nat.ble 1 (mFr μ) = true) (hlo : Nat.ble ((st.map fun v => v.category).sum + 15) (mLo μ) = true) (hk : k ≤ mc) (hs : n ≤ ms) (ha : a < 9223372036854775808) (hb : b < 9223372036854775808) (kk : Wp sc μ mc ms k n (pc + 3) lv (.long (lN (min a b)) :: st) S Q) : Wp sc μ mc ms k n pc lv (.long (lN b) :: .long (lN a) :: st) S Q := by
  refine r_minL h hw hw2 hw4 hfr hlo hk hs ?_
  have e : (if lN b < lN a then lN b else lN a) = lN (min a b) := by
    by_cases q : b < a
    · rw [if_pos ((pk_lLT hb ha).mpr q)]; congr 1; omega
    · rw [if_neg (fun z => q ((pk_lLT hb ha).mp z))]; congr 1; omega
  rw [e]
  exact kk
set_option maxRecDepth 100000 in
theorem e_st_E {sc : SC} {S : AS} {X : Nat → Prop} {e q14 k9 n9 : Nat} {d : D} {G : Nat → Nat} {S0 : AS} {V0 V : Nat → Value} {g14 : Nat → Int32} (hd : Vd d) (hX : ∀ i, X i → i < S0.2.1) (hx : S.2.2 = true) (hF0 : Fr S0 S (fun i => i = e)) (hE0 : ES X S0 e d G) (hV0 : S0.1 e = oO 10 V0) (hV : S.1 e = oO 10 V) (hVk : ∀ k, k < 14 → V k = V0 k) (u14 : V 14 = .ref q14) (u22 : V 22 = .long (lN (nts d))) (u23 : V 23 = .long (lN (ow d))) (r14 : S.1 q14 = oI0 0 (d 0 2) g14) (t14 : ∀ i, i < d 0 2 → g14 i = nI (pd d i)) (z14 : S0.2.1 ≤ q14 ∧ q14 < S.2.1) (hk9 : k9 ≤ 15) (hn9 : n9 ≤ 160) : Wp sc mX10_settles 50 600 k9 n9 261 [(1, .long (lN (lf d 5))), (0, .ref e)] [] S (AV0 fun S' => Fr S0 S' (fun i => i = e) ∧ ES X S' e d G ∧ eOld X S' e d ∧ eNew X S' e d G ∧ eSm S0 S' e) := by
  have hE9 := hE0
  obtain ⟨V9, qa, qd, qg, ql, hi, ⟨hV9, ⟨v0, v1, v2, v3, v4, v5⟩, ⟨v6, v7, v8, v9⟩, ⟨v10, v11, v12, v13⟩⟩, ⟨f1, f2, f3, f4, ⟨hf1, k1⟩, ⟨hf2, k2⟩, ⟨hf3, k3⟩, ⟨hf4, k4⟩⟩, ⟨b1, b2, -, -⟩, b3, hEA, hED, hEG, hEL⟩ := hE9
  have hVA := vA hd
  have hVC := vC hd
  obtain rfl := oO_in (hV9.symm.trans hV0)
  have hee := hE0.e
  obtain ⟨W4, pl4, hW4, ⟨ca4, cb4, -⟩, hrow4⟩ := hEL
  have hzz := hF0.1
  have hlf := lf_le d 5
  have hnt := nts_le hd (j := d 0 1) (by omega)
  have hlu : lu9 d ≤ lf d 5 := Nat.min_le_left _ _
  obtain ⟨hs1, hs2⟩ := sp_n (t := lu9 d) (m := d 0 4) (n := 8) (v := lc d) (by omega) (fun i hi => if_neg (fun z => by omega))
  have hls := lcs_le hd
  have hnts : nts d ≤ 79999992 := hnt
  refine r_aload_n rfl rfl ?_
  refine r_getf (v := .ref ql) rfl flX10_48 (by omega) hV ((hVk 13 (by decide)).trans v13) ?_
  refine r_alenQ rfl (by omega) ((hF0.2.2 ql cb4 (by omega)).trans hW4) ?_
  refine t_newa3 rfl hx (by omega) (by omega) (by omega) ?_
  intro S1 w2
  have z3 := w2.1
  refine r_astore_n (lv' := [(3, .ref S.2.1), (1, .long (lN (lf d 5))), (0, .ref e)]) rfl rfl (Nat.le_of_ble_eq_true rfl) rfl ?_
  refine n_lconst0 rfl ?_
  refine r_lstore (lv' := [(4, .long (lN 0)), (3, .ref S.2.1), (1, .long (lN (lf d 5))), (0, .ref e)]) rfl (Nat.le_of_ble_eq_true rfl) rfl ?_
  refine n_iconst 0 rfl ?_
  refine r_istore (lv' := [(6, .int (nI 0)), (4, .long (lN 0)), (3, .ref S.2.1), (1, .long (lN (lf d 5))), (0, .ref e)]) rfl (Nat.le_of_ble_eq_true rfl) rfl ?_
  have hp4 : S1.1 e = oO 10 V := ((w2.2.2.2 e (by omega)).trans hV)
  have hp5 : S1.1 q14 = oI0 0 (d 0 2) g14 := ((w2.2.2.2 q14 (by omega)).trans r14)
  refine r_lv (lv' := [(6, .int (nI 0)), (4, .long (lN 0)), (3, .ref S.2.1), (1, .long (lN (lf d 5))), (0, .ref e)]) [0, 1, 2, 3, 4] rfl ?_
  have loopL : ∀ (m9 : Nat) (i : Nat) (S7 : AS) (g8 : Nat → Int64) (c : Nat), d 0 4 - i < m9 → (S7.2.2 = true) → (i ≤ d 0 4) → (Fr S0 S7 (fun i => i = e)) → (S7.2.1 = S1.2.1) → (S7.1 e = oO 10 V) → (S7.1 q14 = oI0 0 (d 0 2) g14) → (S7.1 (S.2.1) = oL (d 0 4) g8 ∧ ∀ p, p < i → g8 p = lN (lc d p)) → (c = sm (lc d) i) → Wp sc mX10_settles 50 600 (k9 + 1) (n9 + (d 0 4)) 275 [(6, .int (nI i)), (4, .long (lN c)), (3, .ref S.2.1), (1, .long (lN (lf d 5))), (0, .ref e)] [] S7 (AV0 fun S' => Fr S0 S' (fun i => i = e) ∧ ES X S' e d G ∧ eOld X S' e d ∧ eNew X S' e d G ∧ eSm S0 S' e) := by
    intro m9
    induction m9 with
    | zero => intro i S7 g8 c hme; exact absurd hme (Nat.not_lt_zero _)
    | succ m9 ih =>
      intro i S7 g8 c hme hxS7 hi hF7 hz7 hV7 h714 hby hcs
      obtain ⟨hby, hbl⟩ := hby
      have hE7 : ES X S7 e d G := hE0.up hV9 hF7 hV7 (fun k hk => hVk k hk)
      have hcb : c ≤ i * 9999999 := by rw [hcs]; exact sm_le (fun k _ => lc_le hd k)
      refine r_iload rfl rfl ?_
      refine r_aload_n rfl rfl ?_
      refine r_alenL rfl (by omega) hby ?_
      refine n_icmp_ge (tgt := 331) rfl rfl (by omega) (by omega) (fun h9 => ?_) (fun h9 => ?_)
      · have e9 : i = d 0 4 := by omega
        rw [e9, hs1] at hcs
        have hbl9 : ∀ p, p < d 0 4 → g8 p = lN (lc d p) := fun p hp => hbl p (by omega)
        have hcl : min (lf d 5) c = lu9 d := by rw [hcs]; rfl
        refine r_aload_n rfl rfl ?_
        refine r_lload_n rfl rfl ?_
        refine r_lload rfl rfl ?_
        refine t_minL (μ := mX10_settles) (a := lf d 5) (b := c) rfl ma_minJLX10_90 ma_minJS ma_minJC rfl rfl (by omega) (by omega) (by omega) (by omega) ?_
        refine r_topL (y := lN (lu9 d)) (congrArg lN hcl) ?_
        refine r_aload_n rfl rfl ?_
        refine c_staA [.long (lN (lu9 d)), .ref S.2.1] [.ref e] rfl lkX10_94 (e_splits (S := S7) (T := lu9 d) (w := lc d) hxS7 (by omega) hby hbl9 (fun i _ => Nat.le_trans (lc_le hd i) (by decide)) (by omega) (by omega)) rfl rfl (by omega) (by omega) rfl ?_
        rintro _ S6 ⟨rfl, fr7, hzA, f15, r15, t15⟩
        have z8 := fr7.1
        have hp9 : S6.1 e = oO 10 V := ((fr7.2.2 e (by omega) (fun z => z)).trans hV7)
        refine t_putf rfl flX10_98 (okv_a _ _) fr7.2.1 (by omega) hp9 ?_
        intro S10 w11
        have z12 := w11.1
        refine r_aload_n rfl rfl ?_
        refine r_lload_n rfl rfl ?_
        refine r_lload_n rfl rfl ?_
        refine r_lload rfl rfl ?_
        refine t_minL (μ := mX10_settles) (a := lf d 5) (b := c) rfl ma_minJLX10_90 ma_minJS ma_minJC rfl rfl (by omega) (by omega) (by omega) (by omega) ?_
        refine r_topL (y := lN (lu9 d)) (congrArg lN hcl) ?_
        refine n_lsub rfl (by omega) ?_
        refine r_topL (y := lN (rs d)) rfl ?_
        refine t_putf rfl flX10_101 (okv_l _) w11.2.1 (by omega) w11.2.2.1 ?_
        intro S13 w14
        have z15 := w14.1
        refine r_aload_n rfl rfl ?_
        refine r_aload_n rfl rfl ?_
        refine r_getf (v := .int (nI (d 0 0))) rfl flX10_59 (by omega) w14.2.2.1 ((aup_n _ _ (by decide)).trans ((aup_n _ _ (by decide)).trans ((hVk 0 (by decide)).trans v0))) ?_
        refine t_newa0 rfl w14.2.1 (by omega) (by omega) (by omega) ?_
        intro S16 w17
        have z18 := w17.1
        have hp19 : S16.1 e = oO 10 (aup (aup V 15 (.ref S7.2.1)) 24 (.long (lN (rs d)))) := ((w17.2.2.2 e (by omega)).trans w14.2.2.1)
        refine t_putf rfl flX10_65 (okv_a _ _) w17.2.1 (by omega) hp19 ?_
        intro S20 w21
        have z22 := w21.1
        refine r_aload_n rfl rfl ?_
        refine n_m1 rfl ?_
        refine n_iconst 1 rfl ?_
        have hp23 : S20.1 S13.2.1 = oI0 0 (d 0 0) (fun _ => 0) := ((w21.2.2.2 S13.2.1 (by omega)).trans w17.2.2.1)
        have hF9 : Fr S0 S20 (fun i => i = e) := ⟨by omega, w21.2.1, fun i hi (hn : ¬ (i = e)) => ((w21.2.2.2 i (by omega)).trans ((w17.2.2.2 i (by omega)).trans ((w14.2.2.2 i (by omega)).trans ((w11.2.2.2 i (by omega)).trans ((fr7.2.2 i (by omega) (fun z => z)).trans (hF7.2.2 i hi hn))))))⟩
        have hV99 : S20.1 e = oO 10 (aup (aup (aup V 15 (.ref S7.2.1)) 24 (.long (lN (rs d)))) 16 (.ref S13.2.1)) := w21.2.2.1
        have hk99 : ∀ k, k < 14 → (aup (aup (aup V 15 (.ref S7.2.1)) 24 (.long (lN (rs d)))) 16 (.ref S13.2.1)) k = V9 k := fun k hk => ((aup_n _ _ (by omega)).trans ((aup_n _ _ (by omega)).trans ((aup_n _ _ (by omega)).trans (hVk k hk))))
        have hEX : ES (fun i => X i ∨ i = S13.2.1) S20 e d G := hE0.fr hF9.1 (fun U hU => ⟨_, hV99, fun k hk => by rw [oO_in (hU.symm.trans hV9)]; exact hk99 k hk⟩) (fun z => z.elim hee.2.2 (fun z => by omega)) (fun i i1 i2 i3 => ⟨hF9.2.2 i i2 (by omega), fun z => z.elim i3 (fun z => by omega)⟩)
        have hQ9 : ∀ U, S20.1 e = oO 10 U → U 16 = .ref S13.2.1 := fun U hU => by rw [oO_in (hU.symm.trans hV99)]; exact aup_s _ _ _
        refine c_virV [.int ((-1)), .int (nI 1)] [] rfl (lkX10_68 12) (by omega) w21.2.2.1 rfl rfl (e_goes (S := S20) hd w21.2.1 hEX (Or.inr rfl) (by omega) hQ9 hp23) rfl rfl (by omega) (by omega) rfl ?_
        rintro S24 ⟨fr25, hzB, f16, r16, t16⟩
        have z26 := fr25.1
        have hF10 : Fr S0 S24 (fun i => i = e) := ⟨by omega, fr25.2.1, fun i hi (hn : ¬ (i = e)) => ((fr25.2.2 i (by omega) (by omega)).trans ((w21.2.2.2 i (by omega)).trans ((w17.2.2.2 i (by omega)).trans ((w14.2.2.2 i (by omega)).trans ((w11.2.2.2 i (by omega)).trans ((fr7.2.2 i (by omega) (fun z => z)).trans (hF7.2.2 i hi hn)))))))⟩
        have hp27 : S24.1 e = oO 10 (aup (aup (aup V 15 (.ref S7.2.1)) 24 (.long (lN (rs d)))) 16 (.ref S13.2.1)) := ((fr25.2.2 e (by omega) (by omega)).trans w21.2.2.1)
        have hV10 : S24.1 e = oO 10 (aup (aup (aup V 15 (.ref S7.2.1)) 24 (.long (lN (rs d)))) 16 (.ref S13.2.1)) := hp27
        have hE10 : ES X S24 e d G := hE0.up hV9 hF10 hV10 hk99
        have hp28 : S24.1 q14 = oI0 0 (d 0 2) g14 := ((fr25.2.2 q14 (by omega) (by omega)).trans ((w21.2.2.2 q14 (by omega)).trans ((w17.2.2.2 q14 (by omega)).trans ((w14.2.2.2 q14 (by omega)).trans ((w11.2.2.2 q14 (by omega)).trans ((fr7.2.2 q14 (by omega) (fun z => z)).trans h714))))))
        have hp29 : S24.1 S7.2.1 = oI0 0 (d 0 4) f15 := ((fr25.2.2 S7.2.1 (by omega) (by omega)).trans ((w21.2.2.2 S7.2.1 (by omega)).trans ((w17.2.2.2 S7.2.1 (by omega)).trans ((w14.2.2.2 S7.2.1 (by omega)).trans ((w11.2.2.2 S7.2.1 (by omega)).trans r15)))))
        have hO10 : eOld X S24 e d := by
          intro U hU
          rw [oO_in (hU.symm.trans hV10)]
          exact ⟨_, _, _, ⟨(aup_n _ _ (by decide)).trans ((aup_n _ _ (by decide)).trans ((aup_n _ _ (by decide)).trans u14)), (aup_n _ _ (by decide)).trans ((aup_n _ _ (by decide)).trans (aup_s _ _ _)), aup_s _ _ _⟩, ⟨(aup_n _ _ (by decide)).trans ((aup_n _ _ (by decide)).trans ((aup_n _ _ (by decide)).trans u22)), (aup_n _ _ (by decide)).trans ((aup_n _ _ (by decide)).trans ((aup_n _ _ (by decide)).trans u23)), (aup_n _ _ (by decide)).trans (aup_s _ _ _)⟩, ⟨g14, hp28, ⟨by omega, by omega, fun z => by have := hX _ z; omega⟩, t14⟩, ⟨f15, hp29, ⟨by omega, by omega, fun z => by have := hX _ z; omega⟩, fun i hi => by rw [t15 i hi, hs2]; rfl⟩, ⟨f16, r16, ⟨by omega, by omega, fun z => by have := hX _ z; omega⟩, fun i hi => t16 i hi⟩⟩
        refine r_aload_n rfl rfl ?_
        refine c_virV [] [] rfl lkX10_104 (by omega) hp27 rfl rfl (e_shares (S := S24) hd hE10 (fun i hi => Nat.lt_of_lt_of_le (hX i hi) hF10.1) (by omega) fr25.2.1 hO10) rfl rfl (by omega) (by omega) rfl ?_
        rintro S30 ⟨fr31, hE11, hO11, hN11, hm11⟩
        have z32 := fr31.1
        exact r_vret rfl rfl (by omega) (by omega) (⟨rfl, hF10.tr fr31 (fun _ _ z => z), hE11, hO11, hN11, (eSm.of hV9 hV10 hk99).tr hm11⟩)
      · have h9 : i < d 0 4 := by omega
        have hli := vL hd i
        have hlp := vN hd i h9
        obtain ⟨r1, ⟨r2, r3, -⟩, fr, r4, r5, r6⟩ := hrow4 i h9
        have hlci := lc_le hd i
        have r7 : S7.1 (pl4 i) = oI0 0 2 fr := (hF7.2.2 (pl4 i) r3 (by omega)).trans r4
        refine r_aload_n rfl rfl ?_
        refine r_iload rfl rfl ?_
        refine r_aload_n rfl rfl ?_
        refine r_aload_n rfl rfl ?_
        refine r_getf (v := .ref ql) rfl flX10_48 (by omega) hV7 ((hVk 13 (by decide)).trans v13) ?_
        refine r_iload rfl rfl ?_
        refine r_aald (x := (pl4 i)) rfl (by omega) ((hF7.2.2 ql cb4 (by omega)).trans hW4) (by omega) (by omega) r1 ?_
        refine n_iconst 0 rfl ?_
        refine r_iald rfl (by omega) r7 (by decide) (by decide) ?_
        refine r_top (y := nI (d 11 i)) r5 ?_
        refine c_virA [.int (nI (d 11 i))] [.int (nI i), .ref S.2.1] rfl lkX10_51 (by omega) hV7 rfl rfl (e_takes (S := S7) hd hE7 hlp) rfl rfl (by omega) (by omega) rfl ?_
        rintro _ _ ⟨rfl, rfl⟩
        suffices K : Wp sc mX10_settles 50 600 (k9 + 1) (n9 + (d 0 4)) 315 [(6, .int (nI i)), (4, .long (lN c)), (3, .ref S.2.1), (1, .long (lN (lf d 5))), (0, .ref e)] [.long (lN (lc d i)), .int (nI i), .ref S.2.1] S7 (AV0 fun S' => Fr S0 S' (fun i => i = e) ∧ ES X S' e d G ∧ eOld X S' e d ∧ eNew X S' e d G ∧ eSm S0 S' e) by
          refine n_if_eq (tgt := 314) rfl rfl (tb_B _) (fun h8 => ?_) (fun h8 => ?_)
          · have hT : tk d (d 11 i) = false := by
              cases q : tk d (d 11 i)
              · rfl
              · rw [q] at h8; cases h8
            refine n_lconst0 rfl ?_
            exact r_topL (y := lN (lc d i)) (by unfold lc; rw [if_neg (fun z => by rw [hT] at z; cases z.2)]) K
          · have hT : tk d (d 11 i) = true := by
              cases q : tk d (d 11 i)
              · rw [q] at h8; exact absurd rfl h8
              · rfl
            refine r_aload_n rfl rfl ?_
            refine r_getf (v := .ref ql) rfl flX10_48 (by omega) hV7 ((hVk 13 (by decide)).trans v13) ?_
            refine r_iload rfl rfl ?_
            refine r_aald (x := (pl4 i)) rfl (by omega) ((hF7.2.2 ql cb4 (by omega)).trans hW4) (by omega) (by omega) r1 ?_
            refine n_iconst 1 rfl ?_
            refine r_iald rfl (by omega) r7 (by decide) (by decide) ?_
            refine r_top (y := nI (d 12 i)) r6 ?_
            refine n_i2l rfl (by omega) ?_
            refine r_goto (tgt := 315) rfl rfl ?_
            exact r_topL (y := lN (lc d i)) (by unfold lc; rw [if_pos ⟨h9, hT⟩]) K
        refine t_last rfl hxS7 (by omega) hby (by omega) (by omega) ?_
        intro S33 w34
        have z35 := w34.1
        refine r_lload rfl rfl ?_
        refine r_aload_n rfl rfl ?_
        refine r_iload rfl rfl ?_
        refine r_lald rfl (by omega) w34.2.2.1 (by omega) (by omega) ?_
        refine r_topL (y := lN (lc d i)) (aup_s _ _ _) ?_
        refine n_ladd rfl ?_
        refine r_lstore (lv' := [(4, .long (lN (c + (lc d i)))), (6, .int (nI i)), (3, .ref S.2.1), (1, .long (lN (lf d 5))), (0, .ref e)]) rfl (Nat.le_of_ble_eq_true rfl) rfl ?_
        refine n_iinc (lv' := [(6, .int (nI (i + 1))), (4, .long (lN (c + (lc d i)))), (3, .ref S.2.1), (1, .long (lN (lf d 5))), (0, .ref e)]) 1 rfl rfl (Nat.le_of_ble_eq_true rfl) rfl ?_
        refine r_goto (tgt := 275) rfl rfl ?_
        have hp36 : S33.1 e = oO 10 V := ((w34.2.2.2 e (by omega)).trans hV7)
        have hp37 : S33.1 q14 = oI0 0 (d 0 2) g14 := ((w34.2.2.2 q14 (by omega)).trans h714)
        refine r_lv (lv' := [(6, .int (nI (i + 1))), (4, .long (lN (c + (lc d i)))), (3, .ref S.2.1), (1, .long (lN (lf d 5))), (0, .ref e)]) [0, 1, 2, 3, 4] rfl ?_
        exact ih (i + 1) S33 _ (c + lc d i) (by omega) w34.2.1 (by omega) ⟨by omega, w34.2.1, fun i hi (hn : ¬ (i = e)) => ((w34.2.2.2 i (by omega)).trans (hF7.2.2 i hi hn))⟩ (by omega) hp36 hp37 ⟨w34.2.2.1, aup_lt hbl rfl⟩ (by rw [hcs]; rfl)
  exact loopL (d 0 4 + 1) 0 S1 _ 0 (by omega) w2.2.1 (Nat.zero_le _) ⟨by omega, w2.2.1, fun i hi (hn : ¬ (i = e)) => ((w2.2.2.2 i (by omega)).trans (hF0.2.2 i hi hn))⟩ rfl hp4 hp5 ⟨w2.2.2.1, fun p hp => absurd hp (Nat.not_lt_zero _)⟩ rfl

set_option maxRecDepth 100000 in
theorem e_settles {sc : SC} {S : AS} {S0 : AS} {X : Nat → Prop} {e : Nat} {d : D} {G : Nat → Nat} (hd : Vd d) (hE0 : ES X S0 e d G) (h0 : S = S0) (hX : ∀ i, X i → i < S0.2.1) (hx : S.2.2 = true) : Cal sc mX10_settles 50 600 [.ref e] S (AV0 fun S' => Fr S0 S' (fun i => i = e) ∧ ES X S' e d G ∧ eOld X S' e d ∧ eNew X S' e d G ∧ eSm S0 S' e) := by
  refine Cal.of gmX10_settles (Nat.le_of_ble_eq_true rfl) ?_
  have hE9 := hE0
  obtain ⟨V9, qa, qd, qg, ql, hi, ⟨hV9, ⟨v0, v1, v2, v3, v4, v5⟩, ⟨v6, v7, v8, v9⟩, ⟨v10, v11, v12, v13⟩⟩, ⟨f1, f2, f3, f4, ⟨hf1, k1⟩, ⟨hf2, k2⟩, ⟨hf3, k3⟩, ⟨hf4, k4⟩⟩, ⟨b1, b2, -, -⟩, b3, hEA, hED, hEG, hEL⟩ := hE9
  have hVA := vA hd
  have hVC := vC hd
  have hee := hE0.e
  obtain ⟨W1, pl1, hW1, ⟨ca1, cb1, -⟩, hrow1, -⟩ := hEA
  obtain ⟨W2, pl2, hW2, ⟨ca2, cb2, -⟩, hrow2⟩ := hED
  have hV : S.1 e = oO 10 V9 := by rw [h0]; exact hV9
  have hz0 : S.2.1 = S0.2.1 := by rw [h0]
  have hF0 : Fr S0 S (fun i => i = e) := by rw [h0]; exact Fr.rf (by rw [← h0]; exact hx)
  have hnt := nts_le hd (j := d 0 1) (by omega)
  have hnts : nts d ≤ 79999992 := hnt
  have hVV : ∀ k, k < 14 → V9 k = V9 k := fun _ _ => rfl
  show Wp sc mX10_settles 50 600 0 0 0 [(0, .ref e)] [] S (AV0 fun S' => Fr S0 S' (fun i => i = e) ∧ ES X S' e d G ∧ eOld X S' e d ∧ eNew X S' e d G ∧ eSm S0 S' e)
  refine r_aload_n rfl rfl ?_
  refine n_lconst0 rfl ?_
  refine t_putf rfl flX10_78 (okv_l _) hx (by omega) hV ?_
  intro S1 w2
  have z3 := w2.1
  refine r_aload_n rfl rfl ?_
  refine r_getf (v := .ref qa) rfl flX10_38 (by omega) w2.2.2.1 ((aup_n _ _ (by decide)).trans ((hVV 10 (by decide)).trans v10)) ?_
  refine r_astore_n (lv' := [(1, .ref qa), (0, .ref e)]) rfl rfl (Nat.le_of_ble_eq_true rfl) rfl ?_
  refine r_aload_n rfl rfl ?_
  have hp4 : S1.1 qa = oQ (d 0 1) W1 := ((w2.2.2.2 qa (by omega)).trans ((hF0.2.2 qa cb1 (by omega)).trans hW1))
  refine r_alenQ rfl (by omega) hp4 ?_
  refine r_istore_n (lv' := [(2, .int (nI (d 0 1))), (1, .ref qa), (0, .ref e)]) rfl rfl (Nat.le_of_ble_eq_true rfl) rfl ?_
  refine n_iconst 0 rfl ?_
  refine r_istore_n (lv' := [(3, .int (nI 0)), (2, .int (nI (d 0 1))), (1, .ref qa), (0, .ref e)]) rfl rfl (Nat.le_of_ble_eq_true rfl) rfl ?_
  refine r_lv (lv' := [(3, .int (nI 0)), (1, .ref qa), (2, .int (nI (d 0 1))), (0, .ref e)]) [0, 2, 1, 3] rfl ?_
  have loopN : ∀ (m9 : Nat) (i : Nat) (S7 : AS) (V7 : Nat → Value), d 0 1 - i < m9 → (S7.2.2 = true) → (i ≤ d 0 1) → (Fr S0 S7 (fun i => i = e)) → (S7.2.1 = S0.2.1) → (S7.1 e = oO 10 V7) → (∀ k, k < 14 → V7 k = V9 k) → (V7 22 = .long (lN (sm (nt d) i))) → Wp sc mX10_settles 50 600 0 0 15 [(3, .int (nI i)), (1, .ref qa), (2, .int (nI (d 0 1))), (0, .ref e)] [] S7 (AV0 fun S' => Fr S0 S' (fun i => i = e) ∧ ES X S' e d G ∧ eOld X S' e d ∧ eNew X S' e d G ∧ eSm S0 S' e) := by
    intro m9
    induction m9 with
    | zero => intro i S7 V7 hme; exact absurd hme (Nat.not_lt_zero _)
    | succ m9 ih =>
      intro i S7 V7 hme hxS7 hi hF7 hz7 hV7 hVk7 u22
      refine r_iload_n rfl rfl ?_
      refine r_iload_n rfl rfl ?_
      refine n_icmp_ge (tgt := 61) rfl rfl (by omega) (by omega) (fun h9 => ?_) (fun h9 => ?_)
      · have e9 : i = d 0 1 := by omega
        rw [e9] at u22
        refine r_aload_n rfl rfl ?_
        refine r_getf (v := .long (lN (nts d))) rfl flX10_78 (by omega) hV7 u22 ?_
        refine r_lstore_n (lv' := [(1, .long (lN (nts d))), (3, .int (nI i)), (0, .ref e)]) rfl rfl (Nat.le_of_ble_eq_true rfl) rfl ?_
        refine r_aload_n rfl rfl ?_
        refine n_lconst0 rfl ?_
        refine t_putf rfl flX10_84 (okv_l _) hxS7 (by omega) hV7 ?_
        intro S5 w6
        have z7 := w6.1
        refine r_aload_n rfl rfl ?_
        refine r_aload_n rfl rfl ?_
        refine r_getf (v := .ref qd) rfl flX10_42 (by omega) w6.2.2.1 ((aup_n _ _ (by decide)).trans ((hVk7 11 (by decide)).trans v11)) ?_
        have hp8 : S5.1 qd = oQ (d 0 2) W2 := ((w6.2.2.2 qd (by omega)).trans ((hF7.2.2 qd cb2 (by omega)).trans hW2))
        refine r_alenQ rfl (by omega) hp8 ?_
        refine t_newa0 rfl w6.2.1 (by omega) (by omega) (by omega) ?_
        intro S9 w10
        have z11 := w10.1
        have hp12 : S9.1 e = oO 10 (aup V7 23 (.long (lN 0))) := ((w10.2.2.2 e (by omega)).trans w6.2.2.1)
        refine t_putf rfl flX10_87 (okv_a _ _) w10.2.1 (by omega) hp12 ?_
        intro S13 w14
        have z15 := w14.1
        refine n_iconst 1 rfl ?_
        refine r_istore_n (lv' := [(3, .int (nI 1)), (1, .long (lN (nts d))), (0, .ref e)]) rfl rfl (Nat.le_of_ble_eq_true rfl) rfl ?_
        have hp16 : S13.1 S5.2.1 = oI0 0 (d 0 2) (fun _ => 0) := ((w14.2.2.2 S5.2.1 (by omega)).trans w10.2.2.1)
        refine r_lv (lv' := [(3, .int (nI 1)), (1, .long (lN (nts d))), (0, .ref e)]) [0, 1, 2] rfl ?_
        have ranks : ∀ (m9_2 : Nat) (k : Nat) (S8 : AS) (k9 n9 : Nat) (V8 : Nat → Value) (g14 : Nat → Int32), 5 - k < m9_2 → (S8.2.2 = true) → (k ≤ 5) → (k9 + 2 * (5 - k) ≤ 11) → (n9 + 20 * (5 - k) ≤ 108) → (Fr S0 S8 (fun i => i = e)) → (S13.2.1 ≤ S8.2.1) → (S8.1 e = oO 10 V8) → (∀ k, k < 14 → V8 k = V9 k) → (V8 14 = .ref (S5.2.1)) → (V8 22 = .long (lN (nts d))) → (V8 23 = .long (lN (du d k))) → (S8.1 (S5.2.1) = oI0 0 (d 0 2) g14 ∧ ∀ i, i < d 0 2 → g14 i = nI (pk9 d k i)) → Wp sc mX10_settles 50 600 k9 n9 84 [(3, .int (nI (k + 1))), (1, .long (lN (lf d k))), (0, .ref e)] [] S8 (AV0 fun S' => Fr S0 S' (fun i => i = e) ∧ ES X S' e d G ∧ eOld X S' e d ∧ eNew X S' e d G ∧ eSm S0 S' e) := by
          intro m9_2
          induction m9_2 with
          | zero => intro k S8 k9 n9 V8 g14 hme; exact absurd hme (Nat.not_lt_zero _)
          | succ m9_2 ih2 =>
            intro k S8 k9 n9 V8 g14 hme hxS8 hk5 hb1 hb2 hF8 hz8 hV8 hVk8 w14 w22 w23 h814
            obtain ⟨h814, t14⟩ := h814
            have hlf := lf_le d k
            have hdu := du_le hd hk5
            refine r_iload_n rfl rfl ?_
            refine n_bipush 6 rfl (by decide) ?_
            refine n_icmp_ge (tgt := 261) rfl rfl (by omega) (by omega) (fun h8 => ?_) (fun h8 => ?_)
            · have e8 : k = 5 := by omega
              subst e8
              refine r_lv (lv' := [(1, .long (lN (lf d 5))), (0, .ref e)]) [1, 2] rfl ?_
              exact e_st_E hd hX hxS8 hF8 hE0 hV9 hV8 hVk8 w14 w22 (by rw [ow_du hd]; exact w23) h814 (fun i hi => by rw [t14 i hi, pk9_5 hd]) ⟨by omega, by omega⟩ (by omega) (by omega)
            · have hk4 : k < 5 := by omega
              obtain ⟨hs1, hs2⟩ := sp_n (t := us d (k + 1)) (m := d 0 2) (n := 8) (v := cl d (k + 1)) (by omega) (fun i hi => if_neg (fun z => by omega))
              have hcl := cls_le hd (k + 1)
              refine r_aload_n rfl rfl ?_
              refine r_getf (v := .ref qd) rfl flX10_42 (by omega) hV8 ((hVk8 11 (by decide)).trans v11) ?_
              refine r_alenQ rfl (by omega) ((hF8.2.2 qd cb2 (by omega)).trans hW2) ?_
              refine t_newa3 rfl hxS8 (by omega) (by omega) (by omega) ?_
              intro S17 w18
              have z19 := w18.1
              refine r_astore (lv' := [(4, .ref S8.2.1), (3, .int (nI (k + 1))), (1, .long (lN (lf d k))), (0, .ref e)]) rfl (Nat.le_of_ble_eq_true rfl) rfl ?_
              refine n_lconst0 rfl ?_
              refine r_lstore (lv' := [(5, .long (lN 0)), (4, .ref S8.2.1), (3, .int (nI (k + 1))), (1, .long (lN (lf d k))), (0, .ref e)]) rfl (Nat.le_of_ble_eq_true rfl) rfl ?_
              refine n_iconst 0 rfl ?_
              refine r_istore (lv' := [(7, .int (nI 0)), (5, .long (lN 0)), (4, .ref S8.2.1), (3, .int (nI (k + 1))), (1, .long (lN (lf d k))), (0, .ref e)]) rfl (Nat.le_of_ble_eq_true rfl) rfl ?_
              have hp20 : S17.1 e = oO 10 V8 := ((w18.2.2.2 e (by omega)).trans hV8)
              have hp21 : S17.1 S5.2.1 = oI0 0 (d 0 2) g14 := ((w18.2.2.2 S5.2.1 (by omega)).trans h814)
              refine r_lv (lv' := [(7, .int (nI 0)), (4, .ref S8.2.1), (5, .long (lN 0)), (3, .int (nI (k + 1))), (1, .long (lN (lf d k))), (0, .ref e)]) [0, 2, 1, 3, 4, 5] rfl ?_
              have loopF : ∀ (m9_3 : Nat) (i : Nat) (S9 : AS) (g9 : Nat → Int64), d 0 2 - i < m9_3 → (S9.2.2 = true) → (i ≤ d 0 2) → (Fr S0 S9 (fun i => i = e)) → (S9.2.1 = S17.2.1) → (S9.1 e = oO 10 V8) → (S9.1 (S5.2.1) = oI0 0 (d 0 2) g14) → (S9.1 (S8.2.1) = oL (d 0 2) g9 ∧ ∀ p, p < i → g9 p = lN (cl d (k + 1) p)) → Wp sc mX10_settles 50 600 (k9 + 1) (n9 + (d 0 2)) 105 [(7, .int (nI i)), (4, .ref S8.2.1), (5, .long (lN 0)), (3, .int (nI (k + 1))), (1, .long (lN (lf d k))), (0, .ref e)] [] S9 (AV0 fun S' => Fr S0 S' (fun i => i = e) ∧ ES X S' e d G ∧ eOld X S' e d ∧ eNew X S' e d G ∧ eSm S0 S' e) := by
                intro m9_3
                induction m9_3 with
                | zero => intro i S9 g9 hme; exact absurd hme (Nat.not_lt_zero _)
                | succ m9_3 ih3 =>
                  intro i S9 g9 hme hxS9 hi hF9 hz9 hV9b h914 hby
                  obtain ⟨hby, hbl⟩ := hby
                  refine r_iload rfl rfl ?_
                  refine r_aload rfl rfl ?_
                  refine r_alenL rfl (by omega) hby ?_
                  refine n_icmp_ge (tgt := 151) rfl rfl (by omega) (by omega) (fun h7 => ?_) (fun h7 => ?_)
                  · have e7 : i = d 0 2 := by omega
                    rw [e7] at hbl
                    refine r_aload rfl rfl ?_
                    refine r_astore (lv' := [(7, .ref S8.2.1), (4, .ref S8.2.1), (5, .long (lN 0)), (3, .int (nI (k + 1))), (1, .long (lN (lf d k))), (0, .ref e)]) rfl (Nat.le_of_ble_eq_true rfl) rfl ?_
                    refine r_aload rfl rfl ?_
                    refine r_alenL rfl (by omega) hby ?_
                    refine r_istore (lv' := [(8, .int (nI (d 0 2))), (7, .ref S8.2.1), (4, .ref S8.2.1), (5, .long (lN 0)), (3, .int (nI (k + 1))), (1, .long (lN (lf d k))), (0, .ref e)]) rfl (Nat.le_of_ble_eq_true rfl) rfl ?_
                    refine n_iconst 0 rfl ?_
                    refine r_istore (lv' := [(9, .int (nI 0)), (8, .int (nI (d 0 2))), (7, .ref S8.2.1), (4, .ref S8.2.1), (5, .long (lN 0)), (3, .int (nI (k + 1))), (1, .long (lN (lf d k))), (0, .ref e)]) rfl (Nat.le_of_ble_eq_true rfl) rfl ?_
                    refine r_lv (lv' := [(9, .int (nI 0)), (5, .long (lN 0)), (8, .int (nI (d 0 2))), (7, .ref S8.2.1), (4, .ref S8.2.1), (3, .int (nI (k + 1))), (1, .long (lN (lf d k))), (0, .ref e)]) [0, 4, 1, 2, 3, 5, 6, 7] rfl ?_
                    have loopS : ∀ (m9_4 : Nat) (j : Nat) (c : Nat), d 0 2 - j < m9_4 → (j ≤ d 0 2) → (c = sm (cl d (k + 1)) j) → Wp sc mX10_settles 50 600 (k9 + 1) (n9 + (d 0 2)) 163 [(9, .int (nI j)), (5, .long (lN c)), (8, .int (nI (d 0 2))), (7, .ref S8.2.1), (4, .ref S8.2.1), (3, .int (nI (k + 1))), (1, .long (lN (lf d k))), (0, .ref e)] [] S9 (AV0 fun S' => Fr S0 S' (fun i => i = e) ∧ ES X S' e d G ∧ eOld X S' e d ∧ eNew X S' e d G ∧ eSm S0 S' e) := by
                      intro m9_4
                      induction m9_4 with
                      | zero => intro j c hme; exact absurd hme (Nat.not_lt_zero _)
                      | succ m9_4 ih4 =>
                        intro j c hme hj hcs
                        refine r_iload rfl rfl ?_
                        refine r_iload rfl rfl ?_
                        refine n_icmp_ge (tgt := 190) rfl rfl (by omega) (by omega) (fun h6 => ?_) (fun h6 => ?_)
                        · have e6 : j = d 0 2 := by omega
                          rw [e6, hs1] at hcs
                          have hus : min (lf d k) c = us d (k + 1) := by rw [hcs]; rfl
                          have hul : us d (k + 1) ≤ lf d k := Nat.min_le_left _ _
                          refine r_lload_n rfl rfl ?_
                          refine r_lload rfl rfl ?_
                          refine t_minL (μ := mX10_settles) (a := lf d k) (b := c) rfl ma_minJLX10_90 ma_minJS ma_minJC rfl rfl (by omega) (by omega) (by omega) (by omega) ?_
                          refine r_topL (y := lN (us d (k + 1))) (congrArg lN hus) ?_
                          refine r_aload rfl rfl ?_
                          refine c_staA [.long (lN (us d (k + 1))), .ref S8.2.1] [] rfl lkX10_94 (e_splits (S := S9) (T := us d (k + 1)) (w := cl d (k + 1)) hxS9 (by omega) hby hbl (fun i _ => Nat.le_trans (cl_le hd (k + 1) i) (by decide)) (by omega) (by omega)) rfl rfl (by omega) (by omega) rfl ?_
                          rintro _ S22 ⟨rfl, fr23, hzA, f5, r5, t5⟩
                          have z24 := fr23.1
                          have hpr : ∀ i, i < d 0 2 → f5 i = nI (pr d (k + 1) i) := fun i hi => by rw [t5 i hi, hs2]; rfl
                          refine r_astore (lv' := [(7, .ref S9.2.1), (9, .int (nI j)), (5, .long (lN c)), (8, .int (nI (d 0 2))), (4, .ref S8.2.1), (3, .int (nI (k + 1))), (1, .long (lN (lf d k))), (0, .ref e)]) rfl (Nat.le_of_ble_eq_true rfl) rfl ?_
                          refine n_iconst 0 rfl ?_
                          refine r_istore (lv' := [(8, .int (nI 0)), (7, .ref S9.2.1), (9, .int (nI j)), (5, .long (lN c)), (4, .ref S8.2.1), (3, .int (nI (k + 1))), (1, .long (lN (lf d k))), (0, .ref e)]) rfl (Nat.le_of_ble_eq_true rfl) rfl ?_
                          have hp25 : S22.1 S8.2.1 = oL (d 0 2) g9 := ((fr23.2.2 S8.2.1 (by omega) (fun z => z)).trans hby)
                          have hp26 : S22.1 e = oO 10 V8 := ((fr23.2.2 e (by omega) (fun z => z)).trans hV9b)
                          have hp27 : S22.1 S5.2.1 = oI0 0 (d 0 2) g14 := ((fr23.2.2 S5.2.1 (by omega) (fun z => z)).trans h914)
                          refine r_lv (lv' := [(8, .int (nI 0)), (7, .ref S9.2.1), (4, .ref S8.2.1), (5, .long (lN c)), (3, .int (nI (k + 1))), (1, .long (lN (lf d k))), (0, .ref e)]) [0, 1, 4, 3, 5, 6, 7] rfl ?_
                          have loopP : ∀ (m9_5 : Nat) (l : Nat) (S10 : AS) (ga : Nat → Int32), d 0 2 - l < m9_5 → (S10.2.2 = true) → (l ≤ d 0 2) → (Fr S0 S10 (fun i => i = e)) → (S10.2.1 = S22.2.1) → (S10.1 e = oO 10 V8) → (S10.1 (S5.2.1) = oI0 0 (d 0 2) ga ∧ (∀ p, p < l → ga p = nI (pk9 d (k + 1) p)) ∧ ∀ p, l ≤ p → p < d 0 2 → ga p = nI (pk9 d k p)) → (S10.1 (S8.2.1) = oL (d 0 2) g9) → (S10.1 S9.2.1 = oI0 0 (d 0 2) f5) → Wp sc mX10_settles 50 600 (k9 + 1 + 1) (n9 + (d 0 2) + 12) 206 [(8, .int (nI l)), (7, .ref S9.2.1), (4, .ref S8.2.1), (5, .long (lN c)), (3, .int (nI (k + 1))), (1, .long (lN (lf d k))), (0, .ref e)] [] S10 (AV0 fun S' => Fr S0 S' (fun i => i = e) ∧ ES X S' e d G ∧ eOld X S' e d ∧ eNew X S' e d G ∧ eSm S0 S' e) := by
                            intro m9_5
                            induction m9_5 with
                            | zero => intro l S10 ga hme; exact absurd hme (Nat.not_lt_zero _)
                            | succ m9_5 ih5 =>
                              intro l S10 ga hme hxS10 hl hF10 hz10 hV10 h1014 hbyA hrA
                              obtain ⟨h1014, hpl, hph⟩ := h1014
                              refine r_iload rfl rfl ?_
                              refine r_aload rfl rfl ?_
                              refine r_alenL rfl (by omega) hbyA ?_
                              refine n_icmp_ge (tgt := 235) rfl rfl (by omega) (by omega) (fun h5 => ?_) (fun h5 => ?_)
                              · have e5 : l = d 0 2 := by omega
                                rw [e5] at hpl
                                refine r_lload_n rfl rfl ?_
                                refine r_lload_n rfl rfl ?_
                                refine r_lload rfl rfl ?_
                                refine t_minL (μ := mX10_settles) (a := lf d k) (b := c) rfl ma_minJLX10_90 ma_minJS ma_minJC rfl rfl (by omega) (by omega) (by omega) (by omega) ?_
                                refine r_topL (y := lN (us d (k + 1))) (congrArg lN hus) ?_
                                refine n_lsub rfl (by omega) ?_
                                refine r_topL (y := lN (lf d (k + 1))) rfl ?_
                                refine r_lstore_n (lv' := [(1, .long (lN (lf d (k + 1)))), (8, .int (nI l)), (7, .ref S9.2.1), (4, .ref S8.2.1), (5, .long (lN c)), (3, .int (nI (k + 1))), (0, .ref e)]) rfl rfl (Nat.le_of_ble_eq_true rfl) rfl ?_
                                refine r_aload_n rfl rfl ?_
                                refine r_dup rfl rfl ?_
                                refine r_getf (v := .long (lN (du d k))) rfl flX10_84 (by omega) hV10 w23 ?_
                                refine r_lload rfl rfl ?_
                                refine n_ladd rfl ?_
                                refine r_topL (y := lN (du d (k + 1))) (by rw [hcs]; rfl) ?_
                                refine t_putf rfl flX10_84 (okv_l _) hxS10 (by omega) hV10 ?_
                                intro S28 w29
                                have z30 := w29.1
                                refine n_iinc (lv' := [(3, .int (nI ((k + 1) + 1))), (1, .long (lN (lf d (k + 1)))), (8, .int (nI l)), (7, .ref S9.2.1), (4, .ref S8.2.1), (5, .long (lN c)), (0, .ref e)]) 1 rfl rfl (Nat.le_of_ble_eq_true rfl) rfl ?_
                                refine r_goto (tgt := 84) rfl rfl ?_
                                have hp31 : S28.1 S5.2.1 = oI0 0 (d 0 2) ga := ((w29.2.2.2 S5.2.1 (by omega)).trans h1014)
                                refine r_lv (lv' := [(3, .int (nI ((k + 1) + 1))), (1, .long (lN (lf d (k + 1)))), (0, .ref e)]) [0, 1, 6] rfl ?_
                                exact ih2 (k + 1) S28 (k9 + 1 + 1) (n9 + (d 0 2) + 12) _ _ (by omega) w29.2.1 (by omega) (by omega) (by omega) ⟨by omega, w29.2.1, fun i hi (hn : ¬ (i = e)) => ((w29.2.2.2 i (by omega)).trans (hF10.2.2 i hi hn))⟩ (by omega) w29.2.2.1 (fun k hk => (aup_n _ _ (by omega)).trans (hVk8 k hk)) ((aup_n _ _ (by decide)).trans w14) ((aup_n _ _ (by decide)).trans w22) (aup_s _ _ _) ⟨hp31, hpl⟩
                              · have h5 : l < d 0 2 := by omega
                                refine r_aload_n rfl rfl ?_
                                refine r_getf (v := .ref S5.2.1) rfl flX10_87 (by omega) hV10 w14 ?_
                                refine r_iload rfl rfl ?_
                                refine r_dup2 rfl rfl rfl ?_
                                refine r_iald rfl (by omega) h1014 (by omega) (by omega) ?_
                                refine r_top (y := nI (pk9 d k l)) (hph l (Nat.le_refl _) h5) ?_
                                refine r_aload rfl rfl ?_
                                refine r_iload rfl rfl ?_
                                refine r_iald rfl (by omega) hrA (by omega) (by omega) ?_
                                refine r_top (y := nI (pr d (k + 1) l)) (hpr l h5) ?_
                                refine n_iadd rfl ?_
                                refine r_top (y := nI (pk9 d (k + 1) l)) (congrArg nI (pk9_s hd k l)) ?_
                                refine t_iast rfl hxS10 (by omega) h1014 (by omega) (by omega) ?_
                                intro S32 w33
                                have z34 := w33.1
                                refine n_iinc (lv' := [(8, .int (nI (l + 1))), (7, .ref S9.2.1), (4, .ref S8.2.1), (5, .long (lN c)), (3, .int (nI (k + 1))), (1, .long (lN (lf d k))), (0, .ref e)]) 1 rfl rfl (Nat.le_of_ble_eq_true rfl) rfl ?_
                                refine r_goto (tgt := 206) rfl rfl ?_
                                have hp35 : S32.1 e = oO 10 V8 := ((w33.2.2.2 e (by omega)).trans hV10)
                                have hp36 : S32.1 S8.2.1 = oL (d 0 2) g9 := ((w33.2.2.2 S8.2.1 (by omega)).trans hbyA)
                                have hp37 : S32.1 S9.2.1 = oI0 0 (d 0 2) f5 := ((w33.2.2.2 S9.2.1 (by omega)).trans hrA)
                                refine r_lv (lv' := [(8, .int (nI (l + 1))), (7, .ref S9.2.1), (4, .ref S8.2.1), (5, .long (lN c)), (3, .int (nI (k + 1))), (1, .long (lN (lf d k))), (0, .ref e)]) [0, 1, 2, 3, 4, 5, 6] rfl ?_
                                exact ih5 (l + 1) S32 _ (by omega) w33.2.1 (by omega) ⟨by omega, w33.2.1, fun i hi (hn : ¬ (i = e)) => ((w33.2.2.2 i (by omega)).trans (hF10.2.2 i hi hn))⟩ (by omega) hp35 ⟨w33.2.2.1, aup_lt hpl rfl, fun p p1 p2 => (aup_n _ _ (by omega)).trans (hph p (by omega) p2)⟩ hp36 hp37
                          exact loopP (d 0 2 + 1) 0 S22 _ (by omega) fr23.2.1 (Nat.zero_le _) ⟨by omega, fr23.2.1, fun i hi (hn : ¬ (i = e)) => ((fr23.2.2 i (by omega) (fun z => z)).trans (hF9.2.2 i hi hn))⟩ rfl hp26 ⟨hp27, fun p hp => absurd hp (Nat.not_lt_zero _), fun p _ hp => t14 p hp⟩ hp25 r5
                        · have h6 : j < d 0 2 := by omega
                          refine r_aload rfl rfl ?_
                          refine r_iload rfl rfl ?_
                          refine r_lald rfl (by omega) hby (by omega) (by omega) ?_
                          refine r_topL (y := lN (cl d (k + 1) j)) (hbl j h6) ?_
                          refine r_lstore (lv' := [(10, .long (lN (cl d (k + 1) j))), (9, .int (nI j)), (5, .long (lN c)), (8, .int (nI (d 0 2))), (7, .ref S8.2.1), (4, .ref S8.2.1), (3, .int (nI (k + 1))), (1, .long (lN (lf d k))), (0, .ref e)]) rfl (Nat.le_of_ble_eq_true rfl) rfl ?_
                          refine r_lload rfl rfl ?_
                          refine r_lload rfl rfl ?_
                          refine n_ladd rfl ?_
                          refine r_lstore (lv' := [(5, .long (lN (c + (cl d (k + 1) j)))), (10, .long (lN (cl d (k + 1) j))), (9, .int (nI j)), (8, .int (nI (d 0 2))), (7, .ref S8.2.1), (4, .ref S8.2.1), (3, .int (nI (k + 1))), (1, .long (lN (lf d k))), (0, .ref e)]) rfl (Nat.le_of_ble_eq_true rfl) rfl ?_
                          refine n_iinc (lv' := [(9, .int (nI (j + 1))), (5, .long (lN (c + (cl d (k + 1) j)))), (10, .long (lN (cl d (k + 1) j))), (8, .int (nI (d 0 2))), (7, .ref S8.2.1), (4, .ref S8.2.1), (3, .int (nI (k + 1))), (1, .long (lN (lf d k))), (0, .ref e)]) 1 rfl rfl (Nat.le_of_ble_eq_true rfl) rfl ?_
                          refine r_goto (tgt := 163) rfl rfl ?_
                          refine r_lv (lv' := [(9, .int (nI (j + 1))), (5, .long (lN (c + (cl d (k + 1) j)))), (8, .int (nI (d 0 2))), (7, .ref S8.2.1), (4, .ref S8.2.1), (3, .int (nI (k + 1))), (1, .long (lN (lf d k))), (0, .ref e)]) [0, 1, 3, 4, 5, 6, 7, 8] rfl ?_
                          exact ih4 (j + 1) (c + cl d (k + 1) j) (by omega) (by omega) (by rw [hcs]; rfl)
                    exact loopS (d 0 2 + 1) 0 0 (by omega) (Nat.zero_le _) rfl
                  · have h7 : i < d 0 2 := by omega
                    have hdi := vD hd i
                    obtain ⟨r1, ⟨r2, r3, -⟩, fr, r4, r5, r6⟩ := hrow2 i h7
                    have r7 : S9.1 (pl2 i) = oI0 0 2 fr := (hF9.2.2 (pl2 i) r3 (by omega)).trans r4
                    refine r_aload rfl rfl ?_
                    refine r_iload rfl rfl ?_
                    refine r_aload_n rfl rfl ?_
                    refine r_getf (v := .ref qd) rfl flX10_42 (by omega) hV9b ((hVk8 11 (by decide)).trans v11) ?_
                    refine r_iload rfl rfl ?_
                    refine r_aald (x := (pl2 i)) rfl (by omega) ((hF9.2.2 qd cb2 (by omega)).trans hW2) (by omega) (by omega) r1 ?_
                    refine n_iconst 0 rfl ?_
                    refine r_iald rfl (by omega) r7 (by decide) (by decide) ?_
                    refine r_top (y := nI (d 7 i)) r5 ?_
                    refine r_iload_n rfl rfl ?_
                    suffices K : Wp sc mX10_settles 50 600 (k9 + 1) (n9 + (d 0 2)) 144 [(7, .int (nI i)), (4, .ref S8.2.1), (5, .long (lN 0)), (3, .int (nI (k + 1))), (1, .long (lN (lf d k))), (0, .ref e)] [.long (lN (cl d (k + 1) i)), .int (nI i), .ref S8.2.1] S9 (AV0 fun S' => Fr S0 S' (fun i => i = e) ∧ ES X S' e d G ∧ eOld X S' e d ∧ eNew X S' e d G ∧ eSm S0 S' e) by
                      refine n_icmp_ne (tgt := 143) rfl rfl (by omega) (by omega) (fun h6 => ?_) (fun h6 => ?_)
                      · refine n_lconst0 rfl ?_
                        exact r_topL (y := lN (cl d (k + 1) i)) (by unfold cl; rw [if_neg (fun z => h6 z.2)]) K
                      · refine r_aload_n rfl rfl ?_
                        refine r_getf (v := .ref qd) rfl flX10_42 (by omega) hV9b ((hVk8 11 (by decide)).trans v11) ?_
                        refine r_iload rfl rfl ?_
                        refine r_aald (x := (pl2 i)) rfl (by omega) ((hF9.2.2 qd cb2 (by omega)).trans hW2) (by omega) (by omega) r1 ?_
                        refine n_iconst 1 rfl ?_
                        refine r_iald rfl (by omega) r7 (by decide) (by decide) ?_
                        refine r_top (y := nI (d 8 i)) r6 ?_
                        refine n_i2l rfl (by omega) ?_
                        refine r_goto (tgt := 144) rfl rfl ?_
                        exact r_topL (y := lN (cl d (k + 1) i)) (by unfold cl; rw [if_pos ⟨h7, h6⟩]) K
                    refine t_last rfl hxS9 (by omega) hby (by omega) (by omega) ?_
                    intro S38 w39
                    have z40 := w39.1
                    refine n_iinc (lv' := [(7, .int (nI (i + 1))), (4, .ref S8.2.1), (5, .long (lN 0)), (3, .int (nI (k + 1))), (1, .long (lN (lf d k))), (0, .ref e)]) 1 rfl rfl (Nat.le_of_ble_eq_true rfl) rfl ?_
                    refine r_goto (tgt := 105) rfl rfl ?_
                    have hp41 : S38.1 e = oO 10 V8 := ((w39.2.2.2 e (by omega)).trans hV9b)
                    have hp42 : S38.1 S5.2.1 = oI0 0 (d 0 2) g14 := ((w39.2.2.2 S5.2.1 (by omega)).trans h914)
                    refine r_lv (lv' := [(7, .int (nI (i + 1))), (4, .ref S8.2.1), (5, .long (lN 0)), (3, .int (nI (k + 1))), (1, .long (lN (lf d k))), (0, .ref e)]) [0, 1, 2, 3, 4, 5] rfl ?_
                    exact ih3 (i + 1) S38 _ (by omega) w39.2.1 (by omega) ⟨by omega, w39.2.1, fun i hi (hn : ¬ (i = e)) => ((w39.2.2.2 i (by omega)).trans (hF9.2.2 i hi hn))⟩ (by omega) hp41 hp42 ⟨w39.2.2.1, aup_lt hbl rfl⟩
              exact loopF (d 0 2 + 1) 0 S17 _ (by omega) w18.2.1 (Nat.zero_le _) ⟨by omega, w18.2.1, fun i hi (hn : ¬ (i = e)) => ((w18.2.2.2 i (by omega)).trans (hF8.2.2 i hi hn))⟩ rfl hp20 hp21 ⟨w18.2.2.1, fun p hp => absurd hp (Nat.not_lt_zero _)⟩
        exact ranks 6 0 S13 (0 + 1) (0 + (d 0 2)) _ _ (by omega) w14.2.1 (by omega) (by omega) (by omega) ⟨by omega, w14.2.1, fun i hi (hn : ¬ (i = e)) => ((w14.2.2.2 i (by omega)).trans ((w10.2.2.2 i (by omega)).trans ((w6.2.2.2 i (by omega)).trans (hF7.2.2 i hi hn))))⟩ (Nat.le_refl _) w14.2.2.1 (fun k hk => ((aup_n _ _ (by omega)).trans ((aup_n _ _ (by omega)).trans (hVk7 k hk)))) (aup_s _ _ _) ((aup_n _ _ (by decide)).trans ((aup_n _ _ (by decide)).trans u22)) ((aup_n _ _ (by decide)).trans (aup_s _ _ _)) ⟨hp16, fun i hi => by rw [pk9_0 hd]; rfl⟩
      · have h9 : i < d 0 1 := by omega
        have hvi := vV hd i
        have hns := nt_sub hd i
        have hpp : d 5 i * d 6 i ≤ 9999999 * 100 := Nat.mul_le_mul hvi.1 hvi.2
        obtain ⟨r1, ⟨r2, r0, r3, -⟩, fr, r4, r5, r6⟩ := hrow1 i h9
        have r7 : S7.1 (pl1 i) = oI0 0 2 fr := (hF7.2.2 (pl1 i) r3 (by omega)).trans r4
        refine r_aload_n rfl rfl ?_
        refine r_iload_n rfl rfl ?_
        refine r_aald (x := (pl1 i)) rfl (by omega) ((hF7.2.2 qa cb1 (by omega)).trans hW1) (by omega) (by omega) r1 ?_
        refine r_astore (lv' := [(4, .ref ((pl1 i))), (3, .int (nI i)), (1, .ref qa), (2, .int (nI (d 0 1))), (0, .ref e)]) rfl (Nat.le_of_ble_eq_true rfl) rfl ?_
        refine r_aload_n rfl rfl ?_
        refine r_dup rfl rfl ?_
        refine r_getf (v := .long (lN (sm (nt d) i))) rfl flX10_78 (by omega) hV7 u22 ?_
        refine r_aload rfl rfl ?_
        refine n_iconst 0 rfl ?_
        refine r_iald rfl (by omega) r7 (by decide) (by decide) ?_
        refine r_top (y := nI (d 5 i)) r5 ?_
        refine n_i2l rfl (by omega) ?_
        refine r_aload rfl rfl ?_
        refine n_iconst 0 rfl ?_
        refine r_iald rfl (by omega) r7 (by decide) (by decide) ?_
        refine r_top (y := nI (d 5 i)) r5 ?_
        refine n_i2l rfl (by omega) ?_
        refine r_aload rfl rfl ?_
        refine n_iconst 1 rfl ?_
        refine r_iald rfl (by omega) r7 (by decide) (by decide) ?_
        refine r_top (y := nI (d 6 i)) r6 ?_
        refine n_i2l rfl (by omega) ?_
        refine n_lmul rfl ?_
        refine r_ldc2 (v := lN 100) rfl kcX10_82 ?_
        refine n_ldiv rfl (by omega) (by omega) (by omega) ?_
        refine n_lsub rfl (by omega) ?_
        refine n_ladd rfl ?_
        refine t_putf rfl flX10_78 (okv_l _) hxS7 (by omega) hV7 ?_
        intro S43 w44
        have z45 := w44.1
        refine n_iinc (lv' := [(3, .int (nI (i + 1))), (4, .ref ((pl1 i))), (1, .ref qa), (2, .int (nI (d 0 1))), (0, .ref e)]) 1 rfl rfl (Nat.le_of_ble_eq_true rfl) rfl ?_
        refine r_goto (tgt := 15) rfl rfl ?_
        refine r_lv (lv' := [(3, .int (nI (i + 1))), (1, .ref qa), (2, .int (nI (d 0 1))), (0, .ref e)]) [0, 2, 3, 4] rfl ?_
        exact ih (i + 1) S43 _ (by omega) w44.2.1 (by omega) ⟨by omega, w44.2.1, fun i hi (hn : ¬ (i = e)) => ((w44.2.2.2 i (by omega)).trans (hF7.2.2 i hi hn))⟩ (by omega) w44.2.2.1 (fun k hk => (aup_n _ _ (by omega)).trans (hVk7 k hk)) ((aup_s _ _ _).trans rfl)
  exact loopN (d 0 1 + 1) 0 S1 _ (by omega) w2.2.1 (Nat.zero_le _) ⟨by omega, w2.2.1, fun i hi (hn : ¬ (i = e)) => ((w2.2.2.2 i (by omega)).trans (hF0.2.2 i hi hn))⟩ (by omega) w2.2.2.1 (fun k hk => aup_n _ _ (by omega)) (aup_s _ _ _)

