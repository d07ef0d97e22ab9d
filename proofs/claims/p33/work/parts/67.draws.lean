/-! The law's draws, its estate just made. -/
theorem ush_8 (x : Int32) : ∃ k, k < 16777216 ∧ (x.toUInt32 >>> ((nI 8).toUInt32 &&& Int32.toUInt32 31)).toInt32 = nI k := by
  refine ⟨(x.toUInt32 >>> 8).toNat, ?_, ?_⟩
  · rw [UInt32.toNat_shiftRight]
    have := x.toUInt32.toNat_lt
    show x.toUInt32.toNat >>> (8 % 32) < _
    rw [Nat.shiftRight_eq_div_pow, show (2 : Nat) ^ (8 % 32) = 256 by decide]
    omega
  · have e : (nI 8).toUInt32 &&& Int32.toUInt32 31 = 8 := by decide
    rw [e]
    apply Int32.toBitVec_inj.mp
    show (x.toUInt32 >>> 8).toBitVec = BitVec.ofNat 32 (x.toUInt32 >>> 8).toBitVec.toNat
    rw [BitVec.ofNat_toNat, BitVec.setWidth_eq]
theorem l_draw {sc : SC} {S : AS} {g m : Nat} {f : Nat → Int32} (hx : S.2.2 = true) (hg : g < S.2.1) (hG : S.1 g = oI0 0 1 f) (h0 : 0 < m) (hm : m < 100000) : Cal sc mL_draw 0 0 [.ref g, .int (nI m)] S (AR fun v S' => ∃ k f', k < m ∧ v = .int (nI k) ∧ Fr S S' (fun i => i = g) ∧ S'.2.1 = S.2.1 ∧ S'.1 g = oI0 0 1 f') := by
  refine Cal.of gmL_draw (Nat.le_of_ble_eq_true rfl) ?_
  show Wp sc mL_draw 0 0 0 0 0 [(0, .ref g), (1, .int (nI m))] [] S (AR fun v S' => ∃ k f', k < m ∧ v = .int (nI k) ∧ Fr S S' (fun i => i = g) ∧ S'.2.1 = S.2.1 ∧ S'.1 g = oI0 0 1 f')
  refine r_aload_n rfl rfl ?_
  refine n_iconst 0 rfl ?_
  refine r_aload_n rfl rfl ?_
  refine n_iconst 0 rfl ?_
  refine r_iald rfl (by omega) hG (by decide) (by decide) ?_
  refine r_ldc (v := nI 1664525) rfl kcL_23 ?_
  refine r_imul rfl ?_
  refine r_ldc (v := nI 1013904223) rfl kcL_24 ?_
  refine r_iadd rfl ?_
  refine t_iast rfl hx (by omega) hG (by decide) (by decide) ?_
  intro S1 w2
  have z3 := w2.1
  refine r_aload_n rfl rfl ?_
  refine n_iconst 0 rfl ?_
  refine r_iald rfl (by omega) w2.2.2.1 (by decide) (by decide) ?_
  refine n_bipush 8 rfl (by decide) ?_
  refine r_iushr rfl rfl ?_
  obtain ⟨k, hk, he⟩ := ush_8 (aup f 0 (((f 0) * (nI 1664525)) + (nI 1013904223)) 0)
  refine r_top (y := nI k) he ?_
  refine r_iload_n rfl rfl ?_
  refine n_irem rfl (by omega) (by omega) (by omega) ?_
  exact r_ret rfl rfl rfl (by omega) (by omega) (⟨_, rfl, _, _, Nat.mod_lt _ h0, rfl, (Fr.rf hx).wr w2 (fun _ => rfl), w2.1, w2.2.2.1⟩)

theorem n_X10 {sc : SC} {S : AS} {e : Nat} (hx : S.2.2 = true) (he : S.2.1 = e + 1) (hV : S.1 e = oO 10 (dW tyX10)) : Cal sc mX10_init 8 48 [.ref e] S (AV0 fun S' => Fr S S' (fun i => i = e) ∧ S'.2.1 = e + 9 ∧ (∃ V, S'.1 e = oO 10 V ∧ (V 0 = .int (nI 0) ∧ V 1 = .int (-1) ∧ V 2 = .int (nI 4) ∧ V 3 = .int (nI 1) ∧ V 4 = .int (nI 0) ∧ V 5 = .int (nI 1)) ∧ (V 6 = .ref (e + 1) ∧ V 7 = .ref (e + 2) ∧ V 8 = .ref (e + 3) ∧ V 9 = .ref (e + 4))) ∧ (S'.1 (e + 1) = oI0 0 12 (fun _ => 0) ∧ S'.1 (e + 2) = oI0 0 12 (fun _ => 0) ∧ S'.1 (e + 3) = oI0 2 12 (fun _ => 0) ∧ S'.1 (e + 4) = oI0 2 12 (fun _ => 0))) := by
  refine Cal.of gmX10_init (Nat.le_of_ble_eq_true rfl) ?_
  show Wp sc mX10_init 8 48 0 0 0 [(0, .ref e)] [] S (AV0 fun S' => Fr S S' (fun i => i = e) ∧ S'.2.1 = e + 9 ∧ (∃ V, S'.1 e = oO 10 V ∧ (V 0 = .int (nI 0) ∧ V 1 = .int (-1) ∧ V 2 = .int (nI 4) ∧ V 3 = .int (nI 1) ∧ V 4 = .int (nI 0) ∧ V 5 = .int (nI 1)) ∧ (V 6 = .ref (e + 1) ∧ V 7 = .ref (e + 2) ∧ V 8 = .ref (e + 3) ∧ V 9 = .ref (e + 4))) ∧ (S'.1 (e + 1) = oI0 0 12 (fun _ => 0) ∧ S'.1 (e + 2) = oI0 0 12 (fun _ => 0) ∧ S'.1 (e + 3) = oI0 2 12 (fun _ => 0) ∧ S'.1 (e + 4) = oI0 2 12 (fun _ => 0)))
  refine r_aload_n rfl rfl ?_
  refine r_obj (μ := mX10_init) rfl obX10_1 obI obC rfl rfl ?_
  refine r_aload_n rfl rfl ?_
  refine n_m1 rfl ?_
  refine t_putf rfl flX10_7 (okv_i _) hx (by omega) hV ?_
  intro S1 w2
  have z3 := w2.1
  refine r_aload_n rfl rfl ?_
  refine n_iconst 4 rfl ?_
  refine t_putf rfl flX10_13 (okv_i _) w2.2.1 (by omega) w2.2.2.1 ?_
  intro S4 w5
  have z6 := w5.1
  refine r_aload_n rfl rfl ?_
  refine n_iconst 1 rfl ?_
  refine t_putf rfl flX10_16 (okv_i _) w5.2.1 (by omega) w5.2.2.1 ?_
  intro S7 w8
  have z9 := w8.1
  refine r_aload_n rfl rfl ?_
  refine n_iconst 1 rfl ?_
  refine t_putf rfl flX10_19 (okv_z (Or.inr rfl)) w8.2.1 (by omega) w8.2.2.1 ?_
  intro S10 w11
  have z12 := w11.1
  refine r_aload_n rfl rfl ?_
  refine n_bipush 12 rfl (by decide) ?_
  refine t_newa0 rfl w11.2.1 (by decide) (by omega) (by omega) ?_
  intro S13 w14
  have z15 := w14.1
  have hp16 : S13.1 e = oO 10 (aup (aup (aup (aup (dW tyX10) 1 (.int ((-1)))) 2 (.int (nI 4))) 3 (.int (nI 1))) 5 (.int (nI 1))) := ((w14.2.2.2 e (by omega)).trans w11.2.2.1)
  refine t_putF rfl flX10_23 (fun r hr => by cases hr; rfl) rfl (okv_a _ _) w14.2.1 (by omega) hp16 ?_
  intro S17 w18
  have z19 := w18.1
  refine r_aload_n rfl rfl ?_
  refine n_bipush 12 rfl (by decide) ?_
  refine t_newa0 rfl w18.2.1 (by decide) (by omega) (by omega) ?_
  intro S20 w21
  have z22 := w21.1
  have hp23 : S20.1 e = oO 10 (aup (aup (aup (aup (aup (dW tyX10) 1 (.int ((-1)))) 2 (.int (nI 4))) 3 (.int (nI 1))) 5 (.int (nI 1))) 6 (.ref S10.2.1)) := ((w21.2.2.2 e (by omega)).trans w18.2.2.1)
  refine t_putF rfl flX10_27 (fun r hr => by cases hr; rfl) rfl (okv_a _ _) w21.2.1 (by omega) hp23 ?_
  intro S24 w25
  have z26 := w25.1
  refine r_aload_n rfl rfl ?_
  refine n_bipush 12 rfl (by decide) ?_
  refine t_newa2 rfl w25.2.1 (by decide) (by omega) (by omega) ?_
  intro S27 w28
  have z29 := w28.1
  have hp30 : S27.1 e = oO 10 (aup (aup (aup (aup (aup (aup (dW tyX10) 1 (.int ((-1)))) 2 (.int (nI 4))) 3 (.int (nI 1))) 5 (.int (nI 1))) 6 (.ref S10.2.1)) 7 (.ref S17.2.1)) := ((w28.2.2.2 e (by omega)).trans w25.2.2.1)
  refine t_putF rfl flX10_30 (fun r hr => by cases hr; rfl) rfl (okv_a _ _) w28.2.1 (by omega) hp30 ?_
  intro S31 w32
  have z33 := w32.1
  refine r_aload_n rfl rfl ?_
  refine n_bipush 12 rfl (by decide) ?_
  refine t_newa2 rfl w32.2.1 (by decide) (by omega) (by omega) ?_
  intro S34 w35
  have z36 := w35.1
  have hp37 : S34.1 e = oO 10 (aup (aup (aup (aup (aup (aup (aup (dW tyX10) 1 (.int ((-1)))) 2 (.int (nI 4))) 3 (.int (nI 1))) 5 (.int (nI 1))) 6 (.ref S10.2.1)) 7 (.ref S17.2.1)) 8 (.ref S24.2.1)) := ((w35.2.2.2 e (by omega)).trans w32.2.2.1)
  refine t_putF rfl flX10_34 (fun r hr => by cases hr; rfl) rfl (okv_a _ _) w35.2.1 (by omega) hp37 ?_
  intro S38 w39
  have z40 := w39.1
  refine r_aload_n rfl rfl ?_
  refine n_iconst 0 rfl ?_
  refine t_anewQ rfl awX10_37 w39.2.1 (by decide) (by omega) (by omega) ?_
  intro S41 w42
  have z43 := w42.1
  have hp44 : S41.1 e = oO 10 (aup (aup (aup (aup (aup (aup (aup (aup (dW tyX10) 1 (.int ((-1)))) 2 (.int (nI 4))) 3 (.int (nI 1))) 5 (.int (nI 1))) 6 (.ref S10.2.1)) 7 (.ref S17.2.1)) 8 (.ref S24.2.1)) 9 (.ref S31.2.1)) := ((w42.2.2.2 e (by omega)).trans w39.2.2.1)
  refine t_putf rfl flX10_38 (okv_a _ _) w42.2.1 (by omega) hp44 ?_
  intro S45 w46
  have z47 := w46.1
  refine r_aload_n rfl rfl ?_
  refine n_iconst 0 rfl ?_
  refine t_anewQ rfl awX10_37 w46.2.1 (by decide) (by omega) (by omega) ?_
  intro S48 w49
  have z50 := w49.1
  have hp51 : S48.1 e = oO 10 (aup (aup (aup (aup (aup (aup (aup (aup (aup (dW tyX10) 1 (.int ((-1)))) 2 (.int (nI 4))) 3 (.int (nI 1))) 5 (.int (nI 1))) 6 (.ref S10.2.1)) 7 (.ref S17.2.1)) 8 (.ref S24.2.1)) 9 (.ref S31.2.1)) 10 (.ref S38.2.1)) := ((w49.2.2.2 e (by omega)).trans w46.2.2.1)
  refine t_putf rfl flX10_42 (okv_a _ _) w49.2.1 (by omega) hp51 ?_
  intro S52 w53
  have z54 := w53.1
  refine r_aload_n rfl rfl ?_
  refine n_iconst 0 rfl ?_
  refine t_anewQ rfl awX10_37 w53.2.1 (by decide) (by omega) (by omega) ?_
  intro S55 w56
  have z57 := w56.1
  have hp58 : S55.1 e = oO 10 (aup (aup (aup (aup (aup (aup (aup (aup (aup (aup (dW tyX10) 1 (.int ((-1)))) 2 (.int (nI 4))) 3 (.int (nI 1))) 5 (.int (nI 1))) 6 (.ref S10.2.1)) 7 (.ref S17.2.1)) 8 (.ref S24.2.1)) 9 (.ref S31.2.1)) 10 (.ref S38.2.1)) 11 (.ref S45.2.1)) := ((w56.2.2.2 e (by omega)).trans w53.2.2.1)
  refine t_putf rfl flX10_45 (okv_a _ _) w56.2.1 (by omega) hp58 ?_
  intro S59 w60
  have z61 := w60.1
  refine r_aload_n rfl rfl ?_
  refine n_iconst 0 rfl ?_
  refine t_anewQ rfl awX10_37 w60.2.1 (by decide) (by omega) (by omega) ?_
  intro S62 w63
  have z64 := w63.1
  have hp65 : S62.1 e = oO 10 (aup (aup (aup (aup (aup (aup (aup (aup (aup (aup (aup (dW tyX10) 1 (.int ((-1)))) 2 (.int (nI 4))) 3 (.int (nI 1))) 5 (.int (nI 1))) 6 (.ref S10.2.1)) 7 (.ref S17.2.1)) 8 (.ref S24.2.1)) 9 (.ref S31.2.1)) 10 (.ref S38.2.1)) 11 (.ref S45.2.1)) 12 (.ref S52.2.1)) := ((w63.2.2.2 e (by omega)).trans w60.2.2.1)
  refine t_putf rfl flX10_48 (okv_a _ _) w63.2.1 (by omega) hp65 ?_
  intro S66 w67
  have z68 := w67.1
  have hz0 : S10.2.1 = e + 1 := by omega
  have hz1 : S17.2.1 = e + 2 := by omega
  have hz2 : S24.2.1 = e + 3 := by omega
  have hz3 : S31.2.1 = e + 4 := by omega
  have hp69 : S66.1 S10.2.1 = oI0 0 12 (fun _ => 0) := ((w67.2.2.2 S10.2.1 (by omega)).trans ((w63.2.2.2 S10.2.1 (by omega)).trans ((w60.2.2.2 S10.2.1 (by omega)).trans ((w56.2.2.2 S10.2.1 (by omega)).trans ((w53.2.2.2 S10.2.1 (by omega)).trans ((w49.2.2.2 S10.2.1 (by omega)).trans ((w46.2.2.2 S10.2.1 (by omega)).trans ((w42.2.2.2 S10.2.1 (by omega)).trans ((w39.2.2.2 S10.2.1 (by omega)).trans ((w35.2.2.2 S10.2.1 (by omega)).trans ((w32.2.2.2 S10.2.1 (by omega)).trans ((w28.2.2.2 S10.2.1 (by omega)).trans ((w25.2.2.2 S10.2.1 (by omega)).trans ((w21.2.2.2 S10.2.1 (by omega)).trans ((w18.2.2.2 S10.2.1 (by omega)).trans w14.2.2.1)))))))))))))))
  have hp70 : S66.1 S17.2.1 = oI0 0 12 (fun _ => 0) := ((w67.2.2.2 S17.2.1 (by omega)).trans ((w63.2.2.2 S17.2.1 (by omega)).trans ((w60.2.2.2 S17.2.1 (by omega)).trans ((w56.2.2.2 S17.2.1 (by omega)).trans ((w53.2.2.2 S17.2.1 (by omega)).trans ((w49.2.2.2 S17.2.1 (by omega)).trans ((w46.2.2.2 S17.2.1 (by omega)).trans ((w42.2.2.2 S17.2.1 (by omega)).trans ((w39.2.2.2 S17.2.1 (by omega)).trans ((w35.2.2.2 S17.2.1 (by omega)).trans ((w32.2.2.2 S17.2.1 (by omega)).trans ((w28.2.2.2 S17.2.1 (by omega)).trans ((w25.2.2.2 S17.2.1 (by omega)).trans w21.2.2.1)))))))))))))
  have hp71 : S66.1 S24.2.1 = oI0 2 12 (fun _ => 0) := ((w67.2.2.2 S24.2.1 (by omega)).trans ((w63.2.2.2 S24.2.1 (by omega)).trans ((w60.2.2.2 S24.2.1 (by omega)).trans ((w56.2.2.2 S24.2.1 (by omega)).trans ((w53.2.2.2 S24.2.1 (by omega)).trans ((w49.2.2.2 S24.2.1 (by omega)).trans ((w46.2.2.2 S24.2.1 (by omega)).trans ((w42.2.2.2 S24.2.1 (by omega)).trans ((w39.2.2.2 S24.2.1 (by omega)).trans ((w35.2.2.2 S24.2.1 (by omega)).trans ((w32.2.2.2 S24.2.1 (by omega)).trans w28.2.2.1)))))))))))
  have hp72 : S66.1 S31.2.1 = oI0 2 12 (fun _ => 0) := ((w67.2.2.2 S31.2.1 (by omega)).trans ((w63.2.2.2 S31.2.1 (by omega)).trans ((w60.2.2.2 S31.2.1 (by omega)).trans ((w56.2.2.2 S31.2.1 (by omega)).trans ((w53.2.2.2 S31.2.1 (by omega)).trans ((w49.2.2.2 S31.2.1 (by omega)).trans ((w46.2.2.2 S31.2.1 (by omega)).trans ((w42.2.2.2 S31.2.1 (by omega)).trans ((w39.2.2.2 S31.2.1 (by omega)).trans w35.2.2.1)))))))))
  exact r_vret rfl rfl (by omega) (by omega) (⟨rfl, ⟨by omega, w67.2.1, fun i hi (hn : ¬ (i = e)) => ((w67.2.2.2 i (by omega)).trans ((w63.2.2.2 i (by omega)).trans ((w60.2.2.2 i (by omega)).trans ((w56.2.2.2 i (by omega)).trans ((w53.2.2.2 i (by omega)).trans ((w49.2.2.2 i (by omega)).trans ((w46.2.2.2 i (by omega)).trans ((w42.2.2.2 i (by omega)).trans ((w39.2.2.2 i (by omega)).trans ((w35.2.2.2 i (by omega)).trans ((w32.2.2.2 i (by omega)).trans ((w28.2.2.2 i (by omega)).trans ((w25.2.2.2 i (by omega)).trans ((w21.2.2.2 i (by omega)).trans ((w18.2.2.2 i (by omega)).trans ((w14.2.2.2 i (by omega)).trans ((w11.2.2.2 i (by omega)).trans ((w8.2.2.2 i (by omega)).trans ((w5.2.2.2 i (by omega)).trans ((w2.2.2.2 i (by omega)).trans rfl))))))))))))))))))))⟩, by omega, ⟨_, w67.2.2.1, ⟨((aup_n _ _ (by decide)).trans ((aup_n _ _ (by decide)).trans ((aup_n _ _ (by decide)).trans ((aup_n _ _ (by decide)).trans ((aup_n _ _ (by decide)).trans ((aup_n _ _ (by decide)).trans ((aup_n _ _ (by decide)).trans ((aup_n _ _ (by decide)).trans ((aup_n _ _ (by decide)).trans ((aup_n _ _ (by decide)).trans ((aup_n _ _ (by decide)).trans ((aup_n _ _ (by decide)).trans rfl)))))))))))), ((aup_n _ _ (by decide)).trans ((aup_n _ _ (by decide)).trans ((aup_n _ _ (by decide)).trans ((aup_n _ _ (by decide)).trans ((aup_n _ _ (by decide)).trans ((aup_n _ _ (by decide)).trans ((aup_n _ _ (by decide)).trans ((aup_n _ _ (by decide)).trans ((aup_n _ _ (by decide)).trans ((aup_n _ _ (by decide)).trans ((aup_n _ _ (by decide)).trans (aup_s _ _ _)))))))))))), ((aup_n _ _ (by decide)).trans ((aup_n _ _ (by decide)).trans ((aup_n _ _ (by decide)).trans ((aup_n _ _ (by decide)).trans ((aup_n _ _ (by decide)).trans ((aup_n _ _ (by decide)).trans ((aup_n _ _ (by decide)).trans ((aup_n _ _ (by decide)).trans ((aup_n _ _ (by decide)).trans ((aup_n _ _ (by decide)).trans (aup_s _ _ _))))))))))), ((aup_n _ _ (by decide)).trans ((aup_n _ _ (by decide)).trans ((aup_n _ _ (by decide)).trans ((aup_n _ _ (by decide)).trans ((aup_n _ _ (by decide)).trans ((aup_n _ _ (by decide)).trans ((aup_n _ _ (by decide)).trans ((aup_n _ _ (by decide)).trans ((aup_n _ _ (by decide)).trans (aup_s _ _ _)))))))))), ((aup_n _ _ (by decide)).trans ((aup_n _ _ (by decide)).trans ((aup_n _ _ (by decide)).trans ((aup_n _ _ (by decide)).trans ((aup_n _ _ (by decide)).trans ((aup_n _ _ (by decide)).trans ((aup_n _ _ (by decide)).trans ((aup_n _ _ (by decide)).trans ((aup_n _ _ (by decide)).trans ((aup_n _ _ (by decide)).trans ((aup_n _ _ (by decide)).trans ((aup_n _ _ (by decide)).trans rfl)))))))))))), ((aup_n _ _ (by decide)).trans ((aup_n _ _ (by decide)).trans ((aup_n _ _ (by decide)).trans ((aup_n _ _ (by decide)).trans ((aup_n _ _ (by decide)).trans ((aup_n _ _ (by decide)).trans ((aup_n _ _ (by decide)).trans ((aup_n _ _ (by decide)).trans (aup_s _ _ _)))))))))⟩, ⟨(((aup_n _ _ (by decide)).trans ((aup_n _ _ (by decide)).trans ((aup_n _ _ (by decide)).trans ((aup_n _ _ (by decide)).trans ((aup_n _ _ (by decide)).trans ((aup_n _ _ (by decide)).trans ((aup_n _ _ (by decide)).trans (aup_s _ _ _))))))))).trans (congrArg Value.ref hz0), (((aup_n _ _ (by decide)).trans ((aup_n _ _ (by decide)).trans ((aup_n _ _ (by decide)).trans ((aup_n _ _ (by decide)).trans ((aup_n _ _ (by decide)).trans ((aup_n _ _ (by decide)).trans (aup_s _ _ _)))))))).trans (congrArg Value.ref hz1), (((aup_n _ _ (by decide)).trans ((aup_n _ _ (by decide)).trans ((aup_n _ _ (by decide)).trans ((aup_n _ _ (by decide)).trans ((aup_n _ _ (by decide)).trans (aup_s _ _ _))))))).trans (congrArg Value.ref hz2), (((aup_n _ _ (by decide)).trans ((aup_n _ _ (by decide)).trans ((aup_n _ _ (by decide)).trans ((aup_n _ _ (by decide)).trans (aup_s _ _ _)))))).trans (congrArg Value.ref hz3)⟩⟩, (by rw [← hz0]; exact hp69), (by rw [← hz1]; exact hp70), (by rw [← hz2]; exact hp71), (by rw [← hz3]; exact hp72)⟩)

