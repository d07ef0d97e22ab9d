/-! The law's shares: the last stage. -/
theorem oI_ne_oO {t m ci : Nat} {f : Nat → Int32} {V : Nat → Value} (h : oI0 t m f = oO ci V) : False := by cases h
theorem oO_in {ci : Nat} {V U : Nat → Value} (h : oO ci V = oO ci U) : V = U := by
  injection h with h
  injection h with h
  injection h
theorem ES.up {X : Nat → Prop} {S S' : AS} {e : Nat} {d : D} {G : Nat → Nat} {V V' : Nat → Value} (h : ES X S e d G) (hV : S.1 e = oO 10 V) (hF : Fr S S' (fun i => i = e)) (hV' : S'.1 e = oO 10 V') (hk : ∀ k, k < 14 → V' k = V k) : ES X S' e d G :=
  h.fr hF.1 (fun U hU => ⟨V', hV', fun k h1 => by rw [oO_in (hU.symm.trans hV)]; exact hk k h1⟩) h.e.2.2 (fun i i1 i2 i3 => ⟨hF.2.2 i i2 (by omega), i3⟩)
theorem eRow.up {X : Nat → Prop} {S S' : AS} {e q t m : Nat} {g : Nat → Int32} {V : Nat → Value} (h : eRow X S q t m g) (hV : S.1 e = oO 10 V) (hF : Fr S S' (fun i => i = e)) : eRow X S' q t m g := by
  obtain ⟨f, h1, ⟨h2, h3, h4⟩, h5⟩ := h
  refine ⟨f, (hF.2.2 q h3 (fun z => ?_)).trans h1, ⟨h2, Nat.lt_of_lt_of_le h3 hF.1, h4⟩, h5⟩
  rw [z] at h1
  exact oI_ne_oO (h1.symm.trans hV)
theorem eOld.up {X : Nat → Prop} {S S' : AS} {e : Nat} {d : D} {V V' : Nat → Value} (h : eOld X S e d) (hV : S.1 e = oO 10 V) (hF : Fr S S' (fun i => i = e)) (hV' : S'.1 e = oO 10 V') (hk : (V' 14 = V 14 ∧ V' 15 = V 15 ∧ V' 16 = V 16) ∧ V' 22 = V 22 ∧ V' 23 = V 23 ∧ V' 24 = V 24) : eOld X S' e d := by
  intro U hU
  obtain rfl := oO_in (hU.symm.trans hV')
  obtain ⟨q14, q15, q16, ⟨a1, a2, a3⟩, ⟨b1, b2, b3⟩, h3, h4, h5⟩ := h V hV
  obtain ⟨⟨k1, k2, k3⟩, k4, k5, k6⟩ := hk
  exact ⟨q14, q15, q16, ⟨k1.trans a1, k2.trans a2, k3.trans a3⟩, ⟨k4.trans b1, k5.trans b2, k6.trans b3⟩, h3.up hV hF, h4.up hV hF, h5.up hV hF⟩
/-- the object's first fourteen fields are as they were -/
def eSm (S S' : AS) (e : Nat) : Prop := ∀ V, S.1 e = oO 10 V → ∃ V', S'.1 e = oO 10 V' ∧ ∀ k, k < 14 → V' k = V k
theorem eSm.of {S S' : AS} {e : Nat} {V V' : Nat → Value} (hV : S.1 e = oO 10 V) (hV' : S'.1 e = oO 10 V') (hk : ∀ k, k < 14 → V' k = V k) : eSm S S' e := fun U hU => ⟨V', hV', fun k hk9 => by
  rw [oO_in (hU.symm.trans hV)]
  exact hk k hk9⟩
theorem eSm.tr {S S' S'' : AS} {e : Nat} (h : eSm S S' e) (g : eSm S' S'' e) : eSm S S'' e := by
  intro V hV
  obtain ⟨V', h1, h2⟩ := h V hV
  obtain ⟨V'', g1, g2⟩ := g V' h1
  exact ⟨V'', g1, fun k hk => (g2 k hk).trans (h2 k hk)⟩
/-- in the midst: weights, who is out, the estate's numbers; the last field holds y -/
def eMid (X : Nat → Prop) (S : AS) (e : Nat) (d : D) (G : Nat → Nat) (o : Nat → Bool) (y : Value → Prop) : Prop := ∀ V, S.1 e = oO 10 V → ∃ q18 q20 : Nat, (V 18 = .ref q18 ∧ V 20 = .ref q20 ∧ y (V 30)) ∧ (V 25 = .long (lN (a5 d)) ∧ V 26 = .long (lN (a6 d)) ∧ V 27 = .long (lN (a7 d)) ∧ V 28 = .long (lN (a8 d)) ∧ V 29 = .long (lN (a9 d))) ∧ eRow X S q18 0 (d 0 0) (fun p => nI (wt d p)) ∧ eRow X S q20 2 (d 0 0) (fun p => nI (tb (o p)))
theorem lo_hi {F : Nat} {G v : Nat → Nat} {k p : Nat} (h : v p = 0) : lo F G v k p = 0 := by
  have := lo_lw (F := F) (G := G) (w := v) (k := k) (p := p)
  omega
theorem w9_hi {d : D} {G : Nat → Nat} {p : Nat} (h : d 0 0 ≤ p) : w9G d G p = 0 := lo_hi (wt_hi h)
theorem w9_le {d : D} {G : Nat → Nat} (hd : Vd d) (p : Nat) : w9G d G p ≤ 4096 := Nat.le_trans lo_lw (wt_le hd p)
theorem po_b {d : D} {G : Nat → Nat} (hd : Vd d) (hGb : ∀ p, G p ≤ 89999991) : poG d G ≤ 1159999884 := by
  have h1 := pt_le (F := a8 d) (G := G) (w := w9G d G) (b := 89999991) (fun i _ => hGb i)
  have h2 := a8_le hd
  unfold poG
  omega
theorem sp_n {t m n : Nat} {v : Nat → Nat} (h : m ≤ n) (hz : ∀ i, m ≤ i → v i = 0) : sm v m = sm v n ∧ ∀ i, sp t (sm v m) v m i = sp t (sm v n) v n i := by
  have e1 : sm v n = sm v m := sm_ext h (fun i h1 _ => hz i h1)
  have e2 : sm (bs t (sm v m) v) n = sm (bs t (sm v m) v) m := sm_ext h (fun i h1 _ => by unfold bs; rw [hz i h1, Nat.mul_zero, Nat.zero_div])
  refine ⟨e1.symm, fun i => ?_⟩
  unfold sp ce
  rw [e1]
  have e3 : rm t (sm v m) v m i = rm t (sm v m) v n i := by
    rw [rm_ct, rm_ct i]
    show ((if sm v m = 0 then 0 else t) - sm (bs t (sm v m) v) m) - _ = ((if sm v m = 0 then 0 else t) - sm (bs t (sm v m) v) n) - _
    rw [e2]
  rw [e3]
def shI (d : D) (G : Nat → Nat) (i : Nat) (f17 f19 f21 : Nat → Int32) : Prop := (∀ p, p < i → f17 p = svG d G p ∧ f19 p = nI (due9 d G p) ∧ f21 p = nI (tb (cen9 d G p))) ∧ ∀ p, i ≤ p → f17 p = 0 ∧ f19 p = 0 ∧ f21 p = 0
theorem shI_0 {d : D} {G : Nat → Nat} : shI d G 0 (fun _ => 0) (fun _ => 0) (fun _ => 0) := ⟨fun _ h => absurd h (Nat.not_lt_zero _), fun _ _ => ⟨rfl, rfl, rfl⟩⟩
theorem shI_no {d : D} {G : Nat → Nat} {i : Nat} {f17 f19 f21 : Nat → Int32} (h : shI d G i f17 f19 f21) (hw : w9G d G i = 0) : shI d G (i + 1) f17 f19 f21 := by
  refine ⟨fun p hp => ?_, fun p hp => h.2 p (by omega)⟩
  by_cases e : p = i
  · subst e
    obtain ⟨h1, h2, h3⟩ := h.2 p (Nat.le_refl _)
    refine ⟨?_, ?_, ?_⟩
    · rw [h1]; unfold svG; rw [if_neg (by omega)]
    · rw [h2]; unfold due9 bs; rw [hw, Nat.mul_zero, Nat.zero_div]; rfl
    · rw [h3]; unfold cen9 ce; rw [decide_eq_false (fun z => by omega)]; rfl
  · exact h.1 p (by omega)
theorem shI_put {d : D} {G : Nat → Nat} {i : Nat} {f17 f19 f21 : Nat → Int32} (h : shI d G i f17 f19 f21) (hw : 0 < w9G d G i) : shI d G (i + 1) (aup f17 i (nI (psG d G i) - nI (G i))) (aup f19 i (nI (due9 d G i))) (aup f21 i (nI (tb (cen9 d G i)))) := by
  refine ⟨fun p hp => ?_, fun p hp => ?_⟩
  · by_cases e : p = i
    · subst e
      rw [aup_s, aup_s, aup_s]
      refine ⟨?_, rfl, rfl⟩
      unfold svG
      rw [if_pos hw]
    · rw [aup_n _ _ e, aup_n _ _ e, aup_n _ _ e]
      exact h.1 p (by omega)
  · have e : ¬ p = i := by omega
    rw [aup_n _ _ e, aup_n _ _ e, aup_n _ _ e]
    exact h.2 p (by omega)
theorem nar_tbz (c : Bool) : vp_nar .boolean (nI (tb c)) = nI (tb c) := by cases c <;> decide
theorem ps_due {d : D} {G : Nat → Nat} {p : Nat} : psG d G p = due9 d G p + tb (cen9 d G p) := rfl
set_option maxRecDepth 100000 in
theorem e_sh_D {sc : SC} {S : AS} {X : Nat → Prop} {e : Nat} {d : D} {G : Nat → Nat} {S0 : AS} (hd : Vd d) (hX : ∀ i, X i → i < S0.2.1) (h53 : 53 ≤ S0.2.1) (hx : S.2.2 = true) (hF0 : Fr S0 S (fun i => i = e)) (hE : ES X S e d G) (hR0 : eOld X S e d) (hS0 : eSm S0 S e) (hM : eMid X S e d G (ouG d G) (fun v => v = .long (lN (poG d G)))) {q6 k9 n9 : Nat} {g6 : Nat → Int64} (hq6 : q6 < S.2.1) (hb6 : S.1 q6 = oL (d 0 0) g6) (hg6 : ∀ p, p < d 0 0 → g6 p = lN (w9G d G p)) (hm12 : hm d ≤ 12) (hmz : hm d = 0 → sm (w9G d G) 12 = 0) (hk9 : k9 + 4 ≤ 30) (hn9 : n9 + 48 ≤ 400) : Wp sc mX10_shares 30 400 k9 n9 512 [(3, .int (nI (hm d))), (6, .ref q6), (0, .ref e)] [] S (AV0 fun S' => Fr S0 S' (fun i => i = e) ∧ ES X S' e d G ∧ eOld X S' e d ∧ eNew X S' e d G ∧ eSm S0 S' e) := by
  have hE9 := hE
  obtain ⟨V, qa, qd, qg, ql, hi, ⟨hV, ⟨v0, v1, v2, v3, v4, v5⟩, ⟨v6, v7, v8, v9⟩, ⟨v10, v11, v12, v13⟩⟩, ⟨f1, f2, f3, f4, ⟨hf1, k1⟩, ⟨hf2, k2⟩, ⟨hf3, k3⟩, ⟨hf4, k4⟩⟩, ⟨b1, b2, -, -⟩, b3, hEA, hED, hEG, hEL⟩ := hE9
  have hVA := vA hd
  have hVC := vC hd
  obtain ⟨q14, q15, q16, ⟨u14, u15, u16⟩, ⟨u22, u23, u24⟩, ⟨g14, r14, ⟨p14, l14, x14⟩, t14⟩, ⟨g15, r15, ⟨p15, l15, x15⟩, t15⟩, ⟨g16, r16, ⟨p16, l16, x16⟩, t16⟩⟩ := hR0 V hV
  obtain ⟨q18, q20, ⟨u18, u20, u30⟩, ⟨u25, u26, u27, u28, u29⟩, ⟨g18, r18, ⟨p18, l18, x18⟩, t18⟩, ⟨g20, r20, ⟨p20, l20, x20⟩, t20⟩⟩ := hM V hV
  have hGb := hE.G
  have hpo := po_b hd hGb
  have hz0 := hF0.1
  have hne6 : q6 ≠ e := fun z => by
    rw [z] at hb6
    cases hb6.symm.trans hV
  refine r_iload_n rfl rfl ?_
  suffices K : Wp sc mX10_shares 30 400 k9 n9 524 [(3, .int (nI (hm d))), (6, .ref q6), (0, .ref e)] [.long (lN ((if hm d = 0 then 0 else poG d G)))] S (AV0 fun S' => Fr S0 S' (fun i => i = e) ∧ ES X S' e d G ∧ eOld X S' e d ∧ eNew X S' e d G ∧ eSm S0 S' e) by
    refine n_if_ne (tgt := 520) rfl rfl (by omega) (fun h9 => ?_) (fun h9 => ?_)
    · refine r_aload_n rfl rfl ?_
      refine r_getf (v := .long (lN (poG d G))) rfl flX10_134 (by omega) hV u30 ?_
      exact r_topL (y := lN ((if hm d = 0 then 0 else poG d G))) (by rw [if_neg h9]) K
    · refine n_lconst0 rfl ?_
      refine r_goto (tgt := 524) rfl rfl ?_
      exact r_topL (y := lN ((if hm d = 0 then 0 else poG d G))) (by rw [if_pos h9]) K
  have hT : (if hm d = 0 then 0 else poG d G) ≤ 1159999884 := by split <;> omega
  refine r_aload rfl rfl ?_
  obtain ⟨hs1, hs2⟩ := sp_n (t := poG d G) (m := d 0 0) (n := 12) (v := w9G d G) (by omega) (fun i hi => w9_hi hi)
  refine c_staA [.long (lN ((if hm d = 0 then 0 else poG d G))), .ref q6] [] rfl lkX10_94 (e_splits (S := S) (T := (if hm d = 0 then 0 else poG d G)) (w := w9G d G) hx hq6 hb6 hg6 (fun i _ => Nat.le_trans (w9_le hd i) (by omega)) (Nat.le_trans hT (by decide)) (by omega)) rfl rfl (by omega) (by omega) rfl ?_
  rintro _ S1 ⟨rfl, fr2, hz1, f5, r5, t5⟩
  have z3 := fr2.1
  refine r_astore (lv' := [(7, .ref S.2.1), (3, .int (nI (hm d))), (6, .ref q6), (0, .ref e)]) rfl (Nat.le_of_ble_eq_true rfl) rfl ?_
  refine r_aload_n rfl rfl ?_
  refine r_aload_n rfl rfl ?_
  have hp4 : S1.1 e = oO 10 V := ((fr2.2.2 e (by omega) (fun z => z)).trans hV)
  refine r_getf (v := .int (nI (d 0 0))) rfl flX10_59 (by omega) hp4 v0 ?_
  refine t_newa0 rfl fr2.2.1 (by omega) (by omega) (by omega) ?_
  intro S5 w6
  have z7 := w6.1
  have hp8 : S5.1 e = oO 10 V := ((w6.2.2.2 e (by omega)).trans hp4)
  refine t_putf rfl flX10_140 (okv_a _ _) w6.2.1 (by omega) hp8 ?_
  intro S9 w10
  have z11 := w10.1
  refine r_aload_n rfl rfl ?_
  refine r_aload_n rfl rfl ?_
  refine r_getf (v := .int (nI (d 0 0))) rfl flX10_59 (by omega) w10.2.2.1 ((aup_n _ _ (by decide)).trans v0) ?_
  refine t_newa0 rfl w10.2.1 (by omega) (by omega) (by omega) ?_
  intro S12 w13
  have z14 := w13.1
  have hp15 : S12.1 e = oO 10 (aup V 17 (.ref S1.2.1)) := ((w13.2.2.2 e (by omega)).trans w10.2.2.1)
  refine t_putf rfl flX10_143 (okv_a _ _) w13.2.1 (by omega) hp15 ?_
  intro S16 w17
  have z18 := w17.1
  refine r_aload_n rfl rfl ?_
  refine r_aload_n rfl rfl ?_
  refine r_getf (v := .int (nI (d 0 0))) rfl flX10_59 (by omega) w17.2.2.1 ((aup_n _ _ (by decide)).trans ((aup_n _ _ (by decide)).trans v0)) ?_
  refine t_newa2 rfl w17.2.1 (by omega) (by omega) (by omega) ?_
  intro S19 w20
  have z21 := w20.1
  have hp22 : S19.1 e = oO 10 (aup (aup V 17 (.ref S1.2.1)) 19 (.ref S9.2.1)) := ((w20.2.2.2 e (by omega)).trans w17.2.2.1)
  refine t_putf rfl flX10_146 (okv_a _ _) w20.2.1 (by omega) hp22 ?_
  intro S23 w24
  have z25 := w24.1
  refine n_lconst0 rfl ?_
  refine r_lstore (lv' := [(8, .long (lN 0)), (7, .ref S.2.1), (3, .int (nI (hm d))), (6, .ref q6), (0, .ref e)]) rfl (Nat.le_of_ble_eq_true rfl) rfl ?_
  have hps : ∀ i, i < d 0 0 → 0 < w9G d G i → f5 i = nI (psG d G i) := fun i hi hw => by
    have h9 : ¬ hm d = 0 := fun z => by have := sm_pos (f := w9G d G) (i := i) (m := 12) (by omega); rw [hmz z] at this; omega
    rw [t5 i hi, if_neg h9, hs2]; rfl
  have hp26 : S23.1 q6 = oL (d 0 0) g6 := ((w24.2.2.2 q6 (by omega)).trans ((w20.2.2.2 q6 (by omega)).trans ((w17.2.2.2 q6 (by omega)).trans ((w13.2.2.2 q6 (by omega)).trans ((w10.2.2.2 q6 (by omega)).trans ((w6.2.2.2 q6 (by omega)).trans ((fr2.2.2 q6 (by omega) (fun z => z)).trans hb6)))))))
  have hp27 : S23.1 S1.2.1 = oI0 0 (d 0 0) (fun _ => 0) := ((w24.2.2.2 S1.2.1 (by omega)).trans ((w20.2.2.2 S1.2.1 (by omega)).trans ((w17.2.2.2 S1.2.1 (by omega)).trans ((w13.2.2.2 S1.2.1 (by omega)).trans ((w10.2.2.2 S1.2.1 (by omega)).trans w6.2.2.1)))))
  have hp28 : S23.1 S9.2.1 = oI0 0 (d 0 0) (fun _ => 0) := ((w24.2.2.2 S9.2.1 (by omega)).trans ((w20.2.2.2 S9.2.1 (by omega)).trans ((w17.2.2.2 S9.2.1 (by omega)).trans w13.2.2.1)))
  have hp29 : S23.1 S16.2.1 = oI0 2 (d 0 0) (fun _ => 0) := ((w24.2.2.2 S16.2.1 (by omega)).trans w20.2.2.1)
  have hp30 : S23.1 S.2.1 = oI0 0 (d 0 0) f5 := ((w24.2.2.2 S.2.1 (by omega)).trans ((w20.2.2.2 S.2.1 (by omega)).trans ((w17.2.2.2 S.2.1 (by omega)).trans ((w13.2.2.2 S.2.1 (by omega)).trans ((w10.2.2.2 S.2.1 (by omega)).trans ((w6.2.2.2 S.2.1 (by omega)).trans r5))))))
  refine r_aload rfl rfl ?_
  refine r_astore (lv' := [(10, .ref q6), (8, .long (lN 0)), (7, .ref S.2.1), (3, .int (nI (hm d))), (6, .ref q6), (0, .ref e)]) rfl (Nat.le_of_ble_eq_true rfl) rfl ?_
  refine r_aload rfl rfl ?_
  refine r_alenL rfl (by omega) hp26 ?_
  refine r_istore (lv' := [(11, .int (nI (d 0 0))), (10, .ref q6), (8, .long (lN 0)), (7, .ref S.2.1), (3, .int (nI (hm d))), (6, .ref q6), (0, .ref e)]) rfl (Nat.le_of_ble_eq_true rfl) rfl ?_
  refine n_iconst 0 rfl ?_
  refine r_istore (lv' := [(12, .int (nI 0)), (11, .int (nI (d 0 0))), (10, .ref q6), (8, .long (lN 0)), (7, .ref S.2.1), (3, .int (nI (hm d))), (6, .ref q6), (0, .ref e)]) rfl (Nat.le_of_ble_eq_true rfl) rfl ?_
  refine r_lv (lv' := [(12, .int (nI 0)), (8, .long (lN 0)), (11, .int (nI (d 0 0))), (10, .ref q6), (3, .int (nI (hm d))), (6, .ref q6), (7, .ref S.2.1), (0, .ref e)]) [0, 3, 1, 2, 5, 6, 4, 7] rfl ?_
  have loopA : ∀ (m9 : Nat) (i : Nat) (c : Nat), d 0 0 - i < m9 → (i ≤ d 0 0) → (c = sm (w9G d G) i) → Wp sc mX10_shares 30 400 (k9 + 1 + 1 + 1 + 1) (n9 + 12 + (d 0 0) + (d 0 0) + (d 0 0)) 576 [(12, .int (nI i)), (8, .long (lN c)), (11, .int (nI (d 0 0))), (10, .ref q6), (3, .int (nI (hm d))), (6, .ref q6), (7, .ref S.2.1), (0, .ref e)] [] S23 (AV0 fun S' => Fr S0 S' (fun i => i = e) ∧ ES X S' e d G ∧ eOld X S' e d ∧ eNew X S' e d G ∧ eSm S0 S' e) := by
    intro m9
    induction m9 with
    | zero => intro i c hme; exact absurd hme (Nat.not_lt_zero _)
    | succ m9 ih =>
      intro i c hme hi hcs
      refine r_iload rfl rfl ?_
      refine r_iload rfl rfl ?_
      refine n_icmp_ge (tgt := 603) rfl rfl (by omega) (by omega) (fun h9 => ?_) (fun h9 => ?_)
      · have e9 : i = d 0 0 := by omega
        rw [e9, hs1] at hcs
        have hc9 : c ≤ 12 * 4096 := by rw [hcs]; exact sm_w (fun i _ => w9_le hd i)
        refine n_iconst 0 rfl ?_
        refine r_istore (lv' := [(10, .int (nI 0)), (12, .int (nI i)), (8, .long (lN c)), (11, .int (nI (d 0 0))), (3, .int (nI (hm d))), (6, .ref q6), (7, .ref S.2.1), (0, .ref e)]) rfl (Nat.le_of_ble_eq_true rfl) rfl ?_
        refine r_lv (lv' := [(10, .int (nI 0)), (8, .long (lN c)), (3, .int (nI (hm d))), (6, .ref q6), (7, .ref S.2.1), (0, .ref e)]) [0, 2, 4, 5, 6, 7] rfl ?_
        have loopB : ∀ (m9_2 : Nat) (i2 : Nat) (S7 : AS) (f17 f19 f21 : Nat → Int32), d 0 0 - i2 < m9_2 → (S7.2.2 = true) → (i2 ≤ d 0 0) → (Fr S S7 (fun i => i = e)) → (S7.2.1 = S23.2.1) → (S7.1 e = oO 10 (aup (aup (aup V 17 (.ref S1.2.1)) 19 (.ref S9.2.1)) 21 (.ref S16.2.1))) → (S7.1 q6 = oL (d 0 0) g6) → (S7.1 S.2.1 = oI0 0 (d 0 0) f5) → (S7.1 (S1.2.1) = oI0 0 (d 0 0) f17 ∧ S7.1 (S9.2.1) = oI0 0 (d 0 0) f19 ∧ S7.1 (S16.2.1) = oI0 2 (d 0 0) f21) → (shI d G i2 f17 f19 f21) → Wp sc mX10_shares 30 400 (k9 + 1 + 1 + 1 + 1) (n9 + 12 + (d 0 0) + (d 0 0) + (d 0 0)) 606 [(10, .int (nI i2)), (8, .long (lN c)), (3, .int (nI (hm d))), (6, .ref q6), (7, .ref S.2.1), (0, .ref e)] [] S7 (AV0 fun S' => Fr S0 S' (fun i => i = e) ∧ ES X S' e d G ∧ eOld X S' e d ∧ eNew X S' e d G ∧ eSm S0 S' e) := by
          intro m9_2
          induction m9_2 with
          | zero => intro i2 S7 f17 f19 f21 hme; exact absurd hme (Nat.not_lt_zero _)
          | succ m9_2 ih2 =>
            intro i2 S7 f17 f19 f21 hme hxS7 hi2 hF hz7 hV7 hb7 h57 hA hI
            obtain ⟨hA17, hA19, hA21⟩ := hA
            have hE7 : ES X S7 e d G := hE.up hV hF hV7 (fun k hk => by rw [aup_n _ _ (by omega), aup_n _ _ (by omega), aup_n _ _ (by omega)])
            refine r_iload rfl rfl ?_
            refine r_aload_n rfl rfl ?_
            refine r_getf (v := .int (nI (d 0 0))) rfl flX10_59 (by omega) hV7 ((aup_n _ _ (by decide)).trans ((aup_n _ _ (by decide)).trans ((aup_n _ _ (by decide)).trans v0))) ?_
            refine n_icmp_ge (tgt := 701) rfl rfl (by omega) (by omega) (fun h8 => ?_) (fun h8 => ?_)
            · have e8 : i2 = d 0 0 := by omega
              rw [e8] at hI
              refine r_vret rfl rfl (by omega) (by omega) ⟨rfl, hF0.tr hF (fun _ _ z => z), hE7, hR0.up hV hF hV7 ⟨⟨((aup_n _ _ (by decide)).trans ((aup_n _ _ (by decide)).trans (aup_n _ _ (by decide)))), ((aup_n _ _ (by decide)).trans ((aup_n _ _ (by decide)).trans (aup_n _ _ (by decide)))), ((aup_n _ _ (by decide)).trans ((aup_n _ _ (by decide)).trans (aup_n _ _ (by decide))))⟩, ((aup_n _ _ (by decide)).trans ((aup_n _ _ (by decide)).trans (aup_n _ _ (by decide)))), ((aup_n _ _ (by decide)).trans ((aup_n _ _ (by decide)).trans (aup_n _ _ (by decide)))), ((aup_n _ _ (by decide)).trans ((aup_n _ _ (by decide)).trans (aup_n _ _ (by decide))))⟩, ?_, hS0.tr (eSm.of hV hV7 (fun k hk => by rw [aup_n _ _ (by omega), aup_n _ _ (by omega), aup_n _ _ (by omega)]))⟩
              intro U hU
              obtain rfl := oO_in (hU.symm.trans hV7)
              exact ⟨_, _, _, _, _, ⟨(aup_n _ _ (by decide)).trans ((aup_n _ _ (by decide)).trans (aup_s _ _ _)), (aup_n _ _ (by decide)).trans ((aup_n _ _ (by decide)).trans ((aup_n _ _ (by decide)).trans u18)), (aup_n _ _ (by decide)).trans (aup_s _ _ _), (aup_n _ _ (by decide)).trans ((aup_n _ _ (by decide)).trans ((aup_n _ _ (by decide)).trans u20)), aup_s _ _ _⟩, ⟨(aup_n _ _ (by decide)).trans ((aup_n _ _ (by decide)).trans ((aup_n _ _ (by decide)).trans u25)), (aup_n _ _ (by decide)).trans ((aup_n _ _ (by decide)).trans ((aup_n _ _ (by decide)).trans u26)), (aup_n _ _ (by decide)).trans ((aup_n _ _ (by decide)).trans ((aup_n _ _ (by decide)).trans u27)), (aup_n _ _ (by decide)).trans ((aup_n _ _ (by decide)).trans ((aup_n _ _ (by decide)).trans u28)), (aup_n _ _ (by decide)).trans ((aup_n _ _ (by decide)).trans ((aup_n _ _ (by decide)).trans u29)), (aup_n _ _ (by decide)).trans ((aup_n _ _ (by decide)).trans ((aup_n _ _ (by decide)).trans u30))⟩, ⟨f17, hA17, ⟨by omega, by omega, fun z9 => by have := hX _ z9; omega⟩, fun i hi => (hI.1 i hi).1⟩, eRow.up ⟨g18, r18, ⟨p18, l18, x18⟩, t18⟩ hV hF, ⟨f19, hA19, ⟨by omega, by omega, fun z9 => by have := hX _ z9; omega⟩, fun i hi => (hI.1 i hi).2.1⟩, eRow.up ⟨g20, r20, ⟨p20, l20, x20⟩, t20⟩ hV hF, ⟨f21, hA21, ⟨by omega, by omega, fun z9 => by have := hX _ z9; omega⟩, fun i hi => (hI.1 i hi).2.2⟩⟩
            · have h8 : i2 < d 0 0 := by omega
              have hwi := w9_le (G := G) hd i2
              refine r_aload rfl rfl ?_
              refine r_iload rfl rfl ?_
              refine r_lald rfl (by omega) hb7 (by omega) (by omega) ?_
              refine r_topL (y := lN (w9G d G i2)) (hg6 i2 h8) ?_
              refine n_lconst0 rfl ?_
              refine n_lcmp_ne (tgt := 628) rfl rfl rfl (by omega) (by omega) (fun h7 => ?_) (fun h7 => ?_)
              · have h6 : 0 < w9G d G i2 := by omega
                have hgf := hGb i2
                have hdu : due9 d G i2 ≤ poG d G := mul_div_le (sm_pos (by omega))
                have hpd := ps_due (d := d) (G := G) (p := i2)
                have htc : tb (cen9 d G i2) ≤ 1 := by cases cen9 d G i2 <;> decide
                have hcp : w9G d G i2 ≤ c := by rw [hcs]; exact sm_pos (by omega)
                have hpw : poG d G * w9G d G i2 ≤ 1159999884 * 4096 := Nat.mul_le_mul hpo hwi
                have hdc : poG d G * w9G d G i2 / c = due9 d G i2 := by rw [hcs]; rfl
                refine r_aload_n rfl rfl ?_
                refine r_getf (v := .ref S1.2.1) rfl flX10_140 (by omega) hV7 ((aup_n _ _ (by decide)).trans ((aup_n _ _ (by decide)).trans (aup_s _ _ _))) ?_
                refine r_iload rfl rfl ?_
                refine r_aload rfl rfl ?_
                refine r_iload rfl rfl ?_
                refine r_iald rfl (by omega) h57 (by omega) (by omega) ?_
                refine r_top (y := nI (psG d G i2)) (hps i2 h8 h6) ?_
                refine r_aload_n rfl rfl ?_
                refine r_iload rfl rfl ?_
                refine c_virA [.int (nI i2)] [.int (nI (psG d G i2)), .int (nI i2), .ref S1.2.1] rfl lkX10_137 (by omega) hV7 rfl rfl (e_gift (S := S7) hd hE7 (by omega)) rfl rfl (by omega) (by omega) rfl ?_
                rintro _ _ ⟨rfl, rfl⟩
                refine r_isub rfl ?_
                refine t_iast rfl hxS7 (by omega) hA17 (by omega) (by omega) ?_
                intro S31 w32
                have z33 := w32.1
                refine r_aload_n rfl rfl ?_
                have hp34 : S31.1 e = oO 10 (aup (aup (aup V 17 (.ref S1.2.1)) 19 (.ref S9.2.1)) 21 (.ref S16.2.1)) := ((w32.2.2.2 e (by omega)).trans hV7)
                refine r_getf (v := .ref S9.2.1) rfl flX10_143 (by omega) hp34 ((aup_n _ _ (by decide)).trans (aup_s _ _ _)) ?_
                refine r_iload rfl rfl ?_
                refine r_aload_n rfl rfl ?_
                refine r_getf (v := .long (lN (poG d G))) rfl flX10_134 (by omega) hp34 ((aup_n _ _ (by decide)).trans ((aup_n _ _ (by decide)).trans ((aup_n _ _ (by decide)).trans u30))) ?_
                refine r_aload rfl rfl ?_
                refine r_iload rfl rfl ?_
                have hp35 : S31.1 q6 = oL (d 0 0) g6 := ((w32.2.2.2 q6 (by omega)).trans hb7)
                refine r_lald rfl (by omega) hp35 (by omega) (by omega) ?_
                refine r_topL (y := lN (w9G d G i2)) (hg6 i2 h8) ?_
                refine n_lmul rfl ?_
                refine r_lload rfl rfl ?_
                refine n_ldiv rfl (by omega) (by omega) (by omega) ?_
                refine n_l2i rfl ?_
                refine r_top (y := nI (due9 d G i2)) (congrArg nI hdc) ?_
                have hp36 : S31.1 S9.2.1 = oI0 0 (d 0 0) f19 := ((w32.2.2.2 S9.2.1 (by omega)).trans hA19)
                refine t_iast rfl w32.2.1 (by omega) hp36 (by omega) (by omega) ?_
                intro S37 w38
                have z39 := w38.1
                refine r_aload_n rfl rfl ?_
                have hp40 : S37.1 e = oO 10 (aup (aup (aup V 17 (.ref S1.2.1)) 19 (.ref S9.2.1)) 21 (.ref S16.2.1)) := ((w38.2.2.2 e (by omega)).trans hp34)
                refine r_getf (v := .ref S16.2.1) rfl flX10_146 (by omega) hp40 (aup_s _ _ _) ?_
                refine r_iload rfl rfl ?_
                refine r_aload rfl rfl ?_
                refine r_iload rfl rfl ?_
                have hp41 : S37.1 S.2.1 = oI0 0 (d 0 0) f5 := ((w38.2.2.2 S.2.1 (by omega)).trans ((w32.2.2.2 S.2.1 (by omega)).trans h57))
                refine r_iald rfl (by omega) hp41 (by omega) (by omega) ?_
                refine r_top (y := nI (psG d G i2)) (hps i2 h8 h6) ?_
                refine r_aload_n rfl rfl ?_
                refine r_getf (v := .ref S9.2.1) rfl flX10_143 (by omega) hp40 ((aup_n _ _ (by decide)).trans (aup_s _ _ _)) ?_
                refine r_iload rfl rfl ?_
                refine r_iald rfl (by omega) w38.2.2.1 (by omega) (by omega) ?_
                refine r_top (y := nI (due9 d G i2)) (aup_s _ _ _) ?_
                have hp42 : S37.1 S1.2.1 = oI0 0 (d 0 0) (aup f17 i2 ((nI (psG d G i2)) - (nI (G i2)))) := ((w38.2.2.2 S1.2.1 (by omega)).trans w32.2.2.1)
                refine n_icmp_le (tgt := 693) rfl rfl (by omega) (by omega) (fun h5 => ?_) (fun h5 => ?_)
                · have hcn : nI 0 = nI (tb (cen9 d G i2)) := by
                    cases hc : cen9 d G i2
                    · rfl
                    · exfalso; rw [hc] at hpd; have e5 : tb true = 1 := rfl; omega
                  refine n_iconst 0 rfl ?_
                  refine r_top (y := nI (tb (cen9 d G i2))) hcn ?_
                  have hp43 : S37.1 S16.2.1 = oI0 2 (d 0 0) f21 := ((w38.2.2.2 S16.2.1 (by omega)).trans ((w32.2.2.2 S16.2.1 (by omega)).trans hA21))
                  refine t_zast rfl w38.2.1 (by omega) hp43 (by omega) (by omega) (nar_tbz _) ?_
                  intro S44 w45
                  have z46 := w45.1
                  refine n_iinc (lv' := [(10, .int (nI (i2 + 1))), (8, .long (lN c)), (3, .int (nI (hm d))), (6, .ref q6), (7, .ref S.2.1), (0, .ref e)]) 1 rfl rfl (Nat.le_of_ble_eq_true rfl) rfl ?_
                  refine r_goto (tgt := 606) rfl rfl ?_
                  have hp47 : S44.1 e = oO 10 (aup (aup (aup V 17 (.ref S1.2.1)) 19 (.ref S9.2.1)) 21 (.ref S16.2.1)) := ((w45.2.2.2 e (by omega)).trans hp40)
                  have hp48 : S44.1 q6 = oL (d 0 0) g6 := ((w45.2.2.2 q6 (by omega)).trans ((w38.2.2.2 q6 (by omega)).trans hp35))
                  have hp49 : S44.1 S.2.1 = oI0 0 (d 0 0) f5 := ((w45.2.2.2 S.2.1 (by omega)).trans hp41)
                  have hp50 : S44.1 S1.2.1 = oI0 0 (d 0 0) (aup f17 i2 ((nI (psG d G i2)) - (nI (G i2)))) := ((w45.2.2.2 S1.2.1 (by omega)).trans hp42)
                  have hp51 : S44.1 S9.2.1 = oI0 0 (d 0 0) (aup f19 i2 (nI (due9 d G i2))) := ((w45.2.2.2 S9.2.1 (by omega)).trans w38.2.2.1)
                  refine r_lv (lv' := [(10, .int (nI (i2 + 1))), (8, .long (lN c)), (3, .int (nI (hm d))), (6, .ref q6), (7, .ref S.2.1), (0, .ref e)]) [0, 1, 2, 3, 4, 5] rfl ?_
                  exact ih2 (i2 + 1) S44 _ _ _ (by omega) w45.2.1 (by omega) ⟨by omega, w45.2.1, fun i hi (hn : ¬ (i = e)) => ((w45.2.2.2 i (by omega)).trans ((w38.2.2.2 i (by omega)).trans ((w32.2.2.2 i (by omega)).trans (hF.2.2 i hi hn))))⟩ (by omega) hp47 hp48 hp49 ⟨hp50, hp51, w45.2.2.1⟩ (shI_put hI h6)
                · have hcn : nI 1 = nI (tb (cen9 d G i2)) := by
                    cases hc : cen9 d G i2
                    · exfalso; rw [hc] at hpd; have e5 : tb false = 0 := rfl; omega
                    · rfl
                  refine n_iconst 1 rfl ?_
                  refine r_goto (tgt := 694) rfl rfl ?_
                  refine r_top (y := nI (tb (cen9 d G i2))) hcn ?_
                  have hp52 : S37.1 S16.2.1 = oI0 2 (d 0 0) f21 := ((w38.2.2.2 S16.2.1 (by omega)).trans ((w32.2.2.2 S16.2.1 (by omega)).trans hA21))
                  refine t_zast rfl w38.2.1 (by omega) hp52 (by omega) (by omega) (nar_tbz _) ?_
                  intro S53 w54
                  have z55 := w54.1
                  refine n_iinc (lv' := [(10, .int (nI (i2 + 1))), (8, .long (lN c)), (3, .int (nI (hm d))), (6, .ref q6), (7, .ref S.2.1), (0, .ref e)]) 1 rfl rfl (Nat.le_of_ble_eq_true rfl) rfl ?_
                  refine r_goto (tgt := 606) rfl rfl ?_
                  have hp56 : S53.1 e = oO 10 (aup (aup (aup V 17 (.ref S1.2.1)) 19 (.ref S9.2.1)) 21 (.ref S16.2.1)) := ((w54.2.2.2 e (by omega)).trans hp40)
                  have hp57 : S53.1 q6 = oL (d 0 0) g6 := ((w54.2.2.2 q6 (by omega)).trans ((w38.2.2.2 q6 (by omega)).trans hp35))
                  have hp58 : S53.1 S.2.1 = oI0 0 (d 0 0) f5 := ((w54.2.2.2 S.2.1 (by omega)).trans hp41)
                  have hp59 : S53.1 S1.2.1 = oI0 0 (d 0 0) (aup f17 i2 ((nI (psG d G i2)) - (nI (G i2)))) := ((w54.2.2.2 S1.2.1 (by omega)).trans hp42)
                  have hp60 : S53.1 S9.2.1 = oI0 0 (d 0 0) (aup f19 i2 (nI (due9 d G i2))) := ((w54.2.2.2 S9.2.1 (by omega)).trans w38.2.2.1)
                  refine r_lv (lv' := [(10, .int (nI (i2 + 1))), (8, .long (lN c)), (3, .int (nI (hm d))), (6, .ref q6), (7, .ref S.2.1), (0, .ref e)]) [0, 1, 2, 3, 4, 5] rfl ?_
                  exact ih2 (i2 + 1) S53 _ _ _ (by omega) w54.2.1 (by omega) ⟨by omega, w54.2.1, fun i hi (hn : ¬ (i = e)) => ((w54.2.2.2 i (by omega)).trans ((w38.2.2.2 i (by omega)).trans ((w32.2.2.2 i (by omega)).trans (hF.2.2 i hi hn))))⟩ (by omega) hp56 hp57 hp58 ⟨hp59, hp60, w54.2.2.1⟩ (shI_put hI h6)
              · refine r_goto (tgt := 695) rfl rfl ?_
                refine n_iinc (lv' := [(10, .int (nI (i2 + 1))), (8, .long (lN c)), (3, .int (nI (hm d))), (6, .ref q6), (7, .ref S.2.1), (0, .ref e)]) 1 rfl rfl (Nat.le_of_ble_eq_true rfl) rfl ?_
                refine r_goto (tgt := 606) rfl rfl ?_
                refine r_lv (lv' := [(10, .int (nI (i2 + 1))), (8, .long (lN c)), (3, .int (nI (hm d))), (6, .ref q6), (7, .ref S.2.1), (0, .ref e)]) [0, 1, 2, 3, 4, 5] rfl ?_
                exact ih2 (i2 + 1) S7 f17 f19 f21 (by omega) hxS7 (by omega) hF hz7 hV7 hb7 h57 ⟨hA17, hA19, hA21⟩ (shI_no hI h7)
        exact loopB (d 0 0 + 1) 0 S23 _ _ _ (by omega) w24.2.1 (Nat.zero_le _) ⟨by omega, w24.2.1, fun i hi (hn : ¬ (i = e)) => ((w24.2.2.2 i (by omega)).trans ((w20.2.2.2 i (by omega)).trans ((w17.2.2.2 i (by omega)).trans ((w13.2.2.2 i (by omega)).trans ((w10.2.2.2 i (by omega)).trans ((w6.2.2.2 i (by omega)).trans ((fr2.2.2 i (by omega) (fun z => z)).trans rfl)))))))⟩ rfl w24.2.2.1 hp26 hp30 ⟨hp27, hp28, hp29⟩ shI_0
      · have h9 : i < d 0 0 := by omega
        refine r_aload rfl rfl ?_
        refine r_iload rfl rfl ?_
        refine r_lald rfl (by omega) hp26 (by omega) (by omega) ?_
        refine r_topL (y := lN (w9G d G i)) (hg6 i h9) ?_
        refine r_lstore (lv' := [(13, .long (lN (w9G d G i))), (12, .int (nI i)), (8, .long (lN c)), (11, .int (nI (d 0 0))), (10, .ref q6), (3, .int (nI (hm d))), (6, .ref q6), (7, .ref S.2.1), (0, .ref e)]) rfl (Nat.le_of_ble_eq_true rfl) rfl ?_
        refine r_lload rfl rfl ?_
        refine r_lload rfl rfl ?_
        refine n_ladd rfl ?_
        refine r_lstore (lv' := [(8, .long (lN (c + (w9G d G i)))), (13, .long (lN (w9G d G i))), (12, .int (nI i)), (11, .int (nI (d 0 0))), (10, .ref q6), (3, .int (nI (hm d))), (6, .ref q6), (7, .ref S.2.1), (0, .ref e)]) rfl (Nat.le_of_ble_eq_true rfl) rfl ?_
        refine n_iinc (lv' := [(12, .int (nI (i + 1))), (8, .long (lN (c + (w9G d G i)))), (13, .long (lN (w9G d G i))), (11, .int (nI (d 0 0))), (10, .ref q6), (3, .int (nI (hm d))), (6, .ref q6), (7, .ref S.2.1), (0, .ref e)]) 1 rfl rfl (Nat.le_of_ble_eq_true rfl) rfl ?_
        refine r_goto (tgt := 576) rfl rfl ?_
        refine r_lv (lv' := [(12, .int (nI (i + 1))), (8, .long (lN (c + (w9G d G i)))), (11, .int (nI (d 0 0))), (10, .ref q6), (3, .int (nI (hm d))), (6, .ref q6), (7, .ref S.2.1), (0, .ref e)]) [0, 1, 3, 4, 5, 6, 7, 8] rfl ?_
        exact ih (i + 1) (c + w9G d G i) (by omega) (by omega) (by rw [hcs]; rfl)
  exact loopA (d 0 0 + 1) 0 0 (by omega) (Nat.zero_le _) rfl

theorem l_lcmp_gt {sc : SC} {μ : MI} {mc ms k n pc : Nat} {lv : List (Nat × Value)} {st : List Value} {S : AS} {Q : Out → AS → Prop} {x y : Int64} {off : Int} {tgt : Nat} (h : cf (mCd μ) pc = some (.lcmp, 1)) (h2 : cf (mCd μ) (pc + 1) = some (.ifCond .gt off, 3)) (ht : (pc : Int) + 1 + off = (tgt : Int)) (kt : y < x → Wp sc μ mc ms k n tgt lv st S Q) (kf : ¬ y < x → Wp sc μ mc ms k n (pc + 4) lv st S Q) : Wp sc μ mc ms k n pc lv (.long y :: .long x :: st) S Q := by
  refine r_lcmp h (r_if_gt h2 (by rw [← ht]; rfl) (fun q => kt ?_) (fun q => kf ?_))
  · apply Classical.byContradiction
    intro z
    exact Int32.not_le.mpr q (lgc_le.mpr z)
  · exact lgc_le.mp (Int32.not_lt.mp q)
/-- the weights in account, and who is out, at a round -/
def lk3 (d : D) (G : Nat → Nat) (k : Nat) : Nat → Nat := lo (a8 d) G (wt d) k
def ok3 (d : D) (G : Nat → Nat) (k p : Nat) : Bool := ot (a8 d) G (wt d) k p
def ov3 (d : D) (G : Nat → Nat) (k : Nat) : Nat → Nat := ov (a8 d) G (lk3 d G k)
def gs3 (d : D) (G : Nat → Nat) (k p : Nat) : Nat := if 0 < lk3 d G k p then G p else 0
theorem lk_out {d : D} {G : Nat → Nat} {k p : Nat} (h : wt d p = 0 ∨ ok3 d G k p = true) : lk3 d G k p = 0 := by
  rcases h with h | h
  · exact lo_hi h
  · unfold ok3 ot at h
    rw [Bool.and_eq_true] at h
    exact eq_of_beq h.2
theorem lk_in {d : D} {G : Nat → Nat} {k p : Nat} (h : 0 < wt d p) (ho : ok3 d G k p = false) : lk3 d G k p = wt d p := by
  rcases lo_le (a8 d) G (wt d) k p with q | q
  · exact q
  · unfold ok3 ot at ho
    rw [q, decide_eq_true h] at ho
    cases ho
theorem lk_hi {d : D} {G : Nat → Nat} {k p : Nat} (h : d 0 0 ≤ p) : lk3 d G k p = 0 := lo_hi (wt_hi h)
theorem lk_le {d : D} {G : Nat → Nat} (hd : Vd d) (k p : Nat) : lk3 d G k p ≤ 4096 := Nat.le_trans lo_lw (wt_le hd p)
theorem lk_sm {d : D} {G : Nat → Nat} (hd : Vd d) (k : Nat) : sm (lk3 d G k) (d 0 0) = sm (lk3 d G k) 12 := (sm_ext (vC hd).1 (fun _ h1 _ => lk_hi h1)).symm
theorem gs_sm {d : D} {G : Nat → Nat} (hd : Vd d) (k : Nat) : a8 d + sm (gs3 d G k) (d 0 0) = pt (a8 d) G (lk3 d G k) := by
  have h : sm (gs3 d G k) 12 = sm (gs3 d G k) (d 0 0) := sm_ext (vC hd).1 (fun i h1 _ => by unfold gs3; rw [lk_hi h1]; rfl)
  rw [← h]
  rfl
theorem ws_n {d : D} {G : Nat → Nat} (hd : Vd d) (k : Nat) : ws (ov3 d G k) 12 = ws (ov3 d G k) (d 0 0) := ws_ext (vC hd).1 (fun i h1 _ => by unfold ov3 ov; rw [lk_hi h1]; rfl)
theorem pt3_b {d : D} {G : Nat → Nat} (hd : Vd d) (hGb : ∀ p, G p ≤ 89999991) (k : Nat) : pt (a8 d) G (lk3 d G k) ≤ 1159999884 := by
  have h1 := pt_le (F := a8 d) (G := G) (w := lk3 d G k) (b := 89999991) (fun i _ => hGb i)
  have h2 := a8_le hd
  omega
theorem rd_ct {d : D} {G : Nat → Nat} {k j : Nat} (hj : (ws (ov3 d G k) 12).1 = j + 1) : k + 1 ≤ 12 ∧ j < 12 ∧ 0 < lk3 d G k j := by
  have h1 := (ws_sp (ov3 d G k) 12).2.2 j hj
  have h2 : 0 < lk3 d G k j := ov_w h1.2.2
  have h3 := ct_z h1.1 h2
  rcases lo_ct (F := a8 d) (G := G) (w := wt d) k with q | q
  · exact absurd (hj.symm.trans q) (by omega)
  · refine ⟨?_, h1.1, h2⟩
    have h4 : ct (lk3 d G k) + k ≤ 12 := q
    omega
theorem ok_0 {d : D} {G : Nat → Nat} {p : Nat} : ok3 d G 0 p = false := ot_0 p
theorem ok_s {d : D} {G : Nat → Nat} {k j : Nat} (h : (ws (ov3 d G k) 12).1 = j + 1) {i : Nat} (hi : i < 12) : ok3 d G (k + 1) i = (ok3 d G k i || i == j) := ot_s h i hi
theorem ok_e {d : D} {G : Nat → Nat} {k : Nat} (hk : k ≤ 12) (h : (ws (ov3 d G k) 12).1 = 0) : w9G d G = lk3 d G k ∧ ∀ p, ouG d G p = ok3 d G k p := by
  have e : w9G d G = lk3 d G k := ot_fix hk h
  refine ⟨e, fun p => ?_⟩
  unfold ouG
  rw [e]
  rfl
theorem ws_st {o : Nat → Nat} {i x m : Nat} (h : ws o i = (x, m)) : ws o (i + 1) = if m < o i then (i + 1, o i) else (x, m) := by
  show (if (ws o i).2 < o i then (i + 1, o i) else ws o i) = _
  rw [h]
set_option maxRecDepth 100000 in
theorem e_sh_C {sc : SC} {S : AS} {X : Nat → Prop} {e q18 q20 k9 n9 : Nat} {d : D} {G : Nat → Nat} {S0 : AS} {V0 V : Nat → Value} {g18 g20 : Nat → Int32} (hd : Vd d) (hX : ∀ i, X i → i < S0.2.1) (h53 : 53 ≤ S0.2.1) (hx : S.2.2 = true) (hF0 : Fr S0 S (fun i => i = e)) (hE0 : ES X S0 e d G) (hR00 : eOld X S0 e d) (hV0 : S0.1 e = oO 10 V0) (hV : S.1 e = oO 10 V) (hVk : ∀ k, (k < 17 ∨ (22 ≤ k ∧ k < 25)) → V k = V0 k) (u18 : V 18 = .ref q18) (u20 : V 20 = .ref q20) (u2 : V 25 = .long (lN (a5 d)) ∧ V 26 = .long (lN (a6 d)) ∧ V 27 = .long (lN (a7 d)) ∧ V 28 = .long (lN (a8 d)) ∧ V 29 = .long (lN (a9 d))) (r18 : S.1 q18 = oI0 0 (d 0 0) g18) (t18 : ∀ p, p < d 0 0 → g18 p = nI (wt d p)) (z18 : S0.2.1 ≤ q18 ∧ q18 < S.2.1) (r20 : S.1 q20 = oI0 2 (d 0 0) g20) (t20 : ∀ p, p < d 0 0 → g20 p = nI 0) (z20 : S0.2.1 ≤ q20 ∧ q20 < S.2.1 ∧ q20 ≠ q18) (hm12 : hm d ≤ 12) (hmz : hm d = 0 → sm (w9G d G) 12 = 0) (hk9 : k9 + 13 ≤ 26) (hn9 : n9 + 156 ≤ 352) : Wp sc mX10_shares 30 400 k9 n9 313 [(3, .int (nI (hm d))), (0, .ref e)] [] S (AV0 fun S' => Fr S0 S' (fun i => i = e) ∧ ES X S' e d G ∧ eOld X S' e d ∧ eNew X S' e d G ∧ eSm S0 S' e) := by
  have hE := hE0.up hV0 hF0 hV (fun k hk => hVk k (Or.inl (by omega)))
  have hE9 := hE
  obtain ⟨V9, qa, qd, qg, ql, hi, ⟨hV9, ⟨v0, v1, v2, v3, v4, v5⟩, ⟨v6, v7, v8, v9⟩, ⟨v10, v11, v12, v13⟩⟩, ⟨f1, f2, f3, f4, ⟨hf1, k1⟩, ⟨hf2, k2⟩, ⟨hf3, k3⟩, ⟨hf4, k4⟩⟩, ⟨b1, b2, -, -⟩, b3, hEA, hED, hEG, hEL⟩ := hE9
  have hVA := vA hd
  have hVC := vC hd
  obtain rfl := oO_in (hV9.symm.trans hV)
  obtain ⟨u25, u26, u27, u28, u29⟩ := u2
  have hee := hE0.e
  have hGb := hE0.G
  have hgb := hGb
  have ha8 := a8_le hd
  refine r_lv (lv' := [(3, .int (nI (hm d))), (0, .ref e)]) [0, 1] rfl ?_
  have rounds : ∀ (m9 : Nat) (kr : Nat) (S7 : AS) (k9 n9 : Nat) (V7 : Nat → Value) (f20 : Nat → Int32), 13 - kr < m9 → (S7.2.2 = true) → (kr ≤ 12) → (k9 + (13 - kr) ≤ 26) → (n9 + 12 * (13 - kr) ≤ 352) → (Fr S0 S7 (fun i => i = e)) → (S.2.1 ≤ S7.2.1) → (S7.1 e = oO 10 V7) → (∀ k, k ≠ 30 → V7 k = V9 k) → (S7.1 q18 = oI0 0 (d 0 0) g18) → (S7.1 q20 = oI0 2 (d 0 0) f20 ∧ ∀ p, p < d 0 0 → f20 p = nI (tb (ok3 d G kr p))) → Wp sc mX10_shares 30 400 k9 n9 313 [(3, .int (nI (hm d))), (0, .ref e)] [] S7 (AV0 fun S' => Fr S0 S' (fun i => i = e) ∧ ES X S' e d G ∧ eOld X S' e d ∧ eNew X S' e d G ∧ eSm S0 S' e) := by
    intro m9
    induction m9 with
    | zero => intro kr S7 k9 n9 V7 f20 hme; exact absurd hme (Nat.not_lt_zero _)
    | succ m9 ih =>
      intro kr S7 k9 n9 V7 f20 hme hxS7 hkr hb1 hb2 hF7 hz7 hV7 hVk7 hq18 hq20
      obtain ⟨hq20, hok⟩ := hq20
      have hzz := hF7.1
      refine r_aload_n rfl rfl ?_
      refine r_getf (v := .int (nI (d 0 0))) rfl flX10_59 (by omega) hV7 ((hVk7 0 (by decide)).trans v0) ?_
      refine t_newa3 rfl hxS7 (by omega) (by omega) (by omega) ?_
      intro S1 w2
      have z3 := w2.1
      refine r_astore (lv' := [(6, .ref S7.2.1), (3, .int (nI (hm d))), (0, .ref e)]) rfl (Nat.le_of_ble_eq_true rfl) rfl ?_
      refine n_lconst0 rfl ?_
      refine r_lstore (lv' := [(7, .long (lN 0)), (6, .ref S7.2.1), (3, .int (nI (hm d))), (0, .ref e)]) rfl (Nat.le_of_ble_eq_true rfl) rfl ?_
      refine r_aload_n rfl rfl ?_
      refine r_aload_n rfl rfl ?_
      have hp4 : S1.1 e = oO 10 V7 := ((w2.2.2.2 e (by omega)).trans hV7)
      refine r_getf (v := .long (lN (a8 d))) rfl flX10_122 (by omega) hp4 ((hVk7 28 (by decide)).trans u28) ?_
      refine t_putf rfl flX10_134 (okv_l _) w2.2.1 (by omega) hp4 ?_
      intro S5 w6
      have z7 := w6.1
      refine n_iconst 0 rfl ?_
      refine r_istore (lv' := [(9, .int (nI 0)), (7, .long (lN 0)), (6, .ref S7.2.1), (3, .int (nI (hm d))), (0, .ref e)]) rfl (Nat.le_of_ble_eq_true rfl) rfl ?_
      have hp8 : S5.1 S7.2.1 = oL (d 0 0) (fun _ => 0) := ((w6.2.2.2 S7.2.1 (by omega)).trans w2.2.2.1)
      have hp9 : S5.1 q18 = oI0 0 (d 0 0) g18 := ((w6.2.2.2 q18 (by omega)).trans ((w2.2.2.2 q18 (by omega)).trans hq18))
      have hp10 : S5.1 q20 = oI0 2 (d 0 0) f20 := ((w6.2.2.2 q20 (by omega)).trans ((w2.2.2.2 q20 (by omega)).trans hq20))
      refine r_lv (lv' := [(9, .int (nI 0)), (7, .long (lN 0)), (6, .ref S7.2.1), (3, .int (nI (hm d))), (0, .ref e)]) [0, 1, 2, 3, 4] rfl ?_
      have loopA : ∀ (m9_2 : Nat) (i : Nat) (S8 : AS) (V8 : Nat → Value) (g8 : Nat → Int64) (c : Nat), d 0 0 - i < m9_2 → (S8.2.2 = true) → (i ≤ d 0 0) → (Fr S0 S8 (fun i => i = e)) → (S8.2.1 = S5.2.1) → (S8.1 e = oO 10 V8) → ((∀ k, k ≠ 30 → V8 k = V9 k) ∧ V8 30 = .long (lN (a8 d + sm (gs3 d G kr) i))) → (S8.1 S7.2.1 = oL (d 0 0) g8 ∧ (∀ p, p < i → g8 p = lN (lk3 d G kr p)) ∧ ∀ p, i ≤ p → g8 p = 0) → (c = sm (lk3 d G kr) i) → (S8.1 q18 = oI0 0 (d 0 0) g18) → (S8.1 q20 = oI0 2 (d 0 0) f20) → Wp sc mX10_shares 30 400 (k9 + 1) (n9 + (d 0 0)) 335 [(9, .int (nI i)), (7, .long (lN c)), (6, .ref S7.2.1), (3, .int (nI (hm d))), (0, .ref e)] [] S8 (AV0 fun S' => Fr S0 S' (fun i => i = e) ∧ ES X S' e d G ∧ eOld X S' e d ∧ eNew X S' e d G ∧ eSm S0 S' e) := by
        intro m9_2
        induction m9_2 with
        | zero => intro i S8 V8 g8 c hme; exact absurd hme (Nat.not_lt_zero _)
        | succ m9_2 ih2 =>
          intro i S8 V8 g8 c hme hxS8 hi hF8 hz8 hV8 hVk8 hby hcs h818 h820
          obtain ⟨hVk8, u30⟩ := hVk8
          obtain ⟨hby, hbl, hbh⟩ := hby
          have hz9 := hF8.1
          refine r_iload rfl rfl ?_
          refine r_aload_n rfl rfl ?_
          refine r_getf (v := .int (nI (d 0 0))) rfl flX10_59 (by omega) hV8 ((hVk8 0 (by decide)).trans v0) ?_
          refine n_icmp_ge (tgt := 415) rfl rfl (by omega) (by omega) (fun h9 => ?_) (fun h9 => ?_)
          · have e9 : i = d 0 0 := by omega
            rw [e9, lk_sm hd] at hcs
            rw [e9, gs_sm hd] at u30
            rw [e9] at hbl
            have hc9 : c ≤ 12 * 4096 := by rw [hcs]; exact sm_w (fun i _ => lk_le hd kr i)
            have hpb := pt3_b hd hGb kr
            have hE8 : ES X S8 e d G := hE0.up hV0 hF8 hV8 (fun k hk => (hVk8 k (by omega)).trans (hVk k (Or.inl (by omega))))
            refine n_m1 rfl ?_
            refine r_istore (lv' := [(5, .int ((-1))), (9, .int (nI i)), (7, .long (lN c)), (6, .ref S7.2.1), (3, .int (nI (hm d))), (0, .ref e)]) rfl (Nat.le_of_ble_eq_true rfl) rfl ?_
            refine n_lconst0 rfl ?_
            refine r_lstore (lv' := [(9, .long (lN 0)), (5, .int ((-1))), (7, .long (lN c)), (6, .ref S7.2.1), (3, .int (nI (hm d))), (0, .ref e)]) rfl (Nat.le_of_ble_eq_true rfl) rfl ?_
            refine n_iconst 0 rfl ?_
            refine r_istore (lv' := [(11, .int (nI 0)), (9, .long (lN 0)), (5, .int ((-1))), (7, .long (lN c)), (6, .ref S7.2.1), (3, .int (nI (hm d))), (0, .ref e)]) rfl (Nat.le_of_ble_eq_true rfl) rfl ?_
            refine r_lv (lv' := [(11, .int (nI 0)), (9, .long (lN 0)), (5, .int ((-1))), (7, .long (lN c)), (6, .ref S7.2.1), (3, .int (nI (hm d))), (0, .ref e)]) [0, 1, 2, 3, 4, 5, 6] rfl ?_
            have loopB : ∀ (m9_3 : Nat) (j : Nat) (x m : Nat), d 0 0 - j < m9_3 → (j ≤ d 0 0) → (ws (ov3 d G kr) j = (x, m)) → (x ≤ 12 ∧ m ≤ 89999991) → Wp sc mX10_shares 30 400 (k9 + 1) (n9 + (d 0 0)) 424 [(11, .int (nI j)), (9, .long (lN m)), (5, .int (oI x)), (7, .long (lN c)), (6, .ref S7.2.1), (3, .int (nI (hm d))), (0, .ref e)] [] S8 (AV0 fun S' => Fr S0 S' (fun i => i = e) ∧ ES X S' e d G ∧ eOld X S' e d ∧ eNew X S' e d G ∧ eSm S0 S' e) := by
              intro m9_3
              induction m9_3 with
              | zero => intro j x m hme; exact absurd hme (Nat.not_lt_zero _)
              | succ m9_3 ih3 =>
                intro j x m hme hj hws hxm
                obtain ⟨hx12, hm9⟩ := hxm
                refine r_iload rfl rfl ?_
                refine r_aload_n rfl rfl ?_
                refine r_getf (v := .int (nI (d 0 0))) rfl flX10_59 (by omega) hV8 ((hVk8 0 (by decide)).trans v0) ?_
                refine n_icmp_ge (tgt := 494) rfl rfl (by omega) (by omega) (fun h7 => ?_) (fun h7 => ?_)
                · have e8 : j = d 0 0 := by omega
                  rw [e8, ← ws_n hd] at hws
                  have hw1 : (ws (ov3 d G kr) 12).1 = x := by rw [hws]
                  refine r_iload rfl rfl ?_
                  rcases x with _ | y
                  · refine r_top (y := (-1)) oI_0 ?_
                    refine r_if_lt (tgt := 507) rfl rfl (fun _ => ?_) (fun hq => absurd (by decide) hq)
                    refine r_iload rfl rfl ?_
                    refine r_top (y := (-1)) oI_0 ?_
                    refine r_if_ge (tgt := 313) rfl rfl (fun hq => absurd hq (by decide)) (fun _ => ?_)
                    obtain ⟨hw9, hou⟩ := ok_e hkr hw1
                    refine r_lv (lv' := [(3, .int (nI (hm d))), (6, .ref S7.2.1), (0, .ref e)]) [5, 4, 6] rfl ?_
                    have hO8 : eOld X S8 e d := hR00.up hV0 hF8 hV8 ⟨⟨(hVk8 14 (by decide)).trans (hVk 14 (by decide)), (hVk8 15 (by decide)).trans (hVk 15 (by decide)), (hVk8 16 (by decide)).trans (hVk 16 (by decide))⟩, (hVk8 22 (by decide)).trans (hVk 22 (by decide)), (hVk8 23 (by decide)).trans (hVk 23 (by decide)), (hVk8 24 (by decide)).trans (hVk 24 (by decide))⟩
                    have hM8 : eMid X S8 e d G (ouG d G) (fun v => v = .long (lN (poG d G))) := by
                      intro U hU
                      obtain rfl := oO_in (hU.symm.trans hV8)
                      exact ⟨q18, q20, ⟨(hVk8 18 (by decide)).trans u18, (hVk8 20 (by decide)).trans u20, by rw [u30, ← hw9]; rfl⟩, ⟨(hVk8 25 (by decide)).trans u25, (hVk8 26 (by decide)).trans u26, (hVk8 27 (by decide)).trans u27, (hVk8 28 (by decide)).trans u28, (hVk8 29 (by decide)).trans u29⟩, ⟨g18, h818, ⟨by omega, by omega, fun z => by have := hX _ z; omega⟩, t18⟩, ⟨f20, h820, ⟨by omega, by omega, fun z => by have := hX _ z; omega⟩, fun p hp => (hok p hp).trans (by show _ = nI (tb (ouG d G p)); rw [hou p])⟩⟩
                    exact e_sh_D hd hX h53 hxS8 hF8 hE8 hO8 (eSm.of hV0 hV8 (fun k hk => (hVk8 k (by omega)).trans (hVk k (Or.inl (by omega))))) hM8 (by omega) hby (fun p hp => by rw [hw9]; exact hbl p hp) hm12 hmz (by omega) (by omega)
                  · obtain ⟨hr1, hr2, hr3⟩ := rd_ct hw1
                    have hyn : y < d 0 0 := Nat.lt_of_not_le (fun z => by rw [lk_hi z] at hr3; exact absurd hr3 (by omega))
                    refine r_top (y := nI y) (oI_s _) ?_
                    refine n_if_lt (tgt := 507) rfl rfl (by omega) (fun hq => hq.elim) (fun _ => ?_)
                    refine r_aload_n rfl rfl ?_
                    refine r_getf (v := .ref q20) rfl flX10_131 (by omega) hV8 ((hVk8 20 (by decide)).trans u20) ?_
                    refine r_iload rfl rfl ?_
                    refine r_top (y := nI y) (oI_s _) ?_
                    refine n_iconst 1 rfl ?_
                    refine t_zast rfl hxS8 (by omega) h820 (by omega) (by omega) (by decide) ?_
                    intro S11 w12
                    have z13 := w12.1
                    refine r_iload rfl rfl ?_
                    refine r_top (y := nI y) (oI_s _) ?_
                    refine n_if_ge (tgt := 313) rfl rfl (by omega) (fun _ => ?_) (fun hq => hq.elim)
                    have hp14 : S11.1 e = oO 10 V8 := ((w12.2.2.2 e (by omega)).trans hV8)
                    have oks9 : ∀ p, p < d 0 0 → (aup f20 y (nI 1)) p = nI (tb (ok3 d G (kr + 1) p)) := fun p hp => by
                      rw [ok_s hw1 (by omega)]
                      by_cases q : p = y
                      · rw [q, aup_s, beq_self_eq_true, Bool.or_true]; rfl
                      · rw [aup_n _ _ q, beq_false_of_ne q, Bool.or_false]; exact hok p hp
                    have hp15 : S11.1 q18 = oI0 0 (d 0 0) g18 := ((w12.2.2.2 q18 (by omega)).trans h818)
                    refine r_lv (lv' := [(3, .int (nI (hm d))), (0, .ref e)]) [5, 6] rfl ?_
                    exact ih (kr + 1) S11 (k9 + 1) (n9 + (d 0 0)) V8 _ (by omega) w12.2.1 (by omega) (by omega) (by omega) ⟨by omega, w12.2.1, fun i hi (hn : ¬ (i = e)) => ((w12.2.2.2 i (by omega)).trans (hF8.2.2 i hi hn))⟩ (by omega) hp14 hVk8 hp15 ⟨w12.2.2.1, oks9⟩
                · have h7 : j < d 0 0 := by omega
                  have hlj := lk_le (G := G) hd kr j
                  have hst := ws_st hws
                  have hgj := hgb j
                  refine r_aload rfl rfl ?_
                  refine r_iload rfl rfl ?_
                  refine r_lald rfl (by omega) hby (by omega) (by omega) ?_
                  refine r_topL (y := lN (lk3 d G kr j)) (hbl j h7) ?_
                  refine n_lconst0 rfl ?_
                  refine n_lcmp_ne (tgt := 446) rfl rfl rfl (by omega) (by omega) (fun h6 => ?_) (fun h6 => ?_)
                  · have h60 : 0 < lk3 d G kr j := by omega
                    have hov : ov3 d G kr j = G j - pt (a8 d) G (lk3 d G kr) * lk3 d G kr j / c := by unfold ov3 ov; rw [if_pos h60, hcs]
                    have hcj : lk3 d G kr j ≤ c := by rw [hcs]; exact sm_pos (by omega)
                    have hpx : pt (a8 d) G (lk3 d G kr) * lk3 d G kr j ≤ 1159999884 * 4096 := Nat.mul_le_mul hpb hlj
                    have hpd : pt (a8 d) G (lk3 d G kr) * lk3 d G kr j / c ≤ pt (a8 d) G (lk3 d G kr) := mul_div_le hcj
                    refine r_aload_n rfl rfl ?_
                    refine r_iload rfl rfl ?_
                    refine c_virA [.int (nI j)] [] rfl lkX10_137 (by omega) hV8 rfl rfl (e_gift (S := S8) hd hE8 (by omega)) rfl rfl (by omega) (by omega) rfl ?_
                    rintro _ _ ⟨rfl, rfl⟩
                    refine n_i2l rfl (by omega) ?_
                    refine r_aload_n rfl rfl ?_
                    refine r_getf (v := .long (lN (pt (a8 d) G (lk3 d G kr)))) rfl flX10_134 (by omega) hV8 u30 ?_
                    refine r_aload rfl rfl ?_
                    refine r_iload rfl rfl ?_
                    refine r_lald rfl (by omega) hby (by omega) (by omega) ?_
                    refine r_topL (y := lN (lk3 d G kr j)) (hbl j h7) ?_
                    refine n_lmul rfl ?_
                    refine r_lload rfl rfl ?_
                    refine n_ldiv rfl (by omega) (by omega) (by omega) ?_
                    refine r_lsub rfl ?_
                    refine r_lstore (lv' := [(12, .long ((lN (G j)) - (lN (((pt (a8 d) G (lk3 d G kr)) * (lk3 d G kr j)) / c)))), (11, .int (nI j)), (9, .long (lN m)), (5, .int (oI x)), (7, .long (lN c)), (6, .ref S7.2.1), (3, .int (nI (hm d))), (0, .ref e)]) rfl (Nat.le_of_ble_eq_true rfl) rfl ?_
                    refine r_lload rfl rfl ?_
                    refine r_lload rfl rfl ?_
                    refine l_lcmp_gt (tgt := 480) rfl rfl rfl (fun h5 => ?_) (fun h5 => ?_)
                    · have h50 := (subL_lt (by omega) (by omega) (by omega)).mp h5
                      rw [if_pos (by rw [hov]; exact h50), hov] at hst
                      refine r_lload rfl rfl ?_
                      refine r_topL (y := lN (G j - pt (a8 d) G (lk3 d G kr) * lk3 d G kr j / c)) (lN_sub (by omega)) ?_
                      refine r_lstore (lv' := [(9, .long (lN (G j - pt (a8 d) G (lk3 d G kr) * lk3 d G kr j / c))), (12, .long ((lN (G j)) - (lN (((pt (a8 d) G (lk3 d G kr)) * (lk3 d G kr j)) / c)))), (11, .int (nI j)), (5, .int (oI x)), (7, .long (lN c)), (6, .ref S7.2.1), (3, .int (nI (hm d))), (0, .ref e)]) rfl (Nat.le_of_ble_eq_true rfl) rfl ?_
                      refine r_iload rfl rfl ?_
                      refine r_top (y := oI ((j + 1))) ((oI_s _).symm) ?_
                      refine r_istore (lv' := [(5, .int (oI ((j + 1)))), (9, .long (lN (G j - pt (a8 d) G (lk3 d G kr) * lk3 d G kr j / c))), (12, .long ((lN (G j)) - (lN (((pt (a8 d) G (lk3 d G kr)) * (lk3 d G kr j)) / c)))), (11, .int (nI j)), (7, .long (lN c)), (6, .ref S7.2.1), (3, .int (nI (hm d))), (0, .ref e)]) rfl (Nat.le_of_ble_eq_true rfl) rfl ?_
                      refine n_iinc (lv' := [(11, .int (nI (j + 1))), (5, .int (oI ((j + 1)))), (9, .long (lN (G j - pt (a8 d) G (lk3 d G kr) * lk3 d G kr j / c))), (12, .long ((lN (G j)) - (lN (((pt (a8 d) G (lk3 d G kr)) * (lk3 d G kr j)) / c)))), (7, .long (lN c)), (6, .ref S7.2.1), (3, .int (nI (hm d))), (0, .ref e)]) 1 rfl rfl (Nat.le_of_ble_eq_true rfl) rfl ?_
                      refine r_goto (tgt := 424) rfl rfl ?_
                      refine r_lv (lv' := [(11, .int (nI (j + 1))), (9, .long (lN (G j - pt (a8 d) G (lk3 d G kr) * lk3 d G kr j / c))), (5, .int (oI ((j + 1)))), (7, .long (lN c)), (6, .ref S7.2.1), (3, .int (nI (hm d))), (0, .ref e)]) [0, 2, 1, 4, 5, 6, 7] rfl ?_
                      exact ih3 (j + 1) (j + 1) _ (by omega) (by omega) hst ⟨by omega, Nat.le_trans (Nat.sub_le _ _) hgj⟩
                    · have h50 := fun z => h5 ((subL_lt (by omega) (by omega) (by omega)).mpr z)
                      rw [if_neg (fun z => h50 (by rw [hov] at z; exact z))] at hst
                      refine r_goto (tgt := 488) rfl rfl ?_
                      refine n_iinc (lv' := [(11, .int (nI (j + 1))), (12, .long ((lN (G j)) - (lN (((pt (a8 d) G (lk3 d G kr)) * (lk3 d G kr j)) / c)))), (9, .long (lN m)), (5, .int (oI x)), (7, .long (lN c)), (6, .ref S7.2.1), (3, .int (nI (hm d))), (0, .ref e)]) 1 rfl rfl (Nat.le_of_ble_eq_true rfl) rfl ?_
                      refine r_goto (tgt := 424) rfl rfl ?_
                      refine r_lv (lv' := [(11, .int (nI (j + 1))), (9, .long (lN m)), (5, .int (oI x)), (7, .long (lN c)), (6, .ref S7.2.1), (3, .int (nI (hm d))), (0, .ref e)]) [0, 2, 3, 4, 5, 6, 7] rfl ?_
                      exact ih3 (j + 1) x m (by omega) (by omega) hst ⟨hx12, hm9⟩
                  · have h0 : ov3 d G kr j = 0 := by unfold ov3 ov; rw [h6]; rfl
                    rw [h0, if_neg (Nat.not_lt_zero _)] at hst
                    refine r_goto (tgt := 488) rfl rfl ?_
                    refine n_iinc (lv' := [(11, .int (nI (j + 1))), (9, .long (lN m)), (5, .int (oI x)), (7, .long (lN c)), (6, .ref S7.2.1), (3, .int (nI (hm d))), (0, .ref e)]) 1 rfl rfl (Nat.le_of_ble_eq_true rfl) rfl ?_
                    refine r_goto (tgt := 424) rfl rfl ?_
                    refine r_lv (lv' := [(11, .int (nI (j + 1))), (9, .long (lN m)), (5, .int (oI x)), (7, .long (lN c)), (6, .ref S7.2.1), (3, .int (nI (hm d))), (0, .ref e)]) [0, 1, 2, 3, 4, 5, 6] rfl ?_
                    exact ih3 (j + 1) x m (by omega) (by omega) hst ⟨hx12, hm9⟩
            exact loopB (d 0 0 + 1) 0 0 0 (by omega) (Nat.zero_le _) rfl ⟨by omega, by omega⟩
          · have h9 : i < d 0 0 := by omega
            have hwi := wt_le hd i
            have hst1 : sm (lk3 d G kr) (i + 1) = sm (lk3 d G kr) i + lk3 d G kr i := rfl
            have hst2 : sm (gs3 d G kr) (i + 1) = sm (gs3 d G kr) i + gs3 d G kr i := rfl
            refine r_aload_n rfl rfl ?_
            refine r_getf (v := .ref q18) rfl flX10_128 (by omega) hV8 ((hVk8 18 (by decide)).trans u18) ?_
            refine r_iload rfl rfl ?_
            refine r_iald rfl (by omega) h818 (by omega) (by omega) ?_
            refine r_top (y := nI (wt d i)) (t18 i h9) ?_
            refine n_if_eq (tgt := 409) rfl rfl (by omega) (fun h8 => ?_) (fun h8 => ?_)
            · have hl0 : lk3 d G kr i = 0 := lk_out (Or.inl h8)
              have hg0 : gs3 d G kr i = 0 := by unfold gs3; rw [hl0]; rfl
              refine n_iinc (lv' := [(9, .int (nI (i + 1))), (7, .long (lN c)), (6, .ref S7.2.1), (3, .int (nI (hm d))), (0, .ref e)]) 1 rfl rfl (Nat.le_of_ble_eq_true rfl) rfl ?_
              refine r_goto (tgt := 335) rfl rfl ?_
              refine r_lv (lv' := [(9, .int (nI (i + 1))), (7, .long (lN c)), (6, .ref S7.2.1), (3, .int (nI (hm d))), (0, .ref e)]) [0, 1, 2, 3, 4] rfl ?_
              exact ih2 (i + 1) S8 V8 g8 c (by omega) hxS8 (by omega) hF8 hz8 hV8 ⟨hVk8, by rw [hst2, hg0]; exact u30⟩ ⟨hby, fun p hp => (Nat.lt_or_ge p i).elim (hbl p) (fun q => by rw [show p = i by omega, hl0]; exact hbh i (Nat.le_refl _)), fun p hp => hbh p (by omega)⟩ (by omega) h818 h820
            refine r_aload_n rfl rfl ?_
            refine r_getf (v := .ref q20) rfl flX10_131 (by omega) hV8 ((hVk8 20 (by decide)).trans u20) ?_
            refine r_iload rfl rfl ?_
            refine r_zald rfl (by omega) h820 (by omega) (by omega) ?_
            refine r_top (y := nI (tb (ok3 d G kr i))) (hok i h9) ?_
            rcases Bool.eq_false_or_eq_true (ok3 d G kr i) with ho | ho
            · refine n_if_eq (tgt := 367) rfl rfl (tb_B _) (fun hq => absurd hq (by rw [ho]; decide)) (fun _ => ?_)
              have hl0 : lk3 d G kr i = 0 := lk_out (Or.inr ho)
              have hg0 : gs3 d G kr i = 0 := by unfold gs3; rw [hl0]; rfl
              refine r_goto (tgt := 409) rfl rfl ?_
              refine n_iinc (lv' := [(9, .int (nI (i + 1))), (7, .long (lN c)), (6, .ref S7.2.1), (3, .int (nI (hm d))), (0, .ref e)]) 1 rfl rfl (Nat.le_of_ble_eq_true rfl) rfl ?_
              refine r_goto (tgt := 335) rfl rfl ?_
              refine r_lv (lv' := [(9, .int (nI (i + 1))), (7, .long (lN c)), (6, .ref S7.2.1), (3, .int (nI (hm d))), (0, .ref e)]) [0, 1, 2, 3, 4] rfl ?_
              exact ih2 (i + 1) S8 V8 g8 c (by omega) hxS8 (by omega) hF8 hz8 hV8 ⟨hVk8, by rw [hst2, hg0]; exact u30⟩ ⟨hby, fun p hp => (Nat.lt_or_ge p i).elim (hbl p) (fun q => by rw [show p = i by omega, hl0]; exact hbh i (Nat.le_refl _)), fun p hp => hbh p (by omega)⟩ (by omega) h818 h820
            · refine n_if_eq (tgt := 367) rfl rfl (tb_B _) (fun _ => ?_) (fun hq => absurd hq (by rw [ho]; decide))
              have hl1 : lk3 d G kr i = wt d i := lk_in (by omega) ho
              have hg1 : gs3 d G kr i = G i := by unfold gs3; rw [if_pos (by omega)]
              refine r_aload rfl rfl ?_
              refine r_iload rfl rfl ?_
              refine r_aload_n rfl rfl ?_
              refine r_getf (v := .ref q18) rfl flX10_128 (by omega) hV8 ((hVk8 18 (by decide)).trans u18) ?_
              refine r_iload rfl rfl ?_
              refine r_iald rfl (by omega) h818 (by omega) (by omega) ?_
              refine r_top (y := nI (wt d i)) (t18 i h9) ?_
              refine n_i2l rfl (by omega) ?_
              refine t_last rfl hxS8 (by omega) hby (by omega) (by omega) ?_
              intro S16 w17
              have z18 := w17.1
              refine r_lload rfl rfl ?_
              refine r_aload_n rfl rfl ?_
              have hp19 : S16.1 e = oO 10 V8 := ((w17.2.2.2 e (by omega)).trans hV8)
              refine r_getf (v := .ref q18) rfl flX10_128 (by omega) hp19 ((hVk8 18 (by decide)).trans u18) ?_
              refine r_iload rfl rfl ?_
              have hp20 : S16.1 q18 = oI0 0 (d 0 0) g18 := ((w17.2.2.2 q18 (by omega)).trans h818)
              refine r_iald rfl (by omega) hp20 (by omega) (by omega) ?_
              refine r_top (y := nI (wt d i)) (t18 i h9) ?_
              refine n_i2l rfl (by omega) ?_
              refine n_ladd rfl ?_
              refine r_lstore (lv' := [(7, .long (lN (c + (wt d i)))), (9, .int (nI i)), (6, .ref S7.2.1), (3, .int (nI (hm d))), (0, .ref e)]) rfl (Nat.le_of_ble_eq_true rfl) rfl ?_
              refine r_aload_n rfl rfl ?_
              refine r_dup rfl rfl ?_
              refine r_getf (v := .long (lN (a8 d + sm (gs3 d G kr) i))) rfl flX10_134 (by omega) hp19 u30 ?_
              refine r_aload_n rfl rfl ?_
              refine r_iload rfl rfl ?_
              have hF9 : Fr S0 S16 (fun i => i = e) := ⟨by omega, w17.2.1, fun i hi (hn : ¬ (i = e)) => ((w17.2.2.2 i (by omega)).trans (hF8.2.2 i hi hn))⟩
              have hE9 : ES X S16 e d G := hE0.up hV0 hF9 hp19 (fun k hk => (hVk8 k (by omega)).trans (hVk k (Or.inl (by omega))))
              refine c_virA [.int (nI i)] [.long (lN (a8 d + sm (gs3 d G kr) i)), .ref e] rfl lkX10_137 (by omega) hp19 rfl rfl (e_gift (S := S16) hd hE9 (by omega)) rfl rfl (by omega) (by omega) rfl ?_
              rintro _ _ ⟨rfl, rfl⟩
              have hgi := hgb i
              refine n_i2l rfl (by omega) ?_
              refine n_ladd rfl ?_
              refine t_putf rfl flX10_134 (okv_l _) w17.2.1 (by omega) hp19 ?_
              intro S21 w22
              have z23 := w22.1
              refine n_iinc (lv' := [(9, .int (nI (i + 1))), (7, .long (lN (c + (wt d i)))), (6, .ref S7.2.1), (3, .int (nI (hm d))), (0, .ref e)]) 1 rfl rfl (Nat.le_of_ble_eq_true rfl) rfl ?_
              refine r_goto (tgt := 335) rfl rfl ?_
              have hp24 : S21.1 S7.2.1 = oL (d 0 0) (aup g8 i (lN (wt d i))) := ((w22.2.2.2 S7.2.1 (by omega)).trans w17.2.2.1)
              have hp25 : S21.1 q18 = oI0 0 (d 0 0) g18 := ((w22.2.2.2 q18 (by omega)).trans hp20)
              have hp26 : S21.1 q20 = oI0 2 (d 0 0) f20 := ((w22.2.2.2 q20 (by omega)).trans ((w17.2.2.2 q20 (by omega)).trans h820))
              refine r_lv (lv' := [(9, .int (nI (i + 1))), (7, .long (lN (c + (wt d i)))), (6, .ref S7.2.1), (3, .int (nI (hm d))), (0, .ref e)]) [0, 1, 2, 3, 4] rfl ?_
              exact ih2 (i + 1) S21 _ _ (c + wt d i) (by omega) w22.2.1 (by omega) ⟨by omega, w22.2.1, fun i hi (hn : ¬ (i = e)) => ((w22.2.2.2 i (by omega)).trans ((w17.2.2.2 i (by omega)).trans (hF8.2.2 i hi hn)))⟩ (by omega) w22.2.2.1 ⟨fun k hk => (aup_n _ _ hk).trans (hVk8 k hk), (aup_s _ _ _).trans (by rw [hst2, hg1, Nat.add_assoc])⟩ ⟨hp24, aup_lt hbl (by rw [hl1]), fun p hp => (aup_n _ _ (by omega)).trans (hbh p (by omega))⟩ (by omega) hp25 hp26
      exact loopA (d 0 0 + 1) 0 S5 _ _ 0 (by omega) w6.2.1 (Nat.zero_le _) ⟨by omega, w6.2.1, fun i hi (hn : ¬ (i = e)) => ((w6.2.2.2 i (by omega)).trans ((w2.2.2.2 i (by omega)).trans (hF7.2.2 i hi hn)))⟩ rfl w6.2.2.1 ⟨fun k hk => (aup_n _ _ hk).trans (hVk7 k hk), aup_s _ _ _⟩ ⟨hp8, fun p hp => absurd hp (Nat.not_lt_zero _), fun _ _ => rfl⟩ rfl hp9 hp10
  exact rounds 14 0 S k9 n9 V9 g20 (by omega) hx (Nat.zero_le _) (by omega) (by omega) hF0 (Nat.le_refl _) hV (fun _ _ => rfl) r18 ⟨r20, fun p hp => by rw [ok_0]; exact t20 p hp⟩

