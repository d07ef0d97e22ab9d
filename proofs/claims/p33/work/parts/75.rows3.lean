/-! The estate's rows: debts, gifts, legacies. -/
theorem PT_V {l : List Nat} {d : D} {u : Nat → List Nat} {o : Nat → Bool} (h : PT l d u o) (hl : l.length ≤ 700) : Vd d := by
  have h1 := PT_e h hl (X := fun j => l.getD j 0) (TA_of (fun k hk => by rw [Nat.zero_add]))
  have h2 := (pa_fw (l.length, fun j => l.getD j 0)).1
  rw [h1] at h2
  exact (h2 rfl).1
theorem EP.cg {S : AS} {d d' : D} {e : Nat} (h : EP S d e) (h0 : d' 0 0 = d 0 0) (h1 : d' 1 = d 1) (h2 : d' 2 = d 2) (h3 : d' 3 = d 3) (h4 : d' 4 = d 4) : EP S d' e := by
  unfold EP
  rw [h0, h1, h2, h3, h4]
  exact h
theorem Ot.r {d d' : D} {a b c a' : Nat} (h : Ot d d' a b c) (h1 : a' ≠ a) (h2 : a' ≠ b) (h0 : a' ≠ 0) : d' a' = d a' := funext fun j => h a' j h1 h2 (fun z => h0 z.1)
theorem Ot.z {d d' : D} {a b c j : Nat} (h : Ot d d' a b c) (h1 : a ≠ 0) (h2 : b ≠ 0) (h3 : j ≠ c) : d' 0 j = d 0 j := h 0 j (Ne.symm h1) (Ne.symm h2) (fun z => h3 z.2)
/-- the object's first fields -/
def EVp (V : Nat → Value) (d : D) (e qa : Nat) : Prop := (V 0 = .int (nI (d 0 0)) ∧ V 1 = .int (oI (d 0 5)) ∧ V 2 = .int (nI (d 0 7)) ∧ V 3 = .int (nI (d 0 6)) ∧ V 4 = .int (nI (d 0 8)) ∧ V 5 = .int (nI (d 0 9))) ∧ (V 6 = .ref (e + 1) ∧ V 7 = .ref (e + 2) ∧ V 8 = .ref (e + 3) ∧ V 9 = .ref (e + 4)) ∧ V 10 = .ref qa
theorem X9_i {K : Nat → Prop} {g i : Nat} (h : ¬ X9 K g i) : K i ∧ 53 ≤ i ∧ i ≠ g := ⟨Classical.byContradiction fun z => h (Or.inl z), (Xg_i (fun z => h (Or.inr z))).1, (Xg_i (fun z => h (Or.inr z))).2⟩
theorem X9_o {K : Nat → Prop} {g i : Nat} (h : K i) (h1 : 53 ≤ i) (h2 : i ≠ g) : ¬ X9 K g i := fun z => z.elim (fun z => z h) (Xg_o h1 h2)
set_option maxRecDepth 100000 in
theorem l_es_R {sc : SC} {S : AS} {K : Nat → Prop} {S0 : AS} {t g e k9 n9 qa : Nat} {l : List Nat} {d : D} {u : Nat → List Nat} {o : Nat → Bool} {V : Nat → Value} {fg : Nat → Int32} (hx : S.2.2 = true) (hFS : FS S0 S t g) (hor : g < t ∧ t < e ∧ 53 ≤ g ∧ e + 9 ≤ S.2.1) (hG : S.1 g = oI0 0 1 fg) (hV : S.1 e = oO 10 V) (hEV : EVp V d e qa) (hEP : EP S d e) (hEA : EA (X9 K g) S (e + 9) S.2.1 qa (d 0 1) (d 5) (d 6)) (hB : SLK K S t l) (hK : (∀ i, K i → i < S.2.1) ∧ (∀ i, i < t → K i) ∧ ∀ i, e ≤ i → i < e + 9 → K i) (hPT : PT l d u o) (hl : l.length ≤ 488) (ho : o 0 = false ∧ o 1 = false ∧ o 2 = false) (hu : ∀ i, i < d 0 0 → u i = [i + 1]) (h0 : 0 < d 0 0 ∧ d 0 0 ≤ 12 ∧ 0 < d 0 1) (hz : d 0 2 = 0 ∧ d 0 3 = 0 ∧ d 0 4 = 0) (hk9 : k9 + 103 ≤ 300) (hn9 : n9 + 124802 ≤ 320000) : Wp sc mL_estate 300 320000 k9 n9 382 [(0, .ref t), (1, .ref g), (2, .ref e)] [] S (AR fun v S' => v = .ref e ∧ ∃ (d : D) (u : Nat → List Nat) (o : Nat → Bool) (l : List Nat) (K : Nat → Prop), EG K S0 S' t g e l d ∧ PT l d u o ∧ l.length ≤ 698) := by
  obtain ⟨⟨v0, v1, v2, v3, v4, v5⟩, ⟨v6, v7, v8, v9⟩, v10⟩ := hEV
  obtain ⟨hK1, hK2, hK3⟩ := hK
  have hKg := hK2 g (by omega)
  have hKe := hK3 e (Nat.le_refl _) (by omega)
  refine n_iconst 1 rfl ?_
  refine t_newa0 rfl hx (by decide) (by omega) (by omega) ?_
  intro S1 w2
  have z3 := w2.1
  refine r_dup rfl rfl ?_
  refine n_iconst 0 rfl ?_
  refine n_iconst 0 rfl ?_
  refine t_iast rfl w2.2.1 (by omega) w2.2.2.1 (by decide) (by decide) ?_
  intro S4 w5
  have z6 := w5.1
  refine r_astore (lv' := [(5, .ref S.2.1), (0, .ref t), (1, .ref g), (2, .ref e)]) rfl (Nat.le_of_ble_eq_true rfl) rfl ?_
  refine n_iconst 1 rfl ?_
  refine t_newa0 rfl w5.2.1 (by decide) (by omega) (by omega) ?_
  intro S7 w8
  have z9 := w8.1
  refine r_dup rfl rfl ?_
  refine n_iconst 0 rfl ?_
  refine n_iconst 1 rfl ?_
  refine t_iast rfl w8.2.1 (by omega) w8.2.2.1 (by decide) (by decide) ?_
  intro S10 w11
  have z12 := w11.1
  refine r_astore (lv' := [(6, .ref S4.2.1), (5, .ref S.2.1), (0, .ref t), (1, .ref g), (2, .ref e)]) rfl (Nat.le_of_ble_eq_true rfl) rfl ?_
  have hFx : Fr S S10 Xno := ⟨by omega, w11.2.1, fun i hi _ => ((w11.2.2.2 i (by omega)).trans ((w8.2.2.2 i (by omega)).trans ((w5.2.2.2 i (by omega)).trans ((w2.2.2.2 i (by omega)).trans rfl))))⟩
  have hBa : SLK (fun i => K i ∨ i = S.2.1 ∨ i = S4.2.1) S10 t l := hB.mv hFx (fun _ z => z.elim) (fun i z => z.elim Or.inl (fun z => Or.inr (z.elim (fun z => by omega) (fun z => by omega))))
  have hKa : ∀ i, (K i ∨ i = S.2.1 ∨ i = S4.2.1) → i < S10.2.1 := fun i z => z.elim (fun z => by have := hK1 i z; omega) (fun z => z.elim (fun z => by omega) (fun z => by omega))
  refine r_aload_n rfl rfl ?_
  refine r_aload_n rfl rfl ?_
  refine r_aload_n rfl rfl ?_
  refine r_ldcS (i := 30) rfl rfl ?_
  refine r_aload rfl rfl ?_
  refine r_aload_n rfl rfl ?_
  refine n_iconst 4 rfl ?_
  have hp13 : S10.1 g = oI0 0 1 fg := ((w11.2.2.2 g (by omega)).trans ((w8.2.2.2 g (by omega)).trans ((w5.2.2.2 g (by omega)).trans ((w2.2.2.2 g (by omega)).trans hG))))
  refine c_staA [.ref g, .int (nI 4)] [.ref S.2.1, .retAddr 30, .ref g, .ref t, .ref e] rfl lkL_34 (l_draw (S := S10) (m := 4) w11.2.1 (by omega) hp13 (by decide) (by omega)) rfl rfl (by omega) (by omega) rfl ?_
  rintro _ S14 ⟨km, fg1, hkm, rfl, fr15, hsz1, hG1⟩
  have z16 := fr15.1
  refine n_iconst 1 rfl ?_
  refine n_iconst 5 rfl ?_
  refine n_sipush 3000 rfl (by decide) ?_
  have hp17 : S14.1 S.2.1 = oI0 0 1 (aup (fun _ => 0) 0 (nI 0)) := ((fr15.2.2 S.2.1 (by omega) (by omega)).trans ((w11.2.2.2 S.2.1 (by omega)).trans ((w8.2.2.2 S.2.1 (by omega)).trans w5.2.2.1)))
  have hBb1 : SLK (fun i => K i ∨ i = S.2.1 ∨ i = S4.2.1) S14 t l := hBa.mv (X := fun i => i = g) fr15 (fun i z => by rw [z]; exact (Or.inl hKg)) (fun i z => Or.inl z)
  have hKb1 : ∀ i, (fun i => K i ∨ i = S.2.1 ∨ i = S4.2.1) i → i < S14.2.1 := fun i z => by have := hKa i z; omega
  refine c_staA [.ref t, .ref g, .retAddr 30, .ref S.2.1, .int (nI km), .int (nI 1), .int (nI 5), .int (nI 3000)] [.ref e] rfl lkL_89 (l_rows (S := S14) (K := (fun i => K i ∨ i = S.2.1 ∨ i = S4.2.1)) (bz := 0) (a := 7) (b := 8) (cc := 2) (PP := d 0 0) (z := zDebt) (d := d) (u := u) (o := o) fr15.2.1 hBb1 hKb1 (Or.inl hKg) (Or.inr (Or.inl rfl)) (by omega) hG1 hp17 (aup_s _ _ _) (by decide) (by decide) rfl (by decide) (by decide) (by decide) (by omega) (by decide) (by decide) (by decide) (by decide) (by omega) (by decide) rfl hz.1 hPT (fun n d v y k q1 q2 q3 q4 q5 q6 => SP_deb (by omega) q4 (by omega) (by omega))) rfl rfl (by omega) (by omega) rfl ?_
  rintro _ S18 ⟨rfl, fr19, ⟨fgr1, hGr1⟩, W1, pl1, d1, l1, K1, hBr1, ⟨hKa1, hKc1, hKq1, hKp1⟩, ⟨hQ1, hR1⟩, ⟨hT1, hL1⟩, h001, h0c1, hO1⟩
  have z20 := fr19.1
  have hVd1 := PT_V hT1 (by omega)
  have hlq1 := hKc1 _ hKq1
  have hp21 : S18.1 e = oO 10 V := ((fr19.2.2 e (by omega) (fun z9 => z9.elim (fun z9 => z9 (Or.inl hKe)) (fun (z9 : e = g) => by omega))).trans ((fr15.2.2 e (by omega) (by omega)).trans ((w11.2.2.2 e (by omega)).trans ((w8.2.2.2 e (by omega)).trans ((w5.2.2.2 e (by omega)).trans ((w2.2.2.2 e (by omega)).trans hV))))))
  refine t_putfN rfl flL_93 (okv_a _ _) fr19.2.1 (by omega) hp21 ?_
  intro S22 w23
  have z24 := w23.1
  have hBc1 : SLK K1 S22 t l1 := hBr1.mv (X := fun i => i = e) ⟨by omega, w23.2.1, fun i hi hn => w23.2.2.2 i hn⟩ (fun i z => by rw [z]; exact (hKa1 _ (Or.inl hKe))) (fun i z => Or.inl z)
  have hKd1 : ∀ i, K1 i → i < S22.2.1 := fun i z => by have := hKc1 i z; omega
  refine r_aload_n rfl rfl ?_
  refine r_aload_n rfl rfl ?_
  refine r_aload_n rfl rfl ?_
  refine r_ldcS (i := 31) rfl rfl ?_
  refine r_aload rfl rfl ?_
  refine r_aload_n rfl rfl ?_
  refine n_iconst 5 rfl ?_
  have hp25 : S22.1 g = oI0 0 1 fgr1 := ((w23.2.2.2 g (by omega)).trans hGr1)
  refine c_staA [.ref g, .int (nI 5)] [.ref S4.2.1, .retAddr 31, .ref g, .ref t, .ref e] rfl lkL_34 (l_draw (S := S22) (m := 5) w23.2.1 (by omega) hp25 (by decide) (by omega)) rfl rfl (by omega) (by omega) rfl ?_
  rintro _ S26 ⟨kn, fg2, hkn, rfl, fr27, hsz2, hG2⟩
  have z28 := fr27.1
  refine n_iconst 0 rfl ?_
  refine r_aload_n rfl rfl ?_
  have hp29 : S26.1 e = oO 10 (aup V 11 (.ref S14.2.1)) := ((fr27.2.2 e (by omega) (by omega)).trans w23.2.2.1)
  refine r_getfN (v := .int (nI (d 0 0))) rfl flL_52.f (by omega) hp29 ((aup_n _ _ (by decide)).trans v0) ?_
  refine n_sipush 4000 rfl (by decide) ?_
  have hp30 : S26.1 S4.2.1 = oI0 0 1 (aup (fun _ => 0) 0 (nI 1)) := ((fr27.2.2 S4.2.1 (by omega) (by omega)).trans ((w23.2.2.2 S4.2.1 (by omega)).trans ((fr19.2.2 S4.2.1 (by omega) (fun z9 => z9.elim (fun z9 => z9 (Or.inr (Or.inr rfl))) (fun (z9 : S4.2.1 = g) => by omega))).trans ((fr15.2.2 S4.2.1 (by omega) (by omega)).trans w11.2.2.1))))
  have hBb2 : SLK K1 S26 t l1 := hBc1.mv (X := fun i => i = g) fr27 (fun i z => by rw [z]; exact (hKa1 _ (Or.inl hKg))) (fun i z => Or.inl z)
  have hKb2 : ∀ i, K1 i → i < S26.2.1 := fun i z => by have := hKd1 i z; omega
  refine c_staA [.ref t, .ref g, .retAddr 31, .ref S4.2.1, .int (nI kn), .int (nI 0), .int (nI (d 0 0)), .int (nI 4000)] [.ref e] rfl lkL_89 (l_rows (S := S26) (K := K1) (bz := 1) (a := 9) (b := 10) (cc := 3) (PP := d 0 0) (z := zGift) (d := d1) (u := u) (o := o) fr27.2.1 hBb2 hKb2 (hKa1 _ (Or.inl hKg)) (hKa1 _ (Or.inr (Or.inr rfl))) (by omega) hG2 hp30 (aup_s _ _ _) (by decide) (by decide) rfl (by decide) (by decide) (by decide) (by omega) (by omega) (by omega) (by decide) (by decide) (by omega) (by decide) h001 ((hO1.z (by decide) (by decide) (by decide)).trans hz.2.1) hT1 (fun n d9 v y k q1 q2 q3 q4 q5 q6 => SP_gif (by omega) (by omega) (by omega) (fun i hi => hu i (by omega)) (by omega))) rfl rfl (by omega) (by omega) rfl ?_
  rintro _ S31 ⟨rfl, fr32, ⟨fgr2, hGr2⟩, W2, pl2, d2, l2, K2, hBr2, ⟨hKa2, hKc2, hKq2, hKp2⟩, ⟨hQ2, hR2⟩, ⟨hT2, hL2⟩, h002, h0c2, hO2⟩
  have z33 := fr32.1
  have hVd2 := PT_V hT2 (by omega)
  have hlq2 := hKc2 _ hKq2
  have hp34 : S31.1 e = oO 10 (aup V 11 (.ref S14.2.1)) := ((fr32.2.2 e (by omega) (fun z9 => z9.elim (fun z9 => z9 (hKa1 _ (Or.inl hKe))) (fun (z9 : e = g) => by omega))).trans hp29)
  refine t_putfN rfl flL_98 (okv_a _ _) fr32.2.1 (by omega) hp34 ?_
  intro S35 w36
  have z37 := w36.1
  have hBc2 : SLK K2 S35 t l2 := hBr2.mv (X := fun i => i = e) ⟨by omega, w36.2.1, fun i hi hn => w36.2.2.2 i hn⟩ (fun i z => by rw [z]; exact (hKa2 _ (hKa1 _ (Or.inl hKe)))) (fun i z => Or.inl z)
  have hKd2 : ∀ i, K2 i → i < S35.2.1 := fun i z => by have := hKc2 i z; omega
  refine r_aload_n rfl rfl ?_
  refine r_aload_n rfl rfl ?_
  refine r_aload_n rfl rfl ?_
  refine r_ldcS (i := 32) rfl rfl ?_
  refine r_aload rfl rfl ?_
  refine r_aload_n rfl rfl ?_
  refine n_iconst 4 rfl ?_
  have hp38 : S35.1 g = oI0 0 1 fgr2 := ((w36.2.2.2 g (by omega)).trans hGr2)
  refine c_staA [.ref g, .int (nI 4)] [.ref S4.2.1, .retAddr 32, .ref g, .ref t, .ref e] rfl lkL_34 (l_draw (S := S35) (m := 4) w36.2.1 (by omega) hp38 (by decide) (by omega)) rfl rfl (by omega) (by omega) rfl ?_
  rintro _ S39 ⟨kl, fg3, hkl, rfl, fr40, hsz3, hG3⟩
  have z41 := fr40.1
  refine n_iconst 0 rfl ?_
  refine r_aload_n rfl rfl ?_
  have hp42 : S39.1 e = oO 10 (aup (aup V 11 (.ref S14.2.1)) 12 (.ref S26.2.1)) := ((fr40.2.2 e (by omega) (by omega)).trans w36.2.2.1)
  refine r_getfN (v := .int (nI (d 0 0))) rfl flL_52.f (by omega) hp42 ((aup_n _ _ (by decide)).trans ((aup_n _ _ (by decide)).trans v0)) ?_
  refine n_sipush 2000 rfl (by decide) ?_
  have hp43 : S39.1 S4.2.1 = oI0 0 1 (aup (fun _ => 0) 0 (nI 1)) := ((fr40.2.2 S4.2.1 (by omega) (by omega)).trans ((w36.2.2.2 S4.2.1 (by omega)).trans ((fr32.2.2 S4.2.1 (by omega) (fun z9 => z9.elim (fun z9 => z9 (hKa1 _ (Or.inr (Or.inr rfl)))) (fun (z9 : S4.2.1 = g) => by omega))).trans hp30)))
  have hBb3 : SLK K2 S39 t l2 := hBc2.mv (X := fun i => i = g) fr40 (fun i z => by rw [z]; exact (hKa2 _ (hKa1 _ (Or.inl hKg)))) (fun i z => Or.inl z)
  have hKb3 : ∀ i, K2 i → i < S39.2.1 := fun i z => by have := hKd2 i z; omega
  refine c_staA [.ref t, .ref g, .retAddr 32, .ref S4.2.1, .int (nI kl), .int (nI 0), .int (nI (d 0 0)), .int (nI 2000)] [.ref e] rfl lkL_89 (l_rows (S := S39) (K := K2) (bz := 1) (a := 11) (b := 12) (cc := 4) (PP := d 0 0) (z := zLegacy) (d := d2) (u := u) (o := o) fr40.2.1 hBb3 hKb3 (hKa2 _ (hKa1 _ (Or.inl hKg))) (hKa2 _ (hKa1 _ (Or.inr (Or.inr rfl)))) (by omega) hG3 hp43 (aup_s _ _ _) (by decide) (by decide) rfl (by decide) (by decide) (by decide) (by omega) (by omega) (by omega) (by decide) (by decide) (by omega) (by decide) h002 ((hO2.z (by decide) (by decide) (by decide)).trans ((hO1.z (by decide) (by decide) (by decide)).trans hz.2.2)) hT2 (fun n d9 v y k q1 q2 q3 q4 q5 q6 => SP_leg (by omega) (by omega) (by omega) (fun i hi => hu i (by omega)) (by omega))) rfl rfl (by omega) (by omega) rfl ?_
  rintro _ S44 ⟨rfl, fr45, ⟨fgr3, hGr3⟩, W3, pl3, d3, l3, K3, hBr3, ⟨hKa3, hKc3, hKq3, hKp3⟩, ⟨hQ3, hR3⟩, ⟨hT3, hL3⟩, h003, h0c3, hO3⟩
  have z46 := fr45.1
  have hVd3 := PT_V hT3 (by omega)
  have hlq3 := hKc3 _ hKq3
  have hp47 : S44.1 e = oO 10 (aup (aup V 11 (.ref S14.2.1)) 12 (.ref S26.2.1)) := ((fr45.2.2 e (by omega) (fun z9 => z9.elim (fun z9 => z9 (hKa2 _ (hKa1 _ (Or.inl hKe)))) (fun (z9 : e = g) => by omega))).trans hp42)
  refine t_putfN rfl flL_103 (okv_a _ _) fr45.2.1 (by omega) hp47 ?_
  intro S48 w49
  have z50 := w49.1
  have hBc3 : SLK K3 S48 t l3 := hBr3.mv (X := fun i => i = e) ⟨by omega, w49.2.1, fun i hi hn => w49.2.2.2 i hn⟩ (fun i z => by rw [z]; exact (hKa3 _ (hKa2 _ (hKa1 _ (Or.inl hKe))))) (fun i z => Or.inl z)
  have hKd3 : ∀ i, K3 i → i < S48.2.1 := fun i z => by have := hKc3 i z; omega
  have hAll : ∀ i, i < S.2.1 → K i → i ≠ g → i ≠ e → S48.1 i = S.1 i := fun i hi hKi hig hie => ((w49.2.2.2 i (by omega)).trans ((fr45.2.2 i (by omega) (fun z9 => z9.elim (fun z9 => z9 (hKa2 _ (hKa1 _ (Or.inl hKi)))) (fun (z9 : i = g) => by omega))).trans ((fr40.2.2 i (by omega) (by omega)).trans ((w36.2.2.2 i (by omega)).trans ((fr32.2.2 i (by omega) (fun z9 => z9.elim (fun z9 => z9 (hKa1 _ (Or.inl hKi))) (fun (z9 : i = g) => by omega))).trans ((fr27.2.2 i (by omega) (by omega)).trans ((w23.2.2.2 i (by omega)).trans ((fr19.2.2 i (by omega) (fun z9 => z9.elim (fun z9 => z9 (Or.inl hKi)) (fun (z9 : i = g) => by omega))).trans ((fr15.2.2 i (by omega) (by omega)).trans ((w11.2.2.2 i (by omega)).trans ((w8.2.2.2 i (by omega)).trans ((w5.2.2.2 i (by omega)).trans ((w2.2.2.2 i (by omega)).trans rfl)))))))))))))
  have hK9 : ∀ i, K i → K3 i := fun i hKi => (hKa3 _ (hKa2 _ (hKa1 _ (Or.inl hKi))))
  have e1 : d3 1 = d 1 := ((hO3.r (by decide) (by decide) (by decide)).trans ((hO2.r (by decide) (by decide) (by decide)).trans (hO1.r (by decide) (by decide) (by decide))))
  have e2 : d3 2 = d 2 := ((hO3.r (by decide) (by decide) (by decide)).trans ((hO2.r (by decide) (by decide) (by decide)).trans (hO1.r (by decide) (by decide) (by decide))))
  have e3 : d3 3 = d 3 := ((hO3.r (by decide) (by decide) (by decide)).trans ((hO2.r (by decide) (by decide) (by decide)).trans (hO1.r (by decide) (by decide) (by decide))))
  have e4 : d3 4 = d 4 := ((hO3.r (by decide) (by decide) (by decide)).trans ((hO2.r (by decide) (by decide) (by decide)).trans (hO1.r (by decide) (by decide) (by decide))))
  have e5 : d3 5 = d 5 := ((hO3.r (by decide) (by decide) (by decide)).trans ((hO2.r (by decide) (by decide) (by decide)).trans (hO1.r (by decide) (by decide) (by decide))))
  have e6 : d3 6 = d 6 := ((hO3.r (by decide) (by decide) (by decide)).trans ((hO2.r (by decide) (by decide) (by decide)).trans (hO1.r (by decide) (by decide) (by decide))))
  have e7 : d3 7 = d1 7 := ((hO3.r (by decide) (by decide) (by decide)).trans (hO2.r (by decide) (by decide) (by decide)))
  have e8 : d3 8 = d1 8 := ((hO3.r (by decide) (by decide) (by decide)).trans (hO2.r (by decide) (by decide) (by decide)))
  have e9 : d3 9 = d2 9 := (hO3.r (by decide) (by decide) (by decide))
  have e10 : d3 10 = d2 10 := (hO3.r (by decide) (by decide) (by decide))
  have z1_ : d3 0 1 = d 0 1 := ((hO3.z (by decide) (by decide) (by decide)).trans ((hO2.z (by decide) (by decide) (by decide)).trans (hO1.z (by decide) (by decide) (by decide))))
  have z5_ : d3 0 5 = d 0 5 := ((hO3.z (by decide) (by decide) (by decide)).trans ((hO2.z (by decide) (by decide) (by decide)).trans (hO1.z (by decide) (by decide) (by decide))))
  have z6_ : d3 0 6 = d 0 6 := ((hO3.z (by decide) (by decide) (by decide)).trans ((hO2.z (by decide) (by decide) (by decide)).trans (hO1.z (by decide) (by decide) (by decide))))
  have z7_ : d3 0 7 = d 0 7 := ((hO3.z (by decide) (by decide) (by decide)).trans ((hO2.z (by decide) (by decide) (by decide)).trans (hO1.z (by decide) (by decide) (by decide))))
  have z8_ : d3 0 8 = d 0 8 := ((hO3.z (by decide) (by decide) (by decide)).trans ((hO2.z (by decide) (by decide) (by decide)).trans (hO1.z (by decide) (by decide) (by decide))))
  have z9_ : d3 0 9 = d 0 9 := ((hO3.z (by decide) (by decide) (by decide)).trans ((hO2.z (by decide) (by decide) (by decide)).trans (hO1.z (by decide) (by decide) (by decide))))
  have z2_ : d3 0 2 = km := ((hO3.z (by decide) (by decide) (by decide)).trans (hO2.z (by decide) (by decide) (by decide))).trans h0c1
  have z3_ : d3 0 3 = kn := (hO3.z (by decide) (by decide) (by decide)).trans h0c2
  have hp51 : S48.1 S14.2.1 = oQ km W1 := ((w49.2.2.2 S14.2.1 (by omega)).trans ((fr45.2.2 S14.2.1 (by omega) (fun z9 => z9.elim (fun z9 => z9 (hKa2 _ hKq1)) (fun (z9 : S14.2.1 = g) => by omega))).trans ((fr40.2.2 S14.2.1 (by omega) (by omega)).trans ((w36.2.2.2 S14.2.1 (by omega)).trans ((fr32.2.2 S14.2.1 (by omega) (fun z9 => z9.elim (fun z9 => z9 hKq1) (fun (z9 : S14.2.1 = g) => by omega))).trans ((fr27.2.2 S14.2.1 (by omega) (by omega)).trans ((w23.2.2.2 S14.2.1 (by omega)).trans hQ1)))))))
  have hRd : RQ (X9 K3 g) S48 S.2.1 S14.2.1 km (d1 7) (d1 8) := ⟨W1, pl1, hp51, ⟨by omega, by omega, X9_o (hKa3 _ (hKa2 _ hKq1)) (by omega) (by omega)⟩, fun j hj => by
    obtain ⟨r1, ⟨r2, r3⟩, f, r4, r5, r6⟩ := hR1 j hj
    have hjg : pl1 j ≠ g := by omega
    exact ⟨r1, ⟨by omega, by omega, X9_o (hKa3 _ (hKa2 _ (hKp1 j hj))) (by omega) hjg⟩, f, ((w49.2.2.2 (pl1 j) (by omega)).trans ((fr45.2.2 (pl1 j) (by omega) (fun z9 => z9.elim (fun z9 => z9 (hKa2 _ (hKp1 j hj))) (fun (z9 : pl1 j = g) => by omega))).trans ((fr40.2.2 (pl1 j) (by omega) (by omega)).trans ((w36.2.2.2 (pl1 j) (by omega)).trans ((fr32.2.2 (pl1 j) (by omega) (fun z9 => z9.elim (fun z9 => z9 (hKp1 j hj)) (fun (z9 : pl1 j = g) => by omega))).trans ((fr27.2.2 (pl1 j) (by omega) (by omega)).trans ((w23.2.2.2 (pl1 j) (by omega)).trans r4))))))), r5, r6⟩⟩
  have hp52 : S48.1 S26.2.1 = oQ kn W2 := ((w49.2.2.2 S26.2.1 (by omega)).trans ((fr45.2.2 S26.2.1 (by omega) (fun z9 => z9.elim (fun z9 => z9 hKq2) (fun (z9 : S26.2.1 = g) => by omega))).trans ((fr40.2.2 S26.2.1 (by omega) (by omega)).trans ((w36.2.2.2 S26.2.1 (by omega)).trans hQ2))))
  have hRg : RQ (X9 K3 g) S48 S.2.1 S26.2.1 kn (d2 9) (d2 10) := ⟨W2, pl2, hp52, ⟨by omega, by omega, X9_o (hKa3 _ hKq2) (by omega) (by omega)⟩, fun j hj => by
    obtain ⟨r1, ⟨r2, r3⟩, f, r4, r5, r6⟩ := hR2 j hj
    have hjg : pl2 j ≠ g := by omega
    exact ⟨r1, ⟨by omega, by omega, X9_o (hKa3 _ (hKp2 j hj)) (by omega) hjg⟩, f, ((w49.2.2.2 (pl2 j) (by omega)).trans ((fr45.2.2 (pl2 j) (by omega) (fun z9 => z9.elim (fun z9 => z9 (hKp2 j hj)) (fun (z9 : pl2 j = g) => by omega))).trans ((fr40.2.2 (pl2 j) (by omega) (by omega)).trans ((w36.2.2.2 (pl2 j) (by omega)).trans r4)))), r5, r6⟩⟩
  have hp53 : S48.1 S39.2.1 = oQ kl W3 := ((w49.2.2.2 S39.2.1 (by omega)).trans hQ3)
  have hRl : RQ (X9 K3 g) S48 S.2.1 S39.2.1 kl (d3 11) (d3 12) := ⟨W3, pl3, hp53, ⟨by omega, by omega, X9_o hKq3 (by omega) (by omega)⟩, fun j hj => by
    obtain ⟨r1, ⟨r2, r3⟩, f, r4, r5, r6⟩ := hR3 j hj
    have hjg : pl3 j ≠ g := by omega
    exact ⟨r1, ⟨by omega, by omega, X9_o (hKp3 j hj) (by omega) hjg⟩, f, ((w49.2.2.2 (pl3 j) (by omega)).trans r4), r5, r6⟩⟩
  have hVF : S48.1 e = oO 10 (aup (aup (aup V 11 (.ref S14.2.1)) 12 (.ref S26.2.1)) 13 (.ref S39.2.1)) := w49.2.2.1
  have hES : ES (X9 K3 g) S48 e d3 (gf d3) := by
    refine ⟨_, qa, S14.2.1, S26.2.1, S39.2.1, S.2.1, ⟨hVF, ⟨by rw [h003]; exact ((aup_n _ _ (by decide)).trans ((aup_n _ _ (by decide)).trans ((aup_n _ _ (by decide)).trans v0))), by rw [z5_]; exact ((aup_n _ _ (by decide)).trans ((aup_n _ _ (by decide)).trans ((aup_n _ _ (by decide)).trans v1))), by rw [z7_]; exact ((aup_n _ _ (by decide)).trans ((aup_n _ _ (by decide)).trans ((aup_n _ _ (by decide)).trans v2))), by rw [z6_]; exact ((aup_n _ _ (by decide)).trans ((aup_n _ _ (by decide)).trans ((aup_n _ _ (by decide)).trans v3))), by rw [z8_]; exact ((aup_n _ _ (by decide)).trans ((aup_n _ _ (by decide)).trans ((aup_n _ _ (by decide)).trans v4))), by rw [z9_]; exact ((aup_n _ _ (by decide)).trans ((aup_n _ _ (by decide)).trans ((aup_n _ _ (by decide)).trans v5)))⟩, ⟨((aup_n _ _ (by decide)).trans ((aup_n _ _ (by decide)).trans ((aup_n _ _ (by decide)).trans v6))), ((aup_n _ _ (by decide)).trans ((aup_n _ _ (by decide)).trans ((aup_n _ _ (by decide)).trans v7))), ((aup_n _ _ (by decide)).trans ((aup_n _ _ (by decide)).trans ((aup_n _ _ (by decide)).trans v8))), ((aup_n _ _ (by decide)).trans ((aup_n _ _ (by decide)).trans ((aup_n _ _ (by decide)).trans v9)))⟩, ⟨((aup_n _ _ (by decide)).trans ((aup_n _ _ (by decide)).trans ((aup_n _ _ (by decide)).trans v10))), ((aup_n _ _ (by decide)).trans ((aup_n _ _ (by decide)).trans (aup_s _ _ _))), ((aup_n _ _ (by decide)).trans (aup_s _ _ _)), (aup_s _ _ _)⟩⟩, (hEP.fr (fun i i1 i2 => hAll i (by omega) (hK3 i (by omega) (by omega)) (by omega) (by omega))).cg h003 e1 e2 e3 e4, ⟨by omega, by omega, X9_o (hK9 e hKe) (by omega) (by omega), fun i i1 i2 => X9_o (hK9 i (hK3 i i1 i2)) (by omega) (by omega)⟩, by omega, ?_, ?_, ⟨kn, d2 9, d2 10, hRg, by omega, fun k hk => ?_, fun q => ?_⟩, ?_⟩
    · rw [z1_, e5, e6]
      exact hEA.fr (by omega) (fun i i1 i2 i3 => ⟨hAll i i2 (X9_i i3).1 (X9_i i3).2.2 (by omega), X9_o (hK9 i (X9_i i3).1) (X9_i i3).2.1 (X9_i i3).2.2⟩)
    · rw [z2_, e7, e8]
      exact hRd
    · have := vG hVd3 k
      rw [e9, e10] at this
      exact this
    · unfold gf gsum
      rw [z3_, e9, e10]
    · rw [h0c3]
      exact hRl
  have hGm : eGm (X9 K3 g) S48 e (d3 0 3) := by
    have hlt : S26.2.1 < S48.2.1 := by omega
    have hn1 : ¬ X9 K3 g S26.2.1 := X9_o (hKa3 _ hKq2) (by omega) (by omega)
    have hn2 : S26.2.1 ≠ e := by omega
    have hqq := hp52
    intro U hU
    have eU := oO_in (hU.symm.trans hVF)
    subst eU
    rw [z3_]
    exact ⟨S26.2.1, _, ((aup_n _ _ (by decide)).trans (aup_s _ _ _)), ⟨hlt, hn1, hn2⟩, hqq⟩
  have hFE : FS S0 S48 t g := hFS.tr (Fr.wk (X := fun i => ¬ (K i ∧ i ≠ g ∧ i ≠ e)) ⟨by omega, w49.2.1, fun i hi hn => by
    have h9 := Classical.not_not.mp hn
    exact hAll i hi h9.1 h9.2.1 h9.2.2⟩ (fun i hn => Classical.byContradiction fun z => hn ⟨hK2 i (Nat.lt_of_not_le (fun y => z (Or.inl y))), fun y => z (Or.inr y), fun y => z (Or.inl (by omega))⟩)) (fun _ _ z => z)
  have hp54 : S48.1 g = oI0 0 1 fgr3 := ((w49.2.2.2 g (by omega)).trans hGr3)
  have hEG : EG K3 S0 S48 t g e l3 d3 := ⟨hFE, ⟨by omega, by omega, by omega, by omega⟩, ⟨_, hp54⟩, hES, hGm, hBc3, ⟨hKd3, hK9 e hKe, fun i hi => hK9 i (hK2 i hi)⟩, by omega, by omega⟩
  refine r_lv (lv' := [(0, .ref t), (1, .ref g), (2, .ref e)]) [2, 3, 4] rfl ?_
  exact l_es_S w49.2.1 hEG hT3 ho (by omega) (by omega) (by omega)

