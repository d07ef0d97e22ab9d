/-! One gift more, and back. -/
/-- how many gifts the object holds -/
def eGm (X : Nat → Prop) (S : AS) (e m : Nat) : Prop := ∀ V, S.1 e = oO 10 V → ∃ q W, V 12 = .ref q ∧ (q < S.2.1 ∧ ¬ X q ∧ q ≠ e) ∧ S.1 q = oQ m W
def eG8 (S : AS) (e : Nat) : Prop := ∀ V, S.1 e = oO 10 V → ∀ q m W, V 12 = .ref q → S.1 q = oQ m W → m ≤ 8
theorem gsum_s {m p x : Nat} {A B : Nat → Nat} (q : Nat) : gsum (m + 1) (aup A m p) (aup B m x) q = aup (gsum m A B) p (gsum m A B p + x) q := by
  show sm (fun g => if aup A m p g = q then aup B m x g else 0) m + (if aup A m p m = q then aup B m x m else 0) = _
  rw [aup_s, aup_s]
  have e : sm (fun g => if aup A m p g = q then aup B m x g else 0) m = gsum m A B q := sm_cg (fun i hi => by
    show (if aup A m p i = q then aup B m x i else 0) = if A i = q then B i else 0
    rw [aup_n _ _ (by omega), aup_n _ _ (by omega)])
  rw [e]
  by_cases h : p = q
  · subst h
    rw [if_pos rfl, aup_s]
  · rw [if_neg h, aup_n _ _ (fun z => h z.symm), Nat.add_zero]
theorem oQ_in {m k : Nat} {V U : Nat → Value} (h : oQ m V = oQ k U) : m = k ∧ V = U := by
  injection h with h
  injection h with h
  injection h with h1 h2
  exact ⟨by omega, h2⟩
theorem ref_in {q k : Nat} (h : Value.ref q = Value.ref k) : q = k := by injection h
theorem eGm.le {X : Nat → Prop} {S : AS} {e m : Nat} (h : eGm X S e m) (hm : m ≤ 8) : eG8 S e := by
  intro V hV q k W h1 h2
  obtain ⟨q', W', g1, -, g2⟩ := h V hV
  have e1 := ref_in (g1.symm.trans h1)
  subst e1
  have := (oQ_in (g2.symm.trans h2)).1
  omega
theorem eGm.at {X : Nat → Prop} {S : AS} {e m k q : Nat} {V W : Nat → Value} (h : eGm X S e m) (hV : S.1 e = oO 10 V) (h1 : V 12 = .ref q) (h2 : S.1 q = oQ k W) : k = m := by
  obtain ⟨q', W', g1, -, g2⟩ := h V hV
  have e1 := ref_in (g1.symm.trans h1)
  subst e1
  exact (oQ_in (h2.symm.trans g2)).1
theorem eGm.keep {X P : Nat → Prop} {S S' : AS} {e m : Nat} (h : eGm X S e m) (hF : Fr S S' P) (he : e < S.2.1) (hne : ¬ X e) (hP : ∀ i, P i → X i) : eGm X S' e m := by
  intro V hV
  obtain ⟨q, W, g1, ⟨g2, g3, g4⟩, g5⟩ := h V ((hF.2.2 e he (fun z => hne (hP e z))).symm.trans hV)
  exact ⟨q, W, g1, ⟨Nat.lt_of_lt_of_le g2 hF.1, g3, g4⟩, (hF.2.2 q g2 (fun z => g3 (hP q z))).trans g5⟩
theorem eGm.st {X : Nat → Prop} {S S' : AS} {e m : Nat} {U : Nat → Value} (h : eGm X S e m) (hF : Fr S S' (fun i => i = e)) (hs : eSm S S' e) (hU : S.1 e = oO 10 U) : eGm X S' e m := by
  intro V hV
  obtain ⟨V', h1, h2⟩ := hs U hU
  obtain ⟨q, W, g1, ⟨g2, g3, g4⟩, g5⟩ := h U hU
  have e1 := oO_in (hV.symm.trans h1)
  subst e1
  exact ⟨q, W, (h2 12 (by decide)).trans g1, ⟨Nat.lt_of_lt_of_le g2 hF.1, g3, g4⟩, (hF.2.2 q g2 g4).trans g5⟩
theorem eGm.up {X : Nat → Prop} {S S' : AS} {e m : Nat} {V V' : Nat → Value} (h : eGm X S e m) (hF : Fr S S' (fun i => i = e)) (hV : S.1 e = oO 10 V) (hV' : S'.1 e = oO 10 V') (hk : V' 12 = V 12) : eGm X S' e m := by
  intro U hU
  obtain ⟨q, W, g1, ⟨g2, g3, g4⟩, g5⟩ := h V hV
  have e1 := oO_in (hU.symm.trans hV')
  subst e1
  exact ⟨q, W, hk.trans g1, ⟨Nat.lt_of_lt_of_le g2 hF.1, g3, g4⟩, (hF.2.2 q g2 g4).trans g5⟩
/-- the object's gifts replaced by a row one longer at the heap's end -/
theorem ES.more {X : Nat → Prop} {S S' : AS} {e qn q2 p x : Nat} {d : D} {G : Nat → Nat} {V V' : Nat → Value} {W' : Nat → Value} {fn : Nat → Int32} (h : ES X S e d G) (h8 : eG8 S e) (hX : ∀ i, X i → i < S.2.1) (hV : S.1 e = oO 10 V) (hF : Fr S S' (fun i => i = e ∨ X i)) (hV' : S'.1 e = oO 10 V') (hk : ∀ k, k < 14 → k ≠ 12 → V' k = V k) (h12 : V' 12 = .ref qn) (hp : p < 12) (hx : x ≤ 9999999) (hz : S.2.1 ≤ qn ∧ qn < S'.2.1 ∧ S.2.1 ≤ q2 ∧ q2 < S'.2.1) (hn : ∀ q m W, V 12 = .ref q → S.1 q = oQ m W → S'.1 qn = oQ (m + 1) W' ∧ (∀ k, k < m → W' k = W k) ∧ W' m = .ref q2) (h2 : S'.1 q2 = oI0 0 2 fn ∧ fn 0 = nI p ∧ fn 1 = nI x) : ES X S' e d (aup G p (G p + x)) := by
  have hee := h.e
  obtain ⟨U, qa, qd, qg, ql, hi, ⟨g1, ⟨v0, v1, v2, v3, v4, v5⟩, ⟨v6, v7, v8, v9⟩, ⟨v10, v11, v12, v13⟩⟩, g2, ⟨a1, a2, a3, a4⟩, g4, g5, g6, ⟨m, A, B, ⟨W, pl, c1, ⟨c2, c3, c4⟩, c5⟩, g8, g9, g10⟩, g11⟩ := h
  obtain rfl := oO_in (g1.symm.trans hV)
  obtain ⟨n1, n2, n3⟩ := hn qg m W v12 c1
  have hm8 := h8 _ hV qg m W v12 c1
  have fr : ∀ lo, e + 9 ≤ lo → ∀ i, lo ≤ i → i < S.2.1 → ¬ X i → S'.1 i = S.1 i ∧ ¬ X i := fun lo hlo i i1 i2 i3 => ⟨hF.2.2 i i2 (fun z => z.elim (fun z => by omega) i3), i3⟩
  have hXn : ∀ i, S.2.1 ≤ i → ¬ X i := fun i hi z => by have := hX i z; omega
  refine ⟨V', qa, qd, qn, ql, hi, ⟨hV', ⟨(hk 0 (by decide) (by decide)).trans v0, (hk 1 (by decide) (by decide)).trans v1, (hk 2 (by decide) (by decide)).trans v2, (hk 3 (by decide) (by decide)).trans v3, (hk 4 (by decide) (by decide)).trans v4, (hk 5 (by decide) (by decide)).trans v5⟩, ⟨(hk 6 (by decide) (by decide)).trans v6, (hk 7 (by decide) (by decide)).trans v7, (hk 8 (by decide) (by decide)).trans v8, (hk 9 (by decide) (by decide)).trans v9⟩, ⟨(hk 10 (by decide) (by decide)).trans v10, (hk 11 (by decide) (by decide)).trans v11, h12, (hk 13 (by decide) (by decide)).trans v13⟩⟩, g2.fr (fun i i1 i2 => hF.2.2 i (by omega) (fun z => z.elim (fun z => by omega) (a4 i (by omega) (by omega)))), ⟨a1, by have := hF.1; omega, a3, a4⟩, g4, g5.fr hF.1 (fr _ (by omega)), g6.fr hF.1 (fr _ g4), ⟨m + 1, aup A m p, aup B m x, ⟨W', aup pl m q2, n1, ⟨by omega, by omega, hXn _ (by omega)⟩, fun k hkm => ?_⟩, by omega, fun k hkm => ?_, fun q => ?_⟩, g11.fr hF.1 (fr _ g4)⟩
  · by_cases z : k = m
    · subst z
      rw [aup_s, aup_s, aup_s]
      exact ⟨n3, ⟨by omega, by omega, hXn _ (by omega)⟩, fn, h2⟩
    · rw [aup_n _ _ z, aup_n _ _ z, aup_n _ _ z]
      obtain ⟨r1, ⟨r2, r3, r4⟩, f, r5, r6⟩ := c5 k (by omega)
      exact ⟨(n2 k (by omega)).trans r1, ⟨r2, by have := hF.1; omega, r4⟩, f, (hF.2.2 _ r3 (fun z => z.elim (fun z => by omega) r4)).trans r5, r6⟩
  · by_cases z : k = m
    · subst z
      rw [aup_s, aup_s]
      exact ⟨hp, hx⟩
    · rw [aup_n _ _ z, aup_n _ _ z]
      exact g9 k (by omega)
  · rw [gsum_s, g10 p]
    by_cases z : q = p
    · subst z; rw [aup_s, aup_s]
    · rw [aup_n _ _ z, aup_n _ _ z]; exact g10 q
set_option maxRecDepth 100000 in
theorem l_isOut {sc : SC} {S : AS} {X : Nat → Prop} {e : Nat} {d : D} {G : Nat → Nat} (hd : Vd d) (hE : ES X S e d G) {m0 p x : Nat} (hG8 : eGm X S e m0) (h8 : m0 ≤ 8) (hX : ∀ i, X i → i < S.2.1) (hx : S.2.2 = true) (hp : p < d 0 0) (hm : x ≤ 9999999) : Cal sc mL_isOut 102 1212 [.ref e, .int (nI p), .int (nI x)] S (AR fun v S' => v = .int (nI (tb (ouG d (aup G p (G p + x)) p))) ∧ Fr S S' (fun i => i = e) ∧ ES X S' e d G ∧ eOld X S' e d ∧ eNew X S' e d G ∧ eSm S S' e) := by
  refine Cal.of gmL_isOut (Nat.le_of_ble_eq_true rfl) ?_
  have hE9 := hE
  obtain ⟨V, qa, qd, qg, ql, hi, ⟨hV, ⟨v0, v1, v2, v3, v4, v5⟩, ⟨v6, v7, v8, v9⟩, ⟨v10, v11, v12, v13⟩⟩, ⟨f1, f2, f3, f4, ⟨hf1, k1⟩, ⟨hf2, k2⟩, ⟨hf3, k3⟩, ⟨hf4, k4⟩⟩, ⟨b1, b2, -, -⟩, b3, hEA, hED, hEG, hEL⟩ := hE9
  have hVA := vA hd
  have hVC := vC hd
  obtain ⟨m, A, B, ⟨W, pl, hW, ⟨c1, c2, -⟩, hrow⟩, hm9, hAB, hGs⟩ := hEG
  show Wp sc mL_isOut 102 1212 0 0 0 [(0, .ref e), (1, .int (nI p)), (2, .int (nI x))] [] S (AR fun v S' => v = .int (nI (tb (ouG d (aup G p (G p + x)) p))) ∧ Fr S S' (fun i => i = e) ∧ ES X S' e d G ∧ eOld X S' e d ∧ eNew X S' e d G ∧ eSm S S' e)
  have hm8 : m ≤ 8 := by rw [hG8.at hV v12 hW]; exact h8
  refine r_aload_n rfl rfl ?_
  refine r_getfN (v := .ref qg) rfl flL_98.f (by omega) hV v12 ?_
  refine r_astore_n (lv' := [(3, .ref qg), (0, .ref e), (1, .int (nI p)), (2, .int (nI x))]) rfl rfl (Nat.le_of_ble_eq_true rfl) rfl ?_
  refine r_aload_n rfl rfl ?_
  refine r_alenQ rfl (by omega) hW ?_
  refine n_iconst 1 rfl ?_
  refine n_iadd rfl ?_
  refine t_anewQ rfl awL_32 hx (by omega) (by omega) (by omega) ?_
  intro S1 w2
  have z3 := w2.1
  refine r_astore (lv' := [(4, .ref S.2.1), (3, .ref qg), (0, .ref e), (1, .int (nI p)), (2, .int (nI x))]) rfl (Nat.le_of_ble_eq_true rfl) rfl ?_
  refine n_iconst 0 rfl ?_
  refine r_istore (lv' := [(5, .int (nI 0)), (4, .ref S.2.1), (3, .ref qg), (0, .ref e), (1, .int (nI p)), (2, .int (nI x))]) rfl (Nat.le_of_ble_eq_true rfl) rfl ?_
  refine r_lv (lv' := [(5, .int (nI 0)), (4, .ref S.2.1), (3, .ref qg), (0, .ref e), (1, .int (nI p)), (2, .int (nI x))]) [0, 1, 2, 3, 4, 5] rfl ?_
  have loopC : ∀ (m9 : Nat) (i : Nat) (Sa : AS) (W7 : Nat → Value), m - i < m9 → (Sa.2.2 = true) → (i ≤ m) → (Fr S Sa Xno) → (Sa.2.1 = S.2.1 + 1) → (Sa.1 S.2.1 = oQ (m + 1) W7 ∧ ∀ k, k < i → W7 k = W k) → Wp sc mL_isOut 102 1212 (0 + 1) (0 + (m + 1)) 17 [(5, .int (nI i)), (4, .ref S.2.1), (3, .ref qg), (0, .ref e), (1, .int (nI p)), (2, .int (nI x))] [] Sa (AR fun v S' => v = .int (nI (tb (ouG d (aup G p (G p + x)) p))) ∧ Fr S S' (fun i => i = e) ∧ ES X S' e d G ∧ eOld X S' e d ∧ eNew X S' e d G ∧ eSm S S' e) := by
    intro m9
    induction m9 with
    | zero => intro i Sa W7 hme; exact absurd hme (Nat.not_lt_zero _)
    | succ m9 ih =>
      intro i Sa W7 hme hxSa hi hF7 hz7 hq7
      obtain ⟨hq7, hWl⟩ := hq7
      refine r_iload rfl rfl ?_
      refine r_aload_n rfl rfl ?_
      refine r_alenQ rfl (by omega) ((hF7.2.2 qg (by omega) (fun z => z)).trans hW) ?_
      refine n_icmp_ge (tgt := 39) rfl rfl (by omega) (by omega) (fun h9 => ?_) (fun h9 => ?_)
      · have e9 : i = m := by omega
        rw [e9] at hWl
        refine r_aload rfl rfl ?_
        refine r_aload_n rfl rfl ?_
        refine r_alenQ rfl (by omega) ((hF7.2.2 qg (by omega) (fun z => z)).trans hW) ?_
        refine n_iconst 2 rfl ?_
        refine t_newa0 rfl hxSa (by decide) (by omega) (by omega) ?_
        intro S4 w5
        have z6 := w5.1
        refine r_dup rfl rfl ?_
        refine n_iconst 0 rfl ?_
        refine r_iload_n rfl rfl ?_
        refine t_iast rfl w5.2.1 (by omega) w5.2.2.1 (by decide) (by decide) ?_
        intro S7 w8
        have z9 := w8.1
        refine r_dup rfl rfl ?_
        refine n_iconst 1 rfl ?_
        refine r_iload_n rfl rfl ?_
        refine t_iast rfl w8.2.1 (by omega) w8.2.2.1 (by decide) (by decide) ?_
        intro S10 w11
        have z12 := w11.1
        have hp13 : S10.1 S.2.1 = oQ (m + 1) W7 := ((w11.2.2.2 S.2.1 (by omega)).trans ((w8.2.2.2 S.2.1 (by omega)).trans ((w5.2.2.2 S.2.1 (by omega)).trans hq7)))
        refine t_aast rfl w11.2.1 (by omega) hp13 (by omega) w11.2.2.1 (by omega) (by omega) ?_
        intro S14 w15
        have z16 := w15.1
        refine r_aload_n rfl rfl ?_
        refine r_aload rfl rfl ?_
        have hp17 : S14.1 e = oO 10 V := ((w15.2.2.2 e (by omega)).trans ((w11.2.2.2 e (by omega)).trans ((w8.2.2.2 e (by omega)).trans ((w5.2.2.2 e (by omega)).trans ((hF7.2.2 e (by omega) (fun z => z)).trans hV)))))
        refine t_putfN rfl flL_98 (okv_a _ _) w15.2.1 (by omega) hp17 ?_
        intro S18 w19
        have z20 := w19.1
        have hp21 : S18.1 S.2.1 = oQ (m + 1) (aup W7 m (.ref Sa.2.1)) := ((w19.2.2.2 S.2.1 (by omega)).trans w15.2.2.1)
        have hp22 : S18.1 Sa.2.1 = oI0 0 2 (aup (aup (fun _ => 0) 0 (nI p)) 1 (nI x)) := ((w19.2.2.2 Sa.2.1 (by omega)).trans ((w15.2.2.2 Sa.2.1 (by omega)).trans w11.2.2.1))
        have hF1 : Fr S S18 (fun i => i = e) := ⟨by omega, w19.2.1, fun i hi (hn : ¬ (i = e)) => ((w19.2.2.2 i (by omega)).trans ((w15.2.2.2 i (by omega)).trans ((w11.2.2.2 i (by omega)).trans ((w8.2.2.2 i (by omega)).trans ((w5.2.2.2 i (by omega)).trans (hF7.2.2 i hi (fun z => z)))))))⟩
        have hE1 : ES X S18 e d (aup G p (G p + x)) := ES.more hE (hG8.le h8) hX hV ⟨hF1.1, hF1.2.1, fun i hi hn => hF1.2.2 i hi (fun z => hn (Or.inl z))⟩ w19.2.2.1 (fun k _ h => aup_n _ _ h) (aup_s _ _ _) (by omega) hm ⟨Nat.le_refl _, by omega, by omega, by omega⟩ (fun q k U h1 h2 => by
          have e1 := ref_in (v12.symm.trans h1)
          subst e1
          have e2 := oQ_in (hW.symm.trans h2)
          obtain ⟨rfl, rfl⟩ := e2
          exact ⟨hp21, fun j hj => (aup_n _ _ (by omega)).trans (hWl j hj), aup_s _ _ _⟩) ⟨hp22, by rw [aup_n _ _ (by decide), aup_s], aup_s _ _ _⟩
        refine r_aload_n rfl rfl ?_
        refine c_virV [] [] rfl lkL_133 (by omega) w19.2.2.1 rfl rfl (e_settles (S := S18) hd hE1 rfl (fun i hi => by have := hX i hi; omega) w19.2.1) rfl rfl (by omega) (by omega) rfl ?_
        rintro S23 ⟨fr24, hE2, hO2, hN2, hm2⟩
        have z25 := fr24.1
        obtain ⟨V2, hV2, hk2⟩ := hm2 _ w19.2.2.1
        obtain ⟨q17, q18, q19, q20, q21, ⟨u17, u18, u19, u20, u21⟩, -, -, -, -, ⟨g20, r20, ⟨p20, l20, x20⟩, t20⟩, -⟩ := hN2 V2 hV2
        refine r_aload_n rfl rfl ?_
        refine r_getfN (v := .ref q20) rfl flL_238.f (by omega) hV2 u20 ?_
        refine r_iload_n rfl rfl ?_
        refine r_zald rfl (by omega) r20 (by omega) (by omega) ?_
        refine r_top (y := nI (tb (ouG d (aup G p (G p + x)) p))) (t20 p hp) ?_
        refine r_istore (lv' := [(5, .int (nI (tb (ouG d (aup G p (G p + x)) p)))), (4, .ref S.2.1), (3, .ref qg), (0, .ref e), (1, .int (nI p)), (2, .int (nI x))]) rfl (Nat.le_of_ble_eq_true rfl) rfl ?_
        refine r_aload_n rfl rfl ?_
        refine r_aload_n rfl rfl ?_
        refine t_putfN rfl flL_98 (okv_a _ _) fr24.2.1 (by omega) hV2 ?_
        intro S26 w27
        have z28 := w27.1
        have hF3 : Fr S S26 (fun i => i = e) := ⟨by omega, w27.2.1, fun i hi (hn : ¬ (i = e)) => ((w27.2.2.2 i (by omega)).trans ((fr24.2.2 i (by omega) (by omega)).trans ((w19.2.2.2 i (by omega)).trans ((w15.2.2.2 i (by omega)).trans ((w11.2.2.2 i (by omega)).trans ((w8.2.2.2 i (by omega)).trans ((w5.2.2.2 i (by omega)).trans (hF7.2.2 i hi (fun z => z)))))))))⟩
        have hk3 : ∀ k, k < 14 → (aup V2 12 (.ref qg)) k = V k := fun k hk => by
          by_cases z : k = 12
          · rw [z, aup_s]; exact v12.symm
          · exact (aup_n _ _ z).trans ((hk2 k hk).trans (aup_n _ _ z))
        have hE3 : ES X S26 e d G := hE.up hV hF3 w27.2.2.1 hk3
        refine r_aload_n rfl rfl ?_
        refine c_virV [] [] rfl lkL_133 (by omega) w27.2.2.1 rfl rfl (e_settles (S := S26) hd hE3 rfl (fun i hi => by have := hX i hi; omega) w27.2.1) rfl rfl (by omega) (by omega) rfl ?_
        rintro S29 ⟨fr30, hE4, hO4, hN4, hm4⟩
        have z31 := fr30.1
        refine r_iload rfl rfl ?_
        exact r_ret rfl rfl (nar_tb _) (by omega) (by omega) (⟨_, rfl, rfl, hF3.tr fr30 (fun _ _ z => z), hE4, hO4, hN4, (eSm.of hV w27.2.2.1 hk3).tr hm4⟩)
      · have h9 : i < m := by omega
        obtain ⟨r1, ⟨r2, r3, -⟩, fr, r4, r5, r6⟩ := hrow i h9
        refine r_aload rfl rfl ?_
        refine r_iload rfl rfl ?_
        refine r_aload_n rfl rfl ?_
        refine r_iload rfl rfl ?_
        refine r_aald (x := (pl i)) rfl (by omega) ((hF7.2.2 qg (by omega) (fun z => z)).trans hW) (by omega) (by omega) r1 ?_
        refine t_aast rfl hxSa (by omega) hq7 (by omega) ((hF7.2.2 (pl i) (by omega) (fun z => z)).trans r4) (by omega) (by omega) ?_
        intro S32 w33
        have z34 := w33.1
        refine n_iinc (lv' := [(5, .int (nI (i + 1))), (4, .ref S.2.1), (3, .ref qg), (0, .ref e), (1, .int (nI p)), (2, .int (nI x))]) 1 rfl rfl (Nat.le_of_ble_eq_true rfl) rfl ?_
        refine r_goto (tgt := 17) rfl rfl ?_
        refine r_lv (lv' := [(5, .int (nI (i + 1))), (4, .ref S.2.1), (3, .ref qg), (0, .ref e), (1, .int (nI p)), (2, .int (nI x))]) [0, 1, 2, 3, 4, 5] rfl ?_
        exact ih (i + 1) S32 _ (by omega) w33.2.1 (by omega) ⟨by omega, w33.2.1, fun i hi _ => ((w33.2.2.2 i (by omega)).trans (hF7.2.2 i hi (fun z => z)))⟩ (by omega) ⟨w33.2.2.1, aup_lt hWl r1.symm⟩
  exact loopC (m + 1) 0 S1 _ (by omega) w2.2.1 (Nat.zero_le _) ⟨by omega, w2.2.1, fun i hi _ => ((w2.2.2.2 i (by omega)).trans rfl)⟩ (by omega) ⟨w2.2.2.1, fun k hk => absurd hk (Nat.not_lt_zero _)⟩

