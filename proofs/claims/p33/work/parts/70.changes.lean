/-! The law's changes. -/
theorem okz_tb (c : Bool) : nI (tb c) = 0 ∨ nI (tb c) = 1 := by
  cases c
  · exact Or.inl rfl
  · exact Or.inr rfl
theorem eGm.wr {X : Nat → Prop} {S S' : AS} {e m o t k : Nat} {f : Nat → Int32} {x : AE} (h : eGm X S e m) (hW : Wr S o x S') (ho : S.1 o = oI0 t k f) (hne : o ≠ e) : eGm X S' e m := by
  intro V hV
  obtain ⟨q, W, g1, ⟨g2, g3, g4⟩, g5⟩ := h V ((hW.2.2.2 e (Ne.symm hne)).symm.trans hV)
  have hq : q ≠ o := fun z => by
    rw [z] at g5
    have g6 := ho.symm.trans g5
    cases g6
  exact ⟨q, W, g1, ⟨by rw [hW.1]; exact g2, g3, g4⟩, (hW.2.2.2 q hq).trans g5⟩
theorem es_p5 {X : Nat → Prop} {S S' : AS} {e : Nat} {d : D} {G : Nat → Nat} {q v qa pa : Nat} {V W : Nat → Value} {fo : Nat → Int32} (h : ES X S e d G) (hV : S.1 e = oO 10 V) (h10 : V 10 = .ref qa) (hQ : S.1 qa = oQ (d 0 1) W) (hq : q < d 0 1) (hWq : W q = .ref pa) (ho : S.1 pa = oI0 0 2 fo) (h1 : fo 1 = nI (d 6 q)) (hW : Wr S pa (oI0 0 2 (aup fo 0 (nI v))) S') : ES X S' e (up d 5 q v) G := by
  have hee := h.e
  obtain ⟨V2, qa2, qd, qg, ql, hi, ⟨g1, g0, gr, ⟨g2, g3⟩⟩, ⟨f1, f2, f3, f4, ⟨m1, n1⟩, ⟨m2, n2⟩, ⟨m3, n3⟩, ⟨m4, n4⟩⟩, ⟨a1, a2, a3, a4⟩, b1, ⟨W2, pl, c1, ⟨c2, c3, c4⟩, c5, c6⟩, b3, b4, b5⟩ := h
  have e1 := oO_in (g1.symm.trans hV)
  subst e1
  have e2 := ref_in (g2.symm.trans h10)
  subst e2
  obtain ⟨-, e3⟩ := oQ_in (c1.symm.trans hQ)
  subst e3
  have c7 := c5 q hq
  have e4 := ref_in (c7.1.symm.trans hWq)
  subst e4
  obtain ⟨-, ⟨l1, l2, l3, l4⟩, -⟩ := c7
  have hz := hW.1
  have fr : ∀ lo, hi ≤ lo → ∀ i, lo ≤ i → i < S.2.1 → ¬ X i → S'.1 i = S.1 i ∧ ¬ X i := fun lo hlo i i1 i2 i3 => ⟨hW.2.2.2 i (by omega), i3⟩
  refine ⟨V2, qa2, qd, qg, ql, hi, ⟨(hW.2.2.2 e (by omega)).trans g1, g0, gr, ⟨g2, g3⟩⟩, ⟨f1, f2, f3, f4, ⟨(hW.2.2.2 _ (by omega)).trans m1, n1⟩, ⟨(hW.2.2.2 _ (by omega)).trans m2, n2⟩, ⟨(hW.2.2.2 _ (by omega)).trans m3, n3⟩, ⟨(hW.2.2.2 _ (by omega)).trans m4, n4⟩⟩, ⟨a1, by omega, a3, a4⟩, b1, ⟨W2, pl, (hW.2.2.2 _ (by omega)).trans c1, ⟨c2, by omega, c4⟩, fun k hk => ?_, c6⟩, b3.fr (by omega) (fr _ (Nat.le_refl _)), b4.fr (by omega) (fr _ (Nat.le_refl _)), b5.fr (by omega) (fr _ (Nat.le_refl _))⟩
  have hk2 : k < d 0 1 := hk
  obtain ⟨r1, ⟨r2, r3, r4, r5⟩, f, r6, r7, r8⟩ := c5 k hk2
  refine ⟨r1, ⟨r2, r3, by omega, r5⟩, ?_⟩
  by_cases z : k = q
  · subst z
    refine ⟨_, hW.2.2.1, ?_, ?_⟩
    · rw [aup_s]
      show nI v = nI (up d 5 k v 5 k)
      rw [up_s]
    · rw [aup_n _ _ (by decide)]
      exact h1
  · refine ⟨f, (hW.2.2.2 _ (fun y => z (c6 k q hk2 hq y))).trans r6, ?_, r8⟩
    show f 0 = nI (up d 5 q v 5 k)
    rw [up_n2 _ _ z]
    exact r7
theorem es_p9 {X : Nat → Prop} {S S' : AS} {e v : Nat} {d : D} {G : Nat → Nat} {V : Nat → Value} (h : ES X S e d G) (hV : S.1 e = oO 10 V) (hW : Wr S e (oO 10 (aup V 5 (.int (nI v)))) S') : ES X S' e (up d 0 9 v) G := by
  obtain ⟨V2, qa, qd, qg, ql, hi, ⟨g1, ⟨v0, v1, v2, v3, v4, v5⟩, ⟨v6, v7, v8, v9⟩, ⟨v10, v11, v12, v13⟩⟩, g2, ⟨a1, a2, a3, a4⟩, b1, b2, b3, b4, b5⟩ := h
  have e1 := oO_in (g1.symm.trans hV)
  subst e1
  have hz := hW.1
  have fr : ∀ lo, e + 9 ≤ lo → ∀ i, lo ≤ i → i < S.2.1 → ¬ X i → S'.1 i = S.1 i ∧ ¬ X i := fun lo hlo i i1 i2 i3 => ⟨hW.2.2.2 i (by omega), i3⟩
  have n5 : ∀ k, k ≠ 5 → aup V2 5 (.int (nI v)) k = V2 k := fun k hk => aup_n _ _ hk
  exact ⟨_, qa, qd, qg, ql, hi, ⟨hW.2.2.1, ⟨(n5 0 (by decide)).trans v0, (n5 1 (by decide)).trans v1, (n5 2 (by decide)).trans v2, (n5 3 (by decide)).trans v3, (n5 4 (by decide)).trans v4, aup_s _ _ _⟩, ⟨(n5 6 (by decide)).trans v6, (n5 7 (by decide)).trans v7, (n5 8 (by decide)).trans v8, (n5 9 (by decide)).trans v9⟩, ⟨(n5 10 (by decide)).trans v10, (n5 11 (by decide)).trans v11, (n5 12 (by decide)).trans v12, (n5 13 (by decide)).trans v13⟩⟩, g2.fr (fun i i1 i2 => hW.2.2.2 i (by omega)), ⟨a1, by omega, a3, a4⟩, b1, b2.fr (by omega) (fr _ (Nat.le_refl _)), b3.fr (by omega) (fr _ b1), b4.fr (by omega) (fr _ b1), b5.fr (by omega) (fr _ b1)⟩
/-- the data with one gift more -/
def upG (d : D) (p x : Nat) : D := up (up (up d 9 (d 0 3) p) 10 (d 0 3) x) 0 3 (d 0 3 + 1)
theorem gf_upG (d : D) (p x : Nat) : gf (upG d p x) = aup (gf d) p (gf d p + x) := funext fun q => gsum_s q
theorem Vd_upG {d : D} (hV : Vd d) {p x : Nat} (hn : d 0 3 < 8) (h1 : p < 12) (h3 : x ≤ 9999999) : Vd (upG d p x) := Vd_gif hV hn h1 h3
theorem Sm_upG (d : D) (p x : Nat) : Sm d (upG d p x) := ((Smup (d := d) (a := 9) (i := d 0 3) (v := p) rfl).tr (Smup rfl)).tr (Smup rfl)
theorem ok_2 {d : D} {k v : Nat} (hv : v ≤ 120) : okN d 2 k v := ⟨fun _ => hv, fun z => absurd z (by decide), fun z => absurd z (by decide), fun z => absurd z (by decide), fun z => absurd z (by decide), fun z => absurd z (by decide), fun z => absurd z (by decide), fun z => absurd z (by decide), fun z => absurd z (by decide)⟩
theorem ok_3 {d : D} {k v : Nat} (hv : v ≤ 1) : okN d 3 k v := ⟨fun z => absurd z (by decide), fun _ => hv, fun z => absurd z (by decide), fun z => absurd z (by decide), fun z => absurd z (by decide), fun z => absurd z (by decide), fun z => absurd z (by decide), fun z => absurd z (by decide), fun z => absurd z (by decide)⟩
theorem ok_5 {d : D} {k v : Nat} (hv : v ≤ 9999999) : okN d 5 k v := ⟨fun z => absurd z (by decide), fun z => absurd z (by decide), fun z => absurd z (by decide), fun _ => hv, fun z => absurd z (by decide), fun z => absurd z (by decide), fun z => absurd z (by decide), fun z => absurd z (by decide), fun z => absurd z (by decide)⟩
theorem ok_09 {d : D} {v : Nat} (hv : v ≤ 1) : okN d 0 9 v := ⟨fun z => absurd z (by decide), fun z => absurd z (by decide), fun z => absurd z (by decide), fun z => absurd z (by decide), fun z => absurd z (by decide), fun z => absurd z (by decide), fun z => absurd z (by decide), fun z => absurd z (by decide), fun _ => ⟨fun _ => hv, fun z => absurd z (by decide), fun z => absurd z (by decide)⟩⟩
set_option maxRecDepth 100000 in
theorem l_changes {sc : SC} {S : AS} {e g : Nat} {d : D} {a : AB} (hL : LH9 S e g d a) : Cal sc mL_changes 62 700 [.ref 0, .ref e, .ref g] S (AR fun v S' => v = .int (nI 1) ∧ Fr S S' Xall ∧ ∃ (d' : D) (a' : AB), LH9 S' e g d' a') := by
  refine Cal.of gmL_changes (Nat.le_of_ble_eq_true rfl) ?_
  have hL9 := hL
  obtain ⟨⟨hd, hA, hda, hpos, hpo2, hL0⟩, ⟨σ, hI, hCL⟩, hx, ⟨hg1, hg2, fg, hG⟩, hE, hR0, hR1, hGm⟩ := hL9
  have h54 := hCL.1
  have hX : ∀ i, Xg g i → i < S.2.1 := fun i z => z.elim (fun z => by omega) (fun z => by omega)
  have hee := hE.e
  have hge := Xg_i hee.2.2
  have hg9 : g < e ∨ e + 9 ≤ g := by
    obtain ⟨U, q1, q2, q3, q4, q5, -, -, ⟨-, -, -, a4⟩, -⟩ := hE
    by_cases z1 : g < e
    · exact Or.inl z1
    · by_cases z2 : e + 9 ≤ g
      · exact Or.inr z2
      · exact absurd (Or.inr rfl) (a4 g (by omega) (by omega))
  have hE9 := hE
  obtain ⟨V, qa, qd, qg, ql, hi, ⟨hV, ⟨v0, v1, v2, v3, v4, v5⟩, ⟨v6, v7, v8, v9⟩, ⟨v10, v11, v12, v13⟩⟩, ⟨f1, f2, f3, f4, ⟨hf1, k1⟩, ⟨hf2, k2⟩, ⟨hf3, k3⟩, ⟨hf4, k4⟩⟩, ⟨b1, b2, -, -⟩, b3, hEA, hED, hEG, hEL⟩ := hE9
  have hVA := vA hd
  have hVC := vC hd
  show Wp sc mL_changes 62 700 0 0 0 [(0, .ref 0), (1, .ref e), (2, .ref g)] [] S (AR fun v S' => v = .int (nI 1) ∧ Fr S S' Xall ∧ ∃ (d' : D) (a' : AB), LH9 S' e g d' a')
  have hE0 := hE
  have hM0 := hGm
  have hC0 := hCL
  refine r_aload_n rfl rfl ?_
  refine r_aload_n rfl rfl ?_
  refine r_getfN (v := .int (nI (d 0 0))) rfl flL_52.f (by omega) hV v0 ?_
  refine c_staA [.ref g, .int (nI (d 0 0))] [] rfl lkL_34 (l_draw (S := S) (m := d 0 0) hx (by omega) hG hpos (by omega)) rfl rfl (by omega) (by omega) rfl ?_
  rintro _ S1 ⟨p, fg1, hp, rfl, fr2, hsz1, hG1⟩
  have z3 := fr2.1
  have hE1 : ES (Xg g) S1 e d (gf d) := hE0.keep fr2 (fun _ z => Or.inr z)
  have hM1 : eGm (Xg g) S1 e (d 0 3) := hM0.keep fr2 (by omega) hee.2.2 (fun _ z => Or.inr z)
  have hC1 : CL S1 σ := hC0.of fr2.1 (fun i hi => fr2.2.2 i (by omega) (by omega))
  have hX1 : ∀ i, Xg g i → i < S1.2.1 := fun i z => by have := hX i z; omega
  refine r_istore_n (lv' := [(3, .int (nI p)), (0, .ref 0), (1, .ref e), (2, .ref g)]) rfl rfl (Nat.le_of_ble_eq_true rfl) rfl ?_
  refine r_aload_n rfl rfl ?_
  refine n_bipush 7 rfl (by decide) ?_
  refine c_staA [.ref g, .int (nI 7)] [] rfl lkL_34 (l_draw (S := S1) (m := 7) fr2.2.1 (by omega) hG1 (by decide) (by omega)) rfl rfl (by omega) (by omega) rfl ?_
  rintro _ S4 ⟨c7, fg2, hc7, rfl, fr5, hsz2, hG2⟩
  have z6 := fr5.1
  have hE2 : ES (Xg g) S4 e d (gf d) := hE1.keep fr5 (fun _ z => Or.inr z)
  have hM2 : eGm (Xg g) S4 e (d 0 3) := hM1.keep fr5 (by omega) hee.2.2 (fun _ z => Or.inr z)
  have hC2 : CL S4 σ := hC1.of fr5.1 (fun i hi => fr5.2.2 i (by omega) (by omega))
  have hX2 : ∀ i, Xg g i → i < S4.2.1 := fun i z => by have := hX i z; omega
  have hpj := hVA p
  rcases (show c7 = 0 ∨ c7 = 1 ∨ c7 = 2 ∨ c7 = 3 ∨ c7 = 4 ∨ c7 = 5 ∨ c7 = 6 by omega) with rfl | rfl | rfl | rfl | rfl | rfl | rfl
  · refine r_tblIn (off := 37) (tgt := 52) rfl (by decide) (by decide) (by decide) rfl ?_
    refine r_aload_n rfl rfl ?_
    have hp7 : S4.1 e = oO 10 V := ((fr5.2.2 e (by omega) (by omega)).trans ((fr2.2.2 e (by omega) (by omega)).trans hV))
    refine r_getfN (v := .ref ((e + 4))) rfl flL_259 (by omega) hp7 v9 ?_
    refine r_iload_n rfl rfl ?_
    have hp8 : S4.1 (e + 4) = oI0 2 12 f4 := ((fr5.2.2 (e + 4) (by omega) (by omega)).trans ((fr2.2.2 (e + 4) (by omega) (by omega)).trans hf4))
    refine r_zald rfl (by omega) hp8 (by omega) (by decide) ?_
    refine r_top (y := nI (d 4 p)) (k4 p hp) ?_
    refine r_istore (lv' := [(4, .int (nI (d 4 p))), (3, .int (nI p)), (0, .ref 0), (1, .ref e), (2, .ref g)]) rfl (Nat.le_of_ble_eq_true rfl) rfl ?_
    refine r_aload_n rfl rfl ?_
    refine r_getfN (v := .ref ((e + 4))) rfl flL_259 (by omega) hp7 v9 ?_
    refine r_iload_n rfl rfl ?_
    refine r_aload_n rfl rfl ?_
    refine n_iconst 3 rfl ?_
    refine c_staA [.ref g, .int (nI 3)] [.int (nI p), .ref ((e + 4))] rfl lkL_34 (l_draw (S := S4) (m := 3) fr5.2.1 (by omega) hG2 (by decide) (by omega)) rfl rfl (by omega) (by omega) rfl ?_
    rintro _ S9 ⟨kd, fg3, hkd, rfl, fr10, hsz3, hG3⟩
    have z11 := fr10.1
    have hE3 : ES (Xg g) S9 e d (gf d) := hE2.keep fr10 (fun _ z => Or.inr z)
    have hM3 : eGm (Xg g) S9 e (d 0 3) := hM2.keep fr10 (by omega) hee.2.2 (fun _ z => Or.inr z)
    have hC3 : CL S9 σ := hC2.of fr10.1 (fun i hi => fr10.2.2 i (by omega) (by omega))
    have hX3 : ∀ i, Xg g i → i < S9.2.1 := fun i z => by have := hX i z; omega
    suffices K : Wp sc mL_changes 62 700 0 0 78 [(4, .int (nI (d 4 p))), (3, .int (nI p)), (0, .ref 0), (1, .ref e), (2, .ref g)] [.int (nI (tb (decide (0 < kd)))), .int (nI p), .ref ((e + 4))] S9 (AR fun v S' => v = .int (nI 1) ∧ Fr S S' Xall ∧ ∃ (d' : D) (a' : AB), LH9 S' e g d' a') by
      refine n_if_le (tgt := 77) rfl rfl (by omega) (fun h8 => ?_) (fun h8 => ?_)
      · refine n_iconst 0 rfl ?_
        exact r_top (y := nI (tb (decide (0 < kd)))) (by rw [decide_eq_false (by omega)]; rfl) K
      · refine n_iconst 1 rfl ?_
        refine r_goto (tgt := 78) rfl rfl ?_
        exact r_top (y := nI (tb (decide (0 < kd)))) (by rw [decide_eq_true h8]; rfl) K
    generalize decide (0 < kd) = b
    have hp12 : S9.1 (e + 4) = oI0 2 12 f4 := ((fr10.2.2 (e + 4) (by omega) (by omega)).trans hp8)
    refine t_zast rfl fr10.2.1 (by omega) hp12 (by omega) (by decide) (nar_tbz b) ?_
    intro S13 w14
    have z15 := w14.1
    have hEw : ES (Xg g) S13 e (up d 4 p (tb b)) (gf (up d 4 p (tb b))) := es_p4 hE3 w14 k4
    have hMw : eGm (Xg g) S13 e (d 0 3) := hM3.wr w14 hp12 (by omega)
    have hCw : CL S13 σ := hC3.of (by omega) (fun i hi => w14.2.2.2 i (by omega))
    have hGw : S13.1 g = oI0 0 1 _ := (w14.2.2.2 g (by omega)).trans hG3
    have hdn : Vd (up d 4 p (tb b)) := Vdup hd rfl (ok_41 (Nat.le_of_lt_succ (tb_le b)))
    refine r_aload_n rfl rfl ?_
    have hp16 : S13.1 e = oO 10 V := ((w14.2.2.2 e (by omega)).trans ((fr10.2.2 e (by omega) (by omega)).trans hp7))
    have hXw : ∀ i, Xg g i → i < S13.2.1 := fun i z => by have := hX i z; omega
    refine c_virV [] [] rfl lkL_133 (by omega) hp16 rfl rfl (e_settles (S := S13) hdn hEw rfl hXw w14.2.1) rfl rfl (by omega) (by omega) rfl ?_
    rintro S17 ⟨fr18, hE8, hO8, hN8, hm8⟩
    have z19 := fr18.1
    have hM8 : eGm (Xg g) S17 e (d 0 3) := hMw.st fr18 hm8 hp16
    obtain ⟨V8, hV8, hk8⟩ := hm8 _ hp16
    have hC8 : CL S17 σ := hCw.of fr18.1 (fun i hi => fr18.2.2 i (by omega) (by omega))
    have hG8 : S17.1 g = oI0 0 1 _ := (fr18.2.2 g (by omega) (by omega)).trans hGw
    have hp20 : S17.1 (e + 4) = oI0 2 12 (aup f4 p (nI (tb b))) := ((fr18.2.2 (e + 4) (by omega) (by omega)).trans w14.2.2.1)
    refine r_aload_n rfl rfl ?_
    refine r_iload_n rfl rfl ?_
    refine r_aload_n rfl rfl ?_
    refine r_getfN (v := .ref ((e + 4))) rfl flL_259 (by omega) hV8 ((hk8 9 (by decide)).trans v9) ?_
    refine r_iload_n rfl rfl ?_
    refine r_zald rfl (by omega) hp20 (by omega) (by decide) ?_
    refine r_top (y := nI (tb b)) (aup_s _ _ _) ?_
    have hq21 := c_refuse (z := zf) (sc := sc) hA hI (q := p) (b := b) (by rw [hda]; exact hp)
    rw [hda] at hq21
    refine r_cls [.int (nI p), .int (nI (tb b))] [] rfl lkL_276 rfl hq21 rfl rfl (by omega) (by omega) rfl hC8 ?_
    rintro _ σ1 S22 ⟨rfl, hFm, hI9⟩ hC23 hs24 hk25
    have z26 : S22.2.1 = S17.2.1 := congrArg Prod.fst hs24
    have hx27 : S22.2.2 = true := (congrArg Prod.snd hs24).trans fr18.2.1
    have hFk : Fr S17 S22 (fun i => i < 53) := ⟨by omega, hx27, fun i hi hn => hk25 i (Nat.le_of_not_lt hn)⟩
    have hee8 := hE8.e
    have hE9z : ES (Xg g) S22 e (up d 4 p (tb b)) (gf (up d 4 p (tb b))) := hE8.keep hFk (fun _ z => Or.inl z)
    have hO9 : eOld (Xg g) S22 e (up d 4 p (tb b)) := hO8.keep hFk hE8 (fun _ z => Or.inl z)
    have hN9 : eNew (Xg g) S22 e (up d 4 p (tb b)) (gf (up d 4 p (tb b))) := hN8.keep hFk hE8 (fun _ z => Or.inl z)
    refine r_iload rfl rfl ?_
    refine n_icmp_ne (tgt := 103) rfl rfl (by omega) (by omega) (fun hq => absurd rfl hq) (fun _ => ?_)
    refine n_iconst 1 rfl ?_
    refine r_goto (tgt := 104) rfl rfl ?_
    exact r_ret rfl rfl rfl (by omega) (by omega) (⟨_, rfl, rfl, ⟨by omega, hx27, fun _ _ z => absurd trivial z⟩, up d 4 p (tb b), nx a (up d 4 p (tb b)), ⟨hdn, pu_ok hA hdn (by rw [hda]; exact Smup rfl), rfl, hpos, hpo2, hL0⟩, ⟨_, hI9, hC23⟩, hx27, ⟨hg1, by omega, _, (hk25 g hg1).trans hG8⟩, hE9z, hO9, hN9, hM8.keep hFk hee8.2.1 hee8.2.2 (fun _ z => Or.inl z)⟩)
  · refine r_tblIn (off := 37) (tgt := 52) rfl (by decide) (by decide) (by decide) rfl ?_
    refine r_aload_n rfl rfl ?_
    have hp28 : S4.1 e = oO 10 V := ((fr5.2.2 e (by omega) (by omega)).trans ((fr2.2.2 e (by omega) (by omega)).trans hV))
    refine r_getfN (v := .ref ((e + 4))) rfl flL_259 (by omega) hp28 v9 ?_
    refine r_iload_n rfl rfl ?_
    have hp29 : S4.1 (e + 4) = oI0 2 12 f4 := ((fr5.2.2 (e + 4) (by omega) (by omega)).trans ((fr2.2.2 (e + 4) (by omega) (by omega)).trans hf4))
    refine r_zald rfl (by omega) hp29 (by omega) (by decide) ?_
    refine r_top (y := nI (d 4 p)) (k4 p hp) ?_
    refine r_istore (lv' := [(4, .int (nI (d 4 p))), (3, .int (nI p)), (0, .ref 0), (1, .ref e), (2, .ref g)]) rfl (Nat.le_of_ble_eq_true rfl) rfl ?_
    refine r_aload_n rfl rfl ?_
    refine r_getfN (v := .ref ((e + 4))) rfl flL_259 (by omega) hp28 v9 ?_
    refine r_iload_n rfl rfl ?_
    refine r_aload_n rfl rfl ?_
    refine n_iconst 3 rfl ?_
    refine c_staA [.ref g, .int (nI 3)] [.int (nI p), .ref ((e + 4))] rfl lkL_34 (l_draw (S := S4) (m := 3) fr5.2.1 (by omega) hG2 (by decide) (by omega)) rfl rfl (by omega) (by omega) rfl ?_
    rintro _ S30 ⟨kd, fg3, hkd, rfl, fr31, hsz3, hG3⟩
    have z32 := fr31.1
    have hE3 : ES (Xg g) S30 e d (gf d) := hE2.keep fr31 (fun _ z => Or.inr z)
    have hM3 : eGm (Xg g) S30 e (d 0 3) := hM2.keep fr31 (by omega) hee.2.2 (fun _ z => Or.inr z)
    have hC3 : CL S30 σ := hC2.of fr31.1 (fun i hi => fr31.2.2 i (by omega) (by omega))
    have hX3 : ∀ i, Xg g i → i < S30.2.1 := fun i z => by have := hX i z; omega
    suffices K : Wp sc mL_changes 62 700 0 0 78 [(4, .int (nI (d 4 p))), (3, .int (nI p)), (0, .ref 0), (1, .ref e), (2, .ref g)] [.int (nI (tb (decide (0 < kd)))), .int (nI p), .ref ((e + 4))] S30 (AR fun v S' => v = .int (nI 1) ∧ Fr S S' Xall ∧ ∃ (d' : D) (a' : AB), LH9 S' e g d' a') by
      refine n_if_le (tgt := 77) rfl rfl (by omega) (fun h8 => ?_) (fun h8 => ?_)
      · refine n_iconst 0 rfl ?_
        exact r_top (y := nI (tb (decide (0 < kd)))) (by rw [decide_eq_false (by omega)]; rfl) K
      · refine n_iconst 1 rfl ?_
        refine r_goto (tgt := 78) rfl rfl ?_
        exact r_top (y := nI (tb (decide (0 < kd)))) (by rw [decide_eq_true h8]; rfl) K
    generalize decide (0 < kd) = b
    have hp33 : S30.1 (e + 4) = oI0 2 12 f4 := ((fr31.2.2 (e + 4) (by omega) (by omega)).trans hp29)
    refine t_zast rfl fr31.2.1 (by omega) hp33 (by omega) (by decide) (nar_tbz b) ?_
    intro S34 w35
    have z36 := w35.1
    have hEw : ES (Xg g) S34 e (up d 4 p (tb b)) (gf (up d 4 p (tb b))) := es_p4 hE3 w35 k4
    have hMw : eGm (Xg g) S34 e (d 0 3) := hM3.wr w35 hp33 (by omega)
    have hCw : CL S34 σ := hC3.of (by omega) (fun i hi => w35.2.2.2 i (by omega))
    have hGw : S34.1 g = oI0 0 1 _ := (w35.2.2.2 g (by omega)).trans hG3
    have hdn : Vd (up d 4 p (tb b)) := Vdup hd rfl (ok_41 (Nat.le_of_lt_succ (tb_le b)))
    refine r_aload_n rfl rfl ?_
    have hp37 : S34.1 e = oO 10 V := ((w35.2.2.2 e (by omega)).trans ((fr31.2.2 e (by omega) (by omega)).trans hp28))
    have hXw : ∀ i, Xg g i → i < S34.2.1 := fun i z => by have := hX i z; omega
    refine c_virV [] [] rfl lkL_133 (by omega) hp37 rfl rfl (e_settles (S := S34) hdn hEw rfl hXw w35.2.1) rfl rfl (by omega) (by omega) rfl ?_
    rintro S38 ⟨fr39, hE8, hO8, hN8, hm8⟩
    have z40 := fr39.1
    have hM8 : eGm (Xg g) S38 e (d 0 3) := hMw.st fr39 hm8 hp37
    obtain ⟨V8, hV8, hk8⟩ := hm8 _ hp37
    have hC8 : CL S38 σ := hCw.of fr39.1 (fun i hi => fr39.2.2 i (by omega) (by omega))
    have hG8 : S38.1 g = oI0 0 1 _ := (fr39.2.2 g (by omega) (by omega)).trans hGw
    have hp41 : S38.1 (e + 4) = oI0 2 12 (aup f4 p (nI (tb b))) := ((fr39.2.2 (e + 4) (by omega) (by omega)).trans w35.2.2.1)
    refine r_aload_n rfl rfl ?_
    refine r_iload_n rfl rfl ?_
    refine r_aload_n rfl rfl ?_
    refine r_getfN (v := .ref ((e + 4))) rfl flL_259 (by omega) hV8 ((hk8 9 (by decide)).trans v9) ?_
    refine r_iload_n rfl rfl ?_
    refine r_zald rfl (by omega) hp41 (by omega) (by decide) ?_
    refine r_top (y := nI (tb b)) (aup_s _ _ _) ?_
    have hq42 := c_refuse (z := zf) (sc := sc) hA hI (q := p) (b := b) (by rw [hda]; exact hp)
    rw [hda] at hq42
    refine r_cls [.int (nI p), .int (nI (tb b))] [] rfl lkL_276 rfl hq42 rfl rfl (by omega) (by omega) rfl hC8 ?_
    rintro _ σ1 S43 ⟨rfl, hFm, hI9⟩ hC44 hs45 hk46
    have z47 : S43.2.1 = S38.2.1 := congrArg Prod.fst hs45
    have hx48 : S43.2.2 = true := (congrArg Prod.snd hs45).trans fr39.2.1
    have hFk : Fr S38 S43 (fun i => i < 53) := ⟨by omega, hx48, fun i hi hn => hk46 i (Nat.le_of_not_lt hn)⟩
    have hee8 := hE8.e
    have hE9z : ES (Xg g) S43 e (up d 4 p (tb b)) (gf (up d 4 p (tb b))) := hE8.keep hFk (fun _ z => Or.inl z)
    have hO9 : eOld (Xg g) S43 e (up d 4 p (tb b)) := hO8.keep hFk hE8 (fun _ z => Or.inl z)
    have hN9 : eNew (Xg g) S43 e (up d 4 p (tb b)) (gf (up d 4 p (tb b))) := hN8.keep hFk hE8 (fun _ z => Or.inl z)
    refine r_iload rfl rfl ?_
    refine n_icmp_ne (tgt := 103) rfl rfl (by omega) (by omega) (fun hq => absurd rfl hq) (fun _ => ?_)
    refine n_iconst 1 rfl ?_
    refine r_goto (tgt := 104) rfl rfl ?_
    exact r_ret rfl rfl rfl (by omega) (by omega) (⟨_, rfl, rfl, ⟨by omega, hx48, fun _ _ z => absurd trivial z⟩, up d 4 p (tb b), nx a (up d 4 p (tb b)), ⟨hdn, pu_ok hA hdn (by rw [hda]; exact Smup rfl), rfl, hpos, hpo2, hL0⟩, ⟨_, hI9, hC44⟩, hx48, ⟨hg1, by omega, _, (hk46 g hg1).trans hG8⟩, hE9z, hO9, hN9, hM8.keep hFk hee8.2.1 hee8.2.2 (fun _ z => Or.inl z)⟩)
  · refine r_tblIn (off := 90) (tgt := 105) rfl (by decide) (by decide) (by decide) rfl ?_
    have hp49 : S4.1 (e + 3) = oI0 2 12 f3 := ((fr5.2.2 (e + 3) (by omega) (by omega)).trans ((fr2.2.2 (e + 3) (by omega) (by omega)).trans hf3))
    refine r_aload_n rfl rfl ?_
    have hp50 : S4.1 e = oO 10 V := ((fr5.2.2 e (by omega) (by omega)).trans ((fr2.2.2 e (by omega) (by omega)).trans hV))
    refine r_getfN (v := .ref ((e + 3))) rfl flL_73 (by omega) hp50 v8 ?_
    refine r_iload_n rfl rfl ?_
    refine n_iconst 1 rfl ?_
    refine t_zast rfl fr5.2.1 (by omega) hp49 (by omega) (by decide) (by decide) ?_
    intro S51 w52
    have z53 := w52.1
    have hEw : ES (Xg g) S51 e (up d 3 p 1) (gf (up d 3 p 1)) := es_p3 hE2 w52 k3
    have hMw : eGm (Xg g) S51 e (d 0 3) := hM2.wr w52 hp49 (by omega)
    have hCw : CL S51 σ := hC2.of (by omega) (fun i hi => w52.2.2.2 i (by omega))
    have hGw : S51.1 g = oI0 0 1 _ := (w52.2.2.2 g (by omega)).trans hG2
    have hdn : Vd (up d 3 p 1) := Vdup hd rfl (ok_3 (Nat.le_refl 1))
    refine r_aload_n rfl rfl ?_
    have hp54 : S51.1 e = oO 10 V := ((w52.2.2.2 e (by omega)).trans hp50)
    have hXw : ∀ i, Xg g i → i < S51.2.1 := fun i z => by have := hX i z; omega
    refine c_virV [] [] rfl lkL_133 (by omega) hp54 rfl rfl (e_settles (S := S51) hdn hEw rfl hXw w52.2.1) rfl rfl (by omega) (by omega) rfl ?_
    rintro S55 ⟨fr56, hE8, hO8, hN8, hm8⟩
    have z57 := fr56.1
    have hM8 : eGm (Xg g) S55 e (d 0 3) := hMw.st fr56 hm8 hp54
    obtain ⟨V8, hV8, hk8⟩ := hm8 _ hp54
    have hC8 : CL S55 σ := hCw.of fr56.1 (fun i hi => fr56.2.2 i (by omega) (by omega))
    have hG8 : S55.1 g = oI0 0 1 _ := (fr56.2.2 g (by omega) (by omega)).trans hGw
    refine r_aload_n rfl rfl ?_
    refine r_iload_n rfl rfl ?_
    have hq58 := c_die (z := zf) (sc := sc) hA hI (q := p) (by rw [hda]; exact hp)
    rw [hda] at hq58
    refine r_cls [.int (nI p)] [] rfl lkL_280 rfl hq58 rfl rfl (by omega) (by omega) rfl hC8 ?_
    rintro _ σ1 S59 ⟨rfl, hFm, hI9⟩ hC60 hs61 hk62
    have z63 : S59.2.1 = S55.2.1 := congrArg Prod.fst hs61
    have hx64 : S59.2.2 = true := (congrArg Prod.snd hs61).trans fr56.2.1
    have hFk : Fr S55 S59 (fun i => i < 53) := ⟨by omega, hx64, fun i hi hn => hk62 i (Nat.le_of_not_lt hn)⟩
    have hee8 := hE8.e
    have hE9z : ES (Xg g) S59 e (up d 3 p 1) (gf (up d 3 p 1)) := hE8.keep hFk (fun _ z => Or.inl z)
    have hO9 : eOld (Xg g) S59 e (up d 3 p 1) := hO8.keep hFk hE8 (fun _ z => Or.inl z)
    have hN9 : eNew (Xg g) S59 e (up d 3 p 1) (gf (up d 3 p 1)) := hN8.keep hFk hE8 (fun _ z => Or.inl z)
    have hml := mk_lt12 (he (up d 3 p 1)) (Nat.le_refl 12)
    have hs1 := e_set (sc := sc) (S := S59) hdn hE9z hO9 hN9 (c := false)
    rw [← mk_he hdn] at hs1
    refine r_aload_n rfl rfl ?_
    refine n_iconst 0 rfl ?_
    have hp65 : S59.1 e = oO 10 V8 := ((hk62 e (by omega)).trans hV8)
    refine c_virA [.int (nI 0)] [.int (nI (mk (he (up d 3 p 1)) 12))] rfl lkL_215 (by omega) hp65 rfl rfl hs1 rfl rfl (by omega) (by omega) rfl ?_
    rintro _ _ ⟨rfl, rfl⟩
    refine n_icmp_ne (tgt := 133) rfl rfl (by omega) (by omega) (fun hq => absurd hq (fun z => z rfl)) (fun _ => ?_)
    refine n_iconst 1 rfl ?_
    refine r_goto (tgt := 134) rfl rfl ?_
    exact r_ret rfl rfl rfl (by omega) (by omega) (⟨_, rfl, rfl, ⟨by omega, hx64, fun _ _ z => absurd trivial z⟩, up d 3 p 1, nx a (up d 3 p 1), ⟨hdn, pu_ok hA hdn (by rw [hda]; exact Smup rfl), rfl, hpos, hpo2, hL0⟩, ⟨_, hI9, hC60⟩, hx64, ⟨hg1, by omega, _, (hk62 g hg1).trans hG8⟩, hE9z, hO9, hN9, hM8.keep hFk hee8.2.1 hee8.2.2 (fun _ z => Or.inl z)⟩)
  · refine r_tblIn (off := 120) (tgt := 135) rfl (by decide) (by decide) (by decide) rfl ?_
    refine r_aload_n rfl rfl ?_
    have hp66 : S4.1 e = oO 10 V := ((fr5.2.2 e (by omega) (by omega)).trans ((fr2.2.2 e (by omega) (by omega)).trans hV))
    refine r_getfN (v := .ref ((e + 2))) rfl flL_66 (by omega) hp66 v7 ?_
    refine r_iload_n rfl rfl ?_
    have hp67 : S4.1 (e + 2) = oI0 0 12 f2 := ((fr5.2.2 (e + 2) (by omega) (by omega)).trans ((fr2.2.2 (e + 2) (by omega) (by omega)).trans hf2))
    refine r_iald rfl (by omega) hp67 (by omega) (by decide) ?_
    refine r_top (y := nI (d 2 p)) (k2 p hp) ?_
    refine r_istore (lv' := [(4, .int (nI (d 2 p))), (3, .int (nI p)), (0, .ref 0), (1, .ref e), (2, .ref g)]) rfl (Nat.le_of_ble_eq_true rfl) rfl ?_
    refine r_aload_n rfl rfl ?_
    refine r_getfN (v := .ref ((e + 2))) rfl flL_66 (by omega) hp66 v7 ?_
    refine r_iload_n rfl rfl ?_
    refine r_aload_n rfl rfl ?_
    refine n_bipush 121 rfl (by decide) ?_
    refine c_staA [.ref g, .int (nI 121)] [.int (nI p), .ref ((e + 2))] rfl lkL_34 (l_draw (S := S4) (m := 121) fr5.2.1 (by omega) hG2 (by decide) (by omega)) rfl rfl (by omega) (by omega) rfl ?_
    rintro _ S68 ⟨kd, fg3, hkd, rfl, fr69, hsz3, hG3⟩
    have z70 := fr69.1
    have hE3 : ES (Xg g) S68 e d (gf d) := hE2.keep fr69 (fun _ z => Or.inr z)
    have hM3 : eGm (Xg g) S68 e (d 0 3) := hM2.keep fr69 (by omega) hee.2.2 (fun _ z => Or.inr z)
    have hC3 : CL S68 σ := hC2.of fr69.1 (fun i hi => fr69.2.2 i (by omega) (by omega))
    have hX3 : ∀ i, Xg g i → i < S68.2.1 := fun i z => by have := hX i z; omega
    have hp71 : S68.1 (e + 2) = oI0 0 12 f2 := ((fr69.2.2 (e + 2) (by omega) (by omega)).trans hp67)
    refine t_iast rfl fr69.2.1 (by omega) hp71 (by omega) (by decide) ?_
    intro S72 w73
    have z74 := w73.1
    have hEw : ES (Xg g) S72 e (up d 2 p kd) (gf (up d 2 p kd)) := es_p2 hE3 w73 k2
    have hMw : eGm (Xg g) S72 e (d 0 3) := hM3.wr w73 hp71 (by omega)
    have hCw : CL S72 σ := hC3.of (by omega) (fun i hi => w73.2.2.2 i (by omega))
    have hGw : S72.1 g = oI0 0 1 _ := (w73.2.2.2 g (by omega)).trans hG3
    have hdn : Vd (up d 2 p kd) := Vdup hd rfl (ok_2 (by omega))
    refine r_aload_n rfl rfl ?_
    have hp75 : S72.1 e = oO 10 V := ((w73.2.2.2 e (by omega)).trans ((fr69.2.2 e (by omega) (by omega)).trans hp66))
    have hXw : ∀ i, Xg g i → i < S72.2.1 := fun i z => by have := hX i z; omega
    refine c_virV [] [] rfl lkL_133 (by omega) hp75 rfl rfl (e_settles (S := S72) hdn hEw rfl hXw w73.2.1) rfl rfl (by omega) (by omega) rfl ?_
    rintro S76 ⟨fr77, hE8, hO8, hN8, hm8⟩
    have z78 := fr77.1
    have hM8 : eGm (Xg g) S76 e (d 0 3) := hMw.st fr77 hm8 hp75
    obtain ⟨V8, hV8, hk8⟩ := hm8 _ hp75
    have hC8 : CL S76 σ := hCw.of fr77.1 (fun i hi => fr77.2.2 i (by omega) (by omega))
    have hG8 : S76.1 g = oI0 0 1 _ := (fr77.2.2 g (by omega) (by omega)).trans hGw
    have hp79 : S76.1 (e + 2) = oI0 0 12 (aup f2 p (nI kd)) := ((fr77.2.2 (e + 2) (by omega) (by omega)).trans w73.2.2.1)
    refine r_aload_n rfl rfl ?_
    refine r_iload_n rfl rfl ?_
    refine r_aload_n rfl rfl ?_
    refine r_getfN (v := .ref ((e + 2))) rfl flL_66 (by omega) hV8 ((hk8 7 (by decide)).trans v7) ?_
    refine r_iload_n rfl rfl ?_
    refine r_iald rfl (by omega) hp79 (by omega) (by decide) ?_
    refine r_top (y := nI kd) (aup_s _ _ _) ?_
    have hq80 := c_setAge (z := zf) (sc := sc) hA hI (q := p) (v9 := kd) (by rw [hda]; exact hp) (by omega)
    rw [hda] at hq80
    refine r_cls [.int (nI p), .int (nI kd)] [] rfl lkL_283 rfl hq80 rfl rfl (by omega) (by omega) rfl hC8 ?_
    rintro _ σ1 S81 ⟨rfl, hFm, hI9⟩ hC82 hs83 hk84
    have z85 : S81.2.1 = S76.2.1 := congrArg Prod.fst hs83
    have hx86 : S81.2.2 = true := (congrArg Prod.snd hs83).trans fr77.2.1
    have hFk : Fr S76 S81 (fun i => i < 53) := ⟨by omega, hx86, fun i hi hn => hk84 i (Nat.le_of_not_lt hn)⟩
    have hee8 := hE8.e
    have hE9z : ES (Xg g) S81 e (up d 2 p kd) (gf (up d 2 p kd)) := hE8.keep hFk (fun _ z => Or.inl z)
    have hO9 : eOld (Xg g) S81 e (up d 2 p kd) := hO8.keep hFk hE8 (fun _ z => Or.inl z)
    have hN9 : eNew (Xg g) S81 e (up d 2 p kd) (gf (up d 2 p kd)) := hN8.keep hFk hE8 (fun _ z => Or.inl z)
    refine r_iload rfl rfl ?_
    refine n_icmp_ne (tgt := 179) rfl rfl (by omega) (by omega) (fun hq => absurd hq (fun z => z rfl)) (fun _ => ?_)
    refine n_iconst 1 rfl ?_
    refine r_goto (tgt := 180) rfl rfl ?_
    exact r_ret rfl rfl rfl (by omega) (by omega) (⟨_, rfl, rfl, ⟨by omega, hx86, fun _ _ z => absurd trivial z⟩, up d 2 p kd, nx a (up d 2 p kd), ⟨hdn, pu_ok hA hdn (by rw [hda]; exact Smup rfl), rfl, hpos, hpo2, hL0⟩, ⟨_, hI9, hC82⟩, hx86, ⟨hg1, by omega, _, (hk84 g hg1).trans hG8⟩, hE9z, hO9, hN9, hM8.keep hFk hee8.2.1 hee8.2.2 (fun _ z => Or.inl z)⟩)
  · refine r_tblIn (off := 166) (tgt := 181) rfl (by decide) (by decide) (by decide) rfl ?_
    obtain ⟨m, A, B, ⟨W, pl, hW, ⟨c1, c2, c3⟩, hrow⟩, hm9, hAB, hGs⟩ := hEG
    have hqg := Xg_i c3
    have hmm := hGm.at hV v12 hW
    subst hmm
    refine r_aload_n rfl rfl ?_
    have hp87 : S4.1 e = oO 10 V := ((fr5.2.2 e (by omega) (by omega)).trans ((fr2.2.2 e (by omega) (by omega)).trans hV))
    refine r_getfN (v := .ref qg) rfl flL_98.f (by omega) hp87 v12 ?_
    have hp88 : S4.1 qg = oQ (d 0 3) W := ((fr5.2.2 qg (by omega) (by omega)).trans ((fr2.2.2 qg (by omega) (by omega)).trans hW))
    refine r_alenQ rfl (by omega) hp88 ?_
    refine n_bipush 8 rfl (by decide) ?_
    refine n_icmp_ne (tgt := 193) rfl rfl (by omega) (by omega) (fun h7 => ?_) (fun h7 => ?_)
    · have h8 : d 0 3 < 8 := by omega
      refine r_aload_n rfl rfl ?_
      refine r_getfN (v := .ref qg) rfl flL_98.f (by omega) hp87 v12 ?_
      refine r_alenQ rfl (by omega) hp88 ?_
      refine n_iconst 1 rfl ?_
      refine n_iadd rfl ?_
      refine t_anewQ rfl awL_32 fr5.2.1 (by omega) (by omega) (by omega) ?_
      intro S89 w90
      have z91 := w90.1
      refine r_astore (lv' := [(4, .ref S4.2.1), (3, .int (nI p)), (0, .ref 0), (1, .ref e), (2, .ref g)]) rfl (Nat.le_of_ble_eq_true rfl) rfl ?_
      refine n_iconst 0 rfl ?_
      refine r_istore (lv' := [(5, .int (nI 0)), (4, .ref S4.2.1), (3, .int (nI p)), (0, .ref 0), (1, .ref e), (2, .ref g)]) rfl (Nat.le_of_ble_eq_true rfl) rfl ?_
      have hp92 : S89.1 g = oI0 0 1 fg2 := ((w90.2.2.2 g (by omega)).trans hG2)
      have hFs : ∀ i, i < S.2.1 → i ≠ g → S89.1 i = S.1 i := fun i hi hn => ((w90.2.2.2 i (by omega)).trans ((fr5.2.2 i (by omega) (by omega)).trans ((fr2.2.2 i (by omega) (by omega)).trans rfl)))
      refine r_lv (lv' := [(5, .int (nI 0)), (4, .ref S4.2.1), (3, .int (nI p)), (0, .ref 0), (1, .ref e), (2, .ref g)]) [0, 1, 2, 3, 4, 5] rfl ?_
      have loopC : ∀ (m9 : Nat) (i : Nat) (Sa : AS) (W7 : Nat → Value), d 0 3 - i < m9 → (Sa.2.2 = true) → (i ≤ d 0 3) → (∀ i, i < S89.2.1 → i ≠ S4.2.1 → Sa.1 i = S89.1 i) → (Sa.2.1 = S89.2.1) → (Sa.1 S4.2.1 = oQ (d 0 3 + 1) W7 ∧ ∀ k, k < i → W7 k = W k) → Wp sc mL_changes 62 700 (0 + 1) (0 + ((d 0 3) + 1)) 208 [(5, .int (nI i)), (4, .ref S4.2.1), (3, .int (nI p)), (0, .ref 0), (1, .ref e), (2, .ref g)] [] Sa (AR fun v S' => v = .int (nI 1) ∧ Fr S S' Xall ∧ ∃ (d' : D) (a' : AB), LH9 S' e g d' a') := by
        intro m9
        induction m9 with
        | zero => intro i Sa W7 hme; exact absurd hme (Nat.not_lt_zero _)
        | succ m9 ih =>
          intro i Sa W7 hme hxSa hi hF7 hz7 hq7
          obtain ⟨hq7, hWl⟩ := hq7
          refine r_iload rfl rfl ?_
          refine r_aload_n rfl rfl ?_
          refine r_getfN (v := .ref qg) rfl flL_98.f (by omega) ((hF7 e (by omega) (by omega)).trans ((hFs e (by omega) (by omega)).trans hV)) v12 ?_
          refine r_alenQ rfl (by omega) ((hF7 qg (by omega) (by omega)).trans ((hFs qg (by omega) (by omega)).trans hW)) ?_
          refine n_icmp_ge (tgt := 236) rfl rfl (by omega) (by omega) (fun h9 => ?_) (fun h9 => ?_)
          · have e9 : i = d 0 3 := by omega
            rw [e9] at hWl
            refine r_aload rfl rfl ?_
            refine r_aload_n rfl rfl ?_
            refine r_getfN (v := .ref qg) rfl flL_98.f (by omega) ((hF7 e (by omega) (by omega)).trans ((hFs e (by omega) (by omega)).trans hV)) v12 ?_
            refine r_alenQ rfl (by omega) ((hF7 qg (by omega) (by omega)).trans ((hFs qg (by omega) (by omega)).trans hW)) ?_
            refine n_iconst 2 rfl ?_
            refine t_newa0 rfl hxSa (by decide) (by omega) (by omega) ?_
            intro S93 w94
            have z95 := w94.1
            refine r_dup rfl rfl ?_
            refine n_iconst 0 rfl ?_
            refine r_iload_n rfl rfl ?_
            refine t_iast rfl w94.2.1 (by omega) w94.2.2.1 (by decide) (by decide) ?_
            intro S96 w97
            have z98 := w97.1
            refine r_dup rfl rfl ?_
            refine n_iconst 1 rfl ?_
            refine r_aload_n rfl rfl ?_
            refine n_sipush 3000 rfl (by decide) ?_
            have hp99 : S96.1 g = oI0 0 1 fg2 := ((w97.2.2.2 g (by omega)).trans ((w94.2.2.2 g (by omega)).trans ((hF7 g (by omega) (by omega)).trans hp92)))
            refine c_staA [.ref g, .int (nI 3000)] [.int (nI 1), .ref Sa.2.1, .ref Sa.2.1, .int (nI (d 0 3)), .ref S4.2.1] rfl lkL_34 (l_draw (S := S96) (m := 3000) w97.2.1 (by omega) hp99 (by decide) (by omega)) rfl rfl (by omega) (by omega) rfl ?_
            rintro _ S100 ⟨kd, fg3, hkd, rfl, fr101, hsz3, hG3⟩
            have z102 := fr101.1
            have hp103 : S100.1 Sa.2.1 = oI0 0 2 (aup (fun _ => 0) 0 (nI p)) := ((fr101.2.2 Sa.2.1 (by omega) (by omega)).trans w97.2.2.1)
            refine t_iast rfl fr101.2.1 (by omega) hp103 (by decide) (by decide) ?_
            intro S104 w105
            have z106 := w105.1
            have hp107 : S104.1 S4.2.1 = oQ (d 0 3 + 1) W7 := ((w105.2.2.2 S4.2.1 (by omega)).trans ((fr101.2.2 S4.2.1 (by omega) (by omega)).trans ((w97.2.2.2 S4.2.1 (by omega)).trans ((w94.2.2.2 S4.2.1 (by omega)).trans hq7))))
            refine t_aast rfl w105.2.1 (by omega) hp107 (by omega) w105.2.2.1 (by omega) (by omega) ?_
            intro S108 w109
            have z110 := w109.1
            refine r_aload_n rfl rfl ?_
            refine r_aload rfl rfl ?_
            have hp111 : S108.1 e = oO 10 V := ((w109.2.2.2 e (by omega)).trans ((w105.2.2.2 e (by omega)).trans ((fr101.2.2 e (by omega) (by omega)).trans ((w97.2.2.2 e (by omega)).trans ((w94.2.2.2 e (by omega)).trans ((hF7 e (by omega) (by omega)).trans ((hFs e (by omega) (by omega)).trans hV)))))))
            refine t_putfN rfl flL_98 (okv_a _ _) w109.2.1 (by omega) hp111 ?_
            intro S112 w113
            have z114 := w113.1
            have hp115 : S112.1 S4.2.1 = oQ (d 0 3 + 1) (aup W7 (d 0 3) (.ref Sa.2.1)) := ((w113.2.2.2 S4.2.1 (by omega)).trans w109.2.2.1)
            have hp116 : S112.1 Sa.2.1 = oI0 0 2 (aup (aup (fun _ => 0) 0 (nI p)) 1 (nI kd)) := ((w113.2.2.2 Sa.2.1 (by omega)).trans ((w109.2.2.2 Sa.2.1 (by omega)).trans w105.2.2.1))
            have hFw : ∀ i, i < S.2.1 → i ≠ g → i ≠ e → S112.1 i = S.1 i := fun i hi h1 h2 => ((w113.2.2.2 i (by omega)).trans ((w109.2.2.2 i (by omega)).trans ((w105.2.2.2 i (by omega)).trans ((fr101.2.2 i (by omega) (by omega)).trans ((w97.2.2.2 i (by omega)).trans ((w94.2.2.2 i (by omega)).trans ((hF7 i (by omega) (by omega)).trans (hFs i hi h1))))))))
            have hEw : ES (Xg g) S112 e (upG d p kd) (gf (upG d p kd)) := by
              have h0 : ES (Xg g) S112 e d (aup (gf d) p (gf d p + kd)) := ES.more hE (hGm.le (by omega)) hX hV ⟨by omega, w113.2.1, fun i hi hn => hFw i hi (fun z => hn (Or.inr (Or.inr z))) (fun z => hn (Or.inl z))⟩ w113.2.2.1 (fun k _ h => aup_n _ _ h) (aup_s _ _ _) (by omega) (by omega) ⟨by omega, by omega, by omega, by omega⟩ (fun y k U h1 h2 => by
                have e1 := ref_in (v12.symm.trans h1)
                subst e1
                have e2 := oQ_in (hW.symm.trans h2)
                obtain ⟨rfl, rfl⟩ := e2
                exact ⟨hp115, fun j hj => (aup_n _ _ (by omega)).trans (hWl j hj), aup_s _ _ _⟩) ⟨hp116, by rw [aup_n _ _ (by decide), aup_s], aup_s _ _ _⟩
              rw [gf_upG]
              exact h0
            have hMw : eGm (Xg g) S112 e (d 0 3 + 1) := by
              have hlt : S4.2.1 < S112.2.1 := by omega
              have hn1 : ¬ Xg g S4.2.1 := Xg_o (by omega) (by omega)
              have hn2 : S4.2.1 ≠ e := by omega
              intro U hU
              have e1 := oO_in (hU.symm.trans w113.2.2.1)
              subst e1
              exact ⟨S4.2.1, _, aup_s _ _ _, ⟨hlt, hn1, hn2⟩, hp115⟩
            have hp117 : S112.1 g = oI0 0 1 fg3 := ((w113.2.2.2 g (by omega)).trans ((w109.2.2.2 g (by omega)).trans ((w105.2.2.2 g (by omega)).trans hG3)))
            have hCw : CL S112 σ := hCL.of (by omega) (fun i hi => hFw i (by omega) (by omega) (by omega))
            have hGw : S112.1 g = oI0 0 1 _ := hp117
            have hdn : Vd (upG d p kd) := Vd_upG hd h8 (by omega) (by omega)
            refine r_aload_n rfl rfl ?_
            have hXw : ∀ i, Xg g i → i < S112.2.1 := fun i z => by have := hX i z; omega
            refine c_virV [] [] rfl lkL_133 (by omega) w113.2.2.1 rfl rfl (e_settles (S := S112) hdn hEw rfl hXw w113.2.1) rfl rfl (by omega) (by omega) rfl ?_
            rintro S118 ⟨fr119, hE8, hO8, hN8, hm8⟩
            have z120 := fr119.1
            have hM8 : eGm (Xg g) S118 e (d 0 3 + 1) := hMw.st fr119 hm8 w113.2.2.1
            obtain ⟨V8, hV8, hk8⟩ := hm8 _ w113.2.2.1
            have hC8 : CL S118 σ := hCw.of fr119.1 (fun i hi => fr119.2.2 i (by omega) (by omega))
            have hG8 : S118.1 g = oI0 0 1 _ := (fr119.2.2 g (by omega) (by omega)).trans hGw
            have hp121 : S118.1 S4.2.1 = oQ (d 0 3 + 1) (aup W7 (d 0 3) (.ref Sa.2.1)) := ((fr119.2.2 S4.2.1 (by omega) (by omega)).trans hp115)
            refine r_aload_n rfl rfl ?_
            refine r_iload_n rfl rfl ?_
            refine r_aload rfl rfl ?_
            refine r_aload rfl rfl ?_
            refine r_alenQ rfl (by omega) hp121 ?_
            refine n_iconst 1 rfl ?_
            refine n_isub rfl (by omega) ?_
            refine r_aald (x := Sa.2.1) rfl (by omega) hp121 (by omega) (by omega) (aup_at (by omega)) ?_
            refine n_iconst 1 rfl ?_
            have hp122 : S118.1 Sa.2.1 = oI0 0 2 (aup (aup (fun _ => 0) 0 (nI p)) 1 (nI kd)) := ((fr119.2.2 Sa.2.1 (by omega) (by omega)).trans hp116)
            refine r_iald rfl (by omega) hp122 (by decide) (by decide) ?_
            refine r_top (y := nI kd) (aup_s _ _ _) ?_
            have hq123 := c_addGift (z := zf) (sc := sc) hA hI (q := p) (v9 := kd) (by rw [hda]; exact hp) (by omega) (by rw [hda]; exact h8)
            rw [hda] at hq123
            refine r_cls [.int (nI p), .int (nI kd)] [] rfl lkL_286 rfl hq123 rfl rfl (by omega) (by omega) rfl hC8 ?_
            rintro _ σ1 S124 ⟨rfl, hFm, hI9⟩ hC125 hs126 hk127
            have z128 : S124.2.1 = S118.2.1 := congrArg Prod.fst hs126
            have hx129 : S124.2.2 = true := (congrArg Prod.snd hs126).trans fr119.2.1
            have hFk : Fr S118 S124 (fun i => i < 53) := ⟨by omega, hx129, fun i hi hn => hk127 i (Nat.le_of_not_lt hn)⟩
            have hee8 := hE8.e
            have hE9z : ES (Xg g) S124 e (upG d p kd) (gf (upG d p kd)) := hE8.keep hFk (fun _ z => Or.inl z)
            have hO9 : eOld (Xg g) S124 e (upG d p kd) := hO8.keep hFk hE8 (fun _ z => Or.inl z)
            have hN9 : eNew (Xg g) S124 e (upG d p kd) (gf (upG d p kd)) := hN8.keep hFk hE8 (fun _ z => Or.inl z)
            have hp130 : S124.1 e = oO 10 V8 := ((hk127 e (by omega)).trans hV8)
            obtain ⟨V9, hV9⟩ : ∃ V9, S124.1 e = oO 10 V9 := ⟨V8, hp130⟩
            obtain ⟨c14, c15, c16, ⟨-, -, y16⟩, -, -, -, ⟨h16, s16, ⟨-, m16, -⟩, o16⟩⟩ := hO9 V9 hV9
            obtain ⟨c17, c18, c19, c20, c21, ⟨y17, -, -, -, -⟩, -, ⟨h17, s17, ⟨-, m17, -⟩, o17⟩, -⟩ := hN9 V9 hV9
            have hdb := dvh_le hdn p
            have h00 : (upG d p kd) 0 0 = d 0 0 := rfl
            refine r_aload_n rfl rfl ?_
            refine r_getfN (v := .ref c16) rfl flL_235.f (by omega) hV9 y16 ?_
            refine r_iload_n rfl rfl ?_
            refine r_iald rfl (by omega) s16 (by omega) (by omega) ?_
            refine r_top (y := nI (dvh (upG d p kd) p)) (o16 p hp) ?_
            suffices K : Wp sc mL_changes 62 700 (0 + 1 + 1 + 50) (0 + ((d 0 3) + 1) + 2 + 600) 305 [(5, .int (nI i)), (4, .ref S4.2.1), (3, .int (nI p)), (0, .ref 0), (1, .ref e), (2, .ref g)] [.int (if he (upG d p kd) p = true then sv (upG d p kd) p else -1), .int (if he (upG d p kd) p = true then sv (upG d p kd) p else -1)] S124 (AR fun v S' => v = .int (nI 1) ∧ Fr S S' Xall ∧ ∃ (d' : D) (a' : AB), LH9 S' e g d' a') by
              refine n_if_le (tgt := 304) rfl rfl (by omega) (fun h7 => ?_) (fun h7 => ?_)
              · have hh := dvh_0.mp h7
                refine n_m1 rfl ?_
                exact r_top (y := if he (upG d p kd) p = true then sv (upG d p kd) p else -1) (by rw [if_neg (by rw [hh]; decide)]) K
              · have hh : he (upG d p kd) p = true := by
                  cases q : he (upG d p kd) p
                  · exact absurd (dvh_0.mpr q) (by omega)
                  · rfl
                refine r_aload_n rfl rfl ?_
                refine r_getfN (v := .ref c17) rfl flL_253.f (by omega) hV9 y17 ?_
                refine r_iload_n rfl rfl ?_
                refine r_iald rfl (by omega) s17 (by omega) (by omega) ?_
                refine r_top (y := sv (upG d p kd) p) (o17 p hp) ?_
                refine r_goto (tgt := 305) rfl rfl ?_
                exact r_top (y := if he (upG d p kd) p = true then sv (upG d p kd) p else -1) (by rw [if_pos hh]) K
            refine r_icmp_ne (tgt := 312) rfl rfl (fun hq => absurd rfl hq) (fun _ => ?_)
            refine n_iconst 1 rfl ?_
            refine r_goto (tgt := 313) rfl rfl ?_
            exact r_ret rfl rfl rfl (by omega) (by omega) (⟨_, rfl, rfl, ⟨by omega, hx129, fun _ _ z => absurd trivial z⟩, upG d p kd, nx a (upG d p kd), ⟨hdn, pu_ok hA hdn (by rw [hda]; exact Sm_upG d p kd), rfl, hpos, hpo2, hL0⟩, ⟨_, hI9, hC125⟩, hx129, ⟨hg1, by omega, _, (hk127 g hg1).trans hG8⟩, hE9z, hO9, hN9, hM8.keep hFk hee8.2.1 hee8.2.2 (fun _ z => Or.inl z)⟩)
          · have h9 : i < d 0 3 := by omega
            obtain ⟨r1, ⟨r2, r3, r9⟩, fr, r4, r5, r6⟩ := hrow i h9
            have r8 := Xg_i r9
            refine r_aload rfl rfl ?_
            refine r_iload rfl rfl ?_
            refine r_aload_n rfl rfl ?_
            refine r_getfN (v := .ref qg) rfl flL_98.f (by omega) ((hF7 e (by omega) (by omega)).trans ((hFs e (by omega) (by omega)).trans hV)) v12 ?_
            refine r_iload rfl rfl ?_
            refine r_aald (x := (pl i)) rfl (by omega) ((hF7 qg (by omega) (by omega)).trans ((hFs qg (by omega) (by omega)).trans hW)) (by omega) (by omega) r1 ?_
            refine t_aast rfl hxSa (by omega) hq7 (by omega) ((hF7 (pl i) (by omega) (by omega)).trans ((hFs (pl i) (by omega) (by omega)).trans r4)) (by omega) (by omega) ?_
            intro S131 w132
            have z133 := w132.1
            refine n_iinc (lv' := [(5, .int (nI (i + 1))), (4, .ref S4.2.1), (3, .int (nI p)), (0, .ref 0), (1, .ref e), (2, .ref g)]) 1 rfl rfl (Nat.le_of_ble_eq_true rfl) rfl ?_
            refine r_goto (tgt := 208) rfl rfl ?_
            refine r_lv (lv' := [(5, .int (nI (i + 1))), (4, .ref S4.2.1), (3, .int (nI p)), (0, .ref 0), (1, .ref e), (2, .ref g)]) [0, 1, 2, 3, 4, 5] rfl ?_
            exact ih (i + 1) S131 _ (by omega) w132.2.1 (by omega) (fun i hi hn => ((w132.2.2.2 i (by omega)).trans (hF7 i hi hn))) (by omega) ⟨w132.2.2.1, aup_lt hWl r1.symm⟩
      exact loopC (d 0 3 + 1) 0 S89 _ (by omega) w90.2.1 (Nat.zero_le _) (fun _ _ _ => rfl) rfl ⟨w90.2.2.1, fun k hk => absurd hk (Nat.not_lt_zero _)⟩
    · refine n_iconst 1 rfl ?_
      have hFg : Fr S S4 (fun i => i = g) := ⟨by omega, fr5.2.1, fun i hi (hn : ¬ (i = g)) => ((fr5.2.2 i (by omega) (by omega)).trans ((fr2.2.2 i (by omega) (by omega)).trans rfl))⟩
      exact r_ret rfl rfl rfl (by omega) (by omega) (⟨_, rfl, rfl, ⟨by omega, fr5.2.1, fun _ _ z => absurd trivial z⟩, d, a, ⟨hd, hA, hda, hpos, hpo2, hL0⟩, ⟨_, hI, hC2⟩, fr5.2.1, ⟨hg1, by omega, _, hG2⟩, hE2, hR0.keep hFg hE (fun _ z => Or.inr z), hR1.keep hFg hE (fun _ z => Or.inr z), hM2⟩)
  · refine r_tblIn (off := 299) (tgt := 314) rfl (by decide) (by decide) (by decide) rfl ?_
    obtain ⟨W, pl, hW, ⟨c1, c2, c3⟩, hrow, hdis⟩ := hEA
    have hqa := Xg_i c3
    refine r_aload_n rfl rfl ?_
    refine r_aload_n rfl rfl ?_
    have hp134 : S4.1 e = oO 10 V := ((fr5.2.2 e (by omega) (by omega)).trans ((fr2.2.2 e (by omega) (by omega)).trans hV))
    refine r_getfN (v := .ref qa) rfl flL_79.f (by omega) hp134 v10 ?_
    have hp135 : S4.1 qa = oQ (d 0 1) W := ((fr5.2.2 qa (by omega) (by omega)).trans ((fr2.2.2 qa (by omega) (by omega)).trans hW))
    refine r_alenQ rfl (by omega) hp135 ?_
    refine c_staA [.ref g, .int (nI (d 0 1))] [] rfl lkL_34 (l_draw (S := S4) (m := d 0 1) fr5.2.1 (by omega) hG2 hpo2 (by omega)) rfl rfl (by omega) (by omega) rfl ?_
    rintro _ S136 ⟨ka, fg3, hka, rfl, fr137, hsz3, hG3⟩
    have z138 := fr137.1
    have hE3 : ES (Xg g) S136 e d (gf d) := hE2.keep fr137 (fun _ z => Or.inr z)
    have hM3 : eGm (Xg g) S136 e (d 0 3) := hM2.keep fr137 (by omega) hee.2.2 (fun _ z => Or.inr z)
    have hC3 : CL S136 σ := hC2.of fr137.1 (fun i hi => fr137.2.2 i (by omega) (by omega))
    have hX3 : ∀ i, Xg g i → i < S136.2.1 := fun i z => by have := hX i z; omega
    obtain ⟨r1, ⟨r2, r0, r3, r9⟩, fr, r4, r5, r6⟩ := hrow ka hka
    have r8 := Xg_i r9
    refine r_istore (lv' := [(4, .int (nI ka)), (3, .int (nI p)), (0, .ref 0), (1, .ref e), (2, .ref g)]) rfl (Nat.le_of_ble_eq_true rfl) rfl ?_
    refine r_aload_n rfl rfl ?_
    have hp139 : S136.1 e = oO 10 V := ((fr137.2.2 e (by omega) (by omega)).trans hp134)
    refine r_getfN (v := .ref qa) rfl flL_79.f (by omega) hp139 v10 ?_
    refine r_iload rfl rfl ?_
    have hp140 : S136.1 qa = oQ (d 0 1) W := ((fr137.2.2 qa (by omega) (by omega)).trans hp135)
    refine r_aald (x := (pl ka)) rfl (by omega) hp140 (by omega) (by omega) r1 ?_
    refine n_iconst 0 rfl ?_
    refine r_aload_n rfl rfl ?_
    refine n_sipush 20000 rfl (by decide) ?_
    refine c_staA [.ref g, .int (nI 20000)] [.int (nI 0), .ref ((pl ka))] rfl lkL_34 (l_draw (S := S136) (m := 20000) fr137.2.1 (by omega) hG3 (by decide) (by omega)) rfl rfl (by omega) (by omega) rfl ?_
    rintro _ S141 ⟨kd, fg4, hkd, rfl, fr142, hsz4, hG4⟩
    have z143 := fr142.1
    have hE4 : ES (Xg g) S141 e d (gf d) := hE3.keep fr142 (fun _ z => Or.inr z)
    have hM4 : eGm (Xg g) S141 e (d 0 3) := hM3.keep fr142 (by omega) hee.2.2 (fun _ z => Or.inr z)
    have hC4 : CL S141 σ := hC3.of fr142.1 (fun i hi => fr142.2.2 i (by omega) (by omega))
    have hX4 : ∀ i, Xg g i → i < S141.2.1 := fun i z => by have := hX i z; omega
    have hp144 : S141.1 (pl ka) = oI0 0 2 fr := ((fr142.2.2 (pl ka) (by omega) (by omega)).trans ((fr137.2.2 (pl ka) (by omega) (by omega)).trans ((fr5.2.2 (pl ka) (by omega) (by omega)).trans ((fr2.2.2 (pl ka) (by omega) (by omega)).trans r4))))
    have hp145 : S141.1 e = oO 10 V := ((fr142.2.2 e (by omega) (by omega)).trans hp139)
    have hp146 : S141.1 qa = oQ (d 0 1) W := ((fr142.2.2 qa (by omega) (by omega)).trans hp140)
    refine t_iast rfl fr142.2.1 (by omega) hp144 (by decide) (by decide) ?_
    intro S147 w148
    have z149 := w148.1
    have hEw : ES (Xg g) S147 e (up d 5 ka kd) (gf (up d 5 ka kd)) := es_p5 hE4 hp145 v10 hp146 hka r1 hp144 r6 w148
    have hMw : eGm (Xg g) S147 e (d 0 3) := hM4.wr w148 hp144 (by omega)
    have hCw : CL S147 σ := hC4.of (by omega) (fun i hi => w148.2.2.2 i (by omega))
    have hGw : S147.1 g = oI0 0 1 _ := (w148.2.2.2 g (by omega)).trans hG4
    have hdn : Vd (up d 5 ka kd) := Vdup hd rfl (ok_5 (by omega))
    refine r_aload_n rfl rfl ?_
    have hp150 : S147.1 e = oO 10 V := ((w148.2.2.2 e (by omega)).trans hp145)
    have hXw : ∀ i, Xg g i → i < S147.2.1 := fun i z => by have := hX i z; omega
    refine c_virV [] [] rfl lkL_133 (by omega) hp150 rfl rfl (e_settles (S := S147) hdn hEw rfl hXw w148.2.1) rfl rfl (by omega) (by omega) rfl ?_
    rintro S151 ⟨fr152, hE8, hO8, hN8, hm8⟩
    have z153 := fr152.1
    have hM8 : eGm (Xg g) S151 e (d 0 3) := hMw.st fr152 hm8 hp150
    obtain ⟨V8, hV8, hk8⟩ := hm8 _ hp150
    have hC8 : CL S151 σ := hCw.of fr152.1 (fun i hi => fr152.2.2 i (by omega) (by omega))
    have hG8 : S151.1 g = oI0 0 1 _ := (fr152.2.2 g (by omega) (by omega)).trans hGw
    have hp154 : S151.1 (pl ka) = oI0 0 2 (aup fr 0 (nI kd)) := ((fr152.2.2 (pl ka) (by omega) (by omega)).trans w148.2.2.1)
    refine r_aload_n rfl rfl ?_
    refine r_iload rfl rfl ?_
    refine r_aload_n rfl rfl ?_
    refine r_getfN (v := .ref qa) rfl flL_79.f (by omega) hV8 ((hk8 10 (by decide)).trans v10) ?_
    refine r_iload rfl rfl ?_
    have hp155 : S151.1 qa = oQ (d 0 1) W := ((fr152.2.2 qa (by omega) (by omega)).trans ((w148.2.2.2 qa (by omega)).trans hp146))
    refine r_aald (x := (pl ka)) rfl (by omega) hp155 (by omega) (by omega) r1 ?_
    refine n_iconst 0 rfl ?_
    refine r_iald rfl (by omega) hp154 (by decide) (by decide) ?_
    refine r_top (y := nI kd) (aup_s _ _ _) ?_
    have hq156 := c_setValue (z := zf) (sc := sc) hA hI (q := ka) (v9 := kd) (by rw [hda]; exact hka) (by omega)
    rw [hda] at hq156
    refine r_cls [.int (nI ka), .int (nI kd)] [] rfl lkL_289 rfl hq156 rfl rfl (by omega) (by omega) rfl hC8 ?_
    rintro _ σ1 S157 ⟨rfl, hFm, hI9⟩ hC158 hs159 hk160
    have z161 : S157.2.1 = S151.2.1 := congrArg Prod.fst hs159
    have hx162 : S157.2.2 = true := (congrArg Prod.snd hs159).trans fr152.2.1
    have hFk : Fr S151 S157 (fun i => i < 53) := ⟨by omega, hx162, fun i hi hn => hk160 i (Nat.le_of_not_lt hn)⟩
    have hee8 := hE8.e
    have hE9z : ES (Xg g) S157 e (up d 5 ka kd) (gf (up d 5 ka kd)) := hE8.keep hFk (fun _ z => Or.inl z)
    have hO9 : eOld (Xg g) S157 e (up d 5 ka kd) := hO8.keep hFk hE8 (fun _ z => Or.inl z)
    have hN9 : eNew (Xg g) S157 e (up d 5 ka kd) (gf (up d 5 ka kd)) := hN8.keep hFk hE8 (fun _ z => Or.inl z)
    have hp163 : S157.1 e = oO 10 V8 := ((hk160 e (by omega)).trans hV8)
    obtain ⟨V9, hV9⟩ : ∃ V9, S157.1 e = oO 10 V9 := ⟨V8, hp163⟩
    obtain ⟨c14, c15, c16, -, ⟨y22, -, -⟩, -⟩ := hO9 V9 hV9
    have hnt := nts_le hdn (j := (up d 5 ka kd) 0 1) (vC hdn).2.1
    have hnts : nts (up d 5 ka kd) ≤ 79999992 := hnt
    refine n_i2l rfl (by omega) ?_
    refine r_aload_n rfl rfl ?_
    refine r_getfN (v := .long (lN (nts (up d 5 ka kd)))) rfl flL_178.f (by omega) hV9 y22 ?_
    refine n_lcmp_ne (tgt := 373) rfl rfl rfl (by omega) (by omega) (fun hq => absurd rfl hq) (fun _ => ?_)
    refine n_iconst 1 rfl ?_
    refine r_goto (tgt := 374) rfl rfl ?_
    exact r_ret rfl rfl rfl (by omega) (by omega) (⟨_, rfl, rfl, ⟨by omega, hx162, fun _ _ z => absurd trivial z⟩, up d 5 ka kd, nx a (up d 5 ka kd), ⟨hdn, pu_ok hA hdn (by rw [hda]; exact Smup rfl), rfl, hpos, hpo2, hL0⟩, ⟨_, hI9, hC158⟩, hx162, ⟨hg1, by omega, _, (hk160 g hg1).trans hG8⟩, hE9z, hO9, hN9, hM8.keep hFk hee8.2.1 hee8.2.2 (fun _ z => Or.inl z)⟩)
  · refine r_tblOut (tgt := 375) rfl (by decide) rfl ?_
    refine r_aload_n rfl rfl ?_
    refine r_aload_n rfl rfl ?_
    have hp164 : S4.1 e = oO 10 V := ((fr5.2.2 e (by omega) (by omega)).trans ((fr2.2.2 e (by omega) (by omega)).trans hV))
    refine r_getfN (v := .int (nI (d 0 9))) rfl flL_119.f (by omega) hp164 v5 ?_
    suffices K : Wp sc mL_changes 62 700 0 0 388 [(3, .int (nI p)), (0, .ref 0), (1, .ref e), (2, .ref g)] [.int (nI (tb (d 0 9 == 0))), .ref e] S4 (AR fun v S' => v = .int (nI 1) ∧ Fr S S' Xall ∧ ∃ (d' : D) (a' : AB), LH9 S' e g d' a') by
      refine n_if_ne (tgt := 387) rfl rfl (by omega) (fun h8 => ?_) (fun h8 => ?_)
      · refine n_iconst 0 rfl ?_
        exact r_top (y := nI (tb (d 0 9 == 0))) (by rw [beq_false_of_ne h8]; rfl) K
      · refine n_iconst 1 rfl ?_
        refine r_goto (tgt := 388) rfl rfl ?_
        exact r_top (y := nI (tb (d 0 9 == 0))) (by rw [h8]; rfl) K
    generalize (d 0 9 == 0) = b
    refine t_putfN rfl flL_119 (okv_z (okz_tb b)) fr5.2.1 (by omega) hp164 ?_
    intro S165 w166
    have z167 := w166.1
    have hEw : ES (Xg g) S165 e (up d 0 9 (tb b)) (gf (up d 0 9 (tb b))) := es_p9 hE2 hp164 w166
    have hMw : eGm (Xg g) S165 e (d 0 3) := hM2.up ⟨by omega, w166.2.1, fun i hi hn => w166.2.2.2 i hn⟩ hp164 w166.2.2.1 (aup_n _ _ (by decide))
    have hCw : CL S165 σ := hC2.of (by omega) (fun i hi => w166.2.2.2 i (by omega))
    have hGw : S165.1 g = oI0 0 1 _ := (w166.2.2.2 g (by omega)).trans hG2
    have hdn : Vd (up d 0 9 (tb b)) := Vdup hd rfl (ok_09 (Nat.le_of_lt_succ (tb_le b)))
    refine r_aload_n rfl rfl ?_
    have hXw : ∀ i, Xg g i → i < S165.2.1 := fun i z => by have := hX i z; omega
    refine c_virV [] [] rfl lkL_133 (by omega) w166.2.2.1 rfl rfl (e_settles (S := S165) hdn hEw rfl hXw w166.2.1) rfl rfl (by omega) (by omega) rfl ?_
    rintro S168 ⟨fr169, hE8, hO8, hN8, hm8⟩
    have z170 := fr169.1
    have hM8 : eGm (Xg g) S168 e (d 0 3) := hMw.st fr169 hm8 w166.2.2.1
    obtain ⟨V8, hV8, hk8⟩ := hm8 _ w166.2.2.1
    have hC8 : CL S168 σ := hCw.of fr169.1 (fun i hi => fr169.2.2 i (by omega) (by omega))
    have hG8 : S168.1 g = oI0 0 1 _ := (fr169.2.2 g (by omega) (by omega)).trans hGw
    refine r_aload_n rfl rfl ?_
    refine r_aload_n rfl rfl ?_
    refine r_getfN (v := .int (nI (tb b))) rfl flL_119.f (by omega) hV8 ((hk8 5 (by decide)).trans (aup_s _ _ _)) ?_
    have hq171 := c_setAccrue (z := zf) (sc := sc) hA hI (b := b)
    rw [hda] at hq171
    refine r_cls [.int (nI (tb b))] [] rfl lkL_292 rfl hq171 rfl rfl (by omega) (by omega) rfl hC8 ?_
    rintro _ σ1 S172 ⟨rfl, hFm, hI9⟩ hC173 hs174 hk175
    have z176 : S172.2.1 = S168.2.1 := congrArg Prod.fst hs174
    have hx177 : S172.2.2 = true := (congrArg Prod.snd hs174).trans fr169.2.1
    have hFk : Fr S168 S172 (fun i => i < 53) := ⟨by omega, hx177, fun i hi hn => hk175 i (Nat.le_of_not_lt hn)⟩
    have hee8 := hE8.e
    have hE9z : ES (Xg g) S172 e (up d 0 9 (tb b)) (gf (up d 0 9 (tb b))) := hE8.keep hFk (fun _ z => Or.inl z)
    have hO9 : eOld (Xg g) S172 e (up d 0 9 (tb b)) := hO8.keep hFk hE8 (fun _ z => Or.inl z)
    have hN9 : eNew (Xg g) S172 e (up d 0 9 (tb b)) (gf (up d 0 9 (tb b))) := hN8.keep hFk hE8 (fun _ z => Or.inl z)
    have hml := mk_lt12 (he (up d 0 9 (tb b))) (Nat.le_refl 12)
    have hs1 := e_set (sc := sc) (S := S172) hdn hE9z hO9 hN9 (c := false)
    rw [← mk_he hdn] at hs1
    refine r_aload_n rfl rfl ?_
    refine n_iconst 0 rfl ?_
    have hp178 : S172.1 e = oO 10 V8 := ((hk175 e (by omega)).trans hV8)
    refine c_virA [.int (nI 0)] [.int (nI (mk (he (up d 0 9 (tb b))) 12))] rfl lkL_215 (by omega) hp178 rfl rfl hs1 rfl rfl (by omega) (by omega) rfl ?_
    rintro _ _ ⟨rfl, rfl⟩
    refine n_icmp_ne (tgt := 415) rfl rfl (by omega) (by omega) (fun hq => absurd hq (fun z => z rfl)) (fun _ => ?_)
    refine n_iconst 1 rfl ?_
    refine r_goto (tgt := 416) rfl rfl ?_
    exact r_ret rfl rfl rfl (by omega) (by omega) (⟨_, rfl, rfl, ⟨by omega, hx177, fun _ _ z => absurd trivial z⟩, up d 0 9 (tb b), nx a (up d 0 9 (tb b)), ⟨hdn, pu_ok hA hdn (by rw [hda]; exact Smup rfl), rfl, hpos, hpo2, hL0⟩, ⟨_, hI9, hC173⟩, hx177, ⟨hg1, by omega, _, (hk175 g hg1).trans hG8⟩, hE9z, hO9, hN9, hM8.keep hFk hee8.2.1 hee8.2.2 (fun _ z => Or.inl z)⟩)

