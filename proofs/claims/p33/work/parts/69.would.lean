/-! The law's estate between changes. -/
theorem nar_bn {x : Nat} (h : x ≤ 1) : vp_nar .boolean (nI x) = nI x := by
  have e : x = 0 ∨ x = 1 := by omega
  rcases e with e | e <;> (rw [e]; decide)
theorem up_self (d : D) (a i v : Nat) : up (up d a i v) a i (d a i) = d := by
  funext b j
  by_cases z : b = a ∧ j = i
  · rw [z.1, z.2, up_s]
  · rw [up_n _ _ z, up_n _ _ z]
theorem es_p2 {X : Nat → Prop} {S S' : AS} {e : Nat} {d : D} {G : Nat → Nat} {q v : Nat} {fo : Nat → Int32} (h : ES X S e d G) (hW : Wr S (e + 2) (oI0 0 12 (aup fo q (nI v))) S') (hl : ∀ p, p < d 0 0 → fo p = nI (d 2 p)) : ES X S' e (up d 2 q v) G := by
  have hee := h.e
  obtain ⟨V, qa, qd, qg, ql, hi, ⟨g1, g2⟩, ⟨f1, f2, f3, f4, ⟨m1, n1⟩, ⟨m2, n2⟩, ⟨m3, n3⟩, ⟨m4, n4⟩⟩, ⟨a1, a2, a3, a4⟩, b1, b2, b3, b4, b5⟩ := h
  have hz := hW.1
  have fr : ∀ lo, e + 9 ≤ lo → ∀ i, lo ≤ i → i < S.2.1 → ¬ X i → S'.1 i = S.1 i ∧ ¬ X i := fun lo hlo i i1 i2 i3 => ⟨hW.2.2.2 i (by omega), i3⟩
  have hA : ∀ p, p < d 0 0 → aup fo q (nI v) p = nI (up d 2 q v 2 p) := fun p hp => by
    by_cases z : p = q
    · rw [z, aup_s, up_s]
    · rw [aup_n _ _ z, up_n2 _ _ z]; exact hl p hp
  refine ⟨V, qa, qd, qg, ql, hi, ⟨(hW.2.2.2 e (by omega)).trans g1, g2⟩, ⟨f1, aup fo q (nI v), f3, f4, ⟨(hW.2.2.2 _ (by omega)).trans m1, n1⟩, ⟨hW.2.2.1, hA⟩, ⟨(hW.2.2.2 _ (by omega)).trans m3, n3⟩, ⟨(hW.2.2.2 _ (by omega)).trans m4, n4⟩⟩, ⟨a1, by omega, a3, a4⟩, b1, b2.fr (by omega) (fr _ (Nat.le_refl _)), b3.fr (by omega) (fr _ b1), b4.fr (by omega) (fr _ b1), b5.fr (by omega) (fr _ b1)⟩
theorem es_p3 {X : Nat → Prop} {S S' : AS} {e : Nat} {d : D} {G : Nat → Nat} {q v : Nat} {fo : Nat → Int32} (h : ES X S e d G) (hW : Wr S (e + 3) (oI0 2 12 (aup fo q (nI v))) S') (hl : ∀ p, p < d 0 0 → fo p = nI (d 3 p)) : ES X S' e (up d 3 q v) G := by
  have hee := h.e
  obtain ⟨V, qa, qd, qg, ql, hi, ⟨g1, g2⟩, ⟨f1, f2, f3, f4, ⟨m1, n1⟩, ⟨m2, n2⟩, ⟨m3, n3⟩, ⟨m4, n4⟩⟩, ⟨a1, a2, a3, a4⟩, b1, b2, b3, b4, b5⟩ := h
  have hz := hW.1
  have fr : ∀ lo, e + 9 ≤ lo → ∀ i, lo ≤ i → i < S.2.1 → ¬ X i → S'.1 i = S.1 i ∧ ¬ X i := fun lo hlo i i1 i2 i3 => ⟨hW.2.2.2 i (by omega), i3⟩
  have hA : ∀ p, p < d 0 0 → aup fo q (nI v) p = nI (up d 3 q v 3 p) := fun p hp => by
    by_cases z : p = q
    · rw [z, aup_s, up_s]
    · rw [aup_n _ _ z, up_n2 _ _ z]; exact hl p hp
  refine ⟨V, qa, qd, qg, ql, hi, ⟨(hW.2.2.2 e (by omega)).trans g1, g2⟩, ⟨f1, f2, aup fo q (nI v), f4, ⟨(hW.2.2.2 _ (by omega)).trans m1, n1⟩, ⟨(hW.2.2.2 _ (by omega)).trans m2, n2⟩, ⟨hW.2.2.1, hA⟩, ⟨(hW.2.2.2 _ (by omega)).trans m4, n4⟩⟩, ⟨a1, by omega, a3, a4⟩, b1, b2.fr (by omega) (fr _ (Nat.le_refl _)), b3.fr (by omega) (fr _ b1), b4.fr (by omega) (fr _ b1), b5.fr (by omega) (fr _ b1)⟩
theorem es_p4 {X : Nat → Prop} {S S' : AS} {e : Nat} {d : D} {G : Nat → Nat} {q v : Nat} {fo : Nat → Int32} (h : ES X S e d G) (hW : Wr S (e + 4) (oI0 2 12 (aup fo q (nI v))) S') (hl : ∀ p, p < d 0 0 → fo p = nI (d 4 p)) : ES X S' e (up d 4 q v) G := by
  have hee := h.e
  obtain ⟨V, qa, qd, qg, ql, hi, ⟨g1, g2⟩, ⟨f1, f2, f3, f4, ⟨m1, n1⟩, ⟨m2, n2⟩, ⟨m3, n3⟩, ⟨m4, n4⟩⟩, ⟨a1, a2, a3, a4⟩, b1, b2, b3, b4, b5⟩ := h
  have hz := hW.1
  have fr : ∀ lo, e + 9 ≤ lo → ∀ i, lo ≤ i → i < S.2.1 → ¬ X i → S'.1 i = S.1 i ∧ ¬ X i := fun lo hlo i i1 i2 i3 => ⟨hW.2.2.2 i (by omega), i3⟩
  have hA : ∀ p, p < d 0 0 → aup fo q (nI v) p = nI (up d 4 q v 4 p) := fun p hp => by
    by_cases z : p = q
    · rw [z, aup_s, up_s]
    · rw [aup_n _ _ z, up_n2 _ _ z]; exact hl p hp
  refine ⟨V, qa, qd, qg, ql, hi, ⟨(hW.2.2.2 e (by omega)).trans g1, g2⟩, ⟨f1, f2, f3, aup fo q (nI v), ⟨(hW.2.2.2 _ (by omega)).trans m1, n1⟩, ⟨(hW.2.2.2 _ (by omega)).trans m2, n2⟩, ⟨(hW.2.2.2 _ (by omega)).trans m3, n3⟩, ⟨hW.2.2.1, hA⟩⟩, ⟨a1, by omega, a3, a4⟩, b1, b2.fr (by omega) (fr _ (Nat.le_refl _)), b3.fr (by omega) (fr _ b1), b4.fr (by omega) (fr _ b1), b5.fr (by omega) (fr _ b1)⟩
def Xg (g : Nat) : Nat → Prop := fun i => i < 53 ∨ i = g
theorem Xg_i {g i : Nat} (h : ¬ Xg g i) : 53 ≤ i ∧ i ≠ g := ⟨Nat.le_of_not_lt (fun z => h (Or.inl z)), fun z => h (Or.inr z)⟩
theorem Xg_o {g i : Nat} (h1 : 53 ≤ i) (h2 : i ≠ g) : ¬ Xg g i := fun z => z.elim (fun z => by omega) h2
abbrev Xall : Nat → Prop := fun _ => True
/-- what stands at the head of a round -/
def LH9 (S : AS) (e g : Nat) (d : D) (a : AB) : Prop := (Vd d ∧ AV a ∧ aD a = d ∧ 0 < d 0 0 ∧ 0 < d 0 1 ∧ aL a = 0) ∧ (∃ σ, CI9 σ a ∧ CL S σ) ∧ S.2.2 = true ∧ (53 ≤ g ∧ g < S.2.1 ∧ ∃ f, S.1 g = oI0 0 1 f) ∧ ES (Xg g) S e d (gf d) ∧ eOld (Xg g) S e d ∧ eNew (Xg g) S e d (gf d) ∧ eGm (Xg g) S e (d 0 3)
theorem LH9.fr {S S' : AS} {e g : Nat} {d : D} {a : AB} (h : LH9 S e g d a) (hF : Fr S S' Xno) : LH9 S' e g d a := by
  obtain ⟨h1, ⟨σ, h2, h3⟩, h4, ⟨h5, h6, f, h7⟩, h8, h9, h10, h11⟩ := h
  have h54 := h3.1
  have hee := h8.e
  exact ⟨h1, ⟨σ, h2, h3.of hF.1 (fun i hi => hF.2.2 i (by omega) (fun z => z))⟩, hF.2.1, ⟨h5, Nat.lt_of_lt_of_le h6 hF.1, f, (hF.2.2 g h6 (fun z => z)).trans h7⟩, h8.keep hF (fun _ z => z.elim), h9.keep hF h8 (fun _ z => z.elim), h10.keep hF h8 (fun _ z => z.elim), h11.keep hF hee.2.1 hee.2.2 (fun _ z => z.elim)⟩
theorem tm_1 {d : D} (hV : Vd d) {p t : Nat} (h : tm d p = t + 1) : he d p = true ∧ t ≤ 9999999 ∧ lw9 d p t = true ∧ (1 < t → lw9 d p (t - 1) = false) := by
  unfold tm at h
  by_cases q : he d p = true ∧ ou d p = false ∧ hm d ≠ 1 ∧ fu d p ≤ 9999999
  · rw [if_pos q] at h
    obtain ⟨q1, q2, q3, q4⟩ := q
    have e1 : fu d p = t := by omega
    have e2 := fu_pos hV q1 q2 q3
    have i1 := lw9_iff hV q1 q3 t
    have i2 := lw9_iff hV q1 q3 (t - 1)
    unfold fu at e1
    refine ⟨q1, by unfold fu at q4; omega, i1.mpr (by omega), fun ht => ?_⟩
    cases z : lw9 d p (t - 1)
    · rfl
    · have := i2.mp z
      omega
  · rw [if_neg q] at h
    omega
theorem tm_0 {d : D} (hV : Vd d) {p : Nat} (h : tm d p = 0) (hh : he d p = true) (ho : ou d p = false) : lw9 d p 9999999 = false := by
  unfold tm at h
  by_cases q3 : hm d = 1
  · exact lw9_one hV hh q3 _
  · have e2 := fu_pos hV hh ho q3
    have i1 := lw9_iff hV hh q3 9999999
    have e3 : ¬ fu d p ≤ 9999999 := fun z => by
      rw [if_pos ⟨hh, ho, q3, z⟩] at h
      omega
    unfold fu at e3
    cases z : lw9 d p 9999999
    · rfl
    · have := i1.mp z
      omega
theorem gv_G {d : D} {k p : Nat} : gvG (up d 4 k 1) (gf d) p = gv (up d 4 k 1) p := rfl
theorem ou_G {d : D} {p x : Nat} : ouG d (aup (gf d) p (gf d p + x)) p = lw9 d p x := rfl
theorem ok_41 {d : D} {k v : Nat} (hv : v ≤ 1) : okN d 4 k v := ⟨fun z => absurd z (by decide), fun z => absurd z (by decide), fun _ => hv, fun z => absurd z (by decide), fun z => absurd z (by decide), fun z => absurd z (by decide), fun z => absurd z (by decide), fun z => absurd z (by decide), fun z => absurd z (by decide)⟩
set_option maxRecDepth 100000 in
theorem l_wouldBe {sc : SC} {S : AS} {e g : Nat} {d : D} {a : AB} (hL : LH9 S e g d a) : Cal sc mL_wouldBe 860 10300 [.ref 0, .ref e, .ref g] S (AR fun v S' => v = .int (nI 1) ∧ Fr S S' Xall ∧ LH9 S' e g d a) := by
  refine Cal.of gmL_wouldBe (Nat.le_of_ble_eq_true rfl) ?_
  have hL9 := hL
  obtain ⟨⟨hd, hA, hda, hpos, hpo2, hL0⟩, ⟨σ, hI, hCL⟩, hx, ⟨hg1, hg2, fg, hG⟩, hE, hR0, hR1, hGm⟩ := hL9
  have h54 := hCL.1
  have hX : ∀ i, Xg g i → i < S.2.1 := fun i z => z.elim (fun z => by omega) (fun z => by omega)
  have hee := hE.e
  have hge := Xg_i hee.2.2
  have hg9 : g < e ∨ e + 9 ≤ g := by
    obtain ⟨U, q1, q2, q3, q4, q5, -, -, ⟨-, -, -, a4⟩, -⟩ := hE
    by_cases z1 : g < e
    · exact Or.inl z1
    · by_cases z2 : e + 9 ≤ g
      · exact Or.inr z2
      · exact absurd (Or.inr rfl) (a4 g (by omega) (by omega))
  have hE9 := hE
  obtain ⟨V, qa, qd, qg, ql, hi, ⟨hV, ⟨v0, v1, v2, v3, v4, v5⟩, ⟨v6, v7, v8, v9⟩, ⟨v10, v11, v12, v13⟩⟩, ⟨f1, f2, f3, f4, ⟨hf1, k1⟩, ⟨hf2, k2⟩, ⟨hf3, k3⟩, ⟨hf4, k4⟩⟩, ⟨b1, b2, -, -⟩, b3, hEA, hED, hEG, hEL⟩ := hE9
  have hVA := vA hd
  have hVC := vC hd
  obtain ⟨q14, q15, q16, ⟨u14, u15, u16⟩, ⟨u22, u23, u24⟩, ⟨g14, r14, ⟨p14, l14, x14⟩, t14⟩, ⟨g15, r15, ⟨p15, l15, x15⟩, t15⟩, ⟨g16, r16, ⟨p16, l16, x16⟩, t16⟩⟩ := hR0 V hV
  obtain ⟨q17, q18, q19, q20, q21, ⟨u17, u18, u19, u20, u21⟩, ⟨u25, u26, u27, u28, u29, u30⟩, ⟨g17, r17, ⟨p17, l17, x17⟩, t17⟩, ⟨g18, r18, ⟨p18, l18, x18⟩, t18⟩, ⟨g19, r19, ⟨p19, l19, x19⟩, t19⟩, ⟨g20, r20, ⟨p20, l20, x20⟩, t20⟩, ⟨g21, r21, ⟨p21, l21, x21⟩, t21⟩⟩ := hR1 V hV
  show Wp sc mL_wouldBe 860 10300 0 0 0 [(0, .ref 0), (1, .ref e), (2, .ref g)] [] S (AR fun v S' => v = .int (nI 1) ∧ Fr S S' Xall ∧ LH9 S' e g d a)
  refine r_aload_n rfl rfl ?_
  refine r_aload_n rfl rfl ?_
  refine r_getfN (v := .int (nI (d 0 0))) rfl flL_52.f (by omega) hV v0 ?_
  refine c_staA [.ref g, .int (nI (d 0 0))] [] rfl lkL_34 (l_draw (S := S) (m := d 0 0) hx hg2 hG hpos (by omega)) rfl rfl (by omega) (by omega) rfl ?_
  rintro _ S1 ⟨p, fg1, hp, rfl, fr2, hsz, hG1⟩
  have z3 := fr2.1
  have hF1 : Fr S S1 (Xg g) := ⟨fr2.1, fr2.2.1, fun i hi hn => fr2.2.2 i hi (fun z => hn (Or.inr z))⟩
  have hE1 : ES (Xg g) S1 e d (gf d) := hE.keep hF1 (fun _ z => z)
  have hR01 : eOld (Xg g) S1 e d := hR0.keep hF1 hE (fun _ z => z)
  have hR11 : eNew (Xg g) S1 e d (gf d) := hR1.keep hF1 hE (fun _ z => z)
  have hGm1 : eGm (Xg g) S1 e (d 0 3) := hGm.keep hF1 hee.2.1 hee.2.2 (fun _ z => z)
  have hCL1 : CL S1 σ := hCL.of (by omega) (fun i hi => fr2.2.2 i (by omega) (by omega))
  refine r_istore_n (lv' := [(3, .int (nI p)), (0, .ref 0), (1, .ref e), (2, .ref g)]) rfl rfl (Nat.le_of_ble_eq_true rfl) rfl ?_
  refine r_aload_n rfl rfl ?_
  refine r_iload_n rfl rfl ?_
  have hp4 : S1.1 e = oO 10 V := ((fr2.2.2 e (by omega) (by omega)).trans hV)
  refine c_virA [.int (nI p)] [] rfl lkL_229 (by omega) hp4 rfl rfl (e_given (S := S1) hd hE1 hR01 hR11 hp) rfl rfl (by omega) (by omega) rfl ?_
  rintro _ _ ⟨rfl, rfl⟩
  refine r_istore (lv' := [(4, .int (gv d p)), (3, .int (nI p)), (0, .ref 0), (1, .ref e), (2, .ref g)]) rfl (Nat.le_of_ble_eq_true rfl) rfl ?_
  refine n_m1 rfl ?_
  refine r_istore (lv' := [(5, .int ((-1))), (4, .int (gv d p)), (3, .int (nI p)), (0, .ref 0), (1, .ref e), (2, .ref g)]) rfl (Nat.le_of_ble_eq_true rfl) rfl ?_
  refine n_iconst 0 rfl ?_
  refine r_istore (lv' := [(6, .int (nI 0)), (5, .int ((-1))), (4, .int (gv d p)), (3, .int (nI p)), (0, .ref 0), (1, .ref e), (2, .ref g)]) rfl (Nat.le_of_ble_eq_true rfl) rfl ?_
  have K : ∀ (Sz : AS) (σz : SS) (k9 n9 : Nat), Sz.2.2 = true → k9 ≤ 860 → n9 ≤ 10300 → CI9 σz a → CL Sz σz → S.2.1 ≤ Sz.2.1 → (∃ fz, Sz.1 g = oI0 0 1 fz) → ES (Xg g) Sz e d (gf d) → eOld (Xg g) Sz e d → eNew (Xg g) Sz e d (gf d) → eGm (Xg g) Sz e (d 0 3) → Wp sc mL_wouldBe 860 10300 k9 n9 188 [(3, .int (nI p)), (5, .int (oI ((hp9 d p (d 0 0)).1))), (0, .ref 0), (1, .ref e)] [] Sz (AR fun v S' => v = .int (nI 1) ∧ Fr S S' Xall ∧ LH9 S' e g d a) := by
    intro Sz σz k9 n9 hxz hk9 hn9 hIz hCz hFz hGz hEz hOz hNz hMz
    obtain ⟨fz, hGz⟩ := hGz
    refine r_aload_n rfl rfl ?_
    refine r_iload_n rfl rfl ?_
    have hq5 := c_helper (z := zf) (sc := sc) hA hIz (q := p) (by rw [hda]; exact hp)
    rw [hda] at hq5
    refine r_cls [.int (nI p)] [] rfl lkL_273 rfl hq5 rfl rfl (by omega) (by omega) rfl hCz ?_
    rintro _ σ2 S6 ⟨rfl, hFm, hI9⟩ hC7 hs8 hk9
    have z10 : S6.2.1 = Sz.2.1 := congrArg Prod.fst hs8
    have hx11 : S6.2.2 = true := (congrArg Prod.snd hs8).trans hxz
    have hFk : Fr Sz S6 (fun i => i < 53) := ⟨by omega, hx11, fun i hi hn => hk9 i (Nat.le_of_not_lt hn)⟩
    have heez := hEz.e
    refine r_iload rfl rfl ?_
    refine r_icmp_ne (tgt := 202) rfl rfl (fun hq => absurd rfl hq) (fun _ => ?_)
    refine n_iconst 1 rfl ?_
    refine r_goto (tgt := 203) rfl rfl ?_
    exact r_ret rfl rfl rfl (by omega) (by omega) (⟨_, rfl, rfl, ⟨by omega, hx11, fun _ _ z => absurd trivial z⟩, ⟨hd, hA, hda, hpos, hpo2, hL0⟩, ⟨_, hI9, hC7⟩, hx11, ⟨hg1, by omega, fz, (hk9 g hg1).trans hGz⟩, hEz.keep hFk (fun _ z => Or.inl z), hOz.keep hFk hEz (fun _ z => Or.inl z), hNz.keep hFk hEz (fun _ z => Or.inl z), hMz.keep hFk heez.2.1 heez.2.2 (fun _ z => Or.inl z)⟩)
  refine r_lv (lv' := [(6, .int (nI 0)), (5, .int ((-1))), (4, .int (gv d p)), (3, .int (nI p)), (0, .ref 0), (1, .ref e)]) [0, 1, 2, 3, 4, 5] rfl ?_
  have loopJ : ∀ (m9 : Nat) (j : Nat) (Sa : AS) (k9 n9 : Nat) (σa : SS), d 0 0 - j < m9 → (Sa.2.2 = true) → (j ≤ d 0 0) → (k9 + 50 * (d 0 0 - j) ≤ 600) → (n9 + 600 * (d 0 0 - j) ≤ 7200) → (CI9 σa a) → (CL Sa σa) → (S.2.1 ≤ Sa.2.1) → (∃ fz, Sa.1 g = oI0 0 1 fz) → (ES (Xg g) Sa e d (gf d)) → (eGm (Xg g) Sa e (d 0 3)) → Wp sc mL_wouldBe 860 10300 k9 n9 22 [(6, .int (nI j)), (5, .int (oI ((hp9 d p j).1))), (4, .int ((hp9 d p j).2)), (3, .int (nI p)), (0, .ref 0), (1, .ref e)] [] Sa (AR fun v S' => v = .int (nI 1) ∧ Fr S S' Xall ∧ LH9 S' e g d a) := by
    intro m9
    induction m9 with
    | zero => intro j Sa k9 n9 σa hme; exact absurd hme (Nat.not_lt_zero _)
    | succ m9 ih =>
      intro j Sa k9 n9 σa hme hxSa hj hb1 hb2 hIa hCa hFa hGa hEa hMa
      obtain ⟨fz, hGa⟩ := hGa
      have hE9 := hEa
      obtain ⟨V, qa, qd, qg, ql, hi, ⟨hV, ⟨v0, v1, v2, v3, v4, v5⟩, ⟨v6, v7, v8, v9⟩, ⟨v10, v11, v12, v13⟩⟩, ⟨f1, f2, f3, f4, ⟨hf1, k1⟩, ⟨hf2, k2⟩, ⟨hf3, k3⟩, ⟨hf4, k4⟩⟩, ⟨b1, b2, -, -⟩, b3, hEA, hED, hEG, hEL⟩ := hE9
      have hVA := vA hd
      have hVC := vC hd
      refine r_iload rfl rfl ?_
      refine r_aload_n rfl rfl ?_
      refine r_getfN (v := .int (nI (d 0 0))) rfl flL_52.f (by omega) hV v0 ?_
      refine n_icmp_ge (tgt := 106) rfl rfl (by omega) (by omega) (fun h9 => ?_) (fun h9 => ?_)
      · have e9 : j = d 0 0 := by omega
        rw [e9]
        have hXa : ∀ i, Xg g i → i < Sa.2.1 := fun i z => by have := hX i z; omega
        refine r_aload_n rfl rfl ?_
        refine c_virV [] [] rfl lkL_133 (by omega) hV rfl rfl (e_settles (S := Sa) hd hEa rfl hXa hxSa) rfl rfl (by omega) (by omega) rfl ?_
        rintro S12 ⟨fr13, hE4, hO4, hN4, hm4⟩
        have z14 := fr13.1
        have hM4 : eGm (Xg g) S12 e (d 0 3) := hMa.st fr13 hm4 hV
        obtain ⟨V4, hV4, hk4⟩ := hm4 V hV
        have hC4 : CL S12 σa := hCa.of (by omega) (fun i hi => fr13.2.2 i (by omega) (by omega))
        refine r_aload_n rfl rfl ?_
        refine r_iload_n rfl rfl ?_
        have hq15 := c_tooMuch (z := zf) (sc := sc) hA hIa (q := p) (by rw [hda]; exact hp)
        rw [hda] at hq15
        refine r_cls [.int (nI p)] [] rfl lkL_265 rfl hq15 rfl rfl (by omega) (by omega) rfl hC4 ?_
        rintro _ σ2 S16 ⟨rfl, hFm, hI9⟩ hC17 hs18 hk19
        have z20 : S16.2.1 = S12.2.1 := congrArg Prod.fst hs18
        have hx21 : S16.2.2 = true := (congrArg Prod.snd hs18).trans fr13.2.1
        have hFk : Fr S12 S16 (fun i => i < 53) := ⟨by omega, hx21, fun i hi hn => hk19 i (Nat.le_of_not_lt hn)⟩
        have hee4 := hE4.e
        have hE5 : ES (Xg g) S16 e d (gf d) := hE4.keep hFk (fun _ z => Or.inl z)
        have hO5 : eOld (Xg g) S16 e d := hO4.keep hFk hE4 (fun _ z => Or.inl z)
        have hN5 : eNew (Xg g) S16 e d (gf d) := hN4.keep hFk hE4 (fun _ z => Or.inl z)
        have hM5 : eGm (Xg g) S16 e (d 0 3) := hM4.keep hFk hee4.2.1 hee4.2.2 (fun _ z => Or.inl z)
        have hG5 : S16.1 g = oI0 0 1 fz := (hk19 g hg1).trans ((fr13.2.2 g (by omega) (by omega)).trans hGa)
        have hX5 : ∀ i, Xg g i → i < S16.2.1 := fun i z => by have := hX i z; omega
        have hgl : d 0 3 ≤ 8 := hVC.2.2.2.1
        refine r_istore (lv' := [(6, .int (oI (tm d p))), (5, .int (oI ((hp9 d p (d 0 0)).1))), (4, .int ((hp9 d p (d 0 0)).2)), (3, .int (nI p)), (0, .ref 0), (1, .ref e)]) rfl (Nat.le_of_ble_eq_true rfl) rfl ?_
        rcases htm : tm d p with _ | t
        · rw [oI_0]
          show Wp sc mL_wouldBe 860 10300 (k9 + 50) (n9 + 600) 117 [(6, .int ((-1))), (5, .int (oI ((hp9 d p (d 0 0)).1))), (4, .int ((hp9 d p (d 0 0)).2)), (3, .int (nI p)), (0, .ref 0), (1, .ref e)] [] S16 (AR fun v S' => v = .int (nI 1) ∧ Fr S S' Xall ∧ LH9 S' e g d a)
          refine r_iload rfl rfl ?_
          refine r_if_lt (tgt := 152) rfl rfl (fun _ => ?_) (fun hq => absurd (by decide) hq)
          refine r_iload rfl rfl ?_
          refine r_if_ge (tgt := 188) rfl rfl (fun hq => absurd hq (by decide)) (fun _ => ?_)
          obtain ⟨V5, hV5⟩ : ∃ V5, S16.1 e = oO 10 V5 := ⟨V4, (hk19 e (by omega)).trans hV4⟩
          obtain ⟨c14, c15, c16, ⟨-, -, y16⟩, -, -, -, ⟨h16, s16, ⟨-, m16, -⟩, o16⟩⟩ := hO5 V5 hV5
          obtain ⟨c17, c18, c19, c20, c21, ⟨-, -, -, y20, -⟩, -, -, -, -, ⟨h20, s20, ⟨-, m20, -⟩, o20⟩, -⟩ := hN5 V5 hV5
          have hdb := dvh_le hd p
          refine r_aload_n rfl rfl ?_
          refine r_getfN (v := .ref c16) rfl flL_235.f (by omega) hV5 y16 ?_
          refine r_iload_n rfl rfl ?_
          refine r_iald rfl (by omega) s16 (by omega) (by omega) ?_
          refine r_top (y := nI (dvh d p)) (o16 p hp) ?_
          refine n_if_le (tgt := 188) rfl rfl (by omega) (fun h8 => ?_) (fun h8 => ?_)
          · refine r_lv (lv' := [(3, .int (nI p)), (5, .int (oI ((hp9 d p (d 0 0)).1))), (0, .ref 0), (1, .ref e)]) [3, 1, 4, 5] rfl ?_
            exact K S16 σ2 (k9 + 50) (n9 + 600) hx21 (by omega) (by omega) hI9 hC17 (by omega) ⟨fz, hG5⟩ hE5 hO5 hN5 hM5
          · have hh : he d p = true := by
              cases q : he d p
              · exact absurd (dvh_0.mpr q) (by omega)
              · rfl
            refine r_aload_n rfl rfl ?_
            refine r_getfN (v := .ref c20) rfl flL_238.f (by omega) hV5 y20 ?_
            refine r_iload_n rfl rfl ?_
            refine r_zald rfl (by omega) s20 (by omega) (by omega) ?_
            refine r_top (y := nI (tb (ou d p))) (o20 p hp) ?_
            refine n_if_ne (tgt := 188) rfl rfl (tb_B _) (fun h7 => ?_) (fun h7 => ?_)
            · refine r_lv (lv' := [(3, .int (nI p)), (5, .int (oI ((hp9 d p (d 0 0)).1))), (0, .ref 0), (1, .ref e)]) [3, 1, 4, 5] rfl ?_
              exact K S16 σ2 (k9 + 50) (n9 + 600) hx21 (by omega) (by omega) hI9 hC17 (by omega) ⟨fz, hG5⟩ hE5 hO5 hN5 hM5
            · have ho : ou d p = false := tb_0 h7
              refine r_aload_n rfl rfl ?_
              refine r_iload_n rfl rfl ?_
              refine r_ldcw (v := nI 9999999) rfl kcL_272 ?_
              refine c_staA [.ref e, .int (nI p), .int (nI 9999999)] [] rfl lkL_268 (l_isOut (S := S16) hd hE5 hM5 hgl hX5 hx21 hp (by decide)) rfl rfl (by omega) (by omega) rfl ?_
              rintro _ S22 ⟨rfl, fr23, hE6, hO6, hN6, hm6⟩
              have z24 := fr23.1
              have hM6 : eGm (Xg g) S22 e (d 0 3) := by
                obtain ⟨U, q1, q2, q3, q4, q5, ⟨hU, -⟩, -⟩ := hE5
                exact hM5.st fr23 hm6 hU
              have hG6 : S22.1 g = oI0 0 1 fz := (fr23.2.2 g (by omega) (by omega)).trans hG5
              have hC6 : CL S22 σ2 := hC17.of (by omega) (fun i hi => fr23.2.2 i (by omega) (by omega))
              have hX6 : ∀ i, Xg g i → i < S22.2.1 := fun i z => by have := hX i z; omega
              have hlw := tm_0 hd htm hh ho
              refine r_top (y := nI 0) (by rw [ou_G, hlw]; rfl) ?_
              refine n_if_eq (tgt := 188) rfl rfl (by omega) (fun _ => ?_) (fun hq => absurd hq (by omega))
              refine r_lv (lv' := [(3, .int (nI p)), (5, .int (oI ((hp9 d p (d 0 0)).1))), (0, .ref 0), (1, .ref e)]) [3, 1, 4, 5] rfl ?_
              exact K S22 σ2 (k9 + 50 + 102) (n9 + 600 + 1212) fr23.2.1 (by omega) (by omega) hI9 hC6 (by omega) ⟨fz, hG6⟩ hE6 hO6 hN6 hM6
        · rw [oI_s]
          obtain ⟨hh, ht9, hl1, hl2⟩ := tm_1 hd htm
          show Wp sc mL_wouldBe 860 10300 (k9 + 50) (n9 + 600) 117 [(6, .int (nI t)), (5, .int (oI ((hp9 d p (d 0 0)).1))), (4, .int ((hp9 d p (d 0 0)).2)), (3, .int (nI p)), (0, .ref 0), (1, .ref e)] [] S16 (AR fun v S' => v = .int (nI 1) ∧ Fr S S' Xall ∧ LH9 S' e g d a)
          refine r_iload rfl rfl ?_
          refine n_if_lt (tgt := 152) rfl rfl (by omega) (fun hq => hq.elim) (fun _ => ?_)
          refine r_aload_n rfl rfl ?_
          refine r_iload_n rfl rfl ?_
          refine r_iload rfl rfl ?_
          refine c_staA [.ref e, .int (nI p), .int (nI t)] [] rfl lkL_268 (l_isOut (S := S16) hd hE5 hM5 hgl hX5 hx21 hp ht9) rfl rfl (by omega) (by omega) rfl ?_
          rintro _ S25 ⟨rfl, fr26, hE6, hO6, hN6, hm6⟩
          have z27 := fr26.1
          have hM6 : eGm (Xg g) S25 e (d 0 3) := by
            obtain ⟨U, q1, q2, q3, q4, q5, ⟨hU, -⟩, -⟩ := hE5
            exact hM5.st fr26 hm6 hU
          have hG6 : S25.1 g = oI0 0 1 fz := (fr26.2.2 g (by omega) (by omega)).trans hG5
          have hC6 : CL S25 σ2 := hC17.of (by omega) (fun i hi => fr26.2.2 i (by omega) (by omega))
          have hX6 : ∀ i, Xg g i → i < S25.2.1 := fun i z => by have := hX i z; omega
          refine r_top (y := nI 1) (by rw [ou_G, hl1]; rfl) ?_
          refine n_if_eq (tgt := 150) rfl rfl (by omega) (fun hq => absurd hq (by omega)) (fun _ => ?_)
          refine r_iload rfl rfl ?_
          refine n_iconst 1 rfl ?_
          refine n_icmp_le (tgt := 152) rfl rfl (by omega) (by omega) (fun h7 => ?_) (fun h7 => ?_)
          · refine r_iload rfl rfl ?_
            refine n_if_ge (tgt := 188) rfl rfl (by omega) (fun _ => ?_) (fun hq => hq.elim)
            refine r_lv (lv' := [(3, .int (nI p)), (5, .int (oI ((hp9 d p (d 0 0)).1))), (0, .ref 0), (1, .ref e)]) [3, 1, 4, 5] rfl ?_
            exact K S25 σ2 (k9 + 50 + 102) (n9 + 600 + 1212) fr26.2.1 (by omega) (by omega) hI9 hC6 (by omega) ⟨fz, hG6⟩ hE6 hO6 hN6 hM6
          · have ht1 : 1 < t := by omega
            refine r_aload_n rfl rfl ?_
            refine r_iload_n rfl rfl ?_
            refine r_iload rfl rfl ?_
            refine n_iconst 1 rfl ?_
            refine n_isub rfl (by omega) ?_
            refine c_staA [.ref e, .int (nI p), .int (nI (t - 1))] [] rfl lkL_268 (l_isOut (S := S25) hd hE6 hM6 hgl hX6 fr26.2.1 hp (by omega)) rfl rfl (by omega) (by omega) rfl ?_
            rintro _ S28 ⟨rfl, fr29, hE7, hO7, hN7, hm7⟩
            have z30 := fr29.1
            have hM7 : eGm (Xg g) S28 e (d 0 3) := by
              obtain ⟨U, q1, q2, q3, q4, q5, ⟨hU, -⟩, -⟩ := hE6
              exact hM6.st fr29 hm7 hU
            have hG7 : S28.1 g = oI0 0 1 fz := (fr29.2.2 g (by omega) (by omega)).trans hG6
            have hC7 : CL S28 σ2 := hC6.of (by omega) (fun i hi => fr29.2.2 i (by omega) (by omega))
            have hX7 : ∀ i, Xg g i → i < S28.2.1 := fun i z => by have := hX i z; omega
            refine r_top (y := nI 0) (by rw [ou_G, hl2 ht1]; rfl) ?_
            refine n_if_eq (tgt := 152) rfl rfl (by omega) (fun _ => ?_) (fun hq => absurd hq (by omega))
            refine r_iload rfl rfl ?_
            refine n_if_ge (tgt := 188) rfl rfl (by omega) (fun _ => ?_) (fun hq => hq.elim)
            refine r_lv (lv' := [(3, .int (nI p)), (5, .int (oI ((hp9 d p (d 0 0)).1))), (0, .ref 0), (1, .ref e)]) [3, 1, 4, 5] rfl ?_
            exact K S28 σ2 (k9 + 50 + 102 + 102) (n9 + 600 + 1212 + 1212) fr29.2.1 (by omega) (by omega) hI9 hC7 (by omega) ⟨fz, hG7⟩ hE7 hO7 hN7 hM7
      · have h9 : j < d 0 0 := by omega
        have hpj := hVA j
        refine r_aload_n rfl rfl ?_
        refine r_getfN (v := .ref ((e + 4))) rfl flL_259 (by omega) hV v9 ?_
        refine r_iload rfl rfl ?_
        refine r_zald rfl (by omega) hf4 (by omega) (by decide) ?_
        refine r_top (y := nI (d 4 j)) (k4 j h9) ?_
        refine r_istore (lv' := [(7, .int (nI (d 4 j))), (6, .int (nI j)), (5, .int (oI ((hp9 d p j).1))), (4, .int ((hp9 d p j).2)), (3, .int (nI p)), (0, .ref 0), (1, .ref e)]) rfl (Nat.le_of_ble_eq_true rfl) rfl ?_
        refine r_aload_n rfl rfl ?_
        refine r_getfN (v := .ref ((e + 4))) rfl flL_259 (by omega) hV v9 ?_
        refine r_iload rfl rfl ?_
        refine n_iconst 1 rfl ?_
        refine t_zast rfl hxSa (by omega) hf4 (by omega) (by decide) (by decide) ?_
        intro S31 w32
        have z33 := w32.1
        have hd1 : Vd (up d 4 j 1) := Vdup hd rfl (ok_41 (Nat.le_refl 1))
        have hE3 : ES (Xg g) S31 e (up d 4 j 1) (gf d) := es_p4 hEa w32 k4
        have hXa : ∀ i, Xg g i → i < S31.2.1 := fun i z => by have := hX i z; omega
        refine r_aload_n rfl rfl ?_
        have hp34 : S31.1 e = oO 10 V := ((w32.2.2.2 e (by omega)).trans hV)
        refine c_virV [] [] rfl lkL_133 (by omega) hp34 rfl rfl (e_settles (S := S31) hd1 hE3 rfl hXa w32.2.1) rfl rfl (by omega) (by omega) rfl ?_
        rintro S35 ⟨fr36, hE4, hO4, hN4, hm4⟩
        have z37 := fr36.1
        obtain ⟨V4, hV4, hk4⟩ := hm4 V ((w32.2.2.2 e (by omega)).trans hV)
        refine r_aload_n rfl rfl ?_
        refine r_iload_n rfl rfl ?_
        refine c_virA [.int (nI p)] [] rfl lkL_229 (by omega) hV4 rfl rfl (e_given (S := S35) hd1 hE4 hO4 hN4 (p := p) hp) rfl rfl (by omega) (by omega) rfl ?_
        rintro _ _ ⟨rfl, rfl⟩
        refine r_istore (lv' := [(8, .int (gv (up d 4 j 1) p)), (7, .int (nI (d 4 j))), (6, .int (nI j)), (5, .int (oI ((hp9 d p j).1))), (4, .int ((hp9 d p j).2)), (3, .int (nI p)), (0, .ref 0), (1, .ref e)]) rfl (Nat.le_of_ble_eq_true rfl) rfl ?_
        refine r_aload_n rfl rfl ?_
        refine r_getfN (v := .ref ((e + 4))) rfl flL_259 (by omega) hV4 ((hk4 9 (by decide)).trans v9) ?_
        refine r_iload rfl rfl ?_
        refine r_iload rfl rfl ?_
        have hp38 : S35.1 (e + 4) = oI0 2 12 (aup f4 j (nI 1)) := ((fr36.2.2 (e + 4) (by omega) (by omega)).trans w32.2.2.1)
        refine t_zast rfl fr36.2.1 (by omega) hp38 (by omega) (by decide) (nar_bn (by omega)) ?_
        intro S39 w40
        have z41 := w40.1
        have hE5 : ES (Xg g) S39 e d (gf d) := by
          have h9 := es_p4 hE4 (q := j) (v := d 4 j) (fo := aup f4 j (nI 1)) w40 (fun p hp => by
            by_cases z : p = j
            · rw [z, aup_s, up_s]
            · rw [aup_n _ _ z, up_n2 _ _ z]; exact k4 p hp)
          rw [up_self] at h9
          exact h9
        have hFr5 : ∀ i, i < Sa.2.1 → i ≠ e → i ≠ e + 4 → S39.1 i = Sa.1 i := fun i hi h1 h2 => ((w40.2.2.2 i (by omega)).trans ((fr36.2.2 i (by omega) (by omega)).trans ((w32.2.2.2 i (by omega)).trans rfl)))
        have hC5 : CL S39 σa := hCa.of (by omega) (fun i hi => hFr5 i (by omega) (by omega) (by omega))
        refine r_aload_n rfl rfl ?_
        refine r_iload_n rfl rfl ?_
        refine r_iload rfl rfl ?_
        have hq42 := c_givenIf (z := zf) (sc := sc) hA hIa (q := p) (u := j) (by rw [hda]; exact hp) (by rw [hda]; exact h9)
        rw [hda] at hq42
        refine r_cls [.int (nI p), .int (nI j)] [] rfl lkL_262 rfl hq42 rfl rfl (by omega) (by omega) rfl hC5 ?_
        rintro _ σ2 S43 ⟨rfl, hFm, hI9⟩ hC44 hs45 hk46
        have z47 : S43.2.1 = S39.2.1 := congrArg Prod.fst hs45
        have hx48 : S43.2.2 = true := (congrArg Prod.snd hs45).trans w40.2.1
        refine r_iload rfl rfl ?_
        refine r_icmp_eq (tgt := 82) rfl rfl (fun _ => ?_) (fun hq => absurd rfl hq)
        have hFk : Fr S39 S43 (fun i => i < 53) := ⟨by omega, hx48, fun i hi hn => hk46 i (Nat.le_of_not_lt hn)⟩
        have hE6 : ES (Xg g) S43 e d (gf d) := hE5.keep hFk (fun _ z => Or.inl z)
        have hM6 : eGm (Xg g) S43 e (d 0 3) := by
          intro U hU
          have e5 : S39.1 e = oO 10 V4 := (w40.2.2.2 e (by omega)).trans hV4
          have e6 := oO_in (((hk46 e (by omega)).symm.trans hU).symm.trans e5)
          subst e6
          obtain ⟨q, W, g1, ⟨g2, g3, g4⟩, g5⟩ := hMa V hV
          have g6 := Xg_i g3
          have g7 : q ≠ e + 4 := fun z => by
            rw [z, hf4] at g5
            cases g5
          exact ⟨q, W, (hk4 12 (by decide)).trans g1, ⟨Nat.lt_of_lt_of_le g2 (by omega), g3, g4⟩, (hk46 q g6.1).trans ((hFr5 q g2 g4 g7).trans g5)⟩
        have hG6 : ∃ fz, S43.1 g = oI0 0 1 fz := ⟨fz, (hk46 g hg1).trans ((hFr5 g (by omega) (by omega) (by omega)).trans hGa)⟩
        have hst : hp9 d p (j + 1) = if (hp9 d p j).2 < gv (up d 4 j 1) p then (j + 1, gv (up d 4 j 1) p) else hp9 d p j := rfl
        refine r_iload rfl rfl ?_
        refine r_iload rfl rfl ?_
        refine r_icmp_gt (tgt := 92) rfl rfl (fun h8 => ?_) (fun h8 => ?_)
        · rw [if_pos h8] at hst
          have hs1 := congrArg Prod.fst hst
          have hs2 := congrArg Prod.snd hst
          refine r_iload rfl rfl ?_
          refine r_istore (lv' := [(4, .int (gv (up d 4 j 1) p)), (8, .int (gv (up d 4 j 1) p)), (7, .int (nI (d 4 j))), (6, .int (nI j)), (5, .int (oI ((hp9 d p j).1))), (3, .int (nI p)), (0, .ref 0), (1, .ref e)]) rfl (Nat.le_of_ble_eq_true rfl) rfl ?_
          refine r_iload rfl rfl ?_
          refine r_istore (lv' := [(5, .int (nI j)), (4, .int (gv (up d 4 j 1) p)), (8, .int (gv (up d 4 j 1) p)), (7, .int (nI (d 4 j))), (6, .int (nI j)), (3, .int (nI p)), (0, .ref 0), (1, .ref e)]) rfl (Nat.le_of_ble_eq_true rfl) rfl ?_
          refine n_iinc (lv' := [(6, .int (nI (j + 1))), (5, .int (nI j)), (4, .int (gv (up d 4 j 1) p)), (8, .int (gv (up d 4 j 1) p)), (7, .int (nI (d 4 j))), (3, .int (nI p)), (0, .ref 0), (1, .ref e)]) 1 rfl rfl (Nat.le_of_ble_eq_true rfl) rfl ?_
          refine r_goto (tgt := 22) rfl rfl ?_
          have q1 : nI j = oI (hp9 d p (j + 1)).1 := (oI_s j).symm.trans (congrArg oI hs1.symm)
          have q2 : gv (up d 4 j 1) p = (hp9 d p (j + 1)).2 := hs2.symm
          refine r_lv (lv' := [(6, .int (nI (j + 1))), (5, .int (nI j)), (4, .int (gv (up d 4 j 1) p)), (3, .int (nI p)), (0, .ref 0), (1, .ref e)]) [0, 1, 2, 5, 6, 7] rfl ?_
          rw [q1, q2]
          exact ih (j + 1) S43 (k9 + 50) (n9 + 600) _ (by omega) hx48 (by omega) (by omega) (by omega) hI9 hC44 (by omega) hG6 hE6 hM6
        · rw [if_neg h8] at hst
          refine r_goto (tgt := 100) rfl rfl ?_
          refine n_iinc (lv' := [(6, .int (nI (j + 1))), (8, .int (gv (up d 4 j 1) p)), (7, .int (nI (d 4 j))), (5, .int (oI ((hp9 d p j).1))), (4, .int ((hp9 d p j).2)), (3, .int (nI p)), (0, .ref 0), (1, .ref e)]) 1 rfl rfl (Nat.le_of_ble_eq_true rfl) rfl ?_
          refine r_goto (tgt := 22) rfl rfl ?_
          refine r_lv (lv' := [(6, .int (nI (j + 1))), (5, .int (oI ((hp9 d p j).1))), (4, .int ((hp9 d p j).2)), (3, .int (nI p)), (0, .ref 0), (1, .ref e)]) [0, 3, 4, 5, 6, 7] rfl ?_
          rw [← hst]
          exact ih (j + 1) S43 (k9 + 50) (n9 + 600) _ (by omega) hx48 (by omega) (by omega) (by omega) hI9 hC44 (by omega) hG6 hE6 hM6
  exact loopJ (d 0 0 + 1) 0 S1 0 0 σ (by omega) fr2.2.1 (Nat.zero_le _) (by omega) (by omega) hI hCL1 hF1.1 ⟨fg1, hG1⟩ hE1 hGm1

