/-! The law's plays. -/
theorem ES.wk {X Y : Nat → Prop} {S : AS} {e : Nat} {d : D} {G : Nat → Nat} (h : ES X S e d G) (hY : ∀ i, Y i → X i) : ES Y S e d G := h.fr (Nat.le_refl _) (fun V hV => ⟨V, hV, fun _ _ => rfl⟩) (fun z => h.e.2.2 (hY e z)) (fun i _ _ i3 => ⟨rfl, fun z => i3 (hY i z)⟩)
theorem eGm.wk {X Y : Nat → Prop} {S : AS} {e m : Nat} (h : eGm X S e m) (hY : ∀ i, Y i → X i) : eGm Y S e m := fun V hV => by
  obtain ⟨q, W, g1, ⟨g2, g3, g4⟩, g5⟩ := h V hV
  exact ⟨q, W, g1, ⟨g2, fun z => g3 (hY q z), g4⟩, g5⟩
/-- the class's side between the plays -/
def PL9 (S : AS) (a : AB) : Prop := S.2.2 = true ∧ AV a ∧ aL a = 0 ∧ 53 ≤ S.2.1 ∧ ∃ σ, CI9 σ a ∧ ∀ i, i < 53 → S.1 i = mkG zf σ i
set_option maxRecDepth 100000 in
theorem l_plays {sc : SC} {S : AS} {g : Nat} {a : AB} {σ : SS} {fg : Nat → Int32} (hx : S.2.2 = true) (hg : 53 ≤ g ∧ g < S.2.1) (hG : S.1 g = oI0 0 1 fg) (hA : AV a) (hI : CI9 σ a) (hCL : CL S σ) (hL0 : aL a = 0) : Cal sc mL_plays 10500 433200 [.ref 0, .ref g] S (AR fun v S' => v = .int (nI 1) ∧ Fr S S' Xall ∧ ∃ a', PL9 S' a') := by
  refine Cal.of gmL_plays (Nat.le_of_ble_eq_true rfl) ?_
  obtain ⟨hg1, hg2⟩ := hg
  have h54 := hCL.1
  show Wp sc mL_plays 10500 433200 0 0 0 [(0, .ref 0), (1, .ref g)] [] S (AR fun v S' => v = .int (nI 1) ∧ Fr S S' Xall ∧ ∃ a', PL9 S' a')
  refine t_new (V := dW tyJ4) rfl ciJ4 nwL_39 (fun κ j hj => dW_cv κ tyJ4 j) hx (by omega) (by omega) ?_
  intro S1 w2
  have z3 := w2.1
  refine r_dup rfl rfl ?_
  refine c_iniV [] [.ref S.2.1] rfl lkL_128 (j_init (S := S1) w2.2.1 (by omega) w2.2.2.1 rfl) rfl rfl (by omega) (by omega) ?_
  rintro S4 ⟨fr5, hsz1, hSB⟩
  have z6 := fr5.1
  refine r_astore_n (lv' := [(2, .ref S.2.1), (0, .ref 0), (1, .ref g)]) rfl rfl (Nat.le_of_ble_eq_true rfl) rfl ?_
  refine r_aload_n rfl rfl ?_
  refine r_aload_n rfl rfl ?_
  have hB2 : SLK (fun i => i < S.2.1) S4 S.2.1 [] := ⟨⟨_, hSB (fun j => ([] : List Nat).getD j 0), by omega⟩, by omega⟩
  have hp7 : S4.1 g = oI0 0 1 fg := ((fr5.2.2 g (by omega) (by omega)).trans ((w2.2.2.2 g (by omega)).trans hG))
  refine c_staA [.ref S.2.1, .ref g] [] rfl lkL_129 (l_estate (S := S4) (t := S.2.1) (g := g) fr5.2.1 hB2 ⟨hg1, hg2⟩ hp7) rfl rfl (by omega) (by omega) rfl ?_
  rintro _ S8 ⟨rfl, d, u, o, l, K, ⟨fr9, ⟨or1, or2, or3, or4⟩, ⟨fg2, hG2⟩, hES, hGm, hB3, ⟨hK1, hK2, hK3⟩, hp0, hp1⟩, hT, hl⟩
  have z10 := fr9.1
  have hd := PT_V hT (by omega)
  have hE3 : ES (Xg g) S8 S4.2.1 d (gf d) := hES.wk (fun i z => Or.inr z)
  have hM3 : eGm (Xg g) S8 S4.2.1 (d 0 3) := hGm.wk (fun i z => Or.inr z)
  have hee := hE3.e
  have hC3 : CL S8 σ := hCL.of (by omega) (fun i hi => ((fr9.2.2 i (by omega) (by omega)).trans ((fr5.2.2 i (by omega) (by omega)).trans ((w2.2.2.2 i (by omega)).trans rfl))))
  obtain ⟨V3, hV3⟩ : ∃ V3, S8.1 S4.2.1 = oO 10 V3 := by
    obtain ⟨V, q1, q2, q3, q4, q5, ⟨h, -⟩, -⟩ := hE3
    exact ⟨V, h⟩
  refine r_astore_n (lv' := [(3, .ref S4.2.1), (2, .ref S.2.1), (0, .ref 0), (1, .ref g)]) rfl rfl (Nat.le_of_ble_eq_true rfl) rfl ?_
  refine r_aload_n rfl rfl ?_
  refine c_virV [] [] rfl lkL_133 (by omega) hV3 rfl rfl (e_settles (S := S8) hd hE3 rfl (fun i z => z.elim (fun z => by omega) (fun z => by omega)) fr9.2.1) rfl rfl (by omega) (by omega) rfl ?_
  rintro S11 ⟨fr12, hE4, hO4, hN4, hm4⟩
  have z13 := fr12.1
  have hM4 : eGm (Xg g) S11 S4.2.1 (d 0 3) := hM3.st fr12 hm4 hV3
  have hB4 : SLK K S11 S.2.1 l := hB3.mv fr12 (fun i (z : i = S4.2.1) => by rw [z]; exact hK2) (fun i z => Or.inl z)
  obtain ⟨Vt, hVt, hVt3, hltt⟩ := hB4.o
  obtain ⟨⟨qb, hSB4, -⟩, -⟩ := hB4
  refine r_aload_n rfl rfl ?_
  refine r_aload_n rfl rfl ?_
  refine c_virA [] [.ref 0] rfl lkL_136 (by omega) hVt rfl rfl (j_toStr (S := S11) fr12.2.1 hSB4 (by omega)) rfl rfl (by omega) (by omega) rfl ?_
  rintro _ S14 ⟨rfl, fr15, hST⟩
  have z16 := fr15.1
  have hC5 : CL S14 σ := hC3.of (by omega) (fun i hi => (fr15.2.2 i (by omega) (fun z => z)).trans (fr12.2.2 i (by omega) (by omega)))
  refine c_staA [.ref 0, .ref S11.2.1] [] rfl lkL_140 (l_feeds (S := S14) (so := S11.2.1) fr15.2.1 (by omega) hST hl hA hI hC5 hL0) rfl rfl (by omega) (by omega) rfl ?_
  rintro _ S17 ⟨rfl, fr18, σ6, a6, hC6, hI6, hA6, hL6, hT6⟩
  have z19 := fr18.1
  refine n_if_eq (tgt := 40) rfl rfl (by decide) (fun hq => absurd hq (by decide)) (fun _ => ?_)
  refine r_aload_n rfl rfl ?_
  refine r_aload_n rfl rfl ?_
  have hp20 : S17.1 S.2.1 = oO 12 Vt := ((fr18.2.2 S.2.1 (by omega) (by omega)).trans ((fr15.2.2 S.2.1 (by omega) (fun z9 => z9)).trans hVt))
  refine c_virA [] [.ref 0] rfl lkL_144 (by omega) hp20 rfl rfl (j_len (S := S17) (by omega) hp20 hVt3) rfl rfl (by omega) (by omega) rfl ?_
  rintro _ _ ⟨rfl, rfl⟩
  have hpa := PT_e hT (by omega) (X := aT a6) (TA_of (fun k hk => by rw [Nat.zero_add]; exact hT6 k hk))
  have hp1' : (pa (l.length, aT a6)).1 = 0 := by rw [hpa]
  have hq21 := c_parse (z := zf) (sc := sc) hA6 hI6 (m := l.length) hL6
  refine r_cls [.int (nI l.length)] [] rfl lkL_145 rfl hq21 rfl rfl (by omega) (by omega) rfl hC6 ?_
  rintro _ σ7 S22 ⟨rfl, hFm, hI9⟩ hC23 hs24 hk25
  have z26 : S22.2.1 = S17.2.1 := congrArg Prod.fst hs24
  have hx27 : S22.2.2 = true := (congrArg Prod.snd hs24).trans fr18.2.1
  refine r_top (y := nI 0) (by rw [hp1']) ?_
  refine n_if_eq (tgt := 42) rfl rfl (by omega) (fun _ => ?_) (fun hq => absurd hq (by omega))
  have hA7 : AV (paA a6 l.length) := paA_ok hA6 hL6
  have hda7 : aD (paA a6 l.length) = d := by rw [paA_0 hp1', hpa]
  have hL7 : aL (paA a6 l.length) = 0 := by rw [paA_0 hp1']
  have hF7 : Fr S11 S22 (fun i => i < 53) := ⟨by omega, hx27, fun i hi (hn : ¬ (i < 53)) => (hk25 i (by omega)).trans ((fr18.2.2 i (by omega) hn).trans (fr15.2.2 i hi (fun z => z)))⟩
  have hee4 := hE4.e
  have hp28 : S22.1 g = oI0 0 1 fg2 := ((hk25 g (by omega)).trans ((fr18.2.2 g (by omega) (by omega)).trans ((fr15.2.2 g (by omega) (fun z9 => z9)).trans ((fr12.2.2 g (by omega) (by omega)).trans hG2))))
  have hLI : LH9 S22 S4.2.1 g d (paA a6 l.length) := ⟨⟨hd, hA7, hda7, hp0, hp1, hL7⟩, ⟨_, hI9, hC23⟩, hx27, ⟨hg1, by omega, _, hp28⟩, hE4.keep hF7 (fun _ z => Or.inl z), hO4.keep hF7 hE4 (fun _ z => Or.inl z), hN4.keep hF7 hE4 (fun _ z => Or.inl z), hM4.keep hF7 hee4.2.1 hee4.2.2 (fun _ z => Or.inl z)⟩
  refine n_iconst 0 rfl ?_
  refine r_istore (lv' := [(4, .int (nI 0)), (3, .ref S4.2.1), (2, .ref S.2.1), (0, .ref 0), (1, .ref g)]) rfl (Nat.le_of_ble_eq_true rfl) rfl ?_
  refine r_lv (lv' := [(4, .int (nI 0)), (0, .ref 0), (1, .ref g), (3, .ref S4.2.1)]) [0, 3, 4, 1] rfl ?_
  have loopM : ∀ (m9 : Nat) (m : Nat) (Sa : AS) (k9 n9 : Nat) (d7 : D) (a7 : AB), 10 - m < m9 → (Sa.2.2 = true) → (m ≤ 10) → (k9 + 935 * (10 - m) ≤ 10500) → (n9 + 11094 * (10 - m) ≤ 433200) → (S.2.1 ≤ Sa.2.1) → (LH9 Sa S4.2.1 g d7 a7) → Wp sc mL_plays 10500 433200 k9 n9 45 [(4, .int (nI m)), (0, .ref 0), (1, .ref g), (3, .ref S4.2.1)] [] Sa (AR fun v S' => v = .int (nI 1) ∧ Fr S S' Xall ∧ ∃ a', PL9 S' a') := by
    intro m9
    induction m9 with
    | zero => intro m Sa k9 n9 d7 a7 hme; exact absurd hme (Nat.not_lt_zero _)
    | succ m9 ih =>
      intro m Sa k9 n9 d7 a7 hme hxSa hm hb1 hb2 hz7 hLa
      refine r_iload rfl rfl ?_
      refine n_bipush 10 rfl (by decide) ?_
      refine n_icmp_ge (tgt := 94) rfl rfl (by omega) (by omega) (fun h9 => ?_) (fun h9 => ?_)
      · refine n_iconst 1 rfl ?_
        obtain ⟨⟨-, hAz, -, -, -, hLz⟩, ⟨σz, hIz, hCz⟩, -⟩ := hLa
        have h53 := hCz.1
        exact r_ret rfl rfl rfl (by omega) (by omega) (⟨_, rfl, rfl, ⟨hz7, hxSa, fun _ _ z => absurd trivial z⟩, a7, hxSa, hAz, hLz, by omega, σz, hIz, hCz.2⟩)
      · have h9 : m < 10 := by omega
        refine r_aload_n rfl rfl ?_
        refine r_aload_n rfl rfl ?_
        obtain ⟨⟨hdz, hAz, hdaz, -, -, -⟩, ⟨σz, hIz, hCz⟩, hxz, -, hEz, hOz, hNz, -⟩ := id hLa
        refine c_staA [.ref 0, .ref S4.2.1] [] rfl lkL_149 (l_accounts (S := Sa) hdz hAz hIz hdaz hCz hxz hEz hOz hNz) rfl rfl (by omega) (by omega) rfl ?_
        rintro _ S29 ⟨rfl, fr30, -⟩
        have z31 := fr30.1
        have hLb := LH9.fr hLa fr30
        refine n_if_eq (tgt := 86) rfl rfl (by decide) (fun hq => absurd hq (by decide)) (fun _ => ?_)
        refine r_aload_n rfl rfl ?_
        refine r_aload_n rfl rfl ?_
        obtain ⟨⟨hdy, hAy, hday, -, -, -⟩, ⟨σy, hIy, hCy⟩, hxy, -, hEy, hOy, hNy, -⟩ := id hLb
        refine c_staA [.ref 0, .ref S4.2.1] [] rfl lkL_153 (l_heirs (S := S29) hdy hAy hIy hday hCy hxy hEy hOy hNy) rfl rfl (by omega) (by omega) rfl ?_
        rintro _ S32 ⟨rfl, fr33⟩
        have z34 := fr33.1
        have hLc := LH9.fr hLb fr33
        refine n_if_eq (tgt := 86) rfl rfl (by decide) (fun hq => absurd hq (by decide)) (fun _ => ?_)
        refine r_aload_n rfl rfl ?_
        refine r_aload_n rfl rfl ?_
        refine r_aload_n rfl rfl ?_
        refine c_staA [.ref 0, .ref S4.2.1, .ref g] [] rfl lkL_156 (l_wouldBe (S := S32) hLc) rfl rfl (by omega) (by omega) rfl ?_
        rintro _ S35 ⟨rfl, fr36, hLd⟩
        have z37 := fr36.1
        refine n_if_eq (tgt := 86) rfl rfl (by decide) (fun hq => absurd hq (by decide)) (fun _ => ?_)
        refine r_aload_n rfl rfl ?_
        refine r_aload_n rfl rfl ?_
        refine r_aload_n rfl rfl ?_
        refine c_staA [.ref 0, .ref S4.2.1, .ref g] [] rfl lkL_160 (l_changes (S := S35) hLd) rfl rfl (by omega) (by omega) rfl ?_
        rintro _ S38 ⟨rfl, fr39, d8, a8, hLe⟩
        have z40 := fr39.1
        refine n_if_ne (tgt := 88) rfl rfl (by decide) (fun _ => ?_) (fun hq => absurd hq (by decide))
        refine n_iinc (lv' := [(4, .int (nI (m + 1))), (0, .ref 0), (1, .ref g), (3, .ref S4.2.1)]) 1 rfl rfl (Nat.le_of_ble_eq_true rfl) rfl ?_
        refine r_goto (tgt := 45) rfl rfl ?_
        refine r_lv (lv' := [(4, .int (nI (m + 1))), (0, .ref 0), (1, .ref g), (3, .ref S4.2.1)]) [0, 1, 2, 3] rfl ?_
        exact ih (m + 1) S38 (k9 + 1 + 12 + 860 + 62) (n9 + 10 + 84 + 10300 + 700) d8 a8 (by omega) fr39.2.1 (by omega) (by omega) (by omega) (by omega) hLe
  exact loopM 11 0 S22 (0 + 1 + 1 + 300 + 50 + 2 + 720) (0 + 4 + 16 + 320000 + 600 + (l.length + 4) + 720) d (paA a6 l.length) (by decide) hx27 (by decide) (by omega) (by omega) (by omega) hLI

/-! The law's room is the launch's. -/
def mLw : MI := (yL_law, cL_law, 4, (some .boolean), 2048, 84000, [], mCd mL_law)
theorem dkLw : DK mLw := dk_of (by decide +kernel)
set_option maxRecDepth 100000 in
theorem l_law8 {sc : SC} {S : AS} {a : AB} {k9 n9 : Nat} (hPL : PL9 S a) (hsc : sc.1 ≤ 260) (hk9 : k9 ≤ 53) (hn9 : n9 ≤ 2302) : Wp sc mLw 727253 6919940 k9 n9 8 [(1, .ref 0), (0, .retAddr 100)] [] S (fun r _ => r = .inl (some (.int (nI 1)))) := by
  refine r_aload_nK rfl rfl (by decide) ?_
  refine r_slen rfl (by decide) ?_
  refine r_istore_n (lv' := [(2, .int (nI sc.1)), (1, .ref 0), (0, .retAddr 100)]) rfl rfl (Nat.le_of_ble_eq_true rfl) rfl ?_
  refine n_iconst 0 rfl ?_
  refine r_istore_n (lv' := [(3, .int (nI 0)), (2, .int (nI sc.1)), (1, .ref 0), (0, .retAddr 100)]) rfl rfl (Nat.le_of_ble_eq_true rfl) rfl ?_
  refine r_lv (lv' := [(3, .int (nI 0)), (2, .int (nI sc.1)), (1, .ref 0), (0, .retAddr 100)]) [0, 1, 2, 3] rfl ?_
  have loopI : ∀ (m9 : Nat) (i : Nat) (Sa : AS) (k8 n8 : Nat) (a7 : AB), 6 - i < m9 → (Sa.2.2 = true) → (i ≤ 6) → (k8 + 10501 * (6 - i) ≤ 63100) → (n8 + 433201 * (6 - i) ≤ 2601600) → (PL9 Sa a7) → Wp sc mLw 727253 6919940 k8 n8 13 [(3, .int (nI i)), (2, .int (nI sc.1)), (1, .ref 0), (0, .retAddr 100)] [] Sa (fun r _ => r = .inl (some (.int (nI 1)))) := by
    intro m9
    induction m9 with
    | zero => intro i Sa k8 n8 a7 hme; exact absurd hme (Nat.not_lt_zero _)
    | succ m9 ih =>
      intro i Sa k8 n8 a7 hme hxSa hi hb1 hb2 hPa
      obtain ⟨hxo, hAo, hLo, h53, σo, hIo, hCo⟩ := hPa
      refine r_iload_n rfl rfl ?_
      refine r_iload_n rfl rfl ?_
      refine n_icmp_ge (tgt := 48) rfl rfl (by omega) (by omega) (fun h9 => ?_) (fun h9 => ?_)
      · refine n_iconst 1 rfl ?_
        exact r_ret rfl rfl rfl (by omega) (by omega) rfl
      · refine r_iload_n rfl rfl ?_
        refine n_bipush 6 rfl (by decide) ?_
        refine n_icmp_ge (tgt := 48) rfl rfl (by omega) (by omega) (fun h8 => ?_) (fun h8 => ?_)
        · refine n_iconst 1 rfl ?_
          exact r_ret rfl rfl rfl (by omega) (by omega) rfl
        · have h8 : i < 6 := by omega
          have h9 : i < sc.1 := by omega
          refine r_aload_n rfl rfl ?_
          refine n_iconst 1 rfl ?_
          refine t_newa0 rfl hxSa (by decide) (by omega) (by omega) ?_
          intro S1 w2
          have z3 := w2.1
          refine r_dup rfl rfl ?_
          refine n_iconst 0 rfl ?_
          refine r_aload_nK rfl rfl (by decide) ?_
          refine r_iload_n rfl rfl ?_
          refine r_sld (j := i) rfl (by decide) h9 (by omega) ?_
          refine t_iast rfl w2.2.1 (by omega) w2.2.2.1 (by decide) (by decide) ?_
          intro S4 w5
          have z6 := w5.1
          have hC2 : CL S4 σo := ⟨by omega, fun j hj => ((w5.2.2.2 j (by omega)).trans ((w2.2.2.2 j (by omega)).trans (hCo j hj)))⟩
          refine c_staA [.ref 0, .ref Sa.2.1] [] rfl lkL_26 (l_plays (S := S4) (g := Sa.2.1) w5.2.1 ⟨h53, by omega⟩ w5.2.2.1 hAo hIo hC2 hLo) rfl rfl (by omega) (by omega) rfl ?_
          rintro _ S7 ⟨rfl, fr8, a8, hP8⟩
          have z9 := fr8.1
          refine n_if_ne (tgt := 42) rfl rfl (by decide) (fun _ => ?_) (fun hq => absurd hq (by decide))
          refine n_iinc (lv' := [(3, .int (nI (i + 1))), (2, .int (nI sc.1)), (1, .ref 0), (0, .retAddr 100)]) 1 rfl rfl (Nat.le_of_ble_eq_true rfl) rfl ?_
          refine r_goto (tgt := 13) rfl rfl ?_
          refine r_lv (lv' := [(3, .int (nI (i + 1))), (2, .int (nI sc.1)), (1, .ref 0), (0, .retAddr 100)]) [0, 1, 2, 3] rfl ?_
          exact ih (i + 1) S7 (k8 + 1 + 10500) (n8 + 1 + 433200) a8 (by omega) fr8.2.1 (by omega) (by omega) (by omega) hP8
  exact loopI 7 0 S k9 n9 a (by decide) hPL.1 (by decide) (by omega) (by omega) hPL

set_option maxRecDepth 100000 in
theorem law_start {sc : SC} (hL : sc.1 ≤ 260) : Wp sc mLw 727253 6919940 0 0 0 [(0, .retAddr 100)] [] (TB, 0, true) (fun r _ => r = .inl (some (.int (nI 1)))) := by
  refine r_new (V := dV 0 9 8) rfl ciX9 nwL_18.1 nwL_18.2.1 nwL_18.2.2 (dV_cv 0 9 8) rfl (by decide) (by decide) ?_
  show Wp sc mLw 727253 6919940 1 8 3 [(0, .retAddr 100)] [.ref 0] (aup TB 0 (.inr (.inr (9, dV 0 9 8))), 1, true) _
  refine r_dup rfl rfl ?_
  refine r_ini [] [.ref 0] rfl lkL_25 (n_X9_0 (B := TB) (fun i _ _ => rfl)) (fun ec S' q => nomatch q.1) rfl rfl (by decide) (by decide) ?_
  rintro r S' ⟨hr, σ1, rfl, hI1⟩
  cases hr
  show Wp sc mLw 727253 6919940 53 2302 7 [(0, .retAddr 100)] [.ref 0] (mkG (false, false) σ1, 53, true) _
  refine r_astore_n (lv' := [(1, .ref 0), (0, .retAddr 100)]) rfl rfl (Nat.le_of_ble_eq_true rfl) rfl ?_
  exact l_law8 ⟨rfl, a0_ok, rfl, Nat.le_refl _, σ1, hI1, fun _ _ => rfl⟩ hL (by decide) (by decide)
