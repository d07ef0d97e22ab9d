/-! The law's shares, from the front. -/
theorem lc_st {m v t : Nat} (hm : 0 < m) (h1 : m ∣ t) (h2 : t ≤ Nat.lcm m v) (h3 : t % v ≠ 0) : t + m ≤ Nat.lcm m v := by
  obtain ⟨a, ha⟩ := h1
  obtain ⟨b, hb⟩ := Nat.dvd_lcm_left m v
  have h4 : t ≠ Nat.lcm m v := fun z => h3 (by rw [z]; exact Nat.mod_eq_zero_of_dvd (Nat.dvd_lcm_right m v))
  rw [hb] at h2 h4 ⊢
  subst ha
  have h5 : a < b := by
    rcases Nat.lt_trichotomy a b with q | q | q
    · exact q
    · exact absurd (by rw [q]) h4
    · exact absurd (Nat.mul_lt_mul_of_pos_left q hm) (by omega)
  have h6 := Nat.mul_le_mul_left m (show a + 1 ≤ b from h5)
  rw [Nat.mul_add, Nat.mul_one] at h6
  exact h6
theorem lc_en {m v t : Nat} (h0 : 0 < t) (h1 : m ∣ t) (h2 : t ≤ Nat.lcm m v) (h3 : t % v = 0) : t = Nat.lcm m v := Nat.le_antisymm h2 (Nat.le_of_dvd h0 (Nat.lcm_dvd h1 (Nat.dvd_of_mod_eq_zero h3)))
theorem ml_lc {d : D} {i : Nat} (h : he d i = true) : ml d (i + 1) = Nat.lcm (ml d i) (dv d i) := by
  show (if he d i = true then ml d i / Nat.gcd (ml d i) (dv d i) * dv d i else ml d i) = _
  rw [if_pos h, Nat.div_mul_right_comm (Nat.gcd_dvd_left _ _)]
  rfl
theorem ml_no {d : D} {i : Nat} (h : he d i = false) : ml d (i + 1) = ml d i := by
  show (if he d i = true then _ else ml d i) = _
  rw [if_neg (by rw [h]; decide)]
theorem lc_b {m v : Nat} (hm : 0 < m) (hv : 0 < v) (h1 : m ≤ 4096) (h2 : v ≤ 4096) : Nat.lcm m v ≤ 16777216 := by
  have h3 : Nat.lcm m v ≤ m * v := Nat.le_of_dvd (Nat.mul_pos hm hv) (Nat.lcm_dvd (Nat.dvd_mul_right m v) (Nat.dvd_mul_left v m))
  have h4 := Nat.mul_le_mul h1 h2
  omega
theorem dvh_t {d : D} {i : Nat} (h : he d i = true) : dvh d i = dv d i := if_pos h
theorem hm_le {d : D} (hd : Vd d) : hm d ≤ 12 := by
  have h : hm d ≤ d 0 0 * 1 := sm_le (fun i _ => by cases he d i <;> decide)
  have := (vC hd).1
  omega
theorem hm_w {d : D} {G : Nat → Nat} (hd : Vd d) (h : hm d = 0) : sm (w9G d G) 12 = 0 := by
  refine sm_zero (fun i _ => ?_)
  have h1 : w9G d G i ≤ wt d i := lo_lw
  have h2 : wt d i = 0 := by
    apply Classical.byContradiction
    intro z
    have h3 := (wt_pos hd (p := i)).mp (by omega)
    have h4 : (fun p => tb (he d p)) i ≤ sm (fun p => tb (he d p)) (d 0 0) := sm_pos (f := fun p => tb (he d p)) (he_lt h3)
    have h5 : sm (fun p => tb (he d p)) (d 0 0) = 0 := h
    rw [h5] at h4
    simp only [h3] at h4
    exact absurd h4 (by decide)
  omega
theorem e_takes_s {sc : SC} {S : AS} {X : Nat → Prop} {e : Nat} {d : D} {G : Nat → Nat} (hd : Vd d) (hE : ES X S e d G) : Cal sc mX10_takes 0 0 [.ref e, .int (oI (d 0 5))] S (AR fun v S' => v = .int (nI (tb (hs d))) ∧ S = S') := by
  have h5 := (vC hd).2.2.2.2.2.1
  cases h : d 0 5 with
  | zero =>
    have e1 : hs d = false := by unfold hs; rw [h]; rfl
    rw [oI_0, e1]
    exact e_takes0
  | succ k =>
    have e1 : hs d = tk d k := by unfold hs; rw [h]; rfl
    rw [oI_s, e1]
    exact e_takes hd hE (by omega)
theorem oI_n {k : Nat} (h : 0 < k) : oI k = nI (k - 1) := by
  cases k with
  | zero => exact absurd h (Nat.lt_irrefl 0)
  | succ k => exact oI_s k
theorem hs_0 {d : D} (h : hs d = true) : 0 < d 0 5 := by
  apply Nat.pos_of_ne_zero
  intro z
  unfold hs at h
  rw [z] at h
  cases h
set_option maxRecDepth 100000 in
theorem e_shares {sc : SC} {S : AS} {X : Nat → Prop} {e : Nat} {d : D} {G : Nat → Nat} (hd : Vd d) (hE : ES X S e d G) (hX : ∀ i, X i → i < S.2.1) (h53 : 53 ≤ S.2.1) (hx : S.2.2 = true) (hR0 : eOld X S e d) : Cal sc mX10_shares 30 400 [.ref e] S (AV0 fun S' => Fr S S' (fun i => i = e) ∧ ES X S' e d G ∧ eOld X S' e d ∧ eNew X S' e d G ∧ eSm S S' e) := by
  refine Cal.of gmX10_shares (Nat.le_of_ble_eq_true rfl) ?_
  have hE9 := hE
  obtain ⟨V, qa, qd, qg, ql, hi, ⟨hV, ⟨v0, v1, v2, v3, v4, v5⟩, ⟨v6, v7, v8, v9⟩, ⟨v10, v11, v12, v13⟩⟩, ⟨f1, f2, f3, f4, ⟨hf1, k1⟩, ⟨hf2, k2⟩, ⟨hf3, k3⟩, ⟨hf4, k4⟩⟩, ⟨b1, b2, -, -⟩, b3, hEA, hED, hEG, hEL⟩ := hE9
  have hVA := vA hd
  have hVC := vC hd
  obtain ⟨q14, q15, q16, ⟨u14, u15, u16⟩, ⟨u22, u23, u24⟩, ⟨g14, r14, ⟨p14, l14, x14⟩, t14⟩, ⟨g15, r15, ⟨p15, l15, x15⟩, t15⟩, ⟨g16, r16, ⟨p16, l16, x16⟩, t16⟩⟩ := hR0 V hV
  show Wp sc mX10_shares 30 400 0 0 0 [(0, .ref e)] [] S (AV0 fun S' => Fr S S' (fun i => i = e) ∧ ES X S' e d G ∧ eOld X S' e d ∧ eNew X S' e d G ∧ eSm S S' e)
  have hmm := hm_le hd
  have h05 := (vC hd).2.2.2.2.2.1
  refine n_lconst1 rfl ?_
  refine r_lstore_n (lv' := [(1, .long (lN 1)), (0, .ref e)]) rfl rfl (Nat.le_of_ble_eq_true rfl) rfl ?_
  refine n_iconst 0 rfl ?_
  refine r_istore_n (lv' := [(3, .int (nI 0)), (1, .long (lN 1)), (0, .ref e)]) rfl rfl (Nat.le_of_ble_eq_true rfl) rfl ?_
  refine r_aload_n rfl rfl ?_
  refine r_getf (v := .ref q16) rfl flX10_65 (by omega) hV u16 ?_
  refine r_astore (lv' := [(4, .ref q16), (3, .int (nI 0)), (1, .long (lN 1)), (0, .ref e)]) rfl (Nat.le_of_ble_eq_true rfl) rfl ?_
  refine r_aload rfl rfl ?_
  refine r_alen rfl (by omega) r16 (by decide) ?_
  refine r_istore (lv' := [(5, .int (nI (d 0 0))), (4, .ref q16), (3, .int (nI 0)), (1, .long (lN 1)), (0, .ref e)]) rfl (Nat.le_of_ble_eq_true rfl) rfl ?_
  refine n_iconst 0 rfl ?_
  refine r_istore (lv' := [(6, .int (nI 0)), (5, .int (nI (d 0 0))), (4, .ref q16), (3, .int (nI 0)), (1, .long (lN 1)), (0, .ref e)]) rfl (Nat.le_of_ble_eq_true rfl) rfl ?_
  refine r_lv (lv' := [(6, .int (nI 0)), (1, .long (lN 1)), (3, .int (nI 0)), (4, .ref q16), (5, .int (nI (d 0 0))), (0, .ref e)]) [0, 4, 3, 2, 1, 5] rfl ?_
  have loopA : ∀ (m9 : Nat) (i : Nat) (m h : Nat), d 0 0 - i < m9 → (i ≤ d 0 0) → (m = ml d i) → (h = sm (fun p => tb (he d p)) i) → Wp sc mX10_shares 30 400 0 0 18 [(6, .int (nI i)), (1, .long (lN m)), (3, .int (nI h)), (4, .ref q16), (5, .int (nI (d 0 0))), (0, .ref e)] [] S (AV0 fun S' => Fr S S' (fun i => i = e) ∧ ES X S' e d G ∧ eOld X S' e d ∧ eNew X S' e d G ∧ eSm S S' e) := by
    intro m9
    induction m9 with
    | zero => intro i m h hme; exact absurd hme (Nat.not_lt_zero _)
    | succ m9 ih =>
      intro i m h hme hi hm9 hh
      have hmb := ml_le hd i
      have hmp := (ml_P hd i).1
      refine r_iload rfl rfl ?_
      refine r_iload rfl rfl ?_
      refine n_icmp_ge (tgt := 75) rfl rfl (by omega) (by omega) (fun h9 => ?_) (fun h9 => ?_)
      · have e9 : i = d 0 0 := by omega
        rw [e9] at hm9 hh hmb hmp
        have hh2 : h = hm d := hh
        subst hh2
        have ha5 := a5_le hd
        have ha6 := a6_le hd
        have ha7 := a7_le hd
        have hrs := rs_le hd
        refine r_aload_n rfl rfl ?_
        refine r_aload_n rfl rfl ?_
        refine r_getf (v := .int (oI (d 0 5))) rfl flX10_7 (by omega) hV v1 ?_
        refine c_virA [.int (oI (d 0 5))] [] rfl lkX10_51 (by omega) hV rfl rfl (e_takes_s (S := S) hd hE) rfl rfl (by omega) (by omega) rfl ?_
        rintro _ _ ⟨rfl, rfl⟩
        refine r_istore (lv' := [(4, .int (nI (tb (hs d)))), (6, .int (nI i)), (1, .long (lN m)), (3, .int (nI (hm d))), (5, .int (nI (d 0 0))), (0, .ref e)]) rfl (Nat.le_of_ble_eq_true rfl) rfl ?_
        refine r_aload_n rfl rfl ?_
        refine r_iload rfl rfl ?_
        suffices K : Wp sc mX10_shares 30 400 0 0 122 [(4, .int (nI (tb (hs d)))), (6, .int (nI i)), (1, .long (lN m)), (3, .int (nI (hm d))), (5, .int (nI (d 0 0))), (0, .ref e)] [.long (lN (a5 d)), .ref e] S (AV0 fun S' => Fr S S' (fun i => i = e) ∧ ES X S' e d G ∧ eOld X S' e d ∧ eNew X S' e d G ∧ eSm S S' e) by
          refine n_if_ne (tgt := 95) rfl rfl (tb_B _) (fun h9 => ?_) (fun h9 => ?_)
          · have hH : hs d = true := by
              cases q : hs d
              · rw [q] at h9; exact absurd rfl h9
              · rfl
            refine r_iload_n rfl rfl ?_
            refine n_if_ne (tgt := 106) rfl rfl (by omega) (fun h8 => ?_) (fun h8 => ?_)
            · have hpp : rs d * d 0 6 ≤ 79999992 * 99 := Nat.mul_le_mul hrs (by omega)
              refine r_aload_n rfl rfl ?_
              refine r_getf (v := .long (lN (rs d))) rfl flX10_101 (by omega) hV u24 ?_
              refine r_aload_n rfl rfl ?_
              refine r_getf (v := .int (nI (d 0 6))) rfl flX10_16 (by omega) hV v3 ?_
              refine n_i2l rfl (by omega) ?_
              refine n_lmul rfl ?_
              refine r_aload_n rfl rfl ?_
              refine r_getf (v := .int (nI (d 0 7))) rfl flX10_13 (by omega) hV v2 ?_
              refine n_i2l rfl (by omega) ?_
              refine n_ldiv rfl (by omega) (by omega) (by omega) ?_
              exact r_topL (y := lN (a5 d)) (by unfold a5; rw [if_pos hH, if_neg h8]) K
            · refine r_aload_n rfl rfl ?_
              refine r_getf (v := .long (lN (rs d))) rfl flX10_101 (by omega) hV u24 ?_
              refine r_goto (tgt := 122) rfl rfl ?_
              exact r_topL (y := lN (a5 d)) (by unfold a5; rw [if_pos hH, if_pos h8]) K
          · have hH : hs d = false := by
              cases q : hs d
              · rfl
              · rw [q] at h9; cases h9
            refine n_lconst0 rfl ?_
            refine r_goto (tgt := 122) rfl rfl ?_
            exact r_topL (y := lN (a5 d)) (by unfold a5; rw [if_neg (by rw [hH]; decide)]) K
        refine t_putf rfl flX10_107 (okv_l _) hx (by omega) hV ?_
        intro S1 w2
        have z3 := w2.1
        refine r_aload_n rfl rfl ?_
        refine r_iload rfl rfl ?_
        suffices K : Wp sc mX10_shares 30 400 0 0 158 [(4, .int (nI (tb (hs d)))), (6, .int (nI i)), (1, .long (lN m)), (3, .int (nI (hm d))), (5, .int (nI (d 0 0))), (0, .ref e)] [.long (lN (a6 d)), .ref e] S1 (AV0 fun S' => Fr S S' (fun i => i = e) ∧ ES X S' e d G ∧ eOld X S' e d ∧ eNew X S' e d G ∧ eSm S S' e) by
          refine n_if_eq (tgt := 157) rfl rfl (tb_B _) (fun h9 => ?_) (fun h9 => ?_)
          · have hH : hs d = false := by
              cases q : hs d
              · rfl
              · rw [q] at h9; cases h9
            refine n_lconst0 rfl ?_
            exact r_topL (y := lN (a6 d)) (by unfold a6; rw [if_neg (fun z => by rw [hH] at z; cases z.1)]) K
          · have hH : hs d = true := by
              cases q : hs d
              · rw [q] at h9; exact absurd rfl h9
              · rfl
            refine r_iload_n rfl rfl ?_
            refine n_if_le (tgt := 157) rfl rfl (by omega) (fun h8 => ?_) (fun h8 => ?_)
            · refine n_lconst0 rfl ?_
              exact r_topL (y := lN (a6 d)) (by unfold a6; rw [if_neg (fun z => z.2 h8)]) K
            · have hpp : (rs d - a5 d) * d 0 8 ≤ 79999992 * 100 := Nat.mul_le_mul (by omega) (by omega)
              refine r_aload_n rfl rfl ?_
              refine r_getf (v := .long (lN (rs d))) rfl flX10_101 (by omega) w2.2.2.1 ((aup_n _ _ (by decide)).trans u24) ?_
              refine r_aload_n rfl rfl ?_
              refine r_getf (v := .long (lN (a5 d))) rfl flX10_107 (by omega) w2.2.2.1 (aup_s _ _ _) ?_
              refine n_lsub rfl (by omega) ?_
              refine r_aload_n rfl rfl ?_
              refine r_getf (v := .int (nI (d 0 8))) rfl flX10_110 (by omega) w2.2.2.1 ((aup_n _ _ (by decide)).trans v4) ?_
              refine n_i2l rfl (by omega) ?_
              refine n_lmul rfl ?_
              refine r_ldc2 (v := lN 100) rfl kcX10_82 ?_
              refine n_ldiv rfl (by omega) (by omega) (by omega) ?_
              refine r_goto (tgt := 158) rfl rfl ?_
              exact r_topL (y := lN (a6 d)) (by unfold a6; rw [if_pos ⟨hH, by omega⟩]) K
        refine t_putf rfl flX10_113 (okv_l _) w2.2.1 (by omega) w2.2.2.1 ?_
        intro S4 w5
        have z6 := w5.1
        refine r_aload_n rfl rfl ?_
        refine r_aload_n rfl rfl ?_
        refine r_getf (v := .long (lN (a6 d))) rfl flX10_113 (by omega) w5.2.2.1 (aup_s _ _ _) ?_
        refine n_lconst0 rfl ?_
        suffices K : Wp sc mX10_shares 30 400 0 0 197 [(4, .int (nI (tb (hs d)))), (6, .int (nI i)), (1, .long (lN m)), (3, .int (nI (hm d))), (5, .int (nI (d 0 0))), (0, .ref e)] [.long (lN (a7 d)), .ref e] S4 (AV0 fun S' => Fr S S' (fun i => i = e) ∧ ES X S' e d G ∧ eOld X S' e d ∧ eNew X S' e d G ∧ eSm S S' e) by
          refine n_lcmp_ne (tgt := 175) rfl rfl rfl (by omega) (by omega) (fun h9 => ?_) (fun h9 => ?_)
          · have hH : hs d = true := by
              cases q : hs d
              · exact absurd (by unfold a6; rw [if_neg (fun z => by rw [q] at z; cases z.1)]) h9
              · rfl
            have h50 := hs_0 hH
            have hag := (hVA (d 0 5 - 1)).1
            have hfa := fa_le (d 2 (d 0 5 - 1))
            refine r_aload_n rfl rfl ?_
            refine r_getf (v := .long (lN (a6 d))) rfl flX10_113 (by omega) w5.2.2.1 (aup_s _ _ _) ?_
            refine r_aload_n rfl rfl ?_
            refine r_getf (v := .ref ((e + 2))) rfl flX10_27 (by omega) w5.2.2.1 ((aup_n _ _ (by decide)).trans ((aup_n _ _ (by decide)).trans v7)) ?_
            refine r_aload_n rfl rfl ?_
            refine r_getf (v := .int (oI (d 0 5))) rfl flX10_7 (by omega) w5.2.2.1 ((aup_n _ _ (by decide)).trans ((aup_n _ _ (by decide)).trans v1)) ?_
            refine r_top (y := nI (d 0 5 - 1)) (oI_n h50) ?_
            have hp7 : S4.1 (e + 2) = oI0 0 12 f2 := ((w5.2.2.2 (e + 2) (by omega)).trans ((w2.2.2.2 (e + 2) (by omega)).trans hf2))
            refine r_iald rfl (by omega) hp7 (by omega) (by decide) ?_
            refine r_top (y := nI (d 2 (d 0 5 - 1))) (k2 _ (by omega)) ?_
            refine c_staA [.int (nI (d 2 (d 0 5 - 1)))] [.long (lN (a6 d)), .ref e] rfl lkX10_116 (e_factor (S := S4) hag) rfl rfl (by omega) (by omega) rfl ?_
            rintro _ _ ⟨rfl, rfl⟩
            have hpp : a6 d * fa (d 2 (d 0 5 - 1)) ≤ 79999992 * 90 := Nat.mul_le_mul (by omega) hfa
            refine n_i2l rfl (by omega) ?_
            refine n_lmul rfl ?_
            refine r_ldc2 (v := lN 100) rfl kcX10_82 ?_
            refine n_ldiv rfl (by omega) (by omega) (by omega) ?_
            exact r_topL (y := lN (a7 d)) (by unfold a7; rfl) K
          · refine n_lconst0 rfl ?_
            refine r_goto (tgt := 197) rfl rfl ?_
            exact r_topL (y := lN (a7 d)) (by unfold a7; rw [h9, Nat.zero_mul]) K
        refine t_putf rfl flX10_119 (okv_l _) w5.2.1 (by omega) w5.2.2.1 ?_
        intro S8 w9
        have z10 := w9.1
        refine r_aload_n rfl rfl ?_
        refine r_iload_n rfl rfl ?_
        suffices K : Wp sc mX10_shares 30 400 0 0 223 [(4, .int (nI (tb (hs d)))), (6, .int (nI i)), (1, .long (lN m)), (3, .int (nI (hm d))), (5, .int (nI (d 0 0))), (0, .ref e)] [.long (lN (a8 d)), .ref e] S8 (AV0 fun S' => Fr S S' (fun i => i = e) ∧ ES X S' e d G ∧ eOld X S' e d ∧ eNew X S' e d G ∧ eSm S S' e) by
          refine n_if_ne (tgt := 209) rfl rfl (by omega) (fun h9 => ?_) (fun h9 => ?_)
          · refine r_aload_n rfl rfl ?_
            refine r_getf (v := .long (lN (rs d))) rfl flX10_101 (by omega) w9.2.2.1 ((aup_n _ _ (by decide)).trans ((aup_n _ _ (by decide)).trans ((aup_n _ _ (by decide)).trans u24))) ?_
            refine r_aload_n rfl rfl ?_
            refine r_getf (v := .long (lN (a5 d))) rfl flX10_107 (by omega) w9.2.2.1 ((aup_n _ _ (by decide)).trans ((aup_n _ _ (by decide)).trans (aup_s _ _ _))) ?_
            refine n_lsub rfl (by omega) ?_
            refine r_aload_n rfl rfl ?_
            refine r_getf (v := .long (lN (a7 d))) rfl flX10_119 (by omega) w9.2.2.1 (aup_s _ _ _) ?_
            refine n_lsub rfl (by omega) ?_
            exact r_topL (y := lN (a8 d)) (by unfold a8; rw [if_neg h9]) K
          · refine n_lconst0 rfl ?_
            refine r_goto (tgt := 223) rfl rfl ?_
            exact r_topL (y := lN (a8 d)) (by unfold a8; rw [if_pos h9]) K
        refine t_putf rfl flX10_122 (okv_l _) w9.2.1 (by omega) w9.2.2.1 ?_
        intro S11 w12
        have z13 := w12.1
        refine r_aload_n rfl rfl ?_
        refine r_iload_n rfl rfl ?_
        suffices K : Wp sc mX10_shares 30 400 0 0 244 [(4, .int (nI (tb (hs d)))), (6, .int (nI i)), (1, .long (lN m)), (3, .int (nI (hm d))), (5, .int (nI (d 0 0))), (0, .ref e)] [.long (lN (a9 d)), .ref e] S11 (AV0 fun S' => Fr S S' (fun i => i = e) ∧ ES X S' e d G ∧ eOld X S' e d ∧ eNew X S' e d G ∧ eSm S S' e) by
          refine n_if_ne (tgt := 243) rfl rfl (by omega) (fun h9 => ?_) (fun h9 => ?_)
          · refine n_lconst0 rfl ?_
            exact r_topL (y := lN (a9 d)) (by unfold a9; rw [if_neg (fun z => h9 z.2)]) K
          · refine r_iload rfl rfl ?_
            refine n_if_ne (tgt := 243) rfl rfl (tb_B _) (fun h8 => ?_) (fun h8 => ?_)
            · refine n_lconst0 rfl ?_
              exact r_topL (y := lN (a9 d)) (by unfold a9; rw [if_neg (fun z => by rw [z.1] at h8; exact h8 rfl)]) K
            · have hH : hs d = false := by
                cases q : hs d
                · rfl
                · rw [q] at h8; cases h8
              refine r_aload_n rfl rfl ?_
              refine r_getf (v := .long (lN (rs d))) rfl flX10_101 (by omega) w12.2.2.1 ((aup_n _ _ (by decide)).trans ((aup_n _ _ (by decide)).trans ((aup_n _ _ (by decide)).trans ((aup_n _ _ (by decide)).trans u24)))) ?_
              refine r_goto (tgt := 244) rfl rfl ?_
              exact r_topL (y := lN (a9 d)) (by unfold a9; rw [if_pos ⟨hH, h9⟩]) K
        refine t_putf rfl flX10_125 (okv_l _) w12.2.1 (by omega) w12.2.2.1 ?_
        intro S14 w15
        have z16 := w15.1
        refine r_aload_n rfl rfl ?_
        refine r_aload_n rfl rfl ?_
        refine r_getf (v := .int (nI (d 0 0))) rfl flX10_59 (by omega) w15.2.2.1 ((aup_n _ _ (by decide)).trans ((aup_n _ _ (by decide)).trans ((aup_n _ _ (by decide)).trans ((aup_n _ _ (by decide)).trans ((aup_n _ _ (by decide)).trans v0))))) ?_
        refine t_newa0 rfl w15.2.1 (by omega) (by omega) (by omega) ?_
        intro S17 w18
        have z19 := w18.1
        have hp20 : S17.1 e = oO 10 (aup (aup (aup (aup (aup V 25 (.long (lN (a5 d)))) 26 (.long (lN (a6 d)))) 27 (.long (lN (a7 d)))) 28 (.long (lN (a8 d)))) 29 (.long (lN (a9 d)))) := ((w18.2.2.2 e (by omega)).trans w15.2.2.1)
        refine t_putf rfl flX10_128 (okv_a _ _) w18.2.1 (by omega) hp20 ?_
        intro S21 w22
        have z23 := w22.1
        refine r_aload_n rfl rfl ?_
        refine r_aload_n rfl rfl ?_
        refine r_getf (v := .int (nI (d 0 0))) rfl flX10_59 (by omega) w22.2.2.1 ((aup_n _ _ (by decide)).trans ((aup_n _ _ (by decide)).trans ((aup_n _ _ (by decide)).trans ((aup_n _ _ (by decide)).trans ((aup_n _ _ (by decide)).trans ((aup_n _ _ (by decide)).trans v0)))))) ?_
        refine t_newa2 rfl w22.2.1 (by omega) (by omega) (by omega) ?_
        intro S24 w25
        have z26 := w25.1
        have hp27 : S24.1 e = oO 10 (aup (aup (aup (aup (aup (aup V 25 (.long (lN (a5 d)))) 26 (.long (lN (a6 d)))) 27 (.long (lN (a7 d)))) 28 (.long (lN (a8 d)))) 29 (.long (lN (a9 d)))) 18 (.ref S14.2.1)) := ((w25.2.2.2 e (by omega)).trans w22.2.2.1)
        refine t_putf rfl flX10_131 (okv_a _ _) w25.2.1 (by omega) hp27 ?_
        intro S28 w29
        have z30 := w29.1
        refine n_iconst 0 rfl ?_
        refine r_istore (lv' := [(5, .int (nI 0)), (4, .int (nI (tb (hs d)))), (6, .int (nI i)), (1, .long (lN m)), (3, .int (nI (hm d))), (0, .ref e)]) rfl (Nat.le_of_ble_eq_true rfl) rfl ?_
        have hp31 : S28.1 S14.2.1 = oI0 0 (d 0 0) (fun _ => 0) := ((w29.2.2.2 S14.2.1 (by omega)).trans ((w25.2.2.2 S14.2.1 (by omega)).trans ((w22.2.2.2 S14.2.1 (by omega)).trans w18.2.2.1)))
        have hp32 : S28.1 S21.2.1 = oI0 2 (d 0 0) (fun _ => 0) := ((w29.2.2.2 S21.2.1 (by omega)).trans w25.2.2.1)
        refine r_lv (lv' := [(5, .int (nI 0)), (1, .long (lN m)), (3, .int (nI (hm d))), (0, .ref e)]) [0, 3, 4, 5] rfl ?_
        have loopW : ∀ (m9_2 : Nat) (j : Nat) (S7 : AS) (f18 : Nat → Int32), d 0 0 - j < m9_2 → (S7.2.2 = true) → (j ≤ d 0 0) → (Fr S S7 (fun i => i = e)) → (S7.2.1 = S28.2.1) → (S7.1 e = oO 10 (aup (aup (aup (aup (aup (aup (aup V 25 (.long (lN (a5 d)))) 26 (.long (lN (a6 d)))) 27 (.long (lN (a7 d)))) 28 (.long (lN (a8 d)))) 29 (.long (lN (a9 d)))) 18 (.ref S14.2.1)) 20 (.ref S21.2.1))) → (S7.1 (S14.2.1) = oI0 0 (d 0 0) f18 ∧ (∀ p, p < j → f18 p = nI (wt d p)) ∧ ∀ p, j ≤ p → f18 p = 0) → (S7.1 (S21.2.1) = oI0 2 (d 0 0) (fun _ => 0)) → Wp sc mX10_shares 30 400 (0 + 1 + 1) (0 + (d 0 0) + (d 0 0)) 270 [(5, .int (nI j)), (1, .long (lN m)), (3, .int (nI (hm d))), (0, .ref e)] [] S7 (AV0 fun S' => Fr S S' (fun i => i = e) ∧ ES X S' e d G ∧ eOld X S' e d ∧ eNew X S' e d G ∧ eSm S S' e) := by
          intro m9_2
          induction m9_2 with
          | zero => intro j S7 f18 hme; exact absurd hme (Nat.not_lt_zero _)
          | succ m9_2 ih2 =>
            intro j S7 f18 hme hxS7 hj hF hz7 hV7 hA hB
            obtain ⟨hA, hAl, hAh⟩ := hA
            have hne16 : q16 ≠ e := fun z => by
              rw [z] at r16
              exact oI_ne_oO (r16.symm.trans hV)
            have h716 : S7.1 q16 = oI0 0 (d 0 0) g16 := (hF.2.2 q16 l16 hne16).trans r16
            refine r_iload rfl rfl ?_
            refine r_aload_n rfl rfl ?_
            refine r_getf (v := .int (nI (d 0 0))) rfl flX10_59 (by omega) hV7 ((aup_n _ _ (by decide)).trans ((aup_n _ _ (by decide)).trans ((aup_n _ _ (by decide)).trans ((aup_n _ _ (by decide)).trans ((aup_n _ _ (by decide)).trans ((aup_n _ _ (by decide)).trans ((aup_n _ _ (by decide)).trans v0))))))) ?_
            refine n_icmp_ge (tgt := 313) rfl rfl (by omega) (by omega) (fun h9 => ?_) (fun h9 => ?_)
            · have e8 : j = d 0 0 := by omega
              rw [e8] at hAl
              refine r_lv (lv' := [(3, .int (nI (hm d))), (0, .ref e)]) [2, 3] rfl ?_
              exact e_sh_C hd hX h53 hxS7 hF hE hR0 hV hV7 (fun k hk => ((aup_n _ _ (by omega)).trans ((aup_n _ _ (by omega)).trans ((aup_n _ _ (by omega)).trans ((aup_n _ _ (by omega)).trans ((aup_n _ _ (by omega)).trans ((aup_n _ _ (by omega)).trans (aup_n _ _ (by omega))))))))) ((aup_n _ _ (by decide)).trans (aup_s _ _ _)) (aup_s _ _ _) ⟨(aup_n _ _ (by decide)).trans ((aup_n _ _ (by decide)).trans ((aup_n _ _ (by decide)).trans ((aup_n _ _ (by decide)).trans ((aup_n _ _ (by decide)).trans ((aup_n _ _ (by decide)).trans (aup_s _ _ _)))))), (aup_n _ _ (by decide)).trans ((aup_n _ _ (by decide)).trans ((aup_n _ _ (by decide)).trans ((aup_n _ _ (by decide)).trans ((aup_n _ _ (by decide)).trans (aup_s _ _ _))))), (aup_n _ _ (by decide)).trans ((aup_n _ _ (by decide)).trans ((aup_n _ _ (by decide)).trans ((aup_n _ _ (by decide)).trans (aup_s _ _ _)))), (aup_n _ _ (by decide)).trans ((aup_n _ _ (by decide)).trans ((aup_n _ _ (by decide)).trans (aup_s _ _ _))), (aup_n _ _ (by decide)).trans ((aup_n _ _ (by decide)).trans (aup_s _ _ _))⟩ hA hAl ⟨by omega, by omega⟩ hB (fun p hp => rfl) ⟨by omega, by omega, by omega⟩ hmm (hm_w hd) (by omega) (by omega)
            · have h8 : j < d 0 0 := by omega
              have hdb := dvh_le hd j
              refine r_aload_n rfl rfl ?_
              refine r_getf (v := .ref q16) rfl flX10_65 (by omega) hV7 ((aup_n _ _ (by decide)).trans ((aup_n _ _ (by decide)).trans ((aup_n _ _ (by decide)).trans ((aup_n _ _ (by decide)).trans ((aup_n _ _ (by decide)).trans ((aup_n _ _ (by decide)).trans ((aup_n _ _ (by decide)).trans u16))))))) ?_
              refine r_iload rfl rfl ?_
              refine r_iald rfl (by omega) h716 (by omega) (by omega) ?_
              refine r_top (y := nI (dvh d j)) (t16 j h8) ?_
              refine n_if_le (tgt := 307) rfl rfl (by omega) (fun h7 => ?_) (fun h7 => ?_)
              · have hw0 : wt d j = 0 := if_neg (by rw [dvh_0.mp h7]; decide)
                refine n_iinc (lv' := [(5, .int (nI (j + 1))), (1, .long (lN m)), (3, .int (nI (hm d))), (0, .ref e)]) 1 rfl rfl (Nat.le_of_ble_eq_true rfl) rfl ?_
                refine r_goto (tgt := 270) rfl rfl ?_
                refine r_lv (lv' := [(5, .int (nI (j + 1))), (1, .long (lN m)), (3, .int (nI (hm d))), (0, .ref e)]) [0, 1, 2, 3] rfl ?_
                exact ih2 (j + 1) S7 f18 (by omega) hxS7 (by omega) hF hz7 hV7 ⟨hA, fun p hp => (Nat.lt_or_ge p j).elim (hAl p) (fun q => by rw [show p = j by omega, hw0]; exact hAh j (Nat.le_refl _)), fun p hp => hAh p (by omega)⟩ hB
              · have hh1 : he d j = true := by
                  cases q : he d j
                  · exact absurd (dvh_0.mpr q) (by omega)
                  · rfl
                have hw1 : wt d j = m / dvh d j := by unfold wt; rw [if_pos hh1, dvh_t hh1, hm9]
                refine r_aload_n rfl rfl ?_
                refine r_getf (v := .ref S14.2.1) rfl flX10_128 (by omega) hV7 ((aup_n _ _ (by decide)).trans (aup_s _ _ _)) ?_
                refine r_iload rfl rfl ?_
                refine r_lload_n rfl rfl ?_
                refine r_aload_n rfl rfl ?_
                refine r_getf (v := .ref q16) rfl flX10_65 (by omega) hV7 ((aup_n _ _ (by decide)).trans ((aup_n _ _ (by decide)).trans ((aup_n _ _ (by decide)).trans ((aup_n _ _ (by decide)).trans ((aup_n _ _ (by decide)).trans ((aup_n _ _ (by decide)).trans ((aup_n _ _ (by decide)).trans u16))))))) ?_
                refine r_iload rfl rfl ?_
                refine r_iald rfl (by omega) h716 (by omega) (by omega) ?_
                refine r_top (y := nI (dvh d j)) (t16 j h8) ?_
                refine n_i2l rfl (by omega) ?_
                refine n_ldiv rfl (by omega) (by omega) (by omega) ?_
                refine n_l2i rfl ?_
                refine t_iast rfl hxS7 (by omega) hA (by omega) (by omega) ?_
                intro S33 w34
                have z35 := w34.1
                refine n_iinc (lv' := [(5, .int (nI (j + 1))), (1, .long (lN m)), (3, .int (nI (hm d))), (0, .ref e)]) 1 rfl rfl (Nat.le_of_ble_eq_true rfl) rfl ?_
                refine r_goto (tgt := 270) rfl rfl ?_
                have hp36 : S33.1 e = oO 10 (aup (aup (aup (aup (aup (aup (aup V 25 (.long (lN (a5 d)))) 26 (.long (lN (a6 d)))) 27 (.long (lN (a7 d)))) 28 (.long (lN (a8 d)))) 29 (.long (lN (a9 d)))) 18 (.ref S14.2.1)) 20 (.ref S21.2.1)) := ((w34.2.2.2 e (by omega)).trans hV7)
                have hp37 : S33.1 S21.2.1 = oI0 2 (d 0 0) (fun _ => 0) := ((w34.2.2.2 S21.2.1 (by omega)).trans hB)
                refine r_lv (lv' := [(5, .int (nI (j + 1))), (1, .long (lN m)), (3, .int (nI (hm d))), (0, .ref e)]) [0, 1, 2, 3] rfl ?_
                exact ih2 (j + 1) S33 _ (by omega) w34.2.1 (by omega) ⟨by omega, w34.2.1, fun i hi (hn : ¬ (i = e)) => ((w34.2.2.2 i (by omega)).trans (hF.2.2 i hi hn))⟩ (by omega) hp36 ⟨w34.2.2.1, aup_lt hAl (by rw [hw1]), fun p hp => (aup_n _ _ (by omega)).trans (hAh p (by omega))⟩ hp37
        exact loopW (d 0 0 + 1) 0 S28 _ (by omega) w29.2.1 (Nat.zero_le _) ⟨by omega, w29.2.1, fun i hi (hn : ¬ (i = e)) => ((w29.2.2.2 i (by omega)).trans ((w25.2.2.2 i (by omega)).trans ((w22.2.2.2 i (by omega)).trans ((w18.2.2.2 i (by omega)).trans ((w15.2.2.2 i (by omega)).trans ((w12.2.2.2 i (by omega)).trans ((w9.2.2.2 i (by omega)).trans ((w5.2.2.2 i (by omega)).trans ((w2.2.2.2 i (by omega)).trans rfl)))))))))⟩ rfl w29.2.2.1 ⟨hp31, fun p hp => absurd hp (Nat.not_lt_zero _), fun _ _ => rfl⟩ hp32
      · have h9 : i < d 0 0 := by omega
        have hdb := dvh_le hd i
        have hst : sm (fun p => tb (he d p)) (i + 1) = sm (fun p => tb (he d p)) i + tb (he d i) := rfl
        refine r_aload rfl rfl ?_
        refine r_iload rfl rfl ?_
        refine r_iald rfl (by omega) r16 (by omega) (by omega) ?_
        refine r_top (y := nI (dvh d i)) (t16 i h9) ?_
        refine r_istore (lv' := [(7, .int (nI (dvh d i))), (6, .int (nI i)), (1, .long (lN m)), (3, .int (nI h)), (4, .ref q16), (5, .int (nI (d 0 0))), (0, .ref e)]) rfl (Nat.le_of_ble_eq_true rfl) rfl ?_
        refine r_iload rfl rfl ?_
        refine n_if_ne (tgt := 40) rfl rfl (by omega) (fun h8 => ?_) (fun h8 => ?_)
        · have hh1 : he d i = true := by
            cases q : he d i
            · exact absurd (dvh_0.mpr q) h8
            · rfl
          have hlb := lc_b (m := m) (v := dvh d i) (by omega) (by omega) (by omega) hdb
          refine n_iinc (lv' := [(3, .int (nI (h + 1))), (7, .int (nI (dvh d i))), (6, .int (nI i)), (1, .long (lN m)), (4, .ref q16), (5, .int (nI (d 0 0))), (0, .ref e)]) 1 rfl rfl (Nat.le_of_ble_eq_true rfl) rfl ?_
          refine r_lload_n rfl rfl ?_
          refine r_lstore (lv' := [(8, .long (lN m)), (3, .int (nI (h + 1))), (7, .int (nI (dvh d i))), (6, .int (nI i)), (1, .long (lN m)), (4, .ref q16), (5, .int (nI (d 0 0))), (0, .ref e)]) rfl (Nat.le_of_ble_eq_true rfl) rfl ?_
          refine r_lv (lv' := [(8, .long (lN m)), (7, .int (nI (dvh d i))), (6, .int (nI i)), (1, .long (lN m)), (3, .int (nI (h + 1))), (4, .ref q16), (5, .int (nI (d 0 0))), (0, .ref e)]) [0, 2, 3, 4, 1, 5, 6, 7] rfl ?_
          have loopT : ∀ (m9_2 : Nat) (t : Nat), Nat.lcm m (dvh d i) - t < m9_2 → (0 < t) → (m ∣ t) → (t ≤ Nat.lcm m (dvh d i)) → Wp sc mX10_shares 30 400 0 0 46 [(8, .long (lN t)), (7, .int (nI (dvh d i))), (6, .int (nI i)), (1, .long (lN m)), (3, .int (nI (h + 1))), (4, .ref q16), (5, .int (nI (d 0 0))), (0, .ref e)] [] S (AV0 fun S' => Fr S S' (fun i => i = e) ∧ ES X S' e d G ∧ eOld X S' e d ∧ eNew X S' e d G ∧ eSm S S' e) := by
            intro m9_2
            induction m9_2 with
            | zero => intro t hme; exact absurd hme (Nat.not_lt_zero _)
            | succ m9_2 ih2 =>
              intro t hme ht0 ht1 ht2
              have hmd := Nat.mod_lt t (show 0 < dvh d i by omega)
              refine r_lload rfl rfl ?_
              refine r_iload rfl rfl ?_
              refine n_i2l rfl (by omega) ?_
              refine n_lrem rfl (by omega) (by omega) (by omega) ?_
              refine n_lconst0 rfl ?_
              refine n_lcmp_eq (tgt := 66) rfl rfl rfl (by omega) (by omega) (fun h7 => ?_) (fun h7 => ?_)
              · have ht9 := lc_en ht0 ht1 ht2 h7
                refine r_lload rfl rfl ?_
                refine r_lstore_n (lv' := [(1, .long (lN t)), (8, .long (lN t)), (7, .int (nI (dvh d i))), (6, .int (nI i)), (3, .int (nI (h + 1))), (4, .ref q16), (5, .int (nI (d 0 0))), (0, .ref e)]) rfl rfl (Nat.le_of_ble_eq_true rfl) rfl ?_
                refine n_iinc (lv' := [(6, .int (nI (i + 1))), (1, .long (lN t)), (8, .long (lN t)), (7, .int (nI (dvh d i))), (3, .int (nI (h + 1))), (4, .ref q16), (5, .int (nI (d 0 0))), (0, .ref e)]) 1 rfl rfl (Nat.le_of_ble_eq_true rfl) rfl ?_
                refine r_goto (tgt := 18) rfl rfl ?_
                refine r_lv (lv' := [(6, .int (nI (i + 1))), (1, .long (lN t)), (3, .int (nI (h + 1))), (4, .ref q16), (5, .int (nI (d 0 0))), (0, .ref e)]) [0, 1, 4, 5, 6, 7] rfl ?_
                exact ih (i + 1) t (h + 1) (by omega) (by omega) (by rw [ml_lc hh1, ← hm9, ← dvh_t hh1]; exact ht9) (by rw [hst, hh1, hh]; rfl)
              · have ht8 := lc_st (by omega) ht1 ht2 h7
                refine r_lload rfl rfl ?_
                refine r_lload_n rfl rfl ?_
                refine n_ladd rfl ?_
                refine r_lstore (lv' := [(8, .long (lN (t + m))), (7, .int (nI (dvh d i))), (6, .int (nI i)), (1, .long (lN m)), (3, .int (nI (h + 1))), (4, .ref q16), (5, .int (nI (d 0 0))), (0, .ref e)]) rfl (Nat.le_of_ble_eq_true rfl) rfl ?_
                refine r_goto (tgt := 46) rfl rfl ?_
                refine r_lv (lv' := [(8, .long (lN (t + m))), (7, .int (nI (dvh d i))), (6, .int (nI i)), (1, .long (lN m)), (3, .int (nI (h + 1))), (4, .ref q16), (5, .int (nI (d 0 0))), (0, .ref e)]) [0, 1, 2, 3, 4, 5, 6, 7] rfl ?_
                exact ih2 (t + m) (by omega) (by omega) (Nat.dvd_add ht1 (Nat.dvd_refl m)) ht8
          exact loopT (Nat.lcm m (dvh d i) + 1) m (by omega) (by omega) (Nat.dvd_refl m) (Nat.le_of_dvd (by have := Nat.lcm_pos (m := m) (n := dvh d i) (by omega) (by omega); exact this) (Nat.dvd_lcm_left _ _))
        · have hh0 := dvh_0.mp h8
          refine r_goto (tgt := 69) rfl rfl ?_
          refine n_iinc (lv' := [(6, .int (nI (i + 1))), (7, .int (nI (dvh d i))), (1, .long (lN m)), (3, .int (nI h)), (4, .ref q16), (5, .int (nI (d 0 0))), (0, .ref e)]) 1 rfl rfl (Nat.le_of_ble_eq_true rfl) rfl ?_
          refine r_goto (tgt := 18) rfl rfl ?_
          refine r_lv (lv' := [(6, .int (nI (i + 1))), (1, .long (lN m)), (3, .int (nI h)), (4, .ref q16), (5, .int (nI (d 0 0))), (0, .ref e)]) [0, 2, 3, 4, 5, 6] rfl ?_
          exact ih (i + 1) m h (by omega) (by omega) (by rw [hm9, ml_no hh0]) (by rw [hh, hst, hh0]; rfl)
  exact loopA (d 0 0 + 1) 0 1 0 (by omega) (Nat.zero_le _) rfl rfl

