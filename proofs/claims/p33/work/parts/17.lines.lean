theorem n_iincO {sc : SC} {μ : MI} {mc ms k n pc : Nat} {lv : List (Nat × Value)} {st : List Value} {S : AS} {Q : Out → AS → Prop} {i a : Nat} {lv' : List (Nat × Value)} (h : cf (mCd μ) pc = some (.iinc i (-1), 3)) (hx : lk lv i = some (.int (nI a))) (hn : i < mMl μ) (hl : st1 lv i (.int (oI a)) = lv') (kk : Wp sc μ mc ms k n (pc + 3) lv' st S Q) : Wp sc μ mc ms k n pc lv st S Q := r_iinc h hx (by rw [show Int32.ofInt (-1) = -1 by decide]; unfold oI; rw [Int32.sub_eq_add_neg]) hn hl kk
theorem mk_ior {b c : Nat → Bool} {q : Nat} (hq : q < 12) (h : ∀ i, i < 12 → c i = (b i || i == q)) : nI (mk b 12) ||| (nI 1 <<< (nI q &&& 31)) = nI (mk c 12) := by
  rw [bt_one (by omega), nI_or, mk_set hq h]
theorem aup_or {b : Nat → Bool} {q : Nat} : ∀ i, i < 12 → aup b q true i = (b i || i == q) := by
  intro i _
  by_cases e : i = q
  · subst e; rw [aup_s, beq_self_eq_true, Bool.or_true]
  · rw [aup_n _ _ e, beq_false_of_ne e, Bool.or_false]
theorem lnF_no {d : D} {b : Nat → Bool} {p : Nat} (h : d 0 5 = p + 1 ∨ (tk d p || (go d p && !(lu d b (p + 1) == 0))) = false) : lnF d b p = false := by
  unfold lnF
  rcases h with h | h
  · rw [h, beq_self_eq_true]; rfl
  · rw [h, Bool.and_false]
theorem lnF_yes {d : D} {b : Nat → Bool} {p : Nat} (h1 : ¬ d 0 5 = p + 1) (h2 : (tk d p || (go d p && !(lu d b (p + 1) == 0))) = true) : lnF d b p = true := by
  unfold lnF
  rw [h2, beq_false_of_ne h1]
  rfl
theorem mk_f {b : Nat → Bool} {i : Nat} (h : b i = false) : mk b (i + 1) = mk b i := by
  show mk b i ||| tb (b i) <<< i = mk b i
  rw [h]
  show mk b i ||| 0 <<< i = mk b i
  rw [Nat.zero_shiftLeft, Nat.or_zero]
theorem mk_t {b : Nat → Bool} {i : Nat} (h : b i = true) (hi : i < 30) : nI (mk b i) ||| (nI 1 <<< (nI i &&& 31)) = nI (mk b (i + 1)) := by
  show _ = nI (mk b i ||| tb (b i) <<< i)
  rw [h, bt_one hi, nI_or]
  rfl
theorem aup_aup {α : Type} (f : Nat → α) (i : Nat) (x y : α) : aup (aup f i x) i y = aup f i y := by
  funext k
  by_cases e : k = i
  · subst e; rw [aup_s, aup_s]
  · rw [aup_n _ _ e, aup_n _ _ e, aup_n _ _ e]
theorem dc_sp {d : D} (hV : Vd d) {i : Nat} (hi : i < d 0 0) (h : d 0 5 = i + 1) : dc d i = 0 := by
  rw [dc_eq hV hi]
  unfold dcF
  rw [if_pos h]
theorem c_countLine_A {z : SZ} {sc : SC} {σ : SS} {v x : Nat} (hv : v ≤ 12) (hx : σ.1 27 v = nI x) : Cs z sc mX3_countLine 0 0 [.ref 26, .int (oI v)] σ (PV (mz σ [(27, aup (σ.1 27) v (nI (x + 1)))] [])) := by
  refine Cs.of gmX3_countLine (Nat.le_of_ble_eq_true rfl) ?_
  show Ws z sc mX3_countLine 0 0 0 0 0 [(0, .ref 26), (1, .int (oI v))] [] (mz σ [] []) (PV (mz σ [(27, aup (σ.1 27) v (nI (x + 1)))] []))
  refine r_iload_n rfl rfl ?_
  refine n_iconst 1 rfl ?_
  refine r_iadd rfl ?_
  refine r_top (y := nI v) (oI_p v) ?_
  refine r_istore_n (lv' := [(2, .int (nI v)), (0, .ref 26), (1, .int (oI v))]) rfl rfl (Nat.le_of_ble_eq_true rfl) rfl ?_
  refine r_iload_n rfl rfl ?_
  refine n_if_lt (tgt := 27) rfl rfl (by omega) (fun hq => hq.elim) (fun _ => ?_)
  refine r_iload_n rfl rfl ?_
  refine r_aload_n rfl rfl ?_
  refine s_getR (r := 27) rfl flX3_18 rfl rfl ?_
  refine s_alen rfl rfl ?_
  refine n_icmp_ge (tgt := 27) rfl rfl (by omega) (by omega) (fun hq => absurd hq (by omega)) (fun _ => ?_)
  refine r_aload_n rfl rfl ?_
  refine s_getR (r := 27) rfl flX3_18 rfl rfl ?_
  refine r_iload_n rfl rfl ?_
  refine r_dup2 rfl rfl rfl ?_
  refine s_iald (x := nI x) rfl rfl (by omega) hx ?_
  refine n_iconst 1 rfl ?_
  refine n_iadd rfl ?_
  refine m_iast (L' := [(27, (aup (σ.1 27) v (nI (x + 1))))]) rfl rfl (by omega) rfl ?_
  exact s_vret (st := []) rfl rfl (Nat.zero_le _) (Nat.zero_le _) (pV rfl)

theorem c_below_A {z : SZ} {sc : SC} {σ : SS} {d : D} {v : Nat} (hS : SR (σ.1 19) d) (hV : Vd d) (hv : v ≤ 12) (hd : v ≠ 0 → σ.1 28 (v - 1) = nI (dc d (v - 1))) : Cs z sc mX3_divisorBelow 0 0 [.ref 26, .ref 18, .int (oI v)] σ (PI (nI (if v = 0 then 1 else if go d (v - 1) = true then dc d (v - 1) else 0)) σ) := by
  refine Cs.of gmX3_divisorBelow (Nat.le_of_ble_eq_true rfl) ?_
  show Ws z sc mX3_divisorBelow 0 0 0 0 0 [(0, .ref 26), (1, .ref 18), (2, .int (oI v))] [] (mz σ [] []) (PI (nI (if v = 0 then 1 else if go d (v - 1) = true then dc d (v - 1) else 0)) σ)
  cases v with
  | zero =>
    refine r_iload_n rfl rfl ?_
    refine n_m1 rfl ?_
    refine r_icmp_ne (tgt := 7) rfl rfl (fun hq => absurd hq (fun z => z oI_0)) (fun _ => ?_)
    refine n_iconst 1 rfl ?_
    exact s_ret (st := []) rfl rfl rfl (Nat.zero_le _) (Nat.zero_le _) (pI rfl rfl)
  | succ v =>
    refine r_iload_n rfl rfl ?_
    refine n_m1 rfl ?_
    refine r_icmp_ne (tgt := 7) rfl rfl (fun _ => ?_) (fun hq => absurd hq (oI_ne (by omega)))
    rw [oI_s]
    refine r_aload_n rfl rfl ?_
    refine r_iload_n rfl rfl ?_
    refine s_virI [.int (nI v)] [] rfl lkX3_39 rfl rfl rfl (c_passesOn_18 hS hV (by omega)) rfl rfl (Nat.le_refl _) (Nat.le_refl _) rfl (rI (e1 := nI (tb (go d v))) rfl ?_)
    have ht := tb_le (go d v)
    suffices K : Ws z sc mX3_divisorBelow 0 0 0 0 27 [(0, .ref 26), (1, .ref 18), (2, .int (nI v))] [.int (nI (if v + 1 = 0 then 1 else if go d (v + 1 - 1) = true then dc d (v + 1 - 1) else 0))] (mz σ [] []) (PI (nI (if v + 1 = 0 then 1 else if go d (v + 1 - 1) = true then dc d (v + 1 - 1) else 0)) σ) by
      refine n_if_eq (tgt := 26) rfl rfl (by omega) (fun h => ?_) (fun h => ?_)
      · refine n_iconst 0 rfl ?_
        exact r_top (by rw [if_neg (Nat.succ_ne_zero v), Nat.add_sub_cancel, if_neg (by rw [tb_z h]; decide)]) K
      · refine r_aload_n rfl rfl ?_
        refine s_getR (r := 28) rfl flX3_22 rfl rfl ?_
        refine r_iload_n rfl rfl ?_
        refine s_staNI [.ref 28, .int (nI v)] [] rfl lkX3_42 (c_at_28 (by omega) (hd (Nat.succ_ne_zero v))) rfl rfl (Nat.le_refl _) (Nat.le_refl _) (rI (e1 := nI (dc d v)) rfl ?_)
        refine r_goto (tgt := 27) rfl rfl ?_
        exact r_top (by rw [if_neg (Nat.succ_ne_zero v), Nat.add_sub_cancel, if_pos (tb_ne h)]) K
    exact s_ret (st := []) rfl rfl rfl (Nat.zero_le _) (Nat.zero_le _) (pI rfl rfl)

theorem c_open_A {z : SZ} {sc : SC} {σ : SS} {d : D} (hS : SR (σ.1 19) d) (hE : EE σ d) (hV : Vd d) : Cs z sc mX3_findOpenLines 0 0 [.ref 26, .ref 12, .ref 18] σ (RV fun σ' => ∃ f1 f2, σ' = mz σ [(26, f1), (27, f2)] [] ∧ f1 1 = nI (mk (isL d) 12) ∧ ∀ x, x < 13 → f2 x = nI (cu d x)) := by
  refine Cs.of gmX3_findOpenLines (Nat.le_of_ble_eq_true rfl) ?_
  show Ws z sc mX3_findOpenLines 0 0 0 0 0 [(0, .ref 26), (1, .ref 12), (2, .ref 18)] [] (mz σ [] []) (RV fun σ' => ∃ f1 f2, σ' = mz σ [(26, f1), (27, f2)] [] ∧ f1 1 = nI (mk (isL d) 12) ∧ ∀ x, x < 13 → f2 x = nI (cu d x))
  have hC := vC hV
  refine r_aload_n rfl rfl ?_
  refine n_iconst 0 rfl ?_
  refine m_putI (L' := [(26, (aup (σ.1 26) 1 (nI 0)))]) rfl flX3_15 rfl rfl (okv_i _) rfl ?_
  refine n_iconst 0 rfl ?_
  refine r_istore_n (lv' := [(3, .int (nI 0)), (0, .ref 26), (1, .ref 12), (2, .ref 18)]) rfl rfl (Nat.le_of_ble_eq_true rfl) rfl ?_
  refine r_lv (lv' := [(3, .int (nI 0)), (0, .ref 26), (1, .ref 12), (2, .ref 18)]) [0, 1, 2, 3] rfl ?_
  refine m_newI (L' := [(26, (aup (σ.1 26) 1 (nI 0))), (27, (σ.1 27))]) 27 rfl ?_
  have loop : ∀ (m9 : Nat) (i : Nat) (f : Nat → Int32), 13 - i < m9 → (i ≤ 13) → (∀ j, j < i → f j = nI 0) → Ws z sc mX3_findOpenLines 0 0 0 0 7 [(3, .int (nI i)), (0, .ref 26), (1, .ref 12), (2, .ref 18)] [] (mz σ [(26, (aup (σ.1 26) 1 (nI 0))), (27, f)] []) (RV fun σ' => ∃ f1 f2, σ' = mz σ [(26, f1), (27, f2)] [] ∧ f1 1 = nI (mk (isL d) 12) ∧ ∀ x, x < 13 → f2 x = nI (cu d x)) := by
    intro m9
    induction m9 with
    | zero => intro i f hme; exact absurd hme (Nat.not_lt_zero _)
    | succ m9 ih =>
      intro i f hme hi hf
      refine r_iload_n rfl rfl ?_
      refine r_aload_n rfl rfl ?_
      refine s_getR (r := 27) rfl flX3_18 rfl rfl ?_
      refine s_alen rfl rfl ?_
      refine n_icmp_ge (tgt := 29) rfl rfl (by omega) (by omega) (fun h1 => ?_) (fun h1 => ?_)
      · refine r_aload_n rfl rfl ?_
        refine s_getI (x := nI (d 0 0)) rfl flX3_28 rfl rfl hE.1.1 ?_
        refine n_iconst 1 rfl ?_
        refine r_isub rfl ?_
        refine r_top (y := oI (d 0 0)) rfl ?_
        refine r_istore_n (lv' := [(3, .int (oI (d 0 0))), (0, .ref 26), (1, .ref 12), (2, .ref 18)]) rfl rfl (Nat.le_of_ble_eq_true rfl) rfl ?_
        refine r_lv (lv' := [(3, .int (oI (d 0 0))), (0, .ref 26), (1, .ref 12), (2, .ref 18)]) [0, 1, 2, 3] rfl ?_
        have loop2 : ∀ (m9_2 : Nat) (q : Nat) (f1 f2 : Nat → Int32), q < m9_2 → (q ≤ d 0 0) → (f1 1 = nI (mk (lst d (d 0 0 - q)) 12)) → (∀ x, x < 13 → f2 x = nI (lu d (lst d (d 0 0 - q)) x)) → Ws z sc mX3_findOpenLines 0 0 0 0 36 [(3, .int (oI q)), (0, .ref 26), (1, .ref 12), (2, .ref 18)] [] (mz σ [(26, f1), (27, f2)] []) (RV fun σ' => ∃ f1 f2, σ' = mz σ [(26, f1), (27, f2)] [] ∧ f1 1 = nI (mk (isL d) 12) ∧ ∀ x, x < 13 → f2 x = nI (cu d x)) := by
          intro m9_2
          induction m9_2 with
          | zero => intro q f1 f2 hme; exact absurd hme (Nat.not_lt_zero _)
          | succ m9_2 ih2 =>
            intro q f1 f2 hme hq h1 h2
            cases q with
            | zero =>
              rw [oI_0]
              refine r_iload_n rfl rfl ?_
              refine r_if_lt (tgt := 119) rfl rfl (fun _ => ?_) (fun hq => absurd hq (fun z => z (by decide)))
              exact s_vret (st := []) rfl rfl (Nat.zero_le _) (Nat.zero_le _) (⟨rfl, f1, f2, rfl, h1, h2⟩)
            | succ q =>
              rw [oI_s]
              have hls := lst_s (d := d) (q := q) (by omega)
              have hb : lst d (d 0 0 - (q + 1)) q = false := lst_lo d _ (by omega) q (by omega)
              refine r_iload_n rfl rfl ?_
              refine n_if_lt (tgt := 119) rfl rfl (by omega) (fun hq => hq.elim) (fun _ => ?_)
              refine r_aload_n rfl rfl ?_
              refine r_iload_n rfl rfl ?_
              refine s_virI [.int (nI q)] [] rfl lkX3_33 rfl rfl rfl (c_takes_18 hS hV (by omega)) rfl rfl (Nat.le_refl _) (Nat.le_refl _) rfl (rI (e1 := nI (tb (tk d q))) rfl ?_)
              have ht := tb_le (tk d q)
              have hgo := tb_le (go d q)
              have hlu := lu_le (d := d) (lst d (d 0 0 - (q + 1))) (q + 1)
              suffices K : Ws z sc mX3_findOpenLines 0 0 0 0 74 [(3, .int (nI q)), (0, .ref 26), (1, .ref 12), (2, .ref 18)] [.int (nI (tb (tk d q || (go d q && !(lu d (lst d (d 0 0 - (q + 1))) (q + 1) == 0)))))] (mz σ [(26, f1), (27, f2)] []) (RV fun σ' => ∃ f1 f2, σ' = mz σ [(26, f1), (27, f2)] [] ∧ f1 1 = nI (mk (isL d) 12) ∧ ∀ x, x < 13 → f2 x = nI (cu d x)) by
                refine n_if_ne (tgt := 69) rfl rfl (by omega) (fun h3 => ?_) (fun h3 => ?_)
                · refine n_iconst 1 rfl ?_
                  refine r_goto (tgt := 74) rfl rfl ?_
                  exact r_top (by rw [tb_ne h3]; rfl) K
                · refine r_aload_n rfl rfl ?_
                  refine r_iload_n rfl rfl ?_
                  refine s_virI [.int (nI q)] [] rfl lkX3_39 rfl rfl rfl (c_passesOn_18 hS hV (by omega)) rfl rfl (Nat.le_refl _) (Nat.le_refl _) rfl (rI (e1 := nI (tb (go d q))) rfl ?_)
                  refine n_if_eq (tgt := 73) rfl rfl (by omega) (fun h4 => ?_) (fun h4 => ?_)
                  · refine n_iconst 0 rfl ?_
                    exact r_top (by rw [tb_z h3, tb_z h4]; rfl) K
                  · refine r_aload_n rfl rfl ?_
                    refine s_getR (r := 27) rfl flX3_18 rfl rfl ?_
                    refine r_iload_n rfl rfl ?_
                    refine n_iconst 1 rfl ?_
                    refine n_iadd rfl ?_
                    refine s_staNI [.ref 27, .int (nI (q + 1))] [] rfl lkX3_42 (c_at_27 (by omega) (h2 (q + 1) (by omega))) rfl rfl (Nat.le_refl _) (Nat.le_refl _) (rI (e1 := nI (lu d (lst d (d 0 0 - (q + 1))) (q + 1))) rfl ?_)
                    refine n_if_le (tgt := 73) rfl rfl (by omega) (fun h5 => ?_) (fun h5 => ?_)
                    · refine n_iconst 0 rfl ?_
                      exact r_top (by rw [tb_z h3, h5]; simp [tb]) K
                    · refine n_iconst 1 rfl ?_
                      refine r_goto (tgt := 74) rfl rfl ?_
                      exact r_top (by rw [tb_ne h4, beq_false_of_ne (by omega : lu d (lst d (d 0 0 - (q + 1))) (q + 1) ≠ 0)]; simp [tb]) K
              have hX := tb_le (tk d q || (go d q && !(lu d (lst d (d 0 0 - (q + 1))) (q + 1) == 0)))
              refine r_istore (lv' := [(4, .int (nI (tb (tk d q || (go d q && !(lu d (lst d (d 0 0 - (q + 1))) (q + 1) == 0)))))), (3, .int (nI q)), (0, .ref 26), (1, .ref 12), (2, .ref 18)]) rfl (Nat.le_of_ble_eq_true rfl) rfl ?_
              refine r_iload rfl rfl ?_
              refine n_if_eq (tgt := 113) rfl rfl (by omega) (fun h6 => ?_) (fun h6 => ?_)
              · have e : lst d (d 0 0 - (q + 1)) = lst d (d 0 0 - q) := by rw [hls, lnF_no (Or.inr (tb_z h6)), aup_self hb]
                rw [e] at h1 h2
                refine n_iincO (lv' := [(3, .int (oI q)), (4, .int (nI (tb (tk d q || (go d q && !(lu d (lst d (d 0 0 - (q + 1))) (q + 1) == 0)))))), (0, .ref 26), (1, .ref 12), (2, .ref 18)]) rfl rfl (Nat.le_of_ble_eq_true rfl) rfl ?_
                refine r_goto (tgt := 36) rfl rfl ?_
                refine r_lv (lv' := [(3, .int (oI q)), (0, .ref 26), (1, .ref 12), (2, .ref 18)]) [0, 2, 3, 4] rfl ?_
                exact ih2 q f1 f2 (by omega) (by omega) h1 h2
              · refine r_iload_n rfl rfl ?_
                refine r_aload_n rfl rfl ?_
                refine s_getI (x := oI (d 0 5)) rfl flX3_46 rfl rfl hE.1.2.1 ?_
                refine r_icmp_eq (tgt := 113) rfl rfl (fun h7 => ?_) (fun h7 => ?_)
                · have e : lst d (d 0 0 - (q + 1)) = lst d (d 0 0 - q) := by rw [hls, lnF_no (Or.inl ((oI_q (by omega) (by omega)).mp h7)), aup_self hb]
                  rw [e] at h1 h2
                  refine n_iincO (lv' := [(3, .int (oI q)), (4, .int (nI (tb (tk d q || (go d q && !(lu d (lst d (d 0 0 - (q + 1))) (q + 1) == 0)))))), (0, .ref 26), (1, .ref 12), (2, .ref 18)]) rfl rfl (Nat.le_of_ble_eq_true rfl) rfl ?_
                  refine r_goto (tgt := 36) rfl rfl ?_
                  refine r_lv (lv' := [(3, .int (oI q)), (0, .ref 26), (1, .ref 12), (2, .ref 18)]) [0, 2, 3, 4] rfl ?_
                  exact ih2 q f1 f2 (by omega) (by omega) h1 h2
                · have hs : ¬ d 0 5 = q + 1 := fun z => h7 ((oI_q (by omega) (by omega)).mpr z)
                  have hln : lnF d (lst d (d 0 0 - (q + 1))) q = true := lnF_yes hs (tb_ne h6)
                  have e : lst d (d 0 0 - q) = aup (lst d (d 0 0 - (q + 1))) q true := by rw [hls, hln]
                  refine r_aload_n rfl rfl ?_
                  refine r_dup rfl rfl ?_
                  refine s_getI (x := nI (mk (lst d (d 0 0 - (q + 1))) 12)) rfl flX3_15 rfl rfl h1 ?_
                  refine n_iconst 1 rfl ?_
                  refine r_iload_n rfl rfl ?_
                  refine r_ishl rfl ?_
                  refine r_ior rfl ?_
                  refine r_top (y := nI (mk (lst d (d 0 0 - q)) 12)) (by rw [e]; exact mk_ior (q := q) (by omega) aup_or) ?_
                  refine m_putI (L' := [(26, (aup f1 1 (nI (mk (lst d (d 0 0 - q)) 12)))), (27, f2)]) rfl flX3_15 rfl rfl (okv_i _) rfl ?_
                  refine r_aload_n rfl rfl ?_
                  refine r_aload_n rfl rfl ?_
                  refine s_getR (r := 14) rfl flX3_49 rfl rfl ?_
                  refine r_iload_n rfl rfl ?_
                  refine s_staNI [.ref 14, .int (nI q)] [.ref 26] rfl lkX3_42 (c_at_14 (by omega) (hE.2.1 q (by omega))) rfl rfl (Nat.le_refl _) (Nat.le_refl _) (rI (e1 := oI (d 1 q)) rfl ?_)
                  have hp := vP hV q
                  refine s_virV [.int (oI (d 1 q))] [] rfl lkX3_52 rfl rfl rfl (c_countLine_A hp (h2 (d 1 q) (by omega))) rfl rfl (Nat.le_refl _) (Nat.le_refl _) rfl (rV ?_)
                  refine m_mz (L' := [(26, (aup f1 1 (nI (mk (lst d (d 0 0 - q)) 12)))), (27, (aup f2 (d 1 q) (nI (lu d (lst d (d 0 0 - (q + 1))) (d 1 q) + 1))))]) (M' := []) rfl rfl ?_
                  refine n_iincO (lv' := [(3, .int (oI q)), (4, .int (nI (tb (tk d q || (go d q && !(lu d (lst d (d 0 0 - (q + 1))) (q + 1) == 0)))))), (0, .ref 26), (1, .ref 12), (2, .ref 18)]) rfl rfl (Nat.le_of_ble_eq_true rfl) rfl ?_
                  refine r_goto (tgt := 36) rfl rfl ?_
                  refine r_lv (lv' := [(3, .int (oI q)), (0, .ref 26), (1, .ref 12), (2, .ref 18)]) [0, 2, 3, 4] rfl ?_
                  exact ih2 q _ _ (by omega) (by omega) rfl (by rw [e]; exact aup_all h2 (by rw [lu_up (by omega) hb, beq_self_eq_true]; rfl) (fun j _ z => by rw [lu_up (by omega) hb, beq_false_of_ne (Ne.symm z)]; rfl))
        exact loop2 (d 0 0 + 1) (d 0 0) _ f (by omega) (Nat.le_refl _) (by rw [Nat.sub_self]; show nI 0 = nI (mk (fun _ => false) 12); rw [mk_no]) (fun x hx => by rw [hf x (by omega), Nat.sub_self]; congr 1; exact (sm_zero (fun i _ => rfl)).symm)
      · refine r_aload_n rfl rfl ?_
        refine s_getR (r := 27) rfl flX3_18 rfl rfl ?_
        refine r_iload_n rfl rfl ?_
        refine n_iconst 0 rfl ?_
        refine m_iast (L' := [(26, (aup (σ.1 26) 1 (nI 0))), (27, (aup f i (nI 0)))]) rfl rfl (by omega) rfl ?_
        refine n_iinc (lv' := [(3, .int (nI (i + 1))), (0, .ref 26), (1, .ref 12), (2, .ref 18)]) 1 rfl rfl (Nat.le_of_ble_eq_true rfl) rfl ?_
        refine r_goto (tgt := 7) rfl rfl ?_
        refine r_lv (lv' := [(3, .int (nI (i + 1))), (0, .ref 26), (1, .ref 12), (2, .ref 18)]) [0, 1, 2, 3] rfl ?_
        exact ih (i + 1) _ (by omega) (by omega) (aup_lt hf rfl)
  exact loop 14 0 _ (by omega) (by omega) (fun j hj => absurd hj (Nat.not_lt_zero _))

theorem c_findHeirs_A {z : SZ} {sc : SC} {σ : SS} {d : D} (hS : SR (σ.1 19) d) (hE : EE σ d) (hV : Vd d) (hO : ∀ x, x < 13 → σ.1 27 x = nI (cu d x)) : Cs z sc mX3_findHeirs 0 0 [.ref 26, .ref 12, .ref 18] σ (RV fun σ' => ∃ f1 f2, σ' = mz σ [(26, f1), (28, f2)] [] ∧ (f1 0 = nI (mk (he d) 12) ∧ f1 1 = σ.1 26 1) ∧ ∀ i, i < 12 → f2 i = nI (dc d i)) := by
  refine Cs.of gmX3_findHeirs (Nat.le_of_ble_eq_true rfl) ?_
  show Ws z sc mX3_findHeirs 0 0 0 0 0 [(0, .ref 26), (1, .ref 12), (2, .ref 18)] [] (mz σ [] []) (RV fun σ' => ∃ f1 f2, σ' = mz σ [(26, f1), (28, f2)] [] ∧ (f1 0 = nI (mk (he d) 12) ∧ f1 1 = σ.1 26 1) ∧ ∀ i, i < 12 → f2 i = nI (dc d i))
  have hC := vC hV
  refine r_aload_n rfl rfl ?_
  refine n_iconst 0 rfl ?_
  refine m_putI (L' := [(26, (aup (σ.1 26) 0 (nI 0)))]) rfl flX3_9 rfl rfl (okv_i _) rfl ?_
  refine n_iconst 0 rfl ?_
  refine r_istore_n (lv' := [(3, .int (nI 0)), (0, .ref 26), (1, .ref 12), (2, .ref 18)]) rfl rfl (Nat.le_of_ble_eq_true rfl) rfl ?_
  refine r_lv (lv' := [(3, .int (nI 0)), (0, .ref 26), (1, .ref 12), (2, .ref 18)]) [0, 1, 2, 3] rfl ?_
  refine m_newI (L' := [(26, (aup (σ.1 26) 0 (nI 0))), (28, (σ.1 28))]) 28 rfl ?_
  have loop : ∀ (m9 : Nat) (i : Nat) (f1 f2 : Nat → Int32), 12 - i < m9 → (i ≤ 12) → (f1 0 = nI (mk (he d) i)) → (f1 1 = σ.1 26 1) → (∀ j, j < i → f2 j = nI (dc d j)) → Ws z sc mX3_findHeirs 0 0 0 0 7 [(3, .int (nI i)), (0, .ref 26), (1, .ref 12), (2, .ref 18)] [] (mz σ [(26, f1), (28, f2)] []) (RV fun σ' => ∃ f1 f2, σ' = mz σ [(26, f1), (28, f2)] [] ∧ (f1 0 = nI (mk (he d) 12) ∧ f1 1 = σ.1 26 1) ∧ ∀ i, i < 12 → f2 i = nI (dc d i)) := by
    intro m9
    induction m9 with
    | zero => intro i f1 f2 hme; exact absurd hme (Nat.not_lt_zero _)
    | succ m9 ih =>
      intro i f1 f2 hme hi h1 h1b h2
      have hdc := dc_le hV i
      have hhe := he_dc hV i
      have ht := tb_le (tk d i)
      refine r_iload_n rfl rfl ?_
      refine n_bipush 12 rfl (by decide) ?_
      refine n_icmp_ge (tgt := 106) rfl rfl (by omega) (by omega) (fun hh1 => ?_) (fun hh1 => ?_)
      · have e : i = 12 := by omega
        subst e
        exact s_vret (st := []) rfl rfl (Nat.zero_le _) (Nat.zero_le _) (⟨rfl, f1, f2, rfl, ⟨h1, h1b⟩, h2⟩)
      · refine r_aload_n rfl rfl ?_
        refine s_getR (r := 28) rfl flX3_22 rfl rfl ?_
        refine r_iload_n rfl rfl ?_
        refine n_iconst 0 rfl ?_
        refine m_iast (L' := [(26, f1), (28, (aup f2 i (nI 0)))]) rfl rfl (by omega) rfl ?_
        refine r_iload_n rfl rfl ?_
        refine r_aload_n rfl rfl ?_
        refine s_getI (x := nI (d 0 0)) rfl flX3_28 rfl rfl hE.1.1 ?_
        refine n_icmp_ge (tgt := 100) rfl rfl (by omega) (by omega) (fun h3 => ?_) (fun h3 => ?_)
        · refine n_iinc (lv' := [(3, .int (nI (i + 1))), (0, .ref 26), (1, .ref 12), (2, .ref 18)]) 1 rfl rfl (Nat.le_of_ble_eq_true rfl) rfl ?_
          refine r_goto (tgt := 7) rfl rfl ?_
          refine r_lv (lv' := [(3, .int (nI (i + 1))), (0, .ref 26), (1, .ref 12), (2, .ref 18)]) [0, 1, 2, 3] rfl ?_
          exact ih (i + 1) f1 _ (by omega) (by omega) (by rw [mk_f (by rw [hhe, dc_hi h3]; rfl)]; exact h1) h1b (aup_lt h2 (by rw [dc_hi h3]))
        · refine r_iload_n rfl rfl ?_
          refine r_aload_n rfl rfl ?_
          refine s_getI (x := oI (d 0 5)) rfl flX3_46 rfl rfl hE.1.2.1 ?_
          refine r_icmp_eq (tgt := 100) rfl rfl (fun h4 => ?_) (fun h4 => ?_)
          · refine n_iinc (lv' := [(3, .int (nI (i + 1))), (0, .ref 26), (1, .ref 12), (2, .ref 18)]) 1 rfl rfl (Nat.le_of_ble_eq_true rfl) rfl ?_
            refine r_goto (tgt := 7) rfl rfl ?_
            refine r_lv (lv' := [(3, .int (nI (i + 1))), (0, .ref 26), (1, .ref 12), (2, .ref 18)]) [0, 1, 2, 3] rfl ?_
            exact ih (i + 1) f1 _ (by omega) (by omega) (by rw [mk_f (by rw [hhe, dc_sp hV (by omega) ((oI_q (by omega) (by omega)).mp h4)]; rfl)]; exact h1) h1b (aup_lt h2 (by rw [dc_sp hV (by omega) ((oI_q (by omega) (by omega)).mp h4)]))
          · have hs : ¬ d 0 5 = i + 1 := fun z => h4 ((oI_q (by omega) (by omega)).mpr z)
            have hpi := vQ hV i (by omega)
            have hp12 := vP hV i
            have hdi : (if d 1 i = 0 then 1 else if go d (d 1 i - 1) = true then dc d (d 1 i - 1) else 0) * cu d (d 1 i) = dc d i := by have e9 := dc_eq hV (p := i) (by omega); unfold dcF at e9; rw [if_neg hs] at e9; exact e9.symm
            refine r_aload_n rfl rfl ?_
            refine s_getR (r := 14) rfl flX3_49 rfl rfl ?_
            refine r_iload_n rfl rfl ?_
            refine s_staNI [.ref 14, .int (nI i)] [] rfl lkX3_42 (c_at_14 (by omega) (hE.2.1 i (by omega))) rfl rfl (Nat.le_refl _) (Nat.le_refl _) (rI (e1 := oI (d 1 i)) rfl ?_)
            refine r_istore (lv' := [(4, .int (oI (d 1 i))), (3, .int (nI i)), (0, .ref 26), (1, .ref 12), (2, .ref 18)]) rfl (Nat.le_of_ble_eq_true rfl) rfl ?_
            refine r_aload_n rfl rfl ?_
            refine s_getR (r := 28) rfl flX3_22 rfl rfl ?_
            refine r_iload_n rfl rfl ?_
            refine r_aload_n rfl rfl ?_
            refine r_aload_n rfl rfl ?_
            refine r_iload rfl rfl ?_
            refine s_virI [.ref 18, .int (oI (d 1 i))] [.int (nI i), .ref 28] rfl lkX3_56 rfl rfl rfl (c_below_A hS hV hp12 (fun z => by show aup f2 i _ (d 1 i - 1) = _; rw [aup_n _ _ (by omega)]; exact h2 _ (by omega))) rfl rfl (Nat.le_refl _) (Nat.le_refl _) rfl (rI (e1 := nI (if d 1 i = 0 then 1 else if go d (d 1 i - 1) = true then dc d (d 1 i - 1) else 0)) rfl ?_)
            refine r_aload_n rfl rfl ?_
            refine s_getR (r := 27) rfl flX3_18 rfl rfl ?_
            refine r_iload rfl rfl ?_
            refine n_iconst 1 rfl ?_
            refine r_iadd rfl ?_
            refine r_top (y := nI (d 1 i)) (oI_p _) ?_
            refine s_staNI [.ref 27, .int (nI (d 1 i))] [.int (nI (if d 1 i = 0 then 1 else if go d (d 1 i - 1) = true then dc d (d 1 i - 1) else 0)), .int (nI i), .ref 28] rfl lkX3_42 (c_at_27 (by omega) (hO _ (by omega))) rfl rfl (Nat.le_refl _) (Nat.le_refl _) (rI (e1 := nI (cu d (d 1 i))) rfl ?_)
            refine n_imul rfl ?_
            refine r_top (y := nI (dc d i)) (by rw [hdi]) ?_
            refine m_iast (L' := [(26, f1), (28, (aup (aup f2 i (nI 0)) i (nI (dc d i))))]) rfl rfl (by omega) rfl ?_
            refine r_aload_n rfl rfl ?_
            refine s_getR (r := 28) rfl flX3_22 rfl rfl ?_
            refine r_iload_n rfl rfl ?_
            refine s_iald (x := nI (dc d i)) rfl rfl (by omega) (aup_s _ _ _) ?_
            refine n_if_le (tgt := 100) rfl rfl (by omega) (fun h5 => ?_) (fun h5 => ?_)
            · refine n_iinc (lv' := [(3, .int (nI (i + 1))), (4, .int (oI (d 1 i))), (0, .ref 26), (1, .ref 12), (2, .ref 18)]) 1 rfl rfl (Nat.le_of_ble_eq_true rfl) rfl ?_
              refine r_goto (tgt := 7) rfl rfl ?_
              refine r_lv (lv' := [(3, .int (nI (i + 1))), (0, .ref 26), (1, .ref 12), (2, .ref 18)]) [0, 2, 3, 4] rfl ?_
              exact ih (i + 1) f1 _ (by omega) (by omega) (by rw [mk_f (by rw [hhe, h5]; rfl)]; exact h1) h1b ((fun j hj => by rw [aup_aup]; exact aup_lt h2 rfl j hj))
            · refine r_aload_n rfl rfl ?_
              refine r_iload_n rfl rfl ?_
              refine s_virI [.int (nI i)] [] rfl lkX3_33 rfl rfl rfl (c_takes_18 hS hV (by omega)) rfl rfl (Nat.le_refl _) (Nat.le_refl _) rfl (rI (e1 := nI (tb (tk d i))) rfl ?_)
              refine n_if_eq (tgt := 100) rfl rfl (by omega) (fun h6 => ?_) (fun h6 => ?_)
              · refine n_iinc (lv' := [(3, .int (nI (i + 1))), (4, .int (oI (d 1 i))), (0, .ref 26), (1, .ref 12), (2, .ref 18)]) 1 rfl rfl (Nat.le_of_ble_eq_true rfl) rfl ?_
                refine r_goto (tgt := 7) rfl rfl ?_
                refine r_lv (lv' := [(3, .int (nI (i + 1))), (0, .ref 26), (1, .ref 12), (2, .ref 18)]) [0, 2, 3, 4] rfl ?_
                exact ih (i + 1) f1 _ (by omega) (by omega) (by rw [mk_f (by rw [hhe, tb_z h6, Bool.and_false])]; exact h1) h1b ((fun j hj => by rw [aup_aup]; exact aup_lt h2 rfl j hj))
              · have hh : he d i = true := by rw [hhe, tb_ne h6, decide_eq_true (by omega : 0 < dc d i)]; rfl
                refine r_aload_n rfl rfl ?_
                refine r_dup rfl rfl ?_
                refine s_getI (x := nI (mk (he d) i)) rfl flX3_9 rfl rfl h1 ?_
                refine n_iconst 1 rfl ?_
                refine r_iload_n rfl rfl ?_
                refine r_ishl rfl ?_
                refine r_ior rfl ?_
                refine r_top (y := nI (mk (he d) (i + 1))) (mk_t hh (by omega)) ?_
                refine m_putI (L' := [(26, (aup f1 0 (nI (mk (he d) (i + 1))))), (28, (aup (aup f2 i (nI 0)) i (nI (dc d i))))]) rfl flX3_9 rfl rfl (okv_i _) rfl ?_
                refine n_iinc (lv' := [(3, .int (nI (i + 1))), (4, .int (oI (d 1 i))), (0, .ref 26), (1, .ref 12), (2, .ref 18)]) 1 rfl rfl (Nat.le_of_ble_eq_true rfl) rfl ?_
                refine r_goto (tgt := 7) rfl rfl ?_
                refine r_lv (lv' := [(3, .int (nI (i + 1))), (0, .ref 26), (1, .ref 12), (2, .ref 18)]) [0, 2, 3, 4] rfl ?_
                exact ih (i + 1) _ _ (by omega) (by omega) rfl h1b (fun j hj => by rw [aup_aup]; exact aup_lt h2 rfl j hj)
  exact loop 13 0 _ _ (by omega) (by omega) rfl rfl (fun j hj => absurd hj (Nat.not_lt_zero _))

theorem c_findWeights_A {z : SZ} {sc : SC} {σ : SS} {d : D} (hV : Vd d) (hH : σ.1 26 0 = nI (mk (he d) 12)) (hD : ∀ i, i < 12 → σ.1 28 i = nI (dc d i)) : Cs z sc mX3_findWeights 0 0 [.ref 26] σ (RV fun σ' => ∃ f, σ' = mz σ [(29, f)] [] ∧ ∀ i, i < 12 → f i = nI (wt d i)) := by
  refine Cs.of gmX3_findWeights (Nat.le_of_ble_eq_true rfl) ?_
  show Ws z sc mX3_findWeights 0 0 0 0 0 [(0, .ref 26)] [] (mz σ [] []) (RV fun σ' => ∃ f, σ' = mz σ [(29, f)] [] ∧ ∀ i, i < 12 → f i = nI (wt d i))
  have hC := vC hV
  have hmk := mk_lt12 (he d) (Nat.le_refl 12)
  refine n_iconst 1 rfl ?_
  refine r_istore_n (lv' := [(1, .int (nI 1)), (0, .ref 26)]) rfl rfl (Nat.le_of_ble_eq_true rfl) rfl ?_
  refine n_iconst 0 rfl ?_
  refine r_istore_n (lv' := [(2, .int (nI 0)), (1, .int (nI 1)), (0, .ref 26)]) rfl rfl (Nat.le_of_ble_eq_true rfl) rfl ?_
  refine r_lv (lv' := [(2, .int (nI 0)), (0, .ref 26), (1, .int (nI 1))]) [0, 2, 1] rfl ?_
  have loop : ∀ (m9 : Nat) (i : Nat) , 12 - i < m9 → (i ≤ 12) → Ws z sc mX3_findWeights 0 0 0 0 4 [(2, .int (nI i)), (0, .ref 26), (1, .int (nI (ml d i)))] [] (mz σ [] []) (RV fun σ' => ∃ f, σ' = mz σ [(29, f)] [] ∧ ∀ i, i < 12 → f i = nI (wt d i)) := by
    intro m9
    induction m9 with
    | zero => intro i  hme; exact absurd hme (Nat.not_lt_zero _)
    | succ m9 ih =>
      intro i  hme hi
      have hdc := dc_le hV i
      have hml := ml_le hV i
      refine r_iload_n rfl rfl ?_
      refine n_bipush 12 rfl (by decide) ?_
      refine n_icmp_ge (tgt := 38) rfl rfl (by omega) (by omega) (fun h1 => ?_) (fun h1 => ?_)
      · rw [show i = 12 by omega]
        refine n_iconst 0 rfl ?_
        refine r_istore_n (lv' := [(2, .int (nI 0)), (0, .ref 26), (1, .int (nI (ml d 12)))]) rfl rfl (Nat.le_of_ble_eq_true rfl) rfl ?_
        refine r_lv (lv' := [(2, .int (nI 0)), (0, .ref 26), (1, .int (nI (ml d 12)))]) [0, 1, 2] rfl ?_
        refine m_newI (L' := [(29, (σ.1 29))]) 29 rfl ?_
        have loop2 : ∀ (m9_2 : Nat) (k : Nat) (f : Nat → Int32), 12 - k < m9_2 → (k ≤ 12) → (∀ j, j < k → f j = nI (wt d j)) → Ws z sc mX3_findWeights 0 0 0 0 40 [(2, .int (nI k)), (0, .ref 26), (1, .int (nI (ml d 12)))] [] (mz σ [(29, f)] []) (RV fun σ' => ∃ f, σ' = mz σ [(29, f)] [] ∧ ∀ i, i < 12 → f i = nI (wt d i)) := by
          intro m9_2
          induction m9_2 with
          | zero => intro k f hme; exact absurd hme (Nat.not_lt_zero _)
          | succ m9_2 ih2 =>
            intro k f hme hk hf
            have hdc2 := dc_le hV k
            have hml2 := ml_le hV 12
            refine r_iload_n rfl rfl ?_
            refine n_bipush 12 rfl (by decide) ?_
            refine n_icmp_ge (tgt := 100) rfl rfl (by omega) (by omega) (fun h2 => ?_) (fun h2 => ?_)
            · exact s_vret (st := []) rfl rfl (Nat.zero_le _) (Nat.zero_le _) (⟨rfl, f, rfl, fun j hj => hf j (by omega)⟩)
            · refine r_aload_n rfl rfl ?_
              refine s_getI (x := nI (mk (he d) 12)) rfl flX3_9 rfl rfl hH ?_
              refine r_iload_n rfl rfl ?_
              refine s_staNI [.int (nI (mk (he d) 12)), .int (nI k)] [] rfl lkX3_60 (c_hasBit hmk (by omega)) rfl rfl (Nat.le_refl _) (Nat.le_refl _) (rI (e1 := nI (tb (he d k))) (by rw [mk_bit, decide_eq_true (by omega : k < 12), Bool.true_and]) ?_)
              have hb := tb_le (he d k)
              suffices K : Ws z sc mX3_findWeights 0 0 0 0 71 [(2, .int (nI k)), (0, .ref 26), (1, .int (nI (ml d 12)))] [.int (nI (tb (he d k)))] (mz σ [(29, f)] []) (RV fun σ' => ∃ f, σ' = mz σ [(29, f)] [] ∧ ∀ i, i < 12 → f i = nI (wt d i)) by
                refine n_if_eq (tgt := 70) rfl rfl (by omega) (fun h3 => ?_) (fun h3 => ?_)
                · refine n_iconst 0 rfl ?_
                  exact r_top (by rw [tb_z h3]; rfl) K
                · have hL := he_L hV (tb_ne h3)
                  have hdp : 0 < dc d k := by rw [hL.2.2]; exact hL.2.1
                  refine r_aload_n rfl rfl ?_
                  refine s_getR (r := 28) rfl flX3_22 rfl rfl ?_
                  refine r_iload_n rfl rfl ?_
                  refine s_iald (x := nI (dc d k)) rfl rfl (by omega) (hD _ (by omega)) ?_
                  refine n_if_le (tgt := 70) rfl rfl (by omega) (fun hq => absurd hq (by omega)) (fun _ => ?_)
                  refine n_iconst 1 rfl ?_
                  refine r_goto (tgt := 71) rfl rfl ?_
                  exact r_top (by rw [tb_ne h3]; rfl) K
              refine r_istore_n (lv' := [(3, .int (nI (tb (he d k)))), (2, .int (nI k)), (0, .ref 26), (1, .int (nI (ml d 12)))]) rfl rfl (Nat.le_of_ble_eq_true rfl) rfl ?_
              refine r_aload_n rfl rfl ?_
              refine s_getR (r := 29) rfl flX3_25 rfl rfl ?_
              refine r_iload_n rfl rfl ?_
              refine r_iload_n rfl rfl ?_
              suffices K : Ws z sc mX3_findWeights 0 0 0 0 93 [(3, .int (nI (tb (he d k)))), (2, .int (nI k)), (0, .ref 26), (1, .int (nI (ml d 12)))] [.int (nI (wt d k)), .int (nI k), .ref 29] (mz σ [(29, f)] []) (RV fun σ' => ∃ f, σ' = mz σ [(29, f)] [] ∧ ∀ i, i < 12 → f i = nI (wt d i)) by
                refine n_if_eq (tgt := 92) rfl rfl (by omega) (fun h4 => ?_) (fun h4 => ?_)
                · refine n_iconst 0 rfl ?_
                  exact r_top (by unfold wt; rw [if_neg (by rw [tb_z h4]; decide)]) K
                · have hL := he_L hV (tb_ne h4)
                  have hdp : 0 < dc d k := by rw [hL.2.2]; exact hL.2.1
                  refine r_iload_n rfl rfl ?_
                  refine r_aload_n rfl rfl ?_
                  refine s_getR (r := 28) rfl flX3_22 rfl rfl ?_
                  refine r_iload_n rfl rfl ?_
                  refine s_iald (x := nI (dc d k)) rfl rfl (by omega) (hD _ (by omega)) ?_
                  refine n_idiv rfl (by omega) (by omega) (by omega) ?_
                  refine r_goto (tgt := 93) rfl rfl ?_
                  exact r_top (by unfold wt; rw [if_pos (tb_ne h4), hL.2.2, ml_12 hC.1]) K
              refine m_iast (L' := [(29, (aup f k (nI (wt d k))))]) rfl rfl (by omega) rfl ?_
              refine n_iinc (lv' := [(2, .int (nI (k + 1))), (3, .int (nI (tb (he d k)))), (0, .ref 26), (1, .int (nI (ml d 12)))]) 1 rfl rfl (Nat.le_of_ble_eq_true rfl) rfl ?_
              refine r_goto (tgt := 40) rfl rfl ?_
              refine r_lv (lv' := [(2, .int (nI (k + 1))), (0, .ref 26), (1, .int (nI (ml d 12)))]) [0, 2, 3] rfl ?_
              exact ih2 (k + 1) _ (by omega) (by omega) (aup_lt hf rfl)
        exact loop2 13 0 (σ.1 29) (by omega) (by omega) (fun j hj => absurd hj (Nat.not_lt_zero _))
      · refine r_aload_n rfl rfl ?_
        refine s_getI (x := nI (mk (he d) 12)) rfl flX3_9 rfl rfl hH ?_
        refine r_iload_n rfl rfl ?_
        refine s_staNI [.int (nI (mk (he d) 12)), .int (nI i)] [] rfl lkX3_60 (c_hasBit hmk (by omega)) rfl rfl (Nat.le_refl _) (Nat.le_refl _) (rI (e1 := nI (tb (he d i))) (by rw [mk_bit, decide_eq_true (by omega : i < 12), Bool.true_and]) ?_)
        have hb := tb_le (he d i)
        refine n_if_eq (tgt := 32) rfl rfl (by omega) (fun h3 => ?_) (fun h3 => ?_)
        · have e : ml d (i + 1) = ml d i := if_neg (by rw [tb_z h3]; decide)
          rw [← e]
          refine n_iinc (lv' := [(2, .int (nI (i + 1))), (0, .ref 26), (1, .int (nI (ml d (i + 1))))]) 1 rfl rfl (Nat.le_of_ble_eq_true rfl) rfl ?_
          refine r_goto (tgt := 4) rfl rfl ?_
          refine r_lv (lv' := [(2, .int (nI (i + 1))), (0, .ref 26), (1, .int (nI (ml d (i + 1))))]) [0, 1, 2] rfl ?_
          exact ih (i + 1) (by omega) (by omega)
        · have hL := he_L hV (tb_ne h3)
          refine r_iload_n rfl rfl ?_
          refine r_aload_n rfl rfl ?_
          refine s_getR (r := 28) rfl flX3_22 rfl rfl ?_
          refine r_iload_n rfl rfl ?_
          refine s_iald (x := nI (dc d i)) rfl rfl (by omega) (hD _ (by omega)) ?_
          refine s_staNI [.int (nI (ml d i)), .int (nI (dc d i))] [] rfl lkX3_64 (c_lcm (by omega) (by omega)) rfl rfl (Nat.le_refl _) (Nat.le_refl _) (rI (e1 := nI (ml d (i + 1))) (by show _ = nI (if he d i = true then _ else _); rw [if_pos (tb_ne h3), hL.2.2]) ?_)
          refine r_istore_n (lv' := [(1, .int (nI (ml d (i + 1)))), (2, .int (nI i)), (0, .ref 26)]) rfl rfl (Nat.le_of_ble_eq_true rfl) rfl ?_
          refine n_iinc (lv' := [(2, .int (nI (i + 1))), (1, .int (nI (ml d (i + 1)))), (0, .ref 26)]) 1 rfl rfl (Nat.le_of_ble_eq_true rfl) rfl ?_
          refine r_goto (tgt := 4) rfl rfl ?_
          refine r_lv (lv' := [(2, .int (nI (i + 1))), (0, .ref 26), (1, .int (nI (ml d (i + 1))))]) [0, 2, 1] rfl ?_
          exact ih (i + 1) (by omega) (by omega)
  exact loop 13 0 (by omega) (by omega)

theorem c_countLine_B {z : SZ} {sc : SC} {σ : SS} {v x : Nat} (hv : v ≤ 12) (hx : σ.1 43 v = nI x) : Cs z sc mX3_countLine 0 0 [.ref 42, .int (oI v)] σ (PV (mz σ [(43, aup (σ.1 43) v (nI (x + 1)))] [])) := by
  refine Cs.of gmX3_countLine (Nat.le_of_ble_eq_true rfl) ?_
  show Ws z sc mX3_countLine 0 0 0 0 0 [(0, .ref 42), (1, .int (oI v))] [] (mz σ [] []) (PV (mz σ [(43, aup (σ.1 43) v (nI (x + 1)))] []))
  refine r_iload_n rfl rfl ?_
  refine n_iconst 1 rfl ?_
  refine r_iadd rfl ?_
  refine r_top (y := nI v) (oI_p v) ?_
  refine r_istore_n (lv' := [(2, .int (nI v)), (0, .ref 42), (1, .int (oI v))]) rfl rfl (Nat.le_of_ble_eq_true rfl) rfl ?_
  refine r_iload_n rfl rfl ?_
  refine n_if_lt (tgt := 27) rfl rfl (by omega) (fun hq => hq.elim) (fun _ => ?_)
  refine r_iload_n rfl rfl ?_
  refine r_aload_n rfl rfl ?_
  refine s_getR (r := 43) rfl flX3_18 rfl rfl ?_
  refine s_alen rfl rfl ?_
  refine n_icmp_ge (tgt := 27) rfl rfl (by omega) (by omega) (fun hq => absurd hq (by omega)) (fun _ => ?_)
  refine r_aload_n rfl rfl ?_
  refine s_getR (r := 43) rfl flX3_18 rfl rfl ?_
  refine r_iload_n rfl rfl ?_
  refine r_dup2 rfl rfl rfl ?_
  refine s_iald (x := nI x) rfl rfl (by omega) hx ?_
  refine n_iconst 1 rfl ?_
  refine n_iadd rfl ?_
  refine m_iast (L' := [(43, (aup (σ.1 43) v (nI (x + 1))))]) rfl rfl (by omega) rfl ?_
  exact s_vret (st := []) rfl rfl (Nat.zero_le _) (Nat.zero_le _) (pV rfl)

theorem c_below_B {z : SZ} {sc : SC} {σ : SS} {d : D} {v : Nat} (hS : SR (σ.1 35) d) (hV : Vd d) (hv : v ≤ 12) (hd : v ≠ 0 → σ.1 44 (v - 1) = nI (dc d (v - 1))) : Cs z sc mX3_divisorBelow 0 0 [.ref 42, .ref 34, .int (oI v)] σ (PI (nI (if v = 0 then 1 else if go d (v - 1) = true then dc d (v - 1) else 0)) σ) := by
  refine Cs.of gmX3_divisorBelow (Nat.le_of_ble_eq_true rfl) ?_
  show Ws z sc mX3_divisorBelow 0 0 0 0 0 [(0, .ref 42), (1, .ref 34), (2, .int (oI v))] [] (mz σ [] []) (PI (nI (if v = 0 then 1 else if go d (v - 1) = true then dc d (v - 1) else 0)) σ)
  cases v with
  | zero =>
    refine r_iload_n rfl rfl ?_
    refine n_m1 rfl ?_
    refine r_icmp_ne (tgt := 7) rfl rfl (fun hq => absurd hq (fun z => z oI_0)) (fun _ => ?_)
    refine n_iconst 1 rfl ?_
    exact s_ret (st := []) rfl rfl rfl (Nat.zero_le _) (Nat.zero_le _) (pI rfl rfl)
  | succ v =>
    refine r_iload_n rfl rfl ?_
    refine n_m1 rfl ?_
    refine r_icmp_ne (tgt := 7) rfl rfl (fun _ => ?_) (fun hq => absurd hq (oI_ne (by omega)))
    rw [oI_s]
    refine r_aload_n rfl rfl ?_
    refine r_iload_n rfl rfl ?_
    refine s_virI [.int (nI v)] [] rfl lkX3_39 rfl rfl rfl (c_passesOn_34 hS hV (by omega)) rfl rfl (Nat.le_refl _) (Nat.le_refl _) rfl (rI (e1 := nI (tb (go d v))) rfl ?_)
    have ht := tb_le (go d v)
    suffices K : Ws z sc mX3_divisorBelow 0 0 0 0 27 [(0, .ref 42), (1, .ref 34), (2, .int (nI v))] [.int (nI (if v + 1 = 0 then 1 else if go d (v + 1 - 1) = true then dc d (v + 1 - 1) else 0))] (mz σ [] []) (PI (nI (if v + 1 = 0 then 1 else if go d (v + 1 - 1) = true then dc d (v + 1 - 1) else 0)) σ) by
      refine n_if_eq (tgt := 26) rfl rfl (by omega) (fun h => ?_) (fun h => ?_)
      · refine n_iconst 0 rfl ?_
        exact r_top (by rw [if_neg (Nat.succ_ne_zero v), Nat.add_sub_cancel, if_neg (by rw [tb_z h]; decide)]) K
      · refine r_aload_n rfl rfl ?_
        refine s_getR (r := 44) rfl flX3_22 rfl rfl ?_
        refine r_iload_n rfl rfl ?_
        refine s_staNI [.ref 44, .int (nI v)] [] rfl lkX3_42 (c_at_44 (by omega) (hd (Nat.succ_ne_zero v))) rfl rfl (Nat.le_refl _) (Nat.le_refl _) (rI (e1 := nI (dc d v)) rfl ?_)
        refine r_goto (tgt := 27) rfl rfl ?_
        exact r_top (by rw [if_neg (Nat.succ_ne_zero v), Nat.add_sub_cancel, if_pos (tb_ne h)]) K
    exact s_ret (st := []) rfl rfl rfl (Nat.zero_le _) (Nat.zero_le _) (pI rfl rfl)

theorem c_open_B {z : SZ} {sc : SC} {σ : SS} {d : D} (hS : SR (σ.1 35) d) (hE : EE σ d) (hV : Vd d) : Cs z sc mX3_findOpenLines 0 0 [.ref 42, .ref 12, .ref 34] σ (RV fun σ' => ∃ f1 f2, σ' = mz σ [(42, f1), (43, f2)] [] ∧ f1 1 = nI (mk (isL d) 12) ∧ ∀ x, x < 13 → f2 x = nI (cu d x)) := by
  refine Cs.of gmX3_findOpenLines (Nat.le_of_ble_eq_true rfl) ?_
  show Ws z sc mX3_findOpenLines 0 0 0 0 0 [(0, .ref 42), (1, .ref 12), (2, .ref 34)] [] (mz σ [] []) (RV fun σ' => ∃ f1 f2, σ' = mz σ [(42, f1), (43, f2)] [] ∧ f1 1 = nI (mk (isL d) 12) ∧ ∀ x, x < 13 → f2 x = nI (cu d x))
  have hC := vC hV
  refine r_aload_n rfl rfl ?_
  refine n_iconst 0 rfl ?_
  refine m_putI (L' := [(42, (aup (σ.1 42) 1 (nI 0)))]) rfl flX3_15 rfl rfl (okv_i _) rfl ?_
  refine n_iconst 0 rfl ?_
  refine r_istore_n (lv' := [(3, .int (nI 0)), (0, .ref 42), (1, .ref 12), (2, .ref 34)]) rfl rfl (Nat.le_of_ble_eq_true rfl) rfl ?_
  refine r_lv (lv' := [(3, .int (nI 0)), (0, .ref 42), (1, .ref 12), (2, .ref 34)]) [0, 1, 2, 3] rfl ?_
  refine m_newI (L' := [(42, (aup (σ.1 42) 1 (nI 0))), (43, (σ.1 43))]) 43 rfl ?_
  have loop : ∀ (m9 : Nat) (i : Nat) (f : Nat → Int32), 13 - i < m9 → (i ≤ 13) → (∀ j, j < i → f j = nI 0) → Ws z sc mX3_findOpenLines 0 0 0 0 7 [(3, .int (nI i)), (0, .ref 42), (1, .ref 12), (2, .ref 34)] [] (mz σ [(42, (aup (σ.1 42) 1 (nI 0))), (43, f)] []) (RV fun σ' => ∃ f1 f2, σ' = mz σ [(42, f1), (43, f2)] [] ∧ f1 1 = nI (mk (isL d) 12) ∧ ∀ x, x < 13 → f2 x = nI (cu d x)) := by
    intro m9
    induction m9 with
    | zero => intro i f hme; exact absurd hme (Nat.not_lt_zero _)
    | succ m9 ih =>
      intro i f hme hi hf
      refine r_iload_n rfl rfl ?_
      refine r_aload_n rfl rfl ?_
      refine s_getR (r := 43) rfl flX3_18 rfl rfl ?_
      refine s_alen rfl rfl ?_
      refine n_icmp_ge (tgt := 29) rfl rfl (by omega) (by omega) (fun h1 => ?_) (fun h1 => ?_)
      · refine r_aload_n rfl rfl ?_
        refine s_getI (x := nI (d 0 0)) rfl flX3_28 rfl rfl hE.1.1 ?_
        refine n_iconst 1 rfl ?_
        refine r_isub rfl ?_
        refine r_top (y := oI (d 0 0)) rfl ?_
        refine r_istore_n (lv' := [(3, .int (oI (d 0 0))), (0, .ref 42), (1, .ref 12), (2, .ref 34)]) rfl rfl (Nat.le_of_ble_eq_true rfl) rfl ?_
        refine r_lv (lv' := [(3, .int (oI (d 0 0))), (0, .ref 42), (1, .ref 12), (2, .ref 34)]) [0, 1, 2, 3] rfl ?_
        have loop2 : ∀ (m9_2 : Nat) (q : Nat) (f1 f2 : Nat → Int32), q < m9_2 → (q ≤ d 0 0) → (f1 1 = nI (mk (lst d (d 0 0 - q)) 12)) → (∀ x, x < 13 → f2 x = nI (lu d (lst d (d 0 0 - q)) x)) → Ws z sc mX3_findOpenLines 0 0 0 0 36 [(3, .int (oI q)), (0, .ref 42), (1, .ref 12), (2, .ref 34)] [] (mz σ [(42, f1), (43, f2)] []) (RV fun σ' => ∃ f1 f2, σ' = mz σ [(42, f1), (43, f2)] [] ∧ f1 1 = nI (mk (isL d) 12) ∧ ∀ x, x < 13 → f2 x = nI (cu d x)) := by
          intro m9_2
          induction m9_2 with
          | zero => intro q f1 f2 hme; exact absurd hme (Nat.not_lt_zero _)
          | succ m9_2 ih2 =>
            intro q f1 f2 hme hq h1 h2
            cases q with
            | zero =>
              rw [oI_0]
              refine r_iload_n rfl rfl ?_
              refine r_if_lt (tgt := 119) rfl rfl (fun _ => ?_) (fun hq => absurd hq (fun z => z (by decide)))
              exact s_vret (st := []) rfl rfl (Nat.zero_le _) (Nat.zero_le _) (⟨rfl, f1, f2, rfl, h1, h2⟩)
            | succ q =>
              rw [oI_s]
              have hls := lst_s (d := d) (q := q) (by omega)
              have hb : lst d (d 0 0 - (q + 1)) q = false := lst_lo d _ (by omega) q (by omega)
              refine r_iload_n rfl rfl ?_
              refine n_if_lt (tgt := 119) rfl rfl (by omega) (fun hq => hq.elim) (fun _ => ?_)
              refine r_aload_n rfl rfl ?_
              refine r_iload_n rfl rfl ?_
              refine s_virI [.int (nI q)] [] rfl lkX3_33 rfl rfl rfl (c_takes_34 hS hV (by omega)) rfl rfl (Nat.le_refl _) (Nat.le_refl _) rfl (rI (e1 := nI (tb (tk d q))) rfl ?_)
              have ht := tb_le (tk d q)
              have hgo := tb_le (go d q)
              have hlu := lu_le (d := d) (lst d (d 0 0 - (q + 1))) (q + 1)
              suffices K : Ws z sc mX3_findOpenLines 0 0 0 0 74 [(3, .int (nI q)), (0, .ref 42), (1, .ref 12), (2, .ref 34)] [.int (nI (tb (tk d q || (go d q && !(lu d (lst d (d 0 0 - (q + 1))) (q + 1) == 0)))))] (mz σ [(42, f1), (43, f2)] []) (RV fun σ' => ∃ f1 f2, σ' = mz σ [(42, f1), (43, f2)] [] ∧ f1 1 = nI (mk (isL d) 12) ∧ ∀ x, x < 13 → f2 x = nI (cu d x)) by
                refine n_if_ne (tgt := 69) rfl rfl (by omega) (fun h3 => ?_) (fun h3 => ?_)
                · refine n_iconst 1 rfl ?_
                  refine r_goto (tgt := 74) rfl rfl ?_
                  exact r_top (by rw [tb_ne h3]; rfl) K
                · refine r_aload_n rfl rfl ?_
                  refine r_iload_n rfl rfl ?_
                  refine s_virI [.int (nI q)] [] rfl lkX3_39 rfl rfl rfl (c_passesOn_34 hS hV (by omega)) rfl rfl (Nat.le_refl _) (Nat.le_refl _) rfl (rI (e1 := nI (tb (go d q))) rfl ?_)
                  refine n_if_eq (tgt := 73) rfl rfl (by omega) (fun h4 => ?_) (fun h4 => ?_)
                  · refine n_iconst 0 rfl ?_
                    exact r_top (by rw [tb_z h3, tb_z h4]; rfl) K
                  · refine r_aload_n rfl rfl ?_
                    refine s_getR (r := 43) rfl flX3_18 rfl rfl ?_
                    refine r_iload_n rfl rfl ?_
                    refine n_iconst 1 rfl ?_
                    refine n_iadd rfl ?_
                    refine s_staNI [.ref 43, .int (nI (q + 1))] [] rfl lkX3_42 (c_at_43 (by omega) (h2 (q + 1) (by omega))) rfl rfl (Nat.le_refl _) (Nat.le_refl _) (rI (e1 := nI (lu d (lst d (d 0 0 - (q + 1))) (q + 1))) rfl ?_)
                    refine n_if_le (tgt := 73) rfl rfl (by omega) (fun h5 => ?_) (fun h5 => ?_)
                    · refine n_iconst 0 rfl ?_
                      exact r_top (by rw [tb_z h3, h5]; simp [tb]) K
                    · refine n_iconst 1 rfl ?_
                      refine r_goto (tgt := 74) rfl rfl ?_
                      exact r_top (by rw [tb_ne h4, beq_false_of_ne (by omega : lu d (lst d (d 0 0 - (q + 1))) (q + 1) ≠ 0)]; simp [tb]) K
              have hX := tb_le (tk d q || (go d q && !(lu d (lst d (d 0 0 - (q + 1))) (q + 1) == 0)))
              refine r_istore (lv' := [(4, .int (nI (tb (tk d q || (go d q && !(lu d (lst d (d 0 0 - (q + 1))) (q + 1) == 0)))))), (3, .int (nI q)), (0, .ref 42), (1, .ref 12), (2, .ref 34)]) rfl (Nat.le_of_ble_eq_true rfl) rfl ?_
              refine r_iload rfl rfl ?_
              refine n_if_eq (tgt := 113) rfl rfl (by omega) (fun h6 => ?_) (fun h6 => ?_)
              · have e : lst d (d 0 0 - (q + 1)) = lst d (d 0 0 - q) := by rw [hls, lnF_no (Or.inr (tb_z h6)), aup_self hb]
                rw [e] at h1 h2
                refine n_iincO (lv' := [(3, .int (oI q)), (4, .int (nI (tb (tk d q || (go d q && !(lu d (lst d (d 0 0 - (q + 1))) (q + 1) == 0)))))), (0, .ref 42), (1, .ref 12), (2, .ref 34)]) rfl rfl (Nat.le_of_ble_eq_true rfl) rfl ?_
                refine r_goto (tgt := 36) rfl rfl ?_
                refine r_lv (lv' := [(3, .int (oI q)), (0, .ref 42), (1, .ref 12), (2, .ref 34)]) [0, 2, 3, 4] rfl ?_
                exact ih2 q f1 f2 (by omega) (by omega) h1 h2
              · refine r_iload_n rfl rfl ?_
                refine r_aload_n rfl rfl ?_
                refine s_getI (x := oI (d 0 5)) rfl flX3_46 rfl rfl hE.1.2.1 ?_
                refine r_icmp_eq (tgt := 113) rfl rfl (fun h7 => ?_) (fun h7 => ?_)
                · have e : lst d (d 0 0 - (q + 1)) = lst d (d 0 0 - q) := by rw [hls, lnF_no (Or.inl ((oI_q (by omega) (by omega)).mp h7)), aup_self hb]
                  rw [e] at h1 h2
                  refine n_iincO (lv' := [(3, .int (oI q)), (4, .int (nI (tb (tk d q || (go d q && !(lu d (lst d (d 0 0 - (q + 1))) (q + 1) == 0)))))), (0, .ref 42), (1, .ref 12), (2, .ref 34)]) rfl rfl (Nat.le_of_ble_eq_true rfl) rfl ?_
                  refine r_goto (tgt := 36) rfl rfl ?_
                  refine r_lv (lv' := [(3, .int (oI q)), (0, .ref 42), (1, .ref 12), (2, .ref 34)]) [0, 2, 3, 4] rfl ?_
                  exact ih2 q f1 f2 (by omega) (by omega) h1 h2
                · have hs : ¬ d 0 5 = q + 1 := fun z => h7 ((oI_q (by omega) (by omega)).mpr z)
                  have hln : lnF d (lst d (d 0 0 - (q + 1))) q = true := lnF_yes hs (tb_ne h6)
                  have e : lst d (d 0 0 - q) = aup (lst d (d 0 0 - (q + 1))) q true := by rw [hls, hln]
                  refine r_aload_n rfl rfl ?_
                  refine r_dup rfl rfl ?_
                  refine s_getI (x := nI (mk (lst d (d 0 0 - (q + 1))) 12)) rfl flX3_15 rfl rfl h1 ?_
                  refine n_iconst 1 rfl ?_
                  refine r_iload_n rfl rfl ?_
                  refine r_ishl rfl ?_
                  refine r_ior rfl ?_
                  refine r_top (y := nI (mk (lst d (d 0 0 - q)) 12)) (by rw [e]; exact mk_ior (q := q) (by omega) aup_or) ?_
                  refine m_putI (L' := [(42, (aup f1 1 (nI (mk (lst d (d 0 0 - q)) 12)))), (43, f2)]) rfl flX3_15 rfl rfl (okv_i _) rfl ?_
                  refine r_aload_n rfl rfl ?_
                  refine r_aload_n rfl rfl ?_
                  refine s_getR (r := 14) rfl flX3_49 rfl rfl ?_
                  refine r_iload_n rfl rfl ?_
                  refine s_staNI [.ref 14, .int (nI q)] [.ref 42] rfl lkX3_42 (c_at_14 (by omega) (hE.2.1 q (by omega))) rfl rfl (Nat.le_refl _) (Nat.le_refl _) (rI (e1 := oI (d 1 q)) rfl ?_)
                  have hp := vP hV q
                  refine s_virV [.int (oI (d 1 q))] [] rfl lkX3_52 rfl rfl rfl (c_countLine_B hp (h2 (d 1 q) (by omega))) rfl rfl (Nat.le_refl _) (Nat.le_refl _) rfl (rV ?_)
                  refine m_mz (L' := [(42, (aup f1 1 (nI (mk (lst d (d 0 0 - q)) 12)))), (43, (aup f2 (d 1 q) (nI (lu d (lst d (d 0 0 - (q + 1))) (d 1 q) + 1))))]) (M' := []) rfl rfl ?_
                  refine n_iincO (lv' := [(3, .int (oI q)), (4, .int (nI (tb (tk d q || (go d q && !(lu d (lst d (d 0 0 - (q + 1))) (q + 1) == 0)))))), (0, .ref 42), (1, .ref 12), (2, .ref 34)]) rfl rfl (Nat.le_of_ble_eq_true rfl) rfl ?_
                  refine r_goto (tgt := 36) rfl rfl ?_
                  refine r_lv (lv' := [(3, .int (oI q)), (0, .ref 42), (1, .ref 12), (2, .ref 34)]) [0, 2, 3, 4] rfl ?_
                  exact ih2 q _ _ (by omega) (by omega) rfl (by rw [e]; exact aup_all h2 (by rw [lu_up (by omega) hb, beq_self_eq_true]; rfl) (fun j _ z => by rw [lu_up (by omega) hb, beq_false_of_ne (Ne.symm z)]; rfl))
        exact loop2 (d 0 0 + 1) (d 0 0) _ f (by omega) (Nat.le_refl _) (by rw [Nat.sub_self]; show nI 0 = nI (mk (fun _ => false) 12); rw [mk_no]) (fun x hx => by rw [hf x (by omega), Nat.sub_self]; congr 1; exact (sm_zero (fun i _ => rfl)).symm)
      · refine r_aload_n rfl rfl ?_
        refine s_getR (r := 43) rfl flX3_18 rfl rfl ?_
        refine r_iload_n rfl rfl ?_
        refine n_iconst 0 rfl ?_
        refine m_iast (L' := [(42, (aup (σ.1 42) 1 (nI 0))), (43, (aup f i (nI 0)))]) rfl rfl (by omega) rfl ?_
        refine n_iinc (lv' := [(3, .int (nI (i + 1))), (0, .ref 42), (1, .ref 12), (2, .ref 34)]) 1 rfl rfl (Nat.le_of_ble_eq_true rfl) rfl ?_
        refine r_goto (tgt := 7) rfl rfl ?_
        refine r_lv (lv' := [(3, .int (nI (i + 1))), (0, .ref 42), (1, .ref 12), (2, .ref 34)]) [0, 1, 2, 3] rfl ?_
        exact ih (i + 1) _ (by omega) (by omega) (aup_lt hf rfl)
  exact loop 14 0 _ (by omega) (by omega) (fun j hj => absurd hj (Nat.not_lt_zero _))

theorem c_findHeirs_B {z : SZ} {sc : SC} {σ : SS} {d : D} (hS : SR (σ.1 35) d) (hE : EE σ d) (hV : Vd d) (hO : ∀ x, x < 13 → σ.1 43 x = nI (cu d x)) : Cs z sc mX3_findHeirs 0 0 [.ref 42, .ref 12, .ref 34] σ (RV fun σ' => ∃ f1 f2, σ' = mz σ [(42, f1), (44, f2)] [] ∧ (f1 0 = nI (mk (he d) 12) ∧ f1 1 = σ.1 42 1) ∧ ∀ i, i < 12 → f2 i = nI (dc d i)) := by
  refine Cs.of gmX3_findHeirs (Nat.le_of_ble_eq_true rfl) ?_
  show Ws z sc mX3_findHeirs 0 0 0 0 0 [(0, .ref 42), (1, .ref 12), (2, .ref 34)] [] (mz σ [] []) (RV fun σ' => ∃ f1 f2, σ' = mz σ [(42, f1), (44, f2)] [] ∧ (f1 0 = nI (mk (he d) 12) ∧ f1 1 = σ.1 42 1) ∧ ∀ i, i < 12 → f2 i = nI (dc d i))
  have hC := vC hV
  refine r_aload_n rfl rfl ?_
  refine n_iconst 0 rfl ?_
  refine m_putI (L' := [(42, (aup (σ.1 42) 0 (nI 0)))]) rfl flX3_9 rfl rfl (okv_i _) rfl ?_
  refine n_iconst 0 rfl ?_
  refine r_istore_n (lv' := [(3, .int (nI 0)), (0, .ref 42), (1, .ref 12), (2, .ref 34)]) rfl rfl (Nat.le_of_ble_eq_true rfl) rfl ?_
  refine r_lv (lv' := [(3, .int (nI 0)), (0, .ref 42), (1, .ref 12), (2, .ref 34)]) [0, 1, 2, 3] rfl ?_
  refine m_newI (L' := [(42, (aup (σ.1 42) 0 (nI 0))), (44, (σ.1 44))]) 44 rfl ?_
  have loop : ∀ (m9 : Nat) (i : Nat) (f1 f2 : Nat → Int32), 12 - i < m9 → (i ≤ 12) → (f1 0 = nI (mk (he d) i)) → (f1 1 = σ.1 42 1) → (∀ j, j < i → f2 j = nI (dc d j)) → Ws z sc mX3_findHeirs 0 0 0 0 7 [(3, .int (nI i)), (0, .ref 42), (1, .ref 12), (2, .ref 34)] [] (mz σ [(42, f1), (44, f2)] []) (RV fun σ' => ∃ f1 f2, σ' = mz σ [(42, f1), (44, f2)] [] ∧ (f1 0 = nI (mk (he d) 12) ∧ f1 1 = σ.1 42 1) ∧ ∀ i, i < 12 → f2 i = nI (dc d i)) := by
    intro m9
    induction m9 with
    | zero => intro i f1 f2 hme; exact absurd hme (Nat.not_lt_zero _)
    | succ m9 ih =>
      intro i f1 f2 hme hi h1 h1b h2
      have hdc := dc_le hV i
      have hhe := he_dc hV i
      have ht := tb_le (tk d i)
      refine r_iload_n rfl rfl ?_
      refine n_bipush 12 rfl (by decide) ?_
      refine n_icmp_ge (tgt := 106) rfl rfl (by omega) (by omega) (fun hh1 => ?_) (fun hh1 => ?_)
      · have e : i = 12 := by omega
        subst e
        exact s_vret (st := []) rfl rfl (Nat.zero_le _) (Nat.zero_le _) (⟨rfl, f1, f2, rfl, ⟨h1, h1b⟩, h2⟩)
      · refine r_aload_n rfl rfl ?_
        refine s_getR (r := 44) rfl flX3_22 rfl rfl ?_
        refine r_iload_n rfl rfl ?_
        refine n_iconst 0 rfl ?_
        refine m_iast (L' := [(42, f1), (44, (aup f2 i (nI 0)))]) rfl rfl (by omega) rfl ?_
        refine r_iload_n rfl rfl ?_
        refine r_aload_n rfl rfl ?_
        refine s_getI (x := nI (d 0 0)) rfl flX3_28 rfl rfl hE.1.1 ?_
        refine n_icmp_ge (tgt := 100) rfl rfl (by omega) (by omega) (fun h3 => ?_) (fun h3 => ?_)
        · refine n_iinc (lv' := [(3, .int (nI (i + 1))), (0, .ref 42), (1, .ref 12), (2, .ref 34)]) 1 rfl rfl (Nat.le_of_ble_eq_true rfl) rfl ?_
          refine r_goto (tgt := 7) rfl rfl ?_
          refine r_lv (lv' := [(3, .int (nI (i + 1))), (0, .ref 42), (1, .ref 12), (2, .ref 34)]) [0, 1, 2, 3] rfl ?_
          exact ih (i + 1) f1 _ (by omega) (by omega) (by rw [mk_f (by rw [hhe, dc_hi h3]; rfl)]; exact h1) h1b (aup_lt h2 (by rw [dc_hi h3]))
        · refine r_iload_n rfl rfl ?_
          refine r_aload_n rfl rfl ?_
          refine s_getI (x := oI (d 0 5)) rfl flX3_46 rfl rfl hE.1.2.1 ?_
          refine r_icmp_eq (tgt := 100) rfl rfl (fun h4 => ?_) (fun h4 => ?_)
          · refine n_iinc (lv' := [(3, .int (nI (i + 1))), (0, .ref 42), (1, .ref 12), (2, .ref 34)]) 1 rfl rfl (Nat.le_of_ble_eq_true rfl) rfl ?_
            refine r_goto (tgt := 7) rfl rfl ?_
            refine r_lv (lv' := [(3, .int (nI (i + 1))), (0, .ref 42), (1, .ref 12), (2, .ref 34)]) [0, 1, 2, 3] rfl ?_
            exact ih (i + 1) f1 _ (by omega) (by omega) (by rw [mk_f (by rw [hhe, dc_sp hV (by omega) ((oI_q (by omega) (by omega)).mp h4)]; rfl)]; exact h1) h1b (aup_lt h2 (by rw [dc_sp hV (by omega) ((oI_q (by omega) (by omega)).mp h4)]))
          · have hs : ¬ d 0 5 = i + 1 := fun z => h4 ((oI_q (by omega) (by omega)).mpr z)
            have hpi := vQ hV i (by omega)
            have hp12 := vP hV i
            have hdi : (if d 1 i = 0 then 1 else if go d (d 1 i - 1) = true then dc d (d 1 i - 1) else 0) * cu d (d 1 i) = dc d i := by have e9 := dc_eq hV (p := i) (by omega); unfold dcF at e9; rw [if_neg hs] at e9; exact e9.symm
            refine r_aload_n rfl rfl ?_
            refine s_getR (r := 14) rfl flX3_49 rfl rfl ?_
            refine r_iload_n rfl rfl ?_
            refine s_staNI [.ref 14, .int (nI i)] [] rfl lkX3_42 (c_at_14 (by omega) (hE.2.1 i (by omega))) rfl rfl (Nat.le_refl _) (Nat.le_refl _) (rI (e1 := oI (d 1 i)) rfl ?_)
            refine r_istore (lv' := [(4, .int (oI (d 1 i))), (3, .int (nI i)), (0, .ref 42), (1, .ref 12), (2, .ref 34)]) rfl (Nat.le_of_ble_eq_true rfl) rfl ?_
            refine r_aload_n rfl rfl ?_
            refine s_getR (r := 44) rfl flX3_22 rfl rfl ?_
            refine r_iload_n rfl rfl ?_
            refine r_aload_n rfl rfl ?_
            refine r_aload_n rfl rfl ?_
            refine r_iload rfl rfl ?_
            refine s_virI [.ref 34, .int (oI (d 1 i))] [.int (nI i), .ref 44] rfl lkX3_56 rfl rfl rfl (c_below_B hS hV hp12 (fun z => by show aup f2 i _ (d 1 i - 1) = _; rw [aup_n _ _ (by omega)]; exact h2 _ (by omega))) rfl rfl (Nat.le_refl _) (Nat.le_refl _) rfl (rI (e1 := nI (if d 1 i = 0 then 1 else if go d (d 1 i - 1) = true then dc d (d 1 i - 1) else 0)) rfl ?_)
            refine r_aload_n rfl rfl ?_
            refine s_getR (r := 43) rfl flX3_18 rfl rfl ?_
            refine r_iload rfl rfl ?_
            refine n_iconst 1 rfl ?_
            refine r_iadd rfl ?_
            refine r_top (y := nI (d 1 i)) (oI_p _) ?_
            refine s_staNI [.ref 43, .int (nI (d 1 i))] [.int (nI (if d 1 i = 0 then 1 else if go d (d 1 i - 1) = true then dc d (d 1 i - 1) else 0)), .int (nI i), .ref 44] rfl lkX3_42 (c_at_43 (by omega) (hO _ (by omega))) rfl rfl (Nat.le_refl _) (Nat.le_refl _) (rI (e1 := nI (cu d (d 1 i))) rfl ?_)
            refine n_imul rfl ?_
            refine r_top (y := nI (dc d i)) (by rw [hdi]) ?_
            refine m_iast (L' := [(42, f1), (44, (aup (aup f2 i (nI 0)) i (nI (dc d i))))]) rfl rfl (by omega) rfl ?_
            refine r_aload_n rfl rfl ?_
            refine s_getR (r := 44) rfl flX3_22 rfl rfl ?_
            refine r_iload_n rfl rfl ?_
            refine s_iald (x := nI (dc d i)) rfl rfl (by omega) (aup_s _ _ _) ?_
            refine n_if_le (tgt := 100) rfl rfl (by omega) (fun h5 => ?_) (fun h5 => ?_)
            · refine n_iinc (lv' := [(3, .int (nI (i + 1))), (4, .int (oI (d 1 i))), (0, .ref 42), (1, .ref 12), (2, .ref 34)]) 1 rfl rfl (Nat.le_of_ble_eq_true rfl) rfl ?_
              refine r_goto (tgt := 7) rfl rfl ?_
              refine r_lv (lv' := [(3, .int (nI (i + 1))), (0, .ref 42), (1, .ref 12), (2, .ref 34)]) [0, 2, 3, 4] rfl ?_
              exact ih (i + 1) f1 _ (by omega) (by omega) (by rw [mk_f (by rw [hhe, h5]; rfl)]; exact h1) h1b ((fun j hj => by rw [aup_aup]; exact aup_lt h2 rfl j hj))
            · refine r_aload_n rfl rfl ?_
              refine r_iload_n rfl rfl ?_
              refine s_virI [.int (nI i)] [] rfl lkX3_33 rfl rfl rfl (c_takes_34 hS hV (by omega)) rfl rfl (Nat.le_refl _) (Nat.le_refl _) rfl (rI (e1 := nI (tb (tk d i))) rfl ?_)
              refine n_if_eq (tgt := 100) rfl rfl (by omega) (fun h6 => ?_) (fun h6 => ?_)
              · refine n_iinc (lv' := [(3, .int (nI (i + 1))), (4, .int (oI (d 1 i))), (0, .ref 42), (1, .ref 12), (2, .ref 34)]) 1 rfl rfl (Nat.le_of_ble_eq_true rfl) rfl ?_
                refine r_goto (tgt := 7) rfl rfl ?_
                refine r_lv (lv' := [(3, .int (nI (i + 1))), (0, .ref 42), (1, .ref 12), (2, .ref 34)]) [0, 2, 3, 4] rfl ?_
                exact ih (i + 1) f1 _ (by omega) (by omega) (by rw [mk_f (by rw [hhe, tb_z h6, Bool.and_false])]; exact h1) h1b ((fun j hj => by rw [aup_aup]; exact aup_lt h2 rfl j hj))
              · have hh : he d i = true := by rw [hhe, tb_ne h6, decide_eq_true (by omega : 0 < dc d i)]; rfl
                refine r_aload_n rfl rfl ?_
                refine r_dup rfl rfl ?_
                refine s_getI (x := nI (mk (he d) i)) rfl flX3_9 rfl rfl h1 ?_
                refine n_iconst 1 rfl ?_
                refine r_iload_n rfl rfl ?_
                refine r_ishl rfl ?_
                refine r_ior rfl ?_
                refine r_top (y := nI (mk (he d) (i + 1))) (mk_t hh (by omega)) ?_
                refine m_putI (L' := [(42, (aup f1 0 (nI (mk (he d) (i + 1))))), (44, (aup (aup f2 i (nI 0)) i (nI (dc d i))))]) rfl flX3_9 rfl rfl (okv_i _) rfl ?_
                refine n_iinc (lv' := [(3, .int (nI (i + 1))), (4, .int (oI (d 1 i))), (0, .ref 42), (1, .ref 12), (2, .ref 34)]) 1 rfl rfl (Nat.le_of_ble_eq_true rfl) rfl ?_
                refine r_goto (tgt := 7) rfl rfl ?_
                refine r_lv (lv' := [(3, .int (nI (i + 1))), (0, .ref 42), (1, .ref 12), (2, .ref 34)]) [0, 2, 3, 4] rfl ?_
                exact ih (i + 1) _ _ (by omega) (by omega) rfl h1b (fun j hj => by rw [aup_aup]; exact aup_lt h2 rfl j hj)
  exact loop 13 0 _ _ (by omega) (by omega) rfl rfl (fun j hj => absurd hj (Nat.not_lt_zero _))

theorem c_findWeights_B {z : SZ} {sc : SC} {σ : SS} {d : D} (hV : Vd d) (hH : σ.1 42 0 = nI (mk (he d) 12)) (hD : ∀ i, i < 12 → σ.1 44 i = nI (dc d i)) : Cs z sc mX3_findWeights 0 0 [.ref 42] σ (RV fun σ' => ∃ f, σ' = mz σ [(45, f)] [] ∧ ∀ i, i < 12 → f i = nI (wt d i)) := by
  refine Cs.of gmX3_findWeights (Nat.le_of_ble_eq_true rfl) ?_
  show Ws z sc mX3_findWeights 0 0 0 0 0 [(0, .ref 42)] [] (mz σ [] []) (RV fun σ' => ∃ f, σ' = mz σ [(45, f)] [] ∧ ∀ i, i < 12 → f i = nI (wt d i))
  have hC := vC hV
  have hmk := mk_lt12 (he d) (Nat.le_refl 12)
  refine n_iconst 1 rfl ?_
  refine r_istore_n (lv' := [(1, .int (nI 1)), (0, .ref 42)]) rfl rfl (Nat.le_of_ble_eq_true rfl) rfl ?_
  refine n_iconst 0 rfl ?_
  refine r_istore_n (lv' := [(2, .int (nI 0)), (1, .int (nI 1)), (0, .ref 42)]) rfl rfl (Nat.le_of_ble_eq_true rfl) rfl ?_
  refine r_lv (lv' := [(2, .int (nI 0)), (0, .ref 42), (1, .int (nI 1))]) [0, 2, 1] rfl ?_
  have loop : ∀ (m9 : Nat) (i : Nat) , 12 - i < m9 → (i ≤ 12) → Ws z sc mX3_findWeights 0 0 0 0 4 [(2, .int (nI i)), (0, .ref 42), (1, .int (nI (ml d i)))] [] (mz σ [] []) (RV fun σ' => ∃ f, σ' = mz σ [(45, f)] [] ∧ ∀ i, i < 12 → f i = nI (wt d i)) := by
    intro m9
    induction m9 with
    | zero => intro i  hme; exact absurd hme (Nat.not_lt_zero _)
    | succ m9 ih =>
      intro i  hme hi
      have hdc := dc_le hV i
      have hml := ml_le hV i
      refine r_iload_n rfl rfl ?_
      refine n_bipush 12 rfl (by decide) ?_
      refine n_icmp_ge (tgt := 38) rfl rfl (by omega) (by omega) (fun h1 => ?_) (fun h1 => ?_)
      · rw [show i = 12 by omega]
        refine n_iconst 0 rfl ?_
        refine r_istore_n (lv' := [(2, .int (nI 0)), (0, .ref 42), (1, .int (nI (ml d 12)))]) rfl rfl (Nat.le_of_ble_eq_true rfl) rfl ?_
        refine r_lv (lv' := [(2, .int (nI 0)), (0, .ref 42), (1, .int (nI (ml d 12)))]) [0, 1, 2] rfl ?_
        refine m_newI (L' := [(45, (σ.1 45))]) 45 rfl ?_
        have loop2 : ∀ (m9_2 : Nat) (k : Nat) (f : Nat → Int32), 12 - k < m9_2 → (k ≤ 12) → (∀ j, j < k → f j = nI (wt d j)) → Ws z sc mX3_findWeights 0 0 0 0 40 [(2, .int (nI k)), (0, .ref 42), (1, .int (nI (ml d 12)))] [] (mz σ [(45, f)] []) (RV fun σ' => ∃ f, σ' = mz σ [(45, f)] [] ∧ ∀ i, i < 12 → f i = nI (wt d i)) := by
          intro m9_2
          induction m9_2 with
          | zero => intro k f hme; exact absurd hme (Nat.not_lt_zero _)
          | succ m9_2 ih2 =>
            intro k f hme hk hf
            have hdc2 := dc_le hV k
            have hml2 := ml_le hV 12
            refine r_iload_n rfl rfl ?_
            refine n_bipush 12 rfl (by decide) ?_
            refine n_icmp_ge (tgt := 100) rfl rfl (by omega) (by omega) (fun h2 => ?_) (fun h2 => ?_)
            · exact s_vret (st := []) rfl rfl (Nat.zero_le _) (Nat.zero_le _) (⟨rfl, f, rfl, fun j hj => hf j (by omega)⟩)
            · refine r_aload_n rfl rfl ?_
              refine s_getI (x := nI (mk (he d) 12)) rfl flX3_9 rfl rfl hH ?_
              refine r_iload_n rfl rfl ?_
              refine s_staNI [.int (nI (mk (he d) 12)), .int (nI k)] [] rfl lkX3_60 (c_hasBit hmk (by omega)) rfl rfl (Nat.le_refl _) (Nat.le_refl _) (rI (e1 := nI (tb (he d k))) (by rw [mk_bit, decide_eq_true (by omega : k < 12), Bool.true_and]) ?_)
              have hb := tb_le (he d k)
              suffices K : Ws z sc mX3_findWeights 0 0 0 0 71 [(2, .int (nI k)), (0, .ref 42), (1, .int (nI (ml d 12)))] [.int (nI (tb (he d k)))] (mz σ [(45, f)] []) (RV fun σ' => ∃ f, σ' = mz σ [(45, f)] [] ∧ ∀ i, i < 12 → f i = nI (wt d i)) by
                refine n_if_eq (tgt := 70) rfl rfl (by omega) (fun h3 => ?_) (fun h3 => ?_)
                · refine n_iconst 0 rfl ?_
                  exact r_top (by rw [tb_z h3]; rfl) K
                · have hL := he_L hV (tb_ne h3)
                  have hdp : 0 < dc d k := by rw [hL.2.2]; exact hL.2.1
                  refine r_aload_n rfl rfl ?_
                  refine s_getR (r := 44) rfl flX3_22 rfl rfl ?_
                  refine r_iload_n rfl rfl ?_
                  refine s_iald (x := nI (dc d k)) rfl rfl (by omega) (hD _ (by omega)) ?_
                  refine n_if_le (tgt := 70) rfl rfl (by omega) (fun hq => absurd hq (by omega)) (fun _ => ?_)
                  refine n_iconst 1 rfl ?_
                  refine r_goto (tgt := 71) rfl rfl ?_
                  exact r_top (by rw [tb_ne h3]; rfl) K
              refine r_istore_n (lv' := [(3, .int (nI (tb (he d k)))), (2, .int (nI k)), (0, .ref 42), (1, .int (nI (ml d 12)))]) rfl rfl (Nat.le_of_ble_eq_true rfl) rfl ?_
              refine r_aload_n rfl rfl ?_
              refine s_getR (r := 45) rfl flX3_25 rfl rfl ?_
              refine r_iload_n rfl rfl ?_
              refine r_iload_n rfl rfl ?_
              suffices K : Ws z sc mX3_findWeights 0 0 0 0 93 [(3, .int (nI (tb (he d k)))), (2, .int (nI k)), (0, .ref 42), (1, .int (nI (ml d 12)))] [.int (nI (wt d k)), .int (nI k), .ref 45] (mz σ [(45, f)] []) (RV fun σ' => ∃ f, σ' = mz σ [(45, f)] [] ∧ ∀ i, i < 12 → f i = nI (wt d i)) by
                refine n_if_eq (tgt := 92) rfl rfl (by omega) (fun h4 => ?_) (fun h4 => ?_)
                · refine n_iconst 0 rfl ?_
                  exact r_top (by unfold wt; rw [if_neg (by rw [tb_z h4]; decide)]) K
                · have hL := he_L hV (tb_ne h4)
                  have hdp : 0 < dc d k := by rw [hL.2.2]; exact hL.2.1
                  refine r_iload_n rfl rfl ?_
                  refine r_aload_n rfl rfl ?_
                  refine s_getR (r := 44) rfl flX3_22 rfl rfl ?_
                  refine r_iload_n rfl rfl ?_
                  refine s_iald (x := nI (dc d k)) rfl rfl (by omega) (hD _ (by omega)) ?_
                  refine n_idiv rfl (by omega) (by omega) (by omega) ?_
                  refine r_goto (tgt := 93) rfl rfl ?_
                  exact r_top (by unfold wt; rw [if_pos (tb_ne h4), hL.2.2, ml_12 hC.1]) K
              refine m_iast (L' := [(45, (aup f k (nI (wt d k))))]) rfl rfl (by omega) rfl ?_
              refine n_iinc (lv' := [(2, .int (nI (k + 1))), (3, .int (nI (tb (he d k)))), (0, .ref 42), (1, .int (nI (ml d 12)))]) 1 rfl rfl (Nat.le_of_ble_eq_true rfl) rfl ?_
              refine r_goto (tgt := 40) rfl rfl ?_
              refine r_lv (lv' := [(2, .int (nI (k + 1))), (0, .ref 42), (1, .int (nI (ml d 12)))]) [0, 2, 3] rfl ?_
              exact ih2 (k + 1) _ (by omega) (by omega) (aup_lt hf rfl)
        exact loop2 13 0 (σ.1 45) (by omega) (by omega) (fun j hj => absurd hj (Nat.not_lt_zero _))
      · refine r_aload_n rfl rfl ?_
        refine s_getI (x := nI (mk (he d) 12)) rfl flX3_9 rfl rfl hH ?_
        refine r_iload_n rfl rfl ?_
        refine s_staNI [.int (nI (mk (he d) 12)), .int (nI i)] [] rfl lkX3_60 (c_hasBit hmk (by omega)) rfl rfl (Nat.le_refl _) (Nat.le_refl _) (rI (e1 := nI (tb (he d i))) (by rw [mk_bit, decide_eq_true (by omega : i < 12), Bool.true_and]) ?_)
        have hb := tb_le (he d i)
        refine n_if_eq (tgt := 32) rfl rfl (by omega) (fun h3 => ?_) (fun h3 => ?_)
        · have e : ml d (i + 1) = ml d i := if_neg (by rw [tb_z h3]; decide)
          rw [← e]
          refine n_iinc (lv' := [(2, .int (nI (i + 1))), (0, .ref 42), (1, .int (nI (ml d (i + 1))))]) 1 rfl rfl (Nat.le_of_ble_eq_true rfl) rfl ?_
          refine r_goto (tgt := 4) rfl rfl ?_
          refine r_lv (lv' := [(2, .int (nI (i + 1))), (0, .ref 42), (1, .int (nI (ml d (i + 1))))]) [0, 1, 2] rfl ?_
          exact ih (i + 1) (by omega) (by omega)
        · have hL := he_L hV (tb_ne h3)
          refine r_iload_n rfl rfl ?_
          refine r_aload_n rfl rfl ?_
          refine s_getR (r := 44) rfl flX3_22 rfl rfl ?_
          refine r_iload_n rfl rfl ?_
          refine s_iald (x := nI (dc d i)) rfl rfl (by omega) (hD _ (by omega)) ?_
          refine s_staNI [.int (nI (ml d i)), .int (nI (dc d i))] [] rfl lkX3_64 (c_lcm (by omega) (by omega)) rfl rfl (Nat.le_refl _) (Nat.le_refl _) (rI (e1 := nI (ml d (i + 1))) (by show _ = nI (if he d i = true then _ else _); rw [if_pos (tb_ne h3), hL.2.2]) ?_)
          refine r_istore_n (lv' := [(1, .int (nI (ml d (i + 1)))), (2, .int (nI i)), (0, .ref 42)]) rfl rfl (Nat.le_of_ble_eq_true rfl) rfl ?_
          refine n_iinc (lv' := [(2, .int (nI (i + 1))), (1, .int (nI (ml d (i + 1)))), (0, .ref 42)]) 1 rfl rfl (Nat.le_of_ble_eq_true rfl) rfl ?_
          refine r_goto (tgt := 4) rfl rfl ?_
          refine r_lv (lv' := [(2, .int (nI (i + 1))), (0, .ref 42), (1, .int (nI (ml d (i + 1))))]) [0, 2, 1] rfl ?_
          exact ih (i + 1) (by omega) (by omega)
  exact loop 13 0 (by omega) (by omega)

