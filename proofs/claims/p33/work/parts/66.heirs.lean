/-! The law's comparisons: heirs and steps. -/
theorem mk_hi {b : Nat → Bool} {n m : Nat} (h : n ≤ m) (hz : ∀ i, n ≤ i → i < m → b i = false) : mk b m = mk b n := by
  induction m with
  | zero => rw [Nat.le_zero.mp h]
  | succ m ih =>
    by_cases e : n = m + 1
    · rw [e]
    · rw [mk_f (hz m (by omega) (Nat.lt_succ_self m))]
      exact ih (by omega) (fun i h1 h2 => hz i h1 (by omega))
theorem he_hi {d : D} {p : Nat} (h : d 0 0 ≤ p) : he d p = false := by
  cases q : he d p
  · rfl
  · exact absurd (he_lt q) (by omega)
theorem ou_he {d : D} (hd : Vd d) {p : Nat} (h : ou d p = true) : he d p = true := by
  unfold ou at h
  rw [Bool.and_eq_true] at h
  exact (wt_pos hd).mp (of_decide_eq_true h.1)
theorem mk_he {d : D} (hd : Vd d) : mk (he d) 12 = mk (sB d (gf d) false) (d 0 0) := by
  rw [mk_hi (vC hd).1 (fun i h _ => he_hi h)]
  exact mk_cg (fun i _ => by unfold sB; cases he d i <;> rfl)
theorem mk_ou {d : D} (hd : Vd d) : mk (ou d) 12 = mk (sB d (gf d) true) (d 0 0) := by
  rw [mk_hi (vC hd).1 (fun i h _ => by
    cases q : ou d i
    · rfl
    · exact absurd (he_lt (ou_he hd q)) (by omega))]
  refine mk_cg (fun i _ => ?_)
  unfold sB
  have e9 : ouG d (gf d) i = ou d i := rfl
  rw [e9]
  cases q : ou d i
  · cases he d i <;> rfl
  · rw [ou_he hd q]; rfl
theorem stw_t {d : D} {p k : Nat} (h : he d p = true) : stw d p k = stv d p k := if_pos h
theorem stw_f {d : D} {p k : Nat} (h : he d p = false) : stw d p k = -1 := if_neg (by rw [h]; decide)
theorem stw_o {d : D} {p k : Nat} (h : (he d p && !(ou d p)) = false) (hk : k = 3 ∨ k = 4 ∨ k = 5) : stw d p k = -1 := by
  cases q : he d p
  · exact stw_f q
  · rw [stw_t q]
    rw [q] at h
    have ho : ou d p = true := by
      cases z : ou d p
      · rw [z] at h; cases h
      · rfl
    rcases hk with rfl | rfl | rfl <;> exact if_pos ho
theorem stw_i {d : D} {p : Nat} (h : (he d p && !(ou d p)) = true) : stw d p 3 = nI (poG d (gf d)) ∧ stw d p 4 = nI (due9 d (gf d) p) ∧ stw d p 5 = nI (tb (cen9 d (gf d) p)) := by
  rw [Bool.and_eq_true] at h
  have ho : ¬ ou d p = true := by
    intro z
    rw [z] at h
    cases h.2
  rw [stw_t h.1, stw_t h.1, stw_t h.1]
  exact ⟨if_neg ho, if_neg ho, if_neg ho⟩
theorem stw_1 {d : D} {p : Nat} (h : he d p = true) : nI (wt d p) = stw d p 1 ∧ nI (gf d p) = stw d p 2 ∧ sv d p = stw d p 6 := by
  rw [stw_t h, stw_t h, stw_t h]
  exact ⟨rfl, rfl, rfl⟩
theorem tb_0 {c : Bool} (h : tb c = 0) : c = false := by
  cases c
  · rfl
  · cases h
theorem tb_1 {c : Bool} (h : tb c ≠ 0) : c = true := by
  cases c
  · exact absurd rfl h
  · rfl
set_option maxRecDepth 100000 in
theorem l_heirs {sc : SC} {S : AS} {X : Nat → Prop} {e : Nat} {d : D} {a : AB} {σ : SS} (hd : Vd d) (hA : AV a) (hI : CI9 σ a) (hda : aD a = d) (hCL : CL S σ) (hx : S.2.2 = true) (hE : ES X S e d (gf d)) (hR0 : eOld X S e d) (hR1 : eNew X S e d (gf d)) : Cal sc mL_heirs 12 84 [.ref 0, .ref e] S (AR fun v S' => v = .int (nI 1) ∧ Fr S S' Xno) := by
  refine Cal.of gmL_heirs (Nat.le_of_ble_eq_true rfl) ?_
  have hE9 := hE
  obtain ⟨V, qa, qd, qg, ql, hi, ⟨hV, ⟨v0, v1, v2, v3, v4, v5⟩, ⟨v6, v7, v8, v9⟩, ⟨v10, v11, v12, v13⟩⟩, ⟨f1, f2, f3, f4, ⟨hf1, k1⟩, ⟨hf2, k2⟩, ⟨hf3, k3⟩, ⟨hf4, k4⟩⟩, ⟨b1, b2, -, -⟩, b3, hEA, hED, hEG, hEL⟩ := hE9
  have hVA := vA hd
  have hVC := vC hd
  have h54 := hCL.1
  have hpo := po_b (G := gf d) hd hE.G
  show Wp sc mL_heirs 12 84 0 0 0 [(0, .ref 0), (1, .ref e)] [] S (AR fun v S' => v = .int (nI 1) ∧ Fr S S' Xno)
  have hmh := mk_he hd
  have hmo := mk_ou hd
  have hm1 := mk_lt12 (he d) (Nat.le_refl 12)
  have hm2 := mk_lt12 (ou d) (Nat.le_refl 12)
  refine r_aload_n rfl rfl ?_
  have hq1 := c_heirs (z := zf) (sc := sc) hA hI
  rw [hda] at hq1
  refine r_qry [] [] rfl lkL_213 rfl hq1 rfl rfl (by omega) (by omega) rfl hCL ?_
  refine r_aload_n rfl rfl ?_
  refine n_iconst 0 rfl ?_
  have hs1 := e_set (sc := sc) (S := S) hd hE hR0 hR1 (c := false)
  rw [← hmh] at hs1
  refine c_virA [.int (nI 0)] [.int (nI (mk (he d) 12))] rfl lkL_215 (by omega) hV rfl rfl hs1 rfl rfl (by omega) (by omega) rfl ?_
  rintro _ _ ⟨rfl, rfl⟩
  refine n_icmp_ne (tgt := 24) rfl rfl (by omega) (by omega) (fun hq => absurd hq (fun z => z rfl)) (fun _ => ?_)
  refine r_aload_n rfl rfl ?_
  have hq2 := c_leftOut (z := zf) (sc := sc) hA hI
  rw [hda] at hq2
  refine r_qry [] [] rfl lkL_219 rfl hq2 rfl rfl (by omega) (by omega) rfl hCL ?_
  refine r_aload_n rfl rfl ?_
  refine n_iconst 1 rfl ?_
  have hs2 := e_set (sc := sc) (S := S) hd hE hR0 hR1 (c := true)
  rw [← hmo] at hs2
  refine c_virA [.int (nI 1)] [.int (nI (mk (ou d) 12))] rfl lkL_215 (by omega) hV rfl rfl hs2 rfl rfl (by omega) (by omega) rfl ?_
  rintro _ _ ⟨rfl, rfl⟩
  refine n_icmp_eq (tgt := 26) rfl rfl (by omega) (by omega) (fun _ => ?_) (fun hq => absurd rfl hq)
  refine n_iconst 0 rfl ?_
  refine r_istore_n (lv' := [(2, .int (nI 0)), (0, .ref 0), (1, .ref e)]) rfl rfl (Nat.le_of_ble_eq_true rfl) rfl ?_
  refine r_lv (lv' := [(2, .int (nI 0)), (0, .ref 0), (1, .ref e)]) [0, 1, 2] rfl ?_
  have loopP : ∀ (m9 : Nat) (p : Nat) (Sa : AS) (k9 n9 : Nat) , d 0 0 - p < m9 → (Sa.2.2 = true) → (p ≤ d 0 0) → (k9 + (d 0 0 - p) ≤ 12) → (n9 + 7 * (d 0 0 - p) ≤ 84) → (Fr S Sa Xno) → Wp sc mL_heirs 12 84 k9 n9 28 [(2, .int (nI p)), (0, .ref 0), (1, .ref e)] [] Sa (AR fun v S' => v = .int (nI 1) ∧ Fr S S' Xno) := by
    intro m9
    induction m9 with
    | zero => intro p Sa k9 n9 hme; exact absurd hme (Nat.not_lt_zero _)
    | succ m9 ih =>
      intro p Sa k9 n9 hme hxSa hp hb1 hb2 hF7
      have hz7 := hF7.1
      have hE7 : ES X Sa e d (gf d) := hE.keep hF7 (fun _ z => z.elim)
      have hR07 : eOld X Sa e d := hR0.keep hF7 hE (fun _ z => z.elim)
      have hR17 : eNew X Sa e d (gf d) := hR1.keep hF7 hE (fun _ z => z.elim)
      have hCL7 : CL Sa σ := hCL.of hz7 (fun i hi => hF7.2.2 i (by omega) (fun z => z))
      have hE9 := hE7
      obtain ⟨V, qa, qd, qg, ql, hi, ⟨hV, ⟨v0, v1, v2, v3, v4, v5⟩, ⟨v6, v7, v8, v9⟩, ⟨v10, v11, v12, v13⟩⟩, ⟨f1, f2, f3, f4, ⟨hf1, k1⟩, ⟨hf2, k2⟩, ⟨hf3, k3⟩, ⟨hf4, k4⟩⟩, ⟨b1, b2, -, -⟩, b3, hEA, hED, hEG, hEL⟩ := hE9
      have hVA := vA hd
      have hVC := vC hd
      obtain ⟨q14, q15, q16, ⟨u14, u15, u16⟩, ⟨u22, u23, u24⟩, ⟨g14, r14, ⟨p14, l14, x14⟩, t14⟩, ⟨g15, r15, ⟨p15, l15, x15⟩, t15⟩, ⟨g16, r16, ⟨p16, l16, x16⟩, t16⟩⟩ := hR07 V hV
      obtain ⟨q17, q18, q19, q20, q21, ⟨u17, u18, u19, u20, u21⟩, ⟨u25, u26, u27, u28, u29, u30⟩, ⟨g17, r17, ⟨p17, l17, x17⟩, t17⟩, ⟨g18, r18, ⟨p18, l18, x18⟩, t18⟩, ⟨g19, r19, ⟨p19, l19, x19⟩, t19⟩, ⟨g20, r20, ⟨p20, l20, x20⟩, t20⟩, ⟨g21, r21, ⟨p21, l21, x21⟩, t21⟩⟩ := hR17 V hV
      refine r_iload_n rfl rfl ?_
      refine r_aload_n rfl rfl ?_
      refine r_getfN (v := .int (nI (d 0 0))) rfl flL_52.f (by omega) hV v0 ?_
      refine n_icmp_ge (tgt := 302) rfl rfl (by omega) (by omega) (fun h9 => ?_) (fun h9 => ?_)
      · refine n_iconst 1 rfl ?_
        exact r_ret rfl rfl rfl (by omega) (by omega) (⟨_, rfl, rfl, hF7⟩)
      · have h9 : p < d 0 0 := by omega
        have hgf := gf_le hd p
        have hdb := dvh_le hd p
        have hq9 : p < aD a 0 0 := by rw [hda]; exact h9
        have hpq := vQ hd p h9
        refine r_aload_n rfl rfl ?_
        refine r_iload_n rfl rfl ?_
        have hq3 := c_isEmpty (z := zf) (sc := sc) hA hI hq9
        rw [hda] at hq3
        refine r_qry [.int (nI p)] [] rfl lkL_222 rfl hq3 rfl rfl (by omega) (by omega) rfl hCL7 ?_
        refine r_aload_n rfl rfl ?_
        refine r_iload_n rfl rfl ?_
        refine c_virNA [.int (nI p)] [.int (nI (tb (!(isL d p))))] rfl (lkL_225 12) (by omega) hV rfl rfl (e_empty (S := Sa) hd hE7 h9) rfl rfl (by omega) (by omega) ?_
        rintro _ _ ⟨rfl, rfl⟩
        refine n_icmp_ne (tgt := 91) rfl rfl (tb_B _) (tb_B _) (fun hq => absurd hq (fun z => z rfl)) (fun _ => ?_)
        refine r_aload_n rfl rfl ?_
        refine r_iload_n rfl rfl ?_
        have hq4 := c_given (z := zf) (sc := sc) hA hI hq9
        rw [hda] at hq4
        refine r_qry [.int (nI p)] [] rfl lkL_226 rfl hq4 rfl rfl (by omega) (by omega) rfl hCL7 ?_
        refine r_aload_n rfl rfl ?_
        refine r_iload_n rfl rfl ?_
        refine c_virA [.int (nI p)] [.int (gv d p)] rfl lkL_229 (by omega) hV rfl rfl (e_given (S := Sa) hd hE7 hR07 hR17 h9) rfl rfl (by omega) (by omega) rfl ?_
        rintro _ _ ⟨rfl, rfl⟩
        refine r_icmp_ne (tgt := 91) rfl rfl (fun hq => absurd hq (fun z => z rfl)) (fun _ => ?_)
        refine r_aload_n rfl rfl ?_
        refine r_iload_n rfl rfl ?_
        refine n_iconst 0 rfl ?_
        have hq5 := c_person (z := zf) (sc := sc) hA hI hq9 (k := 0) (by decide)
        rw [hda] at hq5
        refine r_qry [.int (nI p), .int (nI 0)] [] rfl lkL_230 rfl hq5 rfl rfl (by omega) (by omega) rfl hCL7 ?_
        refine r_top (y := oI (d 1 p)) rfl ?_
        refine r_aload_n rfl rfl ?_
        refine r_getfN (v := .ref ((e + 1))) rfl flL_58 (by omega) hV v6 ?_
        refine r_iload_n rfl rfl ?_
        refine r_iald rfl (by omega) hf1 (by omega) (by decide) ?_
        refine r_top (y := oI (d 1 p)) (k1 p h9) ?_
        refine r_icmp_ne (tgt := 91) rfl rfl (fun hq => absurd hq (fun z => z rfl)) (fun _ => ?_)
        refine r_aload_n rfl rfl ?_
        refine r_iload_n rfl rfl ?_
        refine n_iconst 5 rfl ?_
        have hq6 := c_person (z := zf) (sc := sc) hA hI hq9 (k := 5) (by decide)
        rw [hda] at hq6
        refine r_qry [.int (nI p), .int (nI 5)] [] rfl lkL_230 rfl hq6 rfl rfl (by omega) (by omega) rfl hCL7 ?_
        refine r_top (y := nI (gf d p)) rfl ?_
        refine r_aload_n rfl rfl ?_
        refine r_iload_n rfl rfl ?_
        refine c_virA [.int (nI p)] [.int (nI (gf d p))] rfl lkL_233 (by omega) hV rfl rfl (e_gift (S := Sa) hd hE7 (by omega)) rfl rfl (by omega) (by omega) rfl ?_
        rintro _ _ ⟨rfl, rfl⟩
        refine n_icmp_eq (tgt := 93) rfl rfl (by omega) (by omega) (fun _ => ?_) (fun hq => absurd rfl hq)
        refine r_aload_n rfl rfl ?_
        refine r_getfN (v := .ref q16) rfl flL_235.f (by omega) hV u16 ?_
        refine r_iload_n rfl rfl ?_
        refine r_iald rfl (by omega) r16 (by omega) (by omega) ?_
        refine r_top (y := nI (dvh d p)) (t16 p h9) ?_
        suffices K : Wp sc mL_heirs 12 84 k9 n9 107 [(2, .int (nI p)), (0, .ref 0), (1, .ref e)] [.int (nI (tb (he d p)))] Sa (AR fun v S' => v = .int (nI 1) ∧ Fr S S' Xno) by
          refine n_if_le (tgt := 106) rfl rfl (by omega) (fun h8 => ?_) (fun h8 => ?_)
          · have hh := dvh_0.mp h8
            refine n_iconst 0 rfl ?_
            exact r_top (y := nI (tb (he d p))) (by rw [hh]; rfl) K
          · have hh : he d p = true := by
              cases q : he d p
              · exact absurd (dvh_0.mpr q) (by omega)
              · rfl
            refine n_iconst 1 rfl ?_
            refine r_goto (tgt := 107) rfl rfl ?_
            exact r_top (y := nI (tb (he d p))) (by rw [hh]; rfl) K
        refine r_istore_n (lv' := [(3, .int (nI (tb (he d p)))), (2, .int (nI p)), (0, .ref 0), (1, .ref e)]) rfl rfl (Nat.le_of_ble_eq_true rfl) rfl ?_
        refine r_iload_n rfl rfl ?_
        suffices K : Wp sc mL_heirs 12 84 k9 n9 126 [(3, .int (nI (tb (he d p)))), (2, .int (nI p)), (0, .ref 0), (1, .ref e)] [.int (nI (tb (he d p && !(ou d p))))] Sa (AR fun v S' => v = .int (nI 1) ∧ Fr S S' Xno) by
          refine n_if_eq (tgt := 125) rfl rfl (tb_B _) (fun h8 => ?_) (fun h8 => ?_)
          · have hh := tb_0 h8
            refine n_iconst 0 rfl ?_
            exact r_top (y := nI (tb (he d p && !(ou d p)))) (by rw [hh]; rfl) K
          · have hh := tb_1 h8
            refine r_aload_n rfl rfl ?_
            refine r_getfN (v := .ref q20) rfl flL_238.f (by omega) hV u20 ?_
            refine r_iload_n rfl rfl ?_
            refine r_zald rfl (by omega) r20 (by omega) (by omega) ?_
            refine r_top (y := nI (tb (ou d p))) (t20 p h9) ?_
            refine n_if_ne (tgt := 125) rfl rfl (tb_B _) (fun h7 => ?_) (fun h7 => ?_)
            · have ho := tb_1 h7
              refine n_iconst 0 rfl ?_
              exact r_top (y := nI (tb (he d p && !(ou d p)))) (by rw [hh, ho]; rfl) K
            · have ho := tb_0 h7
              refine n_iconst 1 rfl ?_
              refine r_goto (tgt := 126) rfl rfl ?_
              exact r_top (y := nI (tb (he d p && !(ou d p)))) (by rw [hh, ho]; rfl) K
        refine r_istore (lv' := [(4, .int (nI (tb (he d p && !(ou d p))))), (3, .int (nI (tb (he d p)))), (2, .int (nI p)), (0, .ref 0), (1, .ref e)]) rfl (Nat.le_of_ble_eq_true rfl) rfl ?_
        refine n_bipush 7 rfl (by decide) ?_
        refine t_newa0 rfl hxSa (by decide) (by omega) (by omega) ?_
        intro S7 w8
        have z9 := w8.1
        refine r_dup rfl rfl ?_
        refine n_iconst 0 rfl ?_
        refine r_iload_n rfl rfl ?_
        suffices K : Wp sc mL_heirs 12 84 (k9 + 1) (n9 + 7) 148 [(4, .int (nI (tb (he d p && !(ou d p))))), (3, .int (nI (tb (he d p)))), (2, .int (nI p)), (0, .ref 0), (1, .ref e)] [.int (stw d p 0), .int (nI 0), .ref Sa.2.1, .ref Sa.2.1] S7 (AR fun v S' => v = .int (nI 1) ∧ Fr S S' Xno) by
          refine n_if_eq (tgt := 147) rfl rfl (tb_B _) (fun h8 => ?_) (fun h8 => ?_)
          · have hh := tb_0 h8
            refine n_m1 rfl ?_
            exact r_top (y := stw d p 0) ((stw_f hh).symm) K
          · have hh := tb_1 h8
            refine r_aload_n rfl rfl ?_
            have hp10 : S7.1 e = oO 10 V := ((w8.2.2.2 e (by omega)).trans hV)
            refine r_getfN (v := .ref q16) rfl flL_235.f (by omega) hp10 u16 ?_
            refine r_iload_n rfl rfl ?_
            have hp11 : S7.1 q16 = oI0 0 (d 0 0) g16 := ((w8.2.2.2 q16 (by omega)).trans r16)
            refine r_iald rfl (by omega) hp11 (by omega) (by omega) ?_
            refine r_top (y := nI (dvh d p)) (t16 p h9) ?_
            refine r_goto (tgt := 148) rfl rfl ?_
            exact r_top (y := stw d p 0) (by rw [stw_t hh]; show nI (dvh d p) = nI (dv d p); rw [dvh_t hh]) K
        refine t_iast rfl w8.2.1 (by omega) w8.2.2.1 (by decide) (by decide) ?_
        intro S12 w13
        have z14 := w13.1
        refine r_dup rfl rfl ?_
        refine n_iconst 1 rfl ?_
        refine r_iload_n rfl rfl ?_
        suffices K : Wp sc mL_heirs 12 84 (k9 + 1) (n9 + 7) 165 [(4, .int (nI (tb (he d p && !(ou d p))))), (3, .int (nI (tb (he d p)))), (2, .int (nI p)), (0, .ref 0), (1, .ref e)] [.int (stw d p 1), .int (nI 1), .ref Sa.2.1, .ref Sa.2.1] S12 (AR fun v S' => v = .int (nI 1) ∧ Fr S S' Xno) by
          refine n_if_eq (tgt := 164) rfl rfl (tb_B _) (fun h8 => ?_) (fun h8 => ?_)
          · have hh := tb_0 h8
            refine n_m1 rfl ?_
            exact r_top (y := stw d p 1) ((stw_f hh).symm) K
          · have hh := tb_1 h8
            refine r_aload_n rfl rfl ?_
            have hp15 : S12.1 e = oO 10 V := ((w13.2.2.2 e (by omega)).trans ((w8.2.2.2 e (by omega)).trans hV))
            refine r_getfN (v := .ref q18) rfl flL_241.f (by omega) hp15 u18 ?_
            refine r_iload_n rfl rfl ?_
            have hp16 : S12.1 q18 = oI0 0 (d 0 0) g18 := ((w13.2.2.2 q18 (by omega)).trans ((w8.2.2.2 q18 (by omega)).trans r18))
            refine r_iald rfl (by omega) hp16 (by omega) (by omega) ?_
            refine r_top (y := nI (wt d p)) (t18 p h9) ?_
            refine r_goto (tgt := 165) rfl rfl ?_
            exact r_top (y := stw d p 1) ((stw_1 hh).1) K
        refine t_iast rfl w13.2.1 (by omega) w13.2.2.1 (by decide) (by decide) ?_
        intro S17 w18
        have z19 := w18.1
        refine r_dup rfl rfl ?_
        refine n_iconst 2 rfl ?_
        refine r_iload_n rfl rfl ?_
        suffices K : Wp sc mL_heirs 12 84 (k9 + 1) (n9 + 7) 181 [(4, .int (nI (tb (he d p && !(ou d p))))), (3, .int (nI (tb (he d p)))), (2, .int (nI p)), (0, .ref 0), (1, .ref e)] [.int (stw d p 2), .int (nI 2), .ref Sa.2.1, .ref Sa.2.1] S17 (AR fun v S' => v = .int (nI 1) ∧ Fr S S' Xno) by
          refine n_if_eq (tgt := 180) rfl rfl (tb_B _) (fun h8 => ?_) (fun h8 => ?_)
          · have hh := tb_0 h8
            refine n_m1 rfl ?_
            exact r_top (y := stw d p 2) ((stw_f hh).symm) K
          · have hh := tb_1 h8
            refine r_aload_n rfl rfl ?_
            refine r_iload_n rfl rfl ?_
            have hE9 : ES X S17 e d (gf d) := hE7.keep (P := Xno) ⟨by omega, w18.2.1, fun i hi _ => ((w18.2.2.2 i (by omega)).trans ((w13.2.2.2 i (by omega)).trans ((w8.2.2.2 i (by omega)).trans rfl)))⟩ (fun _ z => z.elim)
            have hp20 : S17.1 e = oO 10 V := ((w18.2.2.2 e (by omega)).trans ((w13.2.2.2 e (by omega)).trans ((w8.2.2.2 e (by omega)).trans hV)))
            refine c_virA [.int (nI p)] [.int (nI 2), .ref Sa.2.1, .ref Sa.2.1] rfl lkL_233 (by omega) hp20 rfl rfl (e_gift (S := S17) hd hE9 (by omega)) rfl rfl (by omega) (by omega) rfl ?_
            rintro _ _ ⟨rfl, rfl⟩
            refine r_goto (tgt := 181) rfl rfl ?_
            exact r_top (y := stw d p 2) ((stw_1 hh).2.1) K
        refine t_iast rfl w18.2.1 (by omega) w18.2.2.1 (by decide) (by decide) ?_
        intro S21 w22
        have z23 := w22.1
        refine r_dup rfl rfl ?_
        refine n_iconst 3 rfl ?_
        refine r_iload rfl rfl ?_
        suffices K : Wp sc mL_heirs 12 84 (k9 + 1) (n9 + 7) 198 [(4, .int (nI (tb (he d p && !(ou d p))))), (3, .int (nI (tb (he d p)))), (2, .int (nI p)), (0, .ref 0), (1, .ref e)] [.int (stw d p 3), .int (nI 3), .ref Sa.2.1, .ref Sa.2.1] S21 (AR fun v S' => v = .int (nI 1) ∧ Fr S S' Xno) by
          refine n_if_eq (tgt := 197) rfl rfl (tb_B _) (fun h8 => ?_) (fun h8 => ?_)
          · have hh := tb_0 h8
            refine n_m1 rfl ?_
            exact r_top (y := stw d p 3) ((stw_o hh (by decide)).symm) K
          · have hh := tb_1 h8
            refine r_aload_n rfl rfl ?_
            have hp24 : S21.1 e = oO 10 V := ((w22.2.2.2 e (by omega)).trans ((w18.2.2.2 e (by omega)).trans ((w13.2.2.2 e (by omega)).trans ((w8.2.2.2 e (by omega)).trans hV))))
            refine r_getfN (v := .long (lN (poG d (gf d)))) rfl flL_244.f (by omega) hp24 u30 ?_
            refine n_l2i rfl ?_
            refine r_goto (tgt := 198) rfl rfl ?_
            exact r_top (y := stw d p 3) ((stw_i hh).1.symm) K
        refine t_iast rfl w22.2.1 (by omega) w22.2.2.1 (by decide) (by decide) ?_
        intro S25 w26
        have z27 := w26.1
        refine r_dup rfl rfl ?_
        refine n_iconst 4 rfl ?_
        refine r_iload rfl rfl ?_
        suffices K : Wp sc mL_heirs 12 84 (k9 + 1) (n9 + 7) 216 [(4, .int (nI (tb (he d p && !(ou d p))))), (3, .int (nI (tb (he d p)))), (2, .int (nI p)), (0, .ref 0), (1, .ref e)] [.int (stw d p 4), .int (nI 4), .ref Sa.2.1, .ref Sa.2.1] S25 (AR fun v S' => v = .int (nI 1) ∧ Fr S S' Xno) by
          refine n_if_eq (tgt := 215) rfl rfl (tb_B _) (fun h8 => ?_) (fun h8 => ?_)
          · have hh := tb_0 h8
            refine n_m1 rfl ?_
            exact r_top (y := stw d p 4) ((stw_o hh (by decide)).symm) K
          · have hh := tb_1 h8
            refine r_aload_n rfl rfl ?_
            have hp28 : S25.1 e = oO 10 V := ((w26.2.2.2 e (by omega)).trans ((w22.2.2.2 e (by omega)).trans ((w18.2.2.2 e (by omega)).trans ((w13.2.2.2 e (by omega)).trans ((w8.2.2.2 e (by omega)).trans hV)))))
            refine r_getfN (v := .ref q19) rfl flL_247.f (by omega) hp28 u19 ?_
            refine r_iload_n rfl rfl ?_
            have hp29 : S25.1 q19 = oI0 0 (d 0 0) g19 := ((w26.2.2.2 q19 (by omega)).trans ((w22.2.2.2 q19 (by omega)).trans ((w18.2.2.2 q19 (by omega)).trans ((w13.2.2.2 q19 (by omega)).trans ((w8.2.2.2 q19 (by omega)).trans r19)))))
            refine r_iald rfl (by omega) hp29 (by omega) (by omega) ?_
            refine r_top (y := nI (due9 d (gf d) p)) (t19 p h9) ?_
            refine r_goto (tgt := 216) rfl rfl ?_
            exact r_top (y := stw d p 4) ((stw_i hh).2.1.symm) K
        refine t_iast rfl w26.2.1 (by omega) w26.2.2.1 (by decide) (by decide) ?_
        intro S30 w31
        have z32 := w31.1
        refine r_dup rfl rfl ?_
        refine n_iconst 5 rfl ?_
        refine r_iload rfl rfl ?_
        suffices K : Wp sc mL_heirs 12 84 (k9 + 1) (n9 + 7) 242 [(4, .int (nI (tb (he d p && !(ou d p))))), (3, .int (nI (tb (he d p)))), (2, .int (nI p)), (0, .ref 0), (1, .ref e)] [.int (stw d p 5), .int (nI 5), .ref Sa.2.1, .ref Sa.2.1] S30 (AR fun v S' => v = .int (nI 1) ∧ Fr S S' Xno) by
          refine n_if_ne (tgt := 228) rfl rfl (tb_B _) (fun h8 => ?_) (fun h8 => ?_)
          · have hh := tb_1 h8
            refine r_aload_n rfl rfl ?_
            have hp33 : S30.1 e = oO 10 V := ((w31.2.2.2 e (by omega)).trans ((w26.2.2.2 e (by omega)).trans ((w22.2.2.2 e (by omega)).trans ((w18.2.2.2 e (by omega)).trans ((w13.2.2.2 e (by omega)).trans ((w8.2.2.2 e (by omega)).trans hV))))))
            refine r_getfN (v := .ref q21) rfl flL_250.f (by omega) hp33 u21 ?_
            refine r_iload_n rfl rfl ?_
            have hp34 : S30.1 q21 = oI0 2 (d 0 0) g21 := ((w31.2.2.2 q21 (by omega)).trans ((w26.2.2.2 q21 (by omega)).trans ((w22.2.2.2 q21 (by omega)).trans ((w18.2.2.2 q21 (by omega)).trans ((w13.2.2.2 q21 (by omega)).trans ((w8.2.2.2 q21 (by omega)).trans r21))))))
            refine r_zald rfl (by omega) hp34 (by omega) (by omega) ?_
            refine r_top (y := nI (tb (cen9 d (gf d) p))) (t21 p h9) ?_
            refine n_if_eq (tgt := 241) rfl rfl (tb_B _) (fun h7 => ?_) (fun h7 => ?_)
            · refine n_iconst 0 rfl ?_
              exact r_top (y := stw d p 5) (by rw [(stw_i hh).2.2, tb_0 h7]; rfl) K
            · refine n_iconst 1 rfl ?_
              refine r_goto (tgt := 242) rfl rfl ?_
              exact r_top (y := stw d p 5) (by rw [(stw_i hh).2.2, tb_1 h7]; rfl) K
          · have hh := tb_0 h8
            refine n_m1 rfl ?_
            refine r_goto (tgt := 242) rfl rfl ?_
            exact r_top (y := stw d p 5) ((stw_o hh (by decide)).symm) K
        refine t_iast rfl w31.2.1 (by omega) w31.2.2.1 (by decide) (by decide) ?_
        intro S35 w36
        have z37 := w36.1
        refine r_dup rfl rfl ?_
        refine n_bipush 6 rfl (by decide) ?_
        refine r_iload_n rfl rfl ?_
        suffices K : Wp sc mL_heirs 12 84 (k9 + 1) (n9 + 7) 260 [(4, .int (nI (tb (he d p && !(ou d p))))), (3, .int (nI (tb (he d p)))), (2, .int (nI p)), (0, .ref 0), (1, .ref e)] [.int (stw d p 6), .int (nI 6), .ref Sa.2.1, .ref Sa.2.1] S35 (AR fun v S' => v = .int (nI 1) ∧ Fr S S' Xno) by
          refine n_if_eq (tgt := 259) rfl rfl (tb_B _) (fun h8 => ?_) (fun h8 => ?_)
          · have hh := tb_0 h8
            refine n_m1 rfl ?_
            exact r_top (y := stw d p 6) ((stw_f hh).symm) K
          · have hh := tb_1 h8
            refine r_aload_n rfl rfl ?_
            have hp38 : S35.1 e = oO 10 V := ((w36.2.2.2 e (by omega)).trans ((w31.2.2.2 e (by omega)).trans ((w26.2.2.2 e (by omega)).trans ((w22.2.2.2 e (by omega)).trans ((w18.2.2.2 e (by omega)).trans ((w13.2.2.2 e (by omega)).trans ((w8.2.2.2 e (by omega)).trans hV)))))))
            refine r_getfN (v := .ref q17) rfl flL_253.f (by omega) hp38 u17 ?_
            refine r_iload_n rfl rfl ?_
            have hp39 : S35.1 q17 = oI0 0 (d 0 0) g17 := ((w36.2.2.2 q17 (by omega)).trans ((w31.2.2.2 q17 (by omega)).trans ((w26.2.2.2 q17 (by omega)).trans ((w22.2.2.2 q17 (by omega)).trans ((w18.2.2.2 q17 (by omega)).trans ((w13.2.2.2 q17 (by omega)).trans ((w8.2.2.2 q17 (by omega)).trans r17)))))))
            refine r_iald rfl (by omega) hp39 (by omega) (by omega) ?_
            refine r_top (y := sv d p) (t17 p h9) ?_
            refine r_goto (tgt := 260) rfl rfl ?_
            exact r_top (y := stw d p 6) ((stw_1 hh).2.2) K
        refine t_iast rfl w36.2.1 (by omega) w36.2.2.1 (by decide) (by decide) ?_
        intro S40 w41
        have z42 := w41.1
        refine r_astore (lv' := [(5, .ref Sa.2.1), (4, .int (nI (tb (he d p && !(ou d p))))), (3, .int (nI (tb (he d p)))), (2, .int (nI p)), (0, .ref 0), (1, .ref e)]) rfl (Nat.le_of_ble_eq_true rfl) rfl ?_
        refine n_iconst 0 rfl ?_
        refine r_istore (lv' := [(6, .int (nI 0)), (5, .ref Sa.2.1), (4, .int (nI (tb (he d p && !(ou d p))))), (3, .int (nI (tb (he d p)))), (2, .int (nI p)), (0, .ref 0), (1, .ref e)]) rfl (Nat.le_of_ble_eq_true rfl) rfl ?_
        have hF8 : Fr Sa S40 Xno := ⟨by omega, w41.2.1, fun i hi _ => ((w41.2.2.2 i (by omega)).trans ((w36.2.2.2 i (by omega)).trans ((w31.2.2.2 i (by omega)).trans ((w26.2.2.2 i (by omega)).trans ((w22.2.2.2 i (by omega)).trans ((w18.2.2.2 i (by omega)).trans ((w13.2.2.2 i (by omega)).trans ((w8.2.2.2 i (by omega)).trans rfl))))))))⟩
        have hCL8 : CL S40 σ := hCL7.of (by omega) (fun i hi => hF8.2.2 i (by omega) (fun z => z))
        have hdue : ∀ w, w < 7 → (aup (aup (aup (aup (aup (aup (aup (fun _ => 0) 0 (stw d p 0)) 1 (stw d p 1)) 2 (stw d p 2)) 3 (stw d p 3)) 4 (stw d p 4)) 5 (stw d p 5)) 6 (stw d p 6)) w = stw d p w := fun w hw => by
          match w, hw with
          | 0, _ => rfl
          | 1, _ => rfl
          | 2, _ => rfl
          | 3, _ => rfl
          | 4, _ => rfl
          | 5, _ => rfl
          | 6, _ => rfl
        refine r_lv (lv' := [(6, .int (nI 0)), (5, .ref Sa.2.1), (2, .int (nI p)), (0, .ref 0), (1, .ref e)]) [0, 1, 4, 5, 6] rfl ?_
        have loopW : ∀ (m9_2 : Nat) (w : Nat) , 7 - w < m9_2 → (w ≤ 7) → Wp sc mL_heirs 12 84 (k9 + 1) (n9 + 7) 266 [(6, .int (nI w)), (5, .ref Sa.2.1), (2, .int (nI p)), (0, .ref 0), (1, .ref e)] [] S40 (AR fun v S' => v = .int (nI 1) ∧ Fr S S' Xno) := by
          intro m9_2
          induction m9_2 with
          | zero => intro w hme; exact absurd hme (Nat.not_lt_zero _)
          | succ m9_2 ih2 =>
            intro w hme hw
            refine r_iload rfl rfl ?_
            refine n_bipush 7 rfl (by decide) ?_
            refine n_icmp_ge (tgt := 296) rfl rfl (by omega) (by omega) (fun h7 => ?_) (fun h7 => ?_)
            · refine n_iinc (lv' := [(2, .int (nI (p + 1))), (6, .int (nI w)), (5, .ref Sa.2.1), (0, .ref 0), (1, .ref e)]) 1 rfl rfl (Nat.le_of_ble_eq_true rfl) rfl ?_
              refine r_goto (tgt := 28) rfl rfl ?_
              refine r_lv (lv' := [(2, .int (nI (p + 1))), (0, .ref 0), (1, .ref e)]) [0, 3, 4] rfl ?_
              exact ih (p + 1) S40 (k9 + 1) (n9 + 7) (by omega) w41.2.1 (by omega) (by omega) (by omega) (hF7.tr hF8 (fun _ _ z => z))
            · have h7 : w < 7 := by omega
              refine r_aload_n rfl rfl ?_
              refine r_iload_n rfl rfl ?_
              refine r_iload rfl rfl ?_
              have hq43 := c_step (z := zf) (sc := sc) hA hI hq9 (k := w) (by omega)
              rw [hda] at hq43
              refine r_qry [.int (nI p), .int (nI w)] [] rfl lkL_256 rfl hq43 rfl rfl (by omega) (by omega) rfl hCL8 ?_
              refine r_aload rfl rfl ?_
              refine r_iload rfl rfl ?_
              refine r_iald rfl (by omega) w41.2.2.1 (by omega) (by decide) ?_
              refine r_top (y := stw d p w) (hdue w h7) ?_
              refine r_icmp_eq (tgt := 290) rfl rfl (fun _ => ?_) (fun hq => absurd rfl hq)
              refine n_iinc (lv' := [(6, .int (nI (w + 1))), (5, .ref Sa.2.1), (2, .int (nI p)), (0, .ref 0), (1, .ref e)]) 1 rfl rfl (Nat.le_of_ble_eq_true rfl) rfl ?_
              refine r_goto (tgt := 266) rfl rfl ?_
              refine r_lv (lv' := [(6, .int (nI (w + 1))), (5, .ref Sa.2.1), (2, .int (nI p)), (0, .ref 0), (1, .ref e)]) [0, 1, 2, 3, 4] rfl ?_
              exact ih2 (w + 1) (by omega) (by omega)
        exact loopW 8 0 (by omega) (Nat.zero_le _)
  exact loopP (d 0 0 + 1) 0 S 0 0 (by omega) hx (Nat.zero_le _) (by omega) (by omega) (Fr.rf hx)

