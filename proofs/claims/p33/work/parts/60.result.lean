/-! What a settlement of the law's estate leaves. -/
def eRow (X : Nat → Prop) (S : AS) (q t m : Nat) (g : Nat → Int32) : Prop := ∃ f, S.1 q = oI0 t m f ∧ (53 ≤ q ∧ q < S.2.1 ∧ ¬ X q) ∧ ∀ i, i < m → f i = g i
def dvh (d : D) (p : Nat) : Nat := if he d p = true then dv d p else 0
def w9G (d : D) (G : Nat → Nat) : Nat → Nat := wf (a8 d) G (wt d)
def ouG (d : D) (G : Nat → Nat) (p : Nat) : Bool := decide (0 < wt d p) && w9G d G p == 0
def poG (d : D) (G : Nat → Nat) : Nat := pt (a8 d) G (w9G d G)
def psG (d : D) (G : Nat → Nat) (p : Nat) : Nat := sp (poG d G) (sm (w9G d G) 12) (w9G d G) 12 p
def svG (d : D) (G : Nat → Nat) (p : Nat) : Int32 := if 0 < w9G d G p then nI (psG d G p) - nI (G p) else 0
def gvG (d : D) (G : Nat → Nat) (p : Nat) : Int32 := svG d G p + nI (lg9 d p) + (if d 0 5 = p + 1 then nI (a5 d + a7 d) else 0)
def due9 (d : D) (G : Nat → Nat) (p : Nat) : Nat := bs (poG d G) (sm (w9G d G) 12) (w9G d G) p
def cen9 (d : D) (G : Nat → Nat) (p : Nat) : Bool := ce (poG d G) (sm (w9G d G) 12) (w9G d G) 12 p
/-- before the shares -/
def eOld (X : Nat → Prop) (S : AS) (e : Nat) (d : D) : Prop := ∀ V, S.1 e = oO 10 V → ∃ q14 q15 q16 : Nat, (V 14 = .ref q14 ∧ V 15 = .ref q15 ∧ V 16 = .ref q16) ∧ (V 22 = .long (lN (nts d)) ∧ V 23 = .long (lN (ow d)) ∧ V 24 = .long (lN (rs d))) ∧ eRow X S q14 0 (d 0 2) (fun i => nI (pd d i)) ∧ eRow X S q15 0 (d 0 4) (fun k => nI (lp d k)) ∧ eRow X S q16 0 (d 0 0) (fun p => nI (dvh d p))
/-- the shares -/
def eNew (X : Nat → Prop) (S : AS) (e : Nat) (d : D) (G : Nat → Nat) : Prop := ∀ V, S.1 e = oO 10 V → ∃ q17 q18 q19 q20 q21 : Nat, (V 17 = .ref q17 ∧ V 18 = .ref q18 ∧ V 19 = .ref q19 ∧ V 20 = .ref q20 ∧ V 21 = .ref q21) ∧ (V 25 = .long (lN (a5 d)) ∧ V 26 = .long (lN (a6 d)) ∧ V 27 = .long (lN (a7 d)) ∧ V 28 = .long (lN (a8 d)) ∧ V 29 = .long (lN (a9 d)) ∧ V 30 = .long (lN (poG d G))) ∧ eRow X S q17 0 (d 0 0) (svG d G) ∧ eRow X S q18 0 (d 0 0) (fun p => nI (wt d p)) ∧ eRow X S q19 0 (d 0 0) (fun p => nI (due9 d G p)) ∧ eRow X S q20 2 (d 0 0) (fun p => nI (tb (ouG d G p))) ∧ eRow X S q21 2 (d 0 0) (fun p => nI (tb (cen9 d G p)))
theorem eRow.keep {X P : Nat → Prop} {S S' : AS} {q t m : Nat} {g : Nat → Int32} (h : eRow X S q t m g) (hF : Fr S S' P) (hP : P q → X q) : eRow X S' q t m g := by
  obtain ⟨f, h1, ⟨h2, h3, h4⟩, h5⟩ := h
  exact ⟨f, (hF.2.2 q h3 (fun z => h4 (hP z))).trans h1, ⟨h2, Nat.lt_of_lt_of_le h3 hF.1, h4⟩, h5⟩
theorem eOld.keep {X P : Nat → Prop} {S S' : AS} {e : Nat} {d : D} {G : Nat → Nat} (h : eOld X S e d) (hF : Fr S S' P) (hE : ES X S e d G) (hP : ∀ i, P i → X i) : eOld X S' e d := by
  intro V hV
  obtain ⟨q14, q15, q16, h1, h2, h3, h4, h5⟩ := h V ((hF.2.2 e hE.e.2.1 (fun z => hE.e.2.2 (hP e z))).symm.trans hV)
  exact ⟨q14, q15, q16, h1, h2, h3.keep hF (hP _), h4.keep hF (hP _), h5.keep hF (hP _)⟩
theorem eNew.keep {X P : Nat → Prop} {S S' : AS} {e : Nat} {d : D} {G : Nat → Nat} (h : eNew X S e d G) (hF : Fr S S' P) (hE : ES X S e d G) (hP : ∀ i, P i → X i) : eNew X S' e d G := by
  intro V hV
  obtain ⟨q17, q18, q19, q20, q21, h1, h2, h3, h4, h5, h6, h7⟩ := h V ((hF.2.2 e hE.e.2.1 (fun z => hE.e.2.2 (hP e z))).symm.trans hV)
  exact ⟨q17, q18, q19, q20, q21, h1, h2, h3.keep hF (hP _), h4.keep hF (hP _), h5.keep hF (hP _), h6.keep hF (hP _), h7.keep hF (hP _)⟩
theorem dvh_0 {d : D} {p : Nat} : dvh d p = 0 ↔ he d p = false := by
  unfold dvh
  cases h : he d p
  · exact ⟨fun _ => rfl, fun _ => rfl⟩
  · unfold he at h
    rw [Bool.and_eq_true] at h
    have := of_decide_eq_true h.1
    rw [if_pos rfl]
    exact ⟨fun z => absurd z (by omega), fun z => by cases z⟩
theorem dvh_le {d : D} (hd : Vd d) (p : Nat) : dvh d p ≤ 4096 := by
  unfold dvh
  have := dv_le hd p
  split <;> omega
theorem e_given {sc : SC} {S : AS} {X : Nat → Prop} {e : Nat} {d : D} {G : Nat → Nat} (hd : Vd d) (hE : ES X S e d G) (hR0 : eOld X S e d) (hR1 : eNew X S e d G) {p : Nat} (hp : p < d 0 0) : Cal sc mX10_given 0 0 [.ref e, .int (nI p)] S (AR fun v S' => v = .int (gvG d G p) ∧ S = S') := by
  refine Cal.of gmX10_given (Nat.le_of_ble_eq_true rfl) ?_
  have hE9 := hE
  obtain ⟨V, qa, qd, qg, ql, hi, ⟨hV, ⟨v0, v1, v2, v3, v4, v5⟩, ⟨v6, v7, v8, v9⟩, ⟨v10, v11, v12, v13⟩⟩, ⟨f1, f2, f3, f4, ⟨hf1, k1⟩, ⟨hf2, k2⟩, ⟨hf3, k3⟩, ⟨hf4, k4⟩⟩, ⟨b1, b2, -, -⟩, b3, hEA, hED, hEG, hEL⟩ := hE9
  have hVA := vA hd
  have hVC := vC hd
  obtain ⟨q14, q15, q16, ⟨u14, u15, u16⟩, ⟨u22, u23, u24⟩, ⟨g14, r14, ⟨p14, l14, x14⟩, t14⟩, ⟨g15, r15, ⟨p15, l15, x15⟩, t15⟩, ⟨g16, r16, ⟨p16, l16, x16⟩, t16⟩⟩ := hR0 V hV
  obtain ⟨q17, q18, q19, q20, q21, ⟨u17, u18, u19, u20, u21⟩, ⟨u25, u26, u27, u28, u29, u30⟩, ⟨g17, r17, ⟨p17, l17, x17⟩, t17⟩, ⟨g18, r18, ⟨p18, l18, x18⟩, t18⟩, ⟨g19, r19, ⟨p19, l19, x19⟩, t19⟩, ⟨g20, r20, ⟨p20, l20, x20⟩, t20⟩, ⟨g21, r21, ⟨p21, l21, x21⟩, t21⟩⟩ := hR1 V hV
  obtain ⟨W, pl, hW, ⟨c1, c2, -⟩, hrow⟩ := hEL
  show Wp sc mX10_given 0 0 0 0 0 [(0, .ref e), (1, .int (nI p))] [] S (AR fun v S' => v = .int (gvG d G p) ∧ S = S')
  refine r_aload_n rfl rfl ?_
  refine r_getf (v := .ref q17) rfl flX10_140 (by omega) hV u17 ?_
  refine r_iload_n rfl rfl ?_
  refine r_iald rfl (by omega) r17 (by omega) (by omega) ?_
  refine r_top (y := svG d G p) (t17 p hp) ?_
  refine r_i2l rfl rfl ?_
  refine r_lstore_n (lv' := [(2, .long ((svG d G p).toInt64)), (0, .ref e), (1, .int (nI p))]) rfl rfl (Nat.le_of_ble_eq_true rfl) rfl ?_
  refine n_iconst 0 rfl ?_
  refine r_istore (lv' := [(4, .int (nI 0)), (2, .long ((svG d G p).toInt64)), (0, .ref e), (1, .int (nI p))]) rfl (Nat.le_of_ble_eq_true rfl) rfl ?_
  refine r_lv (lv' := [(4, .int (nI 0)), (2, .long ((svG d G p).toInt64)), (0, .ref e), (1, .int (nI p))]) [0, 1, 2, 3] rfl ?_
  have loop : ∀ (m9 : Nat) (i : Nat) (c : Int64), d 0 4 - i < m9 → (i ≤ d 0 4) → (c.toInt32 = svG d G p + nI (sm (fun k => if d 11 k = p then lp d k else 0) i)) → Wp sc mX10_given 0 0 0 0 11 [(4, .int (nI i)), (2, .long c), (0, .ref e), (1, .int (nI p))] [] S (AR fun v S' => v = .int (gvG d G p) ∧ S = S') := by
    intro m9
    induction m9 with
    | zero => intro i c hme; exact absurd hme (Nat.not_lt_zero _)
    | succ m9 ih =>
      intro i c hme hi hcs
      refine r_iload rfl rfl ?_
      refine r_aload_n rfl rfl ?_
      refine r_getf (v := .ref ql) rfl flX10_48 (by omega) hV v13 ?_
      refine r_alenQ rfl (by omega) hW ?_
      refine n_icmp_ge (tgt := 51) rfl rfl (by omega) (by omega) (fun h9 => ?_) (fun h9 => ?_)
      · have e9 : i = d 0 4 := by omega
        rw [e9] at hcs
        refine r_iload_n rfl rfl ?_
        refine r_aload_n rfl rfl ?_
        refine r_getf (v := .int (oI (d 0 5))) rfl flX10_7 (by omega) hV v1 ?_
        refine r_icmp_ne (tgt := 73) rfl rfl (fun h8 => ?_) (fun h8 => ?_)
        · have e8 : ¬ d 0 5 = p + 1 := fun z => h8 ((oI_q (by omega) (by omega)).mpr z)
          refine r_lload_n rfl rfl ?_
          refine r_l2i rfl rfl ?_
          exact r_ret rfl rfl rfl (by omega) (by omega) (⟨_, rfl, by rw [hcs]; unfold gvG; rw [if_neg e8, Int32.add_zero]; rfl, rfl⟩)
        · have e8 : d 0 5 = p + 1 := (oI_q (by omega) (by omega)).mp h8
          refine r_lload_n rfl rfl ?_
          refine r_aload_n rfl rfl ?_
          refine r_getf (v := .long (lN (a5 d))) rfl flX10_107 (by omega) hV u25 ?_
          refine r_ladd rfl ?_
          refine r_aload_n rfl rfl ?_
          refine r_getf (v := .long (lN (a7 d))) rfl flX10_119 (by omega) hV u27 ?_
          refine r_ladd rfl ?_
          refine r_goto (tgt := 74) rfl rfl ?_
          refine r_l2i rfl rfl ?_
          exact r_ret rfl rfl rfl (by omega) (by omega) (⟨_, rfl, by rw [Int64.toInt32_add, Int64.toInt32_add, hcs, lN_i, lN_i]; unfold gvG; rw [if_pos e8, ← nI_add, Int32.add_assoc (_ + _) (nI _) (nI _)]; rfl, rfl⟩)
      · have h9 : i < d 0 4 := by omega
        have hli := vL hd i
        obtain ⟨r1, ⟨r2, r3, -⟩, fr, r4, r5, r6⟩ := hrow i h9
        have hstp : sm (fun k => if d 11 k = p then lp d k else 0) (i + 1) = sm (fun k => if d 11 k = p then lp d k else 0) i + (if d 11 i = p then lp d i else 0) := rfl
        refine r_aload_n rfl rfl ?_
        refine r_getf (v := .ref ql) rfl flX10_48 (by omega) hV v13 ?_
        refine r_iload rfl rfl ?_
        refine r_aald (x := (pl i)) rfl (by omega) hW (by omega) (by omega) r1 ?_
        refine n_iconst 0 rfl ?_
        refine r_iald rfl (by omega) r4 (by decide) (by decide) ?_
        refine r_top (y := nI (d 11 i)) r5 ?_
        refine r_iload_n rfl rfl ?_
        refine n_icmp_ne (tgt := 45) rfl rfl (by omega) (by omega) (fun h8 => ?_) (fun h8 => ?_)
        · rw [if_neg h8] at hstp
          refine n_iinc (lv' := [(4, .int (nI (i + 1))), (2, .long c), (0, .ref e), (1, .int (nI p))]) 1 rfl rfl (Nat.le_of_ble_eq_true rfl) rfl ?_
          refine r_goto (tgt := 11) rfl rfl ?_
          refine r_lv (lv' := [(4, .int (nI (i + 1))), (2, .long c), (0, .ref e), (1, .int (nI p))]) [0, 1, 2, 3] rfl ?_
          exact ih (i + 1) c (by omega) (by omega) (by rw [hcs, hstp]; rfl)
        · rw [if_pos h8] at hstp
          refine r_lload_n rfl rfl ?_
          refine r_aload_n rfl rfl ?_
          refine r_getf (v := .ref q15) rfl flX10_98 (by omega) hV u15 ?_
          refine r_iload rfl rfl ?_
          refine r_iald rfl (by omega) r15 (by omega) (by omega) ?_
          refine r_top (y := nI (lp d i)) (t15 i h9) ?_
          refine r_i2l rfl rfl ?_
          refine r_ladd rfl ?_
          refine r_lstore_n (lv' := [(2, .long (c + ((nI (lp d i)).toInt64))), (4, .int (nI i)), (0, .ref e), (1, .int (nI p))]) rfl rfl (Nat.le_of_ble_eq_true rfl) rfl ?_
          refine n_iinc (lv' := [(4, .int (nI (i + 1))), (2, .long (c + ((nI (lp d i)).toInt64))), (0, .ref e), (1, .int (nI p))]) 1 rfl rfl (Nat.le_of_ble_eq_true rfl) rfl ?_
          refine r_goto (tgt := 11) rfl rfl ?_
          refine r_lv (lv' := [(4, .int (nI (i + 1))), (2, .long (c + ((nI (lp d i)).toInt64))), (0, .ref e), (1, .int (nI p))]) [0, 1, 2, 3] rfl ?_
          exact ih (i + 1) (c + (nI (lp d i)).toInt64) (by omega) (by omega) (by rw [Int64.toInt32_add, hcs, Int32.toInt32_toInt64, hstp, ← nI_add, Int32.add_assoc])
  exact loop (d 0 4 + 1) 0 _ (by omega) (Nat.zero_le _) (by rw [Int32.toInt32_toInt64]; show _ = svG d G p + nI 0; rw [show nI 0 = 0 by decide, Int32.add_zero])

def sB (d : D) (G : Nat → Nat) (c : Bool) (p : Nat) : Bool := he d p && (!c || ouG d G p)
theorem tb_B (c : Bool) : tb c < 2147483648 := by cases c <;> decide
theorem e_set {sc : SC} {S : AS} {X : Nat → Prop} {e : Nat} {d : D} {G : Nat → Nat} (hd : Vd d) (hE : ES X S e d G) (hR0 : eOld X S e d) (hR1 : eNew X S e d G) {c : Bool} : Cal sc mX10_set 0 0 [.ref e, .int (nI (tb c))] S (AR fun v S' => v = .int (nI (mk (sB d G c) (d 0 0))) ∧ S = S') := by
  refine Cal.of gmX10_set (Nat.le_of_ble_eq_true rfl) ?_
  have hE9 := hE
  obtain ⟨V, qa, qd, qg, ql, hi, ⟨hV, ⟨v0, v1, v2, v3, v4, v5⟩, ⟨v6, v7, v8, v9⟩, ⟨v10, v11, v12, v13⟩⟩, ⟨f1, f2, f3, f4, ⟨hf1, k1⟩, ⟨hf2, k2⟩, ⟨hf3, k3⟩, ⟨hf4, k4⟩⟩, ⟨b1, b2, -, -⟩, b3, hEA, hED, hEG, hEL⟩ := hE9
  have hVA := vA hd
  have hVC := vC hd
  obtain ⟨q14, q15, q16, ⟨u14, u15, u16⟩, ⟨u22, u23, u24⟩, ⟨g14, r14, ⟨p14, l14, x14⟩, t14⟩, ⟨g15, r15, ⟨p15, l15, x15⟩, t15⟩, ⟨g16, r16, ⟨p16, l16, x16⟩, t16⟩⟩ := hR0 V hV
  obtain ⟨q17, q18, q19, q20, q21, ⟨u17, u18, u19, u20, u21⟩, ⟨u25, u26, u27, u28, u29, u30⟩, ⟨g17, r17, ⟨p17, l17, x17⟩, t17⟩, ⟨g18, r18, ⟨p18, l18, x18⟩, t18⟩, ⟨g19, r19, ⟨p19, l19, x19⟩, t19⟩, ⟨g20, r20, ⟨p20, l20, x20⟩, t20⟩, ⟨g21, r21, ⟨p21, l21, x21⟩, t21⟩⟩ := hR1 V hV
  show Wp sc mX10_set 0 0 0 0 0 [(0, .ref e), (1, .int (nI (tb c)))] [] S (AR fun v S' => v = .int (nI (mk (sB d G c) (d 0 0))) ∧ S = S')
  refine n_iconst 0 rfl ?_
  refine r_istore_n (lv' := [(2, .int (nI 0)), (0, .ref e), (1, .int (nI (tb c)))]) rfl rfl (Nat.le_of_ble_eq_true rfl) rfl ?_
  refine n_iconst 0 rfl ?_
  refine r_istore_n (lv' := [(3, .int (nI 0)), (2, .int (nI 0)), (0, .ref e), (1, .int (nI (tb c)))]) rfl rfl (Nat.le_of_ble_eq_true rfl) rfl ?_
  refine r_lv (lv' := [(3, .int (nI 0)), (2, .int (nI 0)), (0, .ref e), (1, .int (nI (tb c)))]) [0, 1, 2, 3] rfl ?_
  have loop : ∀ (m9 : Nat) (i : Nat) (c9 : Nat), d 0 0 - i < m9 → (i ≤ d 0 0) → (c9 = mk (sB d G c) i) → Wp sc mX10_set 0 0 0 0 4 [(3, .int (nI i)), (2, .int (nI c9)), (0, .ref e), (1, .int (nI (tb c)))] [] S (AR fun v S' => v = .int (nI (mk (sB d G c) (d 0 0))) ∧ S = S') := by
    intro m9
    induction m9 with
    | zero => intro i c9 hme; exact absurd hme (Nat.not_lt_zero _)
    | succ m9 ih =>
      intro i c9 hme hi hcs
      refine r_iload_n rfl rfl ?_
      refine r_aload_n rfl rfl ?_
      refine r_getf (v := .int (nI (d 0 0))) rfl flX10_59 (by omega) hV v0 ?_
      refine n_icmp_ge (tgt := 46) rfl rfl (by omega) (by omega) (fun h9 => ?_) (fun h9 => ?_)
      · refine r_iload_n rfl rfl ?_
        have e9 : i = d 0 0 := by omega
        rw [e9] at hcs
        exact r_ret rfl rfl rfl (by omega) (by omega) (⟨_, rfl, by rw [hcs], rfl⟩)
      · have h9 : i < d 0 0 := by omega
        have hdb := dvh_le hd i
        refine r_aload_n rfl rfl ?_
        refine r_getf (v := .ref q16) rfl flX10_65 (by omega) hV u16 ?_
        refine r_iload_n rfl rfl ?_
        refine r_iald rfl (by omega) r16 (by omega) (by omega) ?_
        refine r_top (y := nI (dvh d i)) (t16 i h9) ?_
        refine n_if_le (tgt := 40) rfl rfl (by omega) (fun h8 => ?_) (fun h8 => ?_)
        · have hs9 : sB d G c i = false := by
            unfold sB; rw [dvh_0.mp (by omega)]; rfl
          refine n_iinc (lv' := [(3, .int (nI (i + 1))), (2, .int (nI c9)), (0, .ref e), (1, .int (nI (tb c)))]) 1 rfl rfl (Nat.le_of_ble_eq_true rfl) rfl ?_
          refine r_goto (tgt := 4) rfl rfl ?_
          refine r_lv (lv' := [(3, .int (nI (i + 1))), (2, .int (nI c9)), (0, .ref e), (1, .int (nI (tb c)))]) [0, 1, 2, 3] rfl ?_
          exact ih (i + 1) c9 (by omega) (by omega) (by rw [hcs, mk_f hs9])
        have hh : he d i = true := by
          cases h : he d i
          · exact absurd (dvh_0.mpr h) (by omega)
          · rfl
        refine r_iload_n rfl rfl ?_
        rcases Bool.eq_false_or_eq_true c with hc | hc
        · refine n_if_eq (tgt := 34) rfl rfl (tb_B _) (fun hq => absurd hq (by rw [hc]; decide)) (fun _ => ?_)
          refine r_aload_n rfl rfl ?_
          refine r_getf (v := .ref q20) rfl flX10_131 (by omega) hV u20 ?_
          refine r_iload_n rfl rfl ?_
          refine r_zald rfl (by omega) r20 (by omega) (by omega) ?_
          refine r_top (y := nI (tb (ouG d G i))) (t20 i h9) ?_
          rcases Bool.eq_false_or_eq_true (ouG d G i) with ho | ho
          · refine n_if_eq (tgt := 40) rfl rfl (tb_B _) (fun hq => absurd hq (by rw [ho]; decide)) (fun _ => ?_)
            have hs9 : sB d G c i = true := by
              unfold sB; rw [hh, ho, Bool.or_true]; rfl
            subst hcs
            refine r_iload_n rfl rfl ?_
            refine n_iconst 1 rfl ?_
            refine r_iload_n rfl rfl ?_
            refine r_ishl rfl ?_
            refine r_ior rfl ?_
            refine r_top (y := nI (mk (sB d G c) (i + 1))) (mk_t hs9 (by omega)) ?_
            refine r_istore_n (lv' := [(2, .int (nI (mk (sB d G c) (i + 1)))), (3, .int (nI i)), (0, .ref e), (1, .int (nI (tb c)))]) rfl rfl (Nat.le_of_ble_eq_true rfl) rfl ?_
            refine n_iinc (lv' := [(3, .int (nI (i + 1))), (2, .int (nI (mk (sB d G c) (i + 1)))), (0, .ref e), (1, .int (nI (tb c)))]) 1 rfl rfl (Nat.le_of_ble_eq_true rfl) rfl ?_
            refine r_goto (tgt := 4) rfl rfl ?_
            refine r_lv (lv' := [(3, .int (nI (i + 1))), (2, .int (nI (mk (sB d G c) (i + 1)))), (0, .ref e), (1, .int (nI (tb c)))]) [0, 1, 2, 3] rfl ?_
            exact ih (i + 1) _ (by omega) (by omega) rfl
          · refine n_if_eq (tgt := 40) rfl rfl (tb_B _) (fun _ => ?_) (fun hq => absurd hq (by rw [ho]; decide))
            have hs9 : sB d G c i = false := by
              unfold sB; rw [hc, ho, hh]; rfl
            refine n_iinc (lv' := [(3, .int (nI (i + 1))), (2, .int (nI c9)), (0, .ref e), (1, .int (nI (tb c)))]) 1 rfl rfl (Nat.le_of_ble_eq_true rfl) rfl ?_
            refine r_goto (tgt := 4) rfl rfl ?_
            refine r_lv (lv' := [(3, .int (nI (i + 1))), (2, .int (nI c9)), (0, .ref e), (1, .int (nI (tb c)))]) [0, 1, 2, 3] rfl ?_
            exact ih (i + 1) c9 (by omega) (by omega) (by rw [hcs, mk_f hs9])
        · refine n_if_eq (tgt := 34) rfl rfl (tb_B _) (fun _ => ?_) (fun hq => absurd hq (by rw [hc]; decide))
          have hs9 : sB d G c i = true := by
            unfold sB; rw [hh, hc]; rfl
          subst hcs
          refine r_iload_n rfl rfl ?_
          refine n_iconst 1 rfl ?_
          refine r_iload_n rfl rfl ?_
          refine r_ishl rfl ?_
          refine r_ior rfl ?_
          refine r_top (y := nI (mk (sB d G c) (i + 1))) (mk_t hs9 (by omega)) ?_
          refine r_istore_n (lv' := [(2, .int (nI (mk (sB d G c) (i + 1)))), (3, .int (nI i)), (0, .ref e), (1, .int (nI (tb c)))]) rfl rfl (Nat.le_of_ble_eq_true rfl) rfl ?_
          refine n_iinc (lv' := [(3, .int (nI (i + 1))), (2, .int (nI (mk (sB d G c) (i + 1)))), (0, .ref e), (1, .int (nI (tb c)))]) 1 rfl rfl (Nat.le_of_ble_eq_true rfl) rfl ?_
          refine r_goto (tgt := 4) rfl rfl ?_
          refine r_lv (lv' := [(3, .int (nI (i + 1))), (2, .int (nI (mk (sB d G c) (i + 1)))), (0, .ref e), (1, .int (nI (tb c)))]) [0, 1, 2, 3] rfl ?_
          exact ih (i + 1) _ (by omega) (by omega) rfl
  exact loop (d 0 0 + 1) 0 0 (by omega) (Nat.zero_le _) rfl

