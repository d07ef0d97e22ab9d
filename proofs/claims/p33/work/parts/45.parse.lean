/-- a text read: what it leaves of a run -/
def paA (a : AB) (m : Nat) : AB := if (pa (m, aT a)).1 = 0 then ((pa (m, aT a)).2.2.1, (0, aS a), ((fun _ => false), bR a), (0, aT a), 0, (pa (m, aT a)).2.2.2.1) else (aD a, a.2.1, a.2.2.1, (0, aT a), tS (m, aT a) (pa (m, aT a)).2.1 + 1, aN a)
theorem paA_0 {a : AB} {m : Nat} (h : (pa (m, aT a)).1 = 0) : paA a m = ((pa (m, aT a)).2.2.1, (0, aS a), ((fun _ => false), bR a), (0, aT a), 0, (pa (m, aT a)).2.2.2.1) := if_pos h
theorem paA_1 {a : AB} {m : Nat} (h : (pa (m, aT a)).1 ≠ 0) : paA a m = (aD a, a.2.1, a.2.2.1, (0, aT a), tS (m, aT a) (pa (m, aT a)).2.1 + 1, aN a) := if_neg h
theorem paA_ok {a : AB} {m : Nat} (h : AV a) (hm : m ≤ aL a) : AV (paA a m) := by
  have hf := pa_fw (m, aT a)
  obtain ⟨h1, h2, h3, h4, ⟨h5, h6, h7⟩, h8⟩ := h
  by_cases q : (pa (m, aT a)).1 = 0
  · rw [paA_0 q]
    obtain ⟨v1, v2, v3, v4⟩ := hf.1 q
    exact ⟨v1, Nat.zero_le _, fun i hi => absurd hi (Nat.not_lt_zero _), fun i _ hb => absurd (show false = true from hb) Bool.false_ne_true, ⟨Nat.zero_le _, h6, Nat.zero_le _⟩, v3⟩
  · rw [paA_1 q]
    have hs : tS (m, aT a) (pa (m, aT a)).2.1 ≤ m := tS_le (x := (m, aT a)) hf.2.1
    exact ⟨h1, h2, h3, h4, ⟨Nat.zero_le _, h6, by show _ + 1 ≤ 701; omega⟩, h8⟩
theorem mk_f2 : nI 0 = nI (mk (fun _ => false) 2) := by decide
theorem mR_E : ∀ k, k < 122 → mR dE k = if k = 5 then -1 else if k = 6 then nI 1 else if k = 7 then nI 4 else if k = 9 then nI 1 else nI 0 := by decide +kernel
/-- four bytes more -/
theorem bI_tn (y : Int32) : y.toInt8.toBitVec.toNat < 256 ∧ y.toInt8.toInt32 = bI y.toInt8.toBitVec.toNat := by
  refine ⟨y.toInt8.toBitVec.isLt, ?_⟩
  have h := bI_8 ⟨y.toInt8.toBitVec.toNat, y.toInt8.toBitVec.isLt⟩
  have e : BitVec.ofNat 8 y.toInt8.toBitVec.toNat = y.toInt8.toBitVec := by rw [BitVec.ofNat_toNat, BitVec.setWidth_eq]
  have h2 : (Int8.ofBitVec (BitVec.ofNat 8 y.toInt8.toBitVec.toNat)).toInt32 = bI y.toInt8.toBitVec.toNat := h
  rw [e] at h2
  exact h2
def by4 (v : Int32) (k : Nat) : Nat := (v >>> (nI k &&& 31)).toInt8.toBitVec.toNat
theorem by4_s (v : Int32) (k : Nat) : by4 v k < 256 ∧ (v >>> (nI k &&& 31)).toInt8.toInt32 = bI (by4 v k) := bI_tn _
def ad4 (x : TX) (v : Int32) : TX := (x.1 + 4, aup (aup (aup (aup x.2 x.1 (by4 v 24)) (x.1 + 1) (by4 v 16)) (x.1 + 2) (by4 v 8)) (x.1 + 3) (by4 v 0))
theorem ad4_b {x : TX} (h : ∀ i, x.2 i < 256) (v : Int32) : ∀ i, (ad4 x v).2 i < 256 := by
  have k1 : ∀ {f : Nat → Nat} {i y : Nat}, (∀ j, f j < 256) → y < 256 → ∀ j, aup f i y j < 256 := by
    intro f i y hf hy j
    by_cases e : j = i
    · rw [e, aup_s]; exact hy
    · rw [aup_n _ _ e]; exact hf j
  exact k1 (k1 (k1 (k1 h (by4_s v 24).1) (by4_s v 16).1) (by4_s v 8).1) (by4_s v 0).1
def ap5 (x : TX) (a b c d e : Int32) : TX := ad4 (ad4 (ad4 (ad4 (ad4 x a) b) c) d) e
/-- a row that holds a text -/
def TR (f : Nat → Int32) (x : TX) : Prop := ∀ i, i < x.1 → f i = bI (x.2 i)
theorem TR_up {f : Nat → Int32} {m y : Nat} {t : Nat → Nat} {v : Int32} (h : TR f (m, t)) (hv : vp_nar .byte v = bI y) : TR (aup f m (vp_nar .byte v)) (m + 1, aup t m y) := by
  intro i hi
  show aup f m _ i = bI (aup t m y i)
  by_cases e : i = m
  · rw [e, aup_s, aup_s]; exact hv
  · rw [aup_n _ _ e, aup_n _ _ e]; exact h i (by show i < m; have : i < m + 1 := hi; omega)
theorem by4_n (v : Int32) (k : Nat) : vp_nar .byte (v >>> (nI k &&& 31)).toInt8.toInt32 = bI (by4 v k) := by
  rw [(by4_s v k).2]
  exact bI_nar _ (by4_s v k).1
def apA (a : AB) (x : TX) : AB := (aD a, a.2.1, a.2.2.1, x, a.2.2.2.2)
/-- the buffer's word, found: (the person + 1) -/
def fiN (a : AB) : Nat := if tK (aL a, aT a) 0 = 1 ∧ tS (aL a, aT a) 0 = 0 ∧ (∀ i, i < aL a → tE (aL a, aT a) 0 ≤ i → aT a i = 32) then nmd (aN a) (aD a 0 0) (wl (aL a, aT a) 0) else 0
def fiA (a : AB) : AB := apA a (0, aT a)
theorem fiA_ok {a : AB} (h : AV a) : AV (fiA a) := ⟨h.1, h.2.1, h.2.2.1, h.2.2.2.1, ⟨Nat.zero_le _, h.2.2.2.2.1.2⟩, h.2.2.2.2.2⟩
theorem apA_ok {a : AB} (h : AV a) {x : TX} (h1 : x.1 ≤ 700) (h2 : ∀ i, x.2 i < 256) : AV (apA a x) := ⟨h.1, h.2.1, h.2.2.1, h.2.2.2.1, ⟨h1, h2, h.2.2.2.2.1.2.2⟩, h.2.2.2.2.2⟩
theorem FrM_P {σ σ' : SS} (h : FrP σ σ') : FrM σ σ' := by
  intro o h1 h2
  refine ⟨h.1 o ?_, h.2.1 o (by omega)⟩
  unfold inP
  rw [nbq_f (show ¬ o = 1 by omega), nbq_f (show ¬ o = 2 by omega), nbq_f (show ¬ o = 4 by omega), nbq_f (show ¬ o = 6 by omega), nbq_f (show ¬ o = 7 by omega), nbq_f (show ¬ o = 8 by omega), nbq_f (show ¬ o = 9 by omega), nbq_f (show ¬ o = 11 by omega)]
  rfl
theorem mR_Ec {f : Nat → Int32} (h : ∀ k, k < 122 → f k = nI 0) : MR (aup (aup (aup (aup f 5 (-1)) 7 (nI 4)) 6 (nI 1)) 9 (nI 1)) dE := by
  intro k hk
  rw [mR_E k hk]
  by_cases h9 : k = 9
  · subst h9; rw [aup_s]; rfl
  · rw [aup_n _ _ h9]
    by_cases h6 : k = 6
    · subst h6; rw [aup_s]; rfl
    · rw [aup_n _ _ h6]
      by_cases h7 : k = 7
      · subst h7; rw [aup_s]; rfl
      · rw [aup_n _ _ h7]
        by_cases h5 : k = 5
        · subst h5; rw [aup_s]; rfl
        · rw [aup_n _ _ h5, if_neg h5, if_neg h6, if_neg h7, if_neg h9]
          exact h k hk
/-- the model's run while it parses: what stays -/
def inJ (o : Nat) : Bool := Nat.beq o 53 || Nat.beq o 55
theorem inJ_n {o : Nat} (h : inJ o = false) : o ≠ 53 ∧ o ≠ 55 := by
  constructor <;> (intro z; rw [z] at h; exact absurd h (by decide))
theorem EE_P {σ σ' : SS} {d : D} (h : FrP σ σ') (g : EE σ d) : EE σ' d := by
  unfold EE at g ⊢
  rw [h.1 12 rfl, h.1 14 rfl, h.1 15 rfl, h.1 16 rfl, h.1 17 rfl]
  exact g
theorem SE_P {σ σ' : SS} {d : D} (h : FrP σ σ') (g : SEA σ d) : SEA σ' d := by
  unfold SEA at g ⊢
  rw [h.1 20 rfl, h.1 21 rfl, h.1 22 rfl, h.1 23 rfl, h.1 26 rfl, h.1 28 rfl, h.1 29 rfl, h.1 30 rfl, h.1 31 rfl, h.1 32 rfl, h.1 33 rfl]
  exact g
theorem fi_b {x : TX} (h1 : tK x 0 = 1) (h2 : tS x 0 = 0) : run x 1 0 = tE x 0 ∧ run x 1 0 ≠ 0 ∧ run x 1 0 ≤ 8 := by
  have hk : kd x 0 = 1 := by
    have := tK_kd (x := x) (j := 0) (by omega)
    rw [h2] at this; omega
  have hE : tE x 0 = run x 1 0 := by
    unfold tE
    rw [h2, hk, if_pos (Or.inl rfl), run_y (by decide) hk]
  have h3 := tK_1 h1
  have h4 := tE_gt x 0
  omega
theorem fi_no {x : TX} {i : Nat} (h1 : tK x 0 = 1) (h2 : tS x 0 = 0) (h3 : ∀ k, k < x.1 → tE x 0 ≤ k → x.2 k = 32) (h4 : run x 1 0 ≤ i) (h5 : i < x.1) (h6 : x.2 i ≠ 32) : False := by
  have := (fi_b h1 h2).1
  exact h6 (h3 i h5 (by omega))
theorem c_parse {z : SZ} {sc : SC} {σ : SS} {a : AB} {m : Nat} (hA : AV a) (hI : CI9 σ a) (hm : m ≤ aL a) : Cs z sc mX9_parse 0 0 [.ref 0, .int (nI m)] σ (RI fun v σ' => v = nI (pa (m, aT a)).1 ∧ FrM σ σ' ∧ CI9 σ' (paA a m)) := by
  refine Cs.of gmX9_parse (Nat.le_of_ble_eq_true rfl) ?_
  show Ws z sc mX9_parse 0 0 0 0 0 [(0, .ref 0), (1, .int (nI m))] [] (mz σ [] []) (RI fun v σ' => v = nI (pa (m, aT a)).1 ∧ FrM σ σ' ∧ CI9 σ' (paA a m))
  have hL := hA.2.2.2.2.1.1
  have hb : ∀ i, aT a i < 256 := hA.2.2.2.2.1.2.1
  obtain ⟨⟨⟨c1, c2⟩, c3, c4, c5, ⟨c6, c7⟩, c8, c9⟩, hSE⟩ := hI
  have hT0 : ∀ i, i < m → σ.1 3 i = bI (aT a i) := fun i hi => c7 i (by omega)
  have hx : ((m, aT a) : TX).1 ≤ 700 := by show m ≤ 700; omega
  have hpf := pa_fw (m, aT a)
  refine r_iload_n rfl rfl ?_
  refine n_if_lt (tgt := 18) rfl rfl (by omega) (fun hq => hq.elim) (fun _ => ?_)
  refine r_iload_n rfl rfl ?_
  refine r_aload_n rfl rfl ?_
  refine s_getR (r := 1) rfl flX9_10 rfl rfl ?_
  refine s_getR (r := 2) rfl flX9_58 rfl rfl ?_
  refine s_getI (x := nI (aL a)) rfl flX9_72 rfl rfl c6 ?_
  refine n_icmp_le (tgt := 28) rfl rfl (by omega) (by omega) (fun _ => ?_) (fun hq => absurd hq (by omega))
  refine r_aload_n rfl rfl ?_
  refine s_getR (r := 1) rfl flX9_10 rfl rfl ?_
  refine r_iload_n rfl rfl ?_
  refine s_virI [.int (nI m)] [] rfl lkX9_81 rfl rfl rfl (c_read (x := (m, aT a)) hx hb hT0) rfl rfl (Nat.le_refl _) (Nat.le_refl _) rfl ?_
  rintro _ σ1 ⟨rfl, hF1, hR1, hR2⟩
  show Ws z sc mX9_parse 0 0 0 0 36 [(0, .ref 0), (1, .int (nI m))] [.int (nI ((pa (m, aT a)).1))] (mz σ1 [] []) (RI fun v σ' => v = nI (pa (m, aT a)).1 ∧ FrM σ σ' ∧ CI9 σ' (paA a m))
  refine r_istore_n (lv' := [(2, .int (nI ((pa (m, aT a)).1))), (0, .ref 0), (1, .int (nI m))]) rfl rfl (Nat.le_of_ble_eq_true rfl) rfl ?_
  refine r_aload_n rfl rfl ?_
  refine s_getR (r := 1) rfl flX9_10 rfl rfl ?_
  refine s_getR (r := 2) rfl flX9_58 rfl rfl ?_
  refine s_virV [] [] rfl lkX9_85 rfl rfl rfl c_iclear rfl rfl (Nat.le_refl _) (Nat.le_refl _) rfl (rV ?_)
  refine m_mz (L' := [(2, (aup (σ1.1 2) 1 (nI 0)))]) (M' := []) rfl rfl ?_
  rcases (show (pa (m, aT a)).1 = 0 ∨ (pa (m, aT a)).1 ≠ 0 by omega) with hz | hn
  · have hP := hR1 hz
    obtain ⟨hV, h6, hu, hj⟩ := hpf.1 hz
    have hC9 := vC hV
    have hP2 : EE4 (mz σ1 [(2, (aup (σ1.1 2) 1 (nI 0)))] []) (pa (m, aT a)).2.2.1 := hP.2.1
    rw [hz]
    show Ws z sc mX9_parse 0 0 0 0 47 [(2, .int (nI 0)), (0, .ref 0), (1, .int (nI m))] [] (mz σ1 [(2, (aup (σ1.1 2) 1 (nI 0)))] []) (RI fun v σ' => v = nI 0 ∧ FrM σ σ' ∧ CI9 σ' (paA a m))
    refine r_aload_n rfl rfl ?_
    refine r_aload_n rfl rfl ?_
    refine s_getR (r := 1) rfl flX9_10 rfl rfl ?_
    refine s_getI (x := oI 0) rfl flX9_88 rfl rfl ((hP.2.2.2.2.2.1).trans oI_0.symm) ?_
    refine m_putI (L' := [(2, (aup (σ1.1 2) 1 (nI 0))), (0, (aup (σ1.1 0) 7 (oI 0)))]) rfl flX9_50 rfl rfl (okv_i _) rfl ?_
    refine r_iload_n rfl rfl ?_
    refine n_if_ne (tgt := 119) rfl rfl (by decide) (fun hq => absurd hq (by decide)) (fun _ => ?_)
    refine r_aload_n rfl rfl ?_
    refine s_getR (r := 12) rfl flX9_19 rfl rfl ?_
    refine r_aload_n rfl rfl ?_
    refine s_getR (r := 1) rfl flX9_10 rfl rfl ?_
    refine s_getR (r := 4) rfl flX9_91 rfl rfl ?_
    refine s_virV [.ref 4] [] rfl lkX9_92 rfl rfl rfl (c_ecopy hP2 hV) rfl rfl (Nat.le_refl _) (Nat.le_refl _) rfl ?_
    rintro _ ⟨f12, f14, f15, f16, f17, e13, rfl, hE, hg⟩
    refine m_mz (L' := [(2, (aup (σ1.1 2) 1 (nI 0))), (0, (aup (σ1.1 0) 7 (oI 0))), (17, f17), (16, f16), (15, f15), (14, f14), (12, f12)]) (M' := [(13, e13)]) rfl rfl ?_
    refine r_aload_n rfl rfl ?_
    refine s_getR (r := 18) rfl flX9_26 rfl rfl ?_
    refine r_aload_n rfl rfl ?_
    refine s_getR (r := 1) rfl flX9_10 rfl rfl ?_
    refine s_getR (r := 10) rfl flX9_96 rfl rfl ?_
    refine s_virV [.ref 10] [] rfl lkX9_97 rfl rfl rfl c_copyS_18 rfl rfl (Nat.le_refl _) (Nat.le_refl _) rfl (rV ?_)
    refine m_mz (L' := [(2, (aup (σ1.1 2) 1 (nI 0))), (0, (aup (σ1.1 0) 7 (oI 0))), (17, f17), (16, f16), (15, f15), (14, f14), (12, f12), (19, (va_cpy (σ1.1 11) (σ1.1 19) 0 0 79))]) (M' := [(13, e13)]) rfl rfl ?_
    refine r_aload_n rfl rfl ?_
    refine s_getR (r := 50) rfl flX9_46 rfl rfl ?_
    refine s_virV [] [] rfl lkX9_100 rfl rfl rfl c_clearUndo rfl rfl (Nat.le_refl _) (Nat.le_refl _) rfl (rV ?_)
    refine m_mz (L' := [(2, (aup (σ1.1 2) 1 (nI 0))), (0, (aup (σ1.1 0) 7 (oI 0))), (17, f17), (16, f16), (15, f15), (14, f14), (12, f12), (19, (va_cpy (σ1.1 11) (σ1.1 19) 0 0 79)), (50, (aup (σ1.1 50) 2 (nI 0)))]) (M' := [(13, e13)]) rfl rfl ?_
    refine r_aload_n rfl rfl ?_
    refine s_getR (r := 50) rfl flX9_46 rfl rfl ?_
    refine s_virV [] [] rfl lkX9_103 rfl rfl rfl c_clearSlots rfl rfl (Nat.le_refl _) (Nat.le_refl _) rfl (rV ?_)
    refine m_mz (L' := [(2, (aup (σ1.1 2) 1 (nI 0))), (0, (aup (σ1.1 0) 7 (oI 0))), (17, f17), (16, f16), (15, f15), (14, f14), (12, f12), (19, (va_cpy (σ1.1 11) (σ1.1 19) 0 0 79)), (50, (aup (aup (σ1.1 50) 2 (nI 0)) 3 (nI 0)))]) (M' := [(13, e13)]) rfl rfl ?_
    refine r_aload_n rfl rfl ?_
    refine s_getR (r := 20) rfl flX9_33 rfl rfl ?_
    refine r_aload_n rfl rfl ?_
    refine s_getR (r := 12) rfl flX9_19 rfl rfl ?_
    refine r_aload_n rfl rfl ?_
    refine s_getR (r := 18) rfl flX9_26 rfl rfl ?_
    refine s_virV [.ref 12, .ref 18] [] rfl lkX9_54 rfl rfl rfl (c_settle_A (d := (pa (m, aT a)).2.2.1) (SRcpy hP.2.2.1) hE hV) rfl rfl (Nat.le_refl _) (Nat.le_refl _) rfl ?_
    rintro _ ⟨g0, g1, g2, g3, g4, g5, g6, g7, g8, g9, g10, g11, g12, g13, rfl, hSE2⟩
    refine m_mz (L' := [(2, (aup (σ1.1 2) 1 (nI 0))), (0, (aup (σ1.1 0) 7 (oI 0))), (17, f17), (16, f16), (15, f15), (14, f14), (12, f12), (19, (va_cpy (σ1.1 11) (σ1.1 19) 0 0 79)), (50, (aup (aup (σ1.1 50) 2 (nI 0)) 3 (nI 0))), (30, g13), (32, g12), (33, g11), (31, g10), (20, g9), (29, g8), (28, g7), (26, g6), (27, g5), (23, g4), (22, g3), (24, g2), (25, g1), (21, g0)]) (M' := [(13, e13)]) rfl rfl ?_
    refine r_iload_n rfl rfl ?_
    exact s_ret (st := []) rfl rfl rfl (Nat.zero_le _) (Nat.zero_le _) (⟨_, rfl, rfl, FrM.tr (FrM_P hF1) (FrM_mz rfl rfl), by rw [paA_0 hz]; exact ⟨⟨⟨SRcpy hP.2.2.1, hE⟩, ⟨rfl, mk_f2⟩, fun i hi => absurd hi (Nat.not_lt_zero _), fun i _ hb => absurd (show false = true from hb) Bool.false_ne_true, ⟨rfl, fun i hi => absurd hi (Nat.not_lt_zero _)⟩, rfl, fun p hp => (hg p (by have hp2 : p < (pa (m, aT a)).2.2.1 0 0 := hp; omega)).trans (hP.2.2.2.1 p hp)⟩, hSE2⟩⟩)
  · have hc5 := hpf.2.2
    refine r_aload_n rfl rfl ?_
    refine r_aload_n rfl rfl ?_
    refine s_getR (r := 1) rfl flX9_10 rfl rfl ?_
    refine s_getI (x := nI (tS (m, aT a) (pa (m, aT a)).2.1)) rfl flX9_88 rfl rfl (hR2 hn) ?_
    refine m_putI (L' := [(2, (aup (σ1.1 2) 1 (nI 0))), (0, (aup (σ1.1 0) 7 (nI (tS (m, aT a) (pa (m, aT a)).2.1))))]) rfl flX9_50 rfl rfl (okv_i _) rfl ?_
    refine r_iload_n rfl rfl ?_
    refine n_if_ne (tgt := 119) rfl rfl (by omega) (fun _ => ?_) (fun hq => absurd hq (by omega))
    refine r_iload_n rfl rfl ?_
    exact s_ret (st := []) rfl rfl rfl (Nat.zero_le _) (Nat.zero_le _) (⟨_, rfl, rfl, FrM.tr (FrM_P hF1) (FrM_mz rfl rfl), by rw [paA_1 hn]; exact ⟨⟨⟨(hF1.1 19 rfl).symm ▸ c1, (show EE σ1 _ from EE_P hF1 c2)⟩, (hF1.1 50 rfl).symm ▸ c3, (hF1.1 51 rfl).symm ▸ c4, (hF1.1 52 rfl).symm ▸ c5, ⟨rfl, fun i hi => absurd hi (Nat.not_lt_zero _)⟩, (oI_s _).symm, (hF1.2.1 13 (by decide)).symm ▸ c9⟩, (show SEA σ1 _ from SE_P hF1 hSE)⟩⟩)
