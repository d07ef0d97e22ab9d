/-- a text read: what it leaves of a run -/
def paA (a : AB) (m : Nat) : AB := if (pa (m, aT a)).1 = 0 then ((pa (m, aT a)).2.2.1, (0, aS a), ((fun _ => false), bR a), (0, aT a), 0, (pa (m, aT a)).2.2.2.1) else (aD a, a.2.1, a.2.2.1, (0, aT a), tS (m, aT a) (pa (m, aT a)).2.1 + 1, aN a)
theorem paA_0 {a : AB} {m : Nat} (h : (pa (m, aT a)).1 = 0) : paA a m = ((pa (m, aT a)).2.2.1, (0, aS a), ((fun _ => false), bR a), (0, aT a), 0, (pa (m, aT a)).2.2.2.1) := if_pos h
theorem paA_1 {a : AB} {m : Nat} (h : (pa (m, aT a)).1 ≠ 0) : paA a m = (aD a, a.2.1, a.2.2.1, (0, aT a), tS (m, aT a) (pa (m, aT a)).2.1 + 1, aN a) := if_neg h
theorem paA_ok {a : AB} {m : Nat} (h : AV a) (hm : m ≤ aL a) : AV (paA a m) := by
  have hf := pa_fw (m, aT a)
  obtain ⟨h1, h2, h3, h4, ⟨h5, h6, h7⟩, h8⟩ := h
  by_cases q : (pa (m, aT a)).1 = 0
  · rw [paA_0 q]
    obtain ⟨v1, v2, v3, v4⟩ := hf.1 q
    exact ⟨v1, Nat.zero_le _, fun i hi => absurd hi (Nat.not_lt_zero _), fun i _ hb => absurd (show false = true from hb) Bool.false_ne_true, ⟨Nat.zero_le _, h6, Nat.zero_le _⟩, v3⟩
  · rw [paA_1 q]
    have hs : tS (m, aT a) (pa (m, aT a)).2.1 ≤ m := tS_le (x := (m, aT a)) hf.2.1
    exact ⟨h1, h2, h3, h4, ⟨Nat.zero_le _, h6, by show _ + 1 ≤ 701; omega⟩, h8⟩
theorem mk_f2 : nI 0 = nI (mk (fun _ => false) 2) := by decide
theorem mR_E : ∀ k, k < 122 → mR dE k = if k = 5 then -1 else if k = 6 then nI 1 else if k = 7 then nI 4 else if k = 9 then nI 1 else nI 0 := by decide +kernel
/-- four bytes more -/
theorem bI_tn (y : Int32) : y.toInt8.toBitVec.toNat < 256 ∧ y.toInt8.toInt32 = bI y.toInt8.toBitVec.toNat := by
  refine ⟨y.toInt8.toBitVec.isLt, ?_⟩
  have h := bI_8 ⟨y.toInt8.toBitVec.toNat, y.toInt8.toBitVec.isLt⟩
  have e : BitVec.ofNat 8 y.toInt8.toBitVec.toNat = y.toInt8.toBitVec := by rw [BitVec.ofNat_toNat, BitVec.setWidth_eq]
  have h2 : (Int8.ofBitVec (BitVec.ofNat 8 y.toInt8.toBitVec.toNat)).toInt32 = bI y.toInt8.toBitVec.toNat := h
  rw [e] at h2
  exact h2
def by4 (v : Int32) (k : Nat) : Nat := (v >>> (nI k &&& 31)).toInt8.toBitVec.toNat
theorem by4_s (v : Int32) (k : Nat) : by4 v k < 256 ∧ (v >>> (nI k &&& 31)).toInt8.toInt32 = bI (by4 v k) := bI_tn _
def ad4 (x : TX) (v : Int32) : TX := (x.1 + 4, aup (aup (aup (aup x.2 x.1 (by4 v 24)) (x.1 + 1) (by4 v 16)) (x.1 + 2) (by4 v 8)) (x.1 + 3) (by4 v 0))
theorem ad4_b {x : TX} (h : ∀ i, x.2 i < 256) (v : Int32) : ∀ i, (ad4 x v).2 i < 256 := by
  have k1 : ∀ {f : Nat → Nat} {i y : Nat}, (∀ j, f j < 256) → y < 256 → ∀ j, aup f i y j < 256 := by
    intro f i y hf hy j
    by_cases e : j = i
    · rw [e, aup_s]; exact hy
    · rw [aup_n _ _ e]; exact hf j
  exact k1 (k1 (k1 (k1 h (by4_s v 24).1) (by4_s v 16).1) (by4_s v 8).1) (by4_s v 0).1
def ap5 (x : TX) (a b c d e : Int32) : TX := ad4 (ad4 (ad4 (ad4 (ad4 x a) b) c) d) e
/-- a row that holds a text -/
def TR (f : Nat → Int32) (x : TX) : Prop := ∀ i, i < x.1 → f i = bI (x.2 i)
theorem TR_up {f : Nat → Int32} {m y : Nat} {t : Nat → Nat} {v : Int32} (h : TR f (m, t)) (hv : vp_nar .byte v = bI y) : TR (aup f m (vp_nar .byte v)) (m + 1, aup t m y) := by
  intro i hi
  show aup f m _ i = bI (aup t m y i)
  by_cases e : i = m
  · rw [e, aup_s, aup_s]; exact hv
  · rw [aup_n _ _ e, aup_n _ _ e]; exact h i (by show i < m; have : i < m + 1 := hi; omega)
theorem by4_n (v : Int32) (k : Nat) : vp_nar .byte (v >>> (nI k &&& 31)).toInt8.toInt32 = bI (by4 v k) := by
  rw [(by4_s v k).2]
  exact bI_nar _ (by4_s v k).1
def apA (a : AB) (x : TX) : AB := (aD a, a.2.1, a.2.2.1, x, a.2.2.2.2)
/-- the buffer's word, found: (the person + 1) -/
def fiN (a : AB) : Nat := if tK (aL a, aT a) 0 = 1 ∧ tS (aL a, aT a) 0 = 0 ∧ (∀ i, i < aL a → tE (aL a, aT a) 0 ≤ i → aT a i = 32) then nmd (aN a) (aD a 0 0) (wl (aL a, aT a) 0) else 0
def fiA (a : AB) : AB := apA a (0, aT a)
theorem fiA_ok {a : AB} (h : AV a) : AV (fiA a) := ⟨h.1, h.2.1, h.2.2.1, h.2.2.2.1, ⟨Nat.zero_le _, h.2.2.2.2.1.2⟩, h.2.2.2.2.2⟩
theorem apA_ok {a : AB} (h : AV a) {x : TX} (h1 : x.1 ≤ 700) (h2 : ∀ i, x.2 i < 256) : AV (apA a x) := ⟨h.1, h.2.1, h.2.2.1, h.2.2.2.1, ⟨h1, h2, h.2.2.2.2.1.2.2⟩, h.2.2.2.2.2⟩
theorem FrM_P {σ σ' : SS} (h : FrP σ σ') : FrM σ σ' := by
  intro o h1 h2
  refine ⟨h.1 o ?_, h.2.1 o (by omega)⟩
  unfold inP
  rw [nbq_f (show ¬ o = 1 by omega), nbq_f (show ¬ o = 2 by omega), nbq_f (show ¬ o = 4 by omega), nbq_f (show ¬ o = 6 by omega), nbq_f (show ¬ o = 7 by omega), nbq_f (show ¬ o = 8 by omega), nbq_f (show ¬ o = 9 by omega), nbq_f (show ¬ o = 11 by omega)]
  rfl
theorem mR_Ec {f : Nat → Int32} (h : ∀ k, k < 122 → f k = nI 0) : MR (aup (aup (aup (aup f 5 (-1)) 7 (nI 4)) 6 (nI 1)) 9 (nI 1)) dE := by
  intro k hk
  rw [mR_E k hk]
  by_cases h9 : k = 9
  · subst h9; rw [aup_s]; rfl
  · rw [aup_n _ _ h9]
    by_cases h6 : k = 6
    · subst h6; rw [aup_s]; rfl
    · rw [aup_n _ _ h6]
      by_cases h7 : k = 7
      · subst h7; rw [aup_s]; rfl
      · rw [aup_n _ _ h7]
        by_cases h5 : k = 5
        · subst h5; rw [aup_s]; rfl
        · rw [aup_n _ _ h5, if_neg h5, if_neg h6, if_neg h7, if_neg h9]
          exact h k hk
/-- the model's run while it parses: what stays -/
def inJ (o : Nat) : Bool := Nat.beq o 53 || Nat.beq o 55
def JQ (σ σ' : SS) : Prop := (∀ o, inJ o = false → σ'.1 o = σ.1 o) ∧ (∀ o, inQ2 o = false → σ'.2 o = σ.2 o) ∧ σ'.1 53 0 = nI 0 ∧ σ'.1 53 6 = nI 0 ∧ σ'.1 53 32 = σ.1 53 32
theorem JQ_mz {σ : SS} {L : List (Nat × (Nat → Int32))} {M : List (Nat × (Nat → Int64))} (h1 : L.all (fun e => inJ e.1) = true) (h2 : M.all (fun e => inQ2 e.1) = true) (h3 : (mz σ L M).1 53 0 = nI 0 ∧ (mz σ L M).1 53 6 = nI 0 ∧ (mz σ L M).1 53 32 = σ.1 53 32) : JQ σ (mz σ L M) := by
  refine ⟨fun o a => gt_no (fun e he q => ?_), fun o a => gt_no (fun e he q => ?_), h3⟩
  · have := List.all_eq_true.mp h1 e he
    rw [q, a] at this; exact absurd this (by decide)
  · have := List.all_eq_true.mp h2 e he
    rw [q, a] at this; exact absurd this (by decide)
theorem inJ_n {o : Nat} (h : inJ o = false) : o ≠ 53 ∧ o ≠ 55 := by
  constructor <;> (intro z; rw [z] at h; exact absurd h (by decide))
theorem inQ2_n {o : Nat} (h : inQ2 o = false) : o ≠ 53 ∧ o ≠ 57 := by
  constructor <;> (intro z; rw [z] at h; exact absurd h (by decide))
theorem JQ.trQ {σ σ' σ2 : SS} (h : JQ σ σ') (g : FrQ σ' σ2) : JQ σ σ2 := ⟨fun o a => (g.1 o (inJ_n a).1 (inJ_n a).2).trans (h.1 o a), fun o a => (g.2.1 o (inQ2_n a).1 (inQ2_n a).2).trans (h.2.1 o a), (g.2.2 0 rfl).trans h.2.2.1, (g.2.2 6 rfl).trans h.2.2.2.1, (g.2.2 32 rfl).trans h.2.2.2.2⟩
theorem JQ.C {σ σ' : SS} (h : JQ σ σ') : FrC σ σ' := by
  intro o ho
  refine ⟨h.1 o ?_, h.2.1 o ?_⟩
  · unfold inJ; rw [nbq_f (show ¬ o = 53 by omega), nbq_f (show ¬ o = 55 by omega)]; rfl
  · unfold inQ2; rw [nbq_f (show ¬ o = 53 by omega), nbq_f (show ¬ o = 57 by omega)]; rfl
theorem EE_P {σ σ' : SS} {d : D} (h : FrP σ σ') (g : EE σ d) : EE σ' d := by
  unfold EE at g ⊢
  rw [h.1 12 rfl, h.1 14 rfl, h.1 15 rfl, h.1 16 rfl, h.1 17 rfl]
  exact g
theorem SE_P {σ σ' : SS} {d : D} (h : FrP σ σ') (g : SEA σ d) : SEA σ' d := by
  unfold SEA at g ⊢
  rw [h.1 20 rfl, h.1 21 rfl, h.1 22 rfl, h.1 23 rfl, h.1 26 rfl, h.1 28 rfl, h.1 29 rfl, h.1 30 rfl, h.1 31 rfl, h.1 32 rfl, h.1 33 rfl]
  exact g
theorem fi_b {x : TX} (h1 : tK x 0 = 1) (h2 : tS x 0 = 0) : run x 1 0 = tE x 0 ∧ run x 1 0 ≠ 0 ∧ run x 1 0 ≤ 8 := by
  have hk : kd x 0 = 1 := by
    have := tK_kd (x := x) (j := 0) (by omega)
    rw [h2] at this; omega
  have hE : tE x 0 = run x 1 0 := by
    unfold tE
    rw [h2, hk, if_pos (Or.inl rfl), run_y (by decide) hk]
  have h3 := tK_1 h1
  have h4 := tE_gt x 0
  omega
theorem fi_w {x : TX} (h1 : run x 1 0 ≠ 0) (h2 : run x 1 0 ≤ 8) : tK x 0 = 1 ∧ (tS x 0 = 0 ∧ tE x 0 = run x 1 0) ∧ lt8 x 0 (run x 1 0) = wl x 0 := by
  have hk : kd x 0 = 1 := by
    apply Classical.byContradiction
    intro z
    exact h1 (run_n z)
  have hS : tS x 0 = 0 := run_n (by omega)
  have hE : tE x 0 = run x 1 0 := by
    unfold tE
    rw [hS, hk, if_pos (Or.inl rfl), run_y (by decide) hk]
  refine ⟨?_, ⟨hS, hE⟩, ?_⟩
  · unfold tK
    rw [hS, hE, hk, if_neg (by omega)]
  · rw [lt8_w (by omega)]
    unfold wl
    rw [hS, hE]
theorem fi_no {x : TX} {i : Nat} (h1 : tK x 0 = 1) (h2 : tS x 0 = 0) (h3 : ∀ k, k < x.1 → tE x 0 ≤ k → x.2 k = 32) (h4 : run x 1 0 ≤ i) (h5 : i < x.1) (h6 : x.2 i ≠ 32) : False := by
  have := (fi_b h1 h2).1
  exact h6 (h3 i h5 (by omega))
theorem k_stm {l9 : Bool} {sc : SC} {σ : SS} {j : Nat} {d : D} {u : Nat → List Nat} {o : Nat → Bool} {x : TX} (hx : x.1 ≤ 700) (hb : ∀ i, x.2 i < 256) (hT : ∀ i, i < x.1 → σ.1 58 i = bI (x.2 i)) (hP : MP σ x (j, d, u, o)) (hVP : VP x (j, d, u, o)) : Cs (true, l9) sc mX10_statement 0 0 [.ref 53] σ (RI fun v σ' => v = nI (tb ((stm x (j, d, u, o)).1 == 0)) ∧ FrQ σ σ' ∧ MW σ' x (stm x (j, d, u, o))) := by
  refine Cs.of gmX10_statement (Nat.le_of_ble_eq_true rfl) ?_
  show Ws (true, l9) sc mX10_statement 0 0 0 0 0 [(0, .ref 53)] [] (mz σ [] []) (RI fun v σ' => v = nI (tb ((stm x (j, d, u, o)).1 == 0)) ∧ FrQ σ σ' ∧ MW σ' x (stm x (j, d, u, o)))
  have hC : MT (σ.1 53) (σ.2 53) x j := hP.1
  have hF : FE (σ.1 53) o := hP.2.2.2
  have hM : MR (σ.1 55) d := hP.2.1
  have hN : NM2 (σ.2 57) (d 0 0) u := hP.2.2.1
  have hV : Vd d := hVP.1
  have hCC := vC hV
  refine r_aload_n rfl rfl ?_
  refine r_ldcS (i := 26) rfl rfl ?_
  refine s_virI [.retAddr 26] [] rfl lkX10_168 rfl rfl rfl (k_isWord sq26 sv26 hx hb hT hC) rfl rfl (Nat.le_refl _) (Nat.le_refl _) rfl (rI (e1 := nI (tb (iw x j Wperson))) rfl ?_)
  have hbperson := tb_le (iw x j Wperson)
  refine n_if_eq (tgt := 14) rfl rfl (by omega) (fun h0 => ?_) (fun h0 => ?_)
  · refine r_aload_n rfl rfl ?_
    refine r_ldcS (i := 31) rfl rfl ?_
    refine s_virI [.retAddr 31] [] rfl lkX10_168 rfl rfl rfl (k_isWord sq31 sv31 hx hb hT hC) rfl rfl (Nat.le_refl _) (Nat.le_refl _) rfl (rI (e1 := nI (tb (iw x j Wasset))) rfl ?_)
    have hbasset := tb_le (iw x j Wasset)
    refine n_if_eq (tgt := 28) rfl rfl (by omega) (fun h1 => ?_) (fun h1 => ?_)
    · refine r_aload_n rfl rfl ?_
      refine r_ldcS (i := 33) rfl rfl ?_
      refine s_virI [.retAddr 33] [] rfl lkX10_168 rfl rfl rfl (k_isWord sq33 sv33 hx hb hT hC) rfl rfl (Nat.le_refl _) (Nat.le_refl _) rfl (rI (e1 := nI (tb (iw x j Wdebt))) rfl ?_)
      have hbdebt := tb_le (iw x j Wdebt)
      refine n_if_eq (tgt := 42) rfl rfl (by omega) (fun h2 => ?_) (fun h2 => ?_)
      · refine r_aload_n rfl rfl ?_
        refine r_ldcS (i := 34) rfl rfl ?_
        refine s_virI [.retAddr 34] [] rfl lkX10_168 rfl rfl rfl (k_isWord sq34 sv34 hx hb hT hC) rfl rfl (Nat.le_refl _) (Nat.le_refl _) rfl (rI (e1 := nI (tb (iw x j Wgift))) rfl ?_)
        have hbgift := tb_le (iw x j Wgift)
        refine n_if_eq (tgt := 59) rfl rfl (by omega) (fun h3 => ?_) (fun h3 => ?_)
        · refine r_aload_n rfl rfl ?_
          refine r_ldcS (i := 35) rfl rfl ?_
          refine s_virI [.retAddr 35] [] rfl lkX10_168 rfl rfl rfl (k_isWord sq35 sv35 hx hb hT hC) rfl rfl (Nat.le_refl _) (Nat.le_refl _) rfl (rI (e1 := nI (tb (iw x j Wlegacy))) rfl ?_)
          have hblegacy := tb_le (iw x j Wlegacy)
          refine n_if_eq (tgt := 76) rfl rfl (by omega) (fun h4 => ?_) (fun h4 => ?_)
          · refine r_aload_n rfl rfl ?_
            refine r_ldcS (i := 36) rfl rfl ?_
            refine s_virI [.retAddr 36] [] rfl lkX10_168 rfl rfl rfl (k_isWord sq36 sv36 hx hb hT hC) rfl rfl (Nat.le_refl _) (Nat.le_refl _) rfl (rI (e1 := nI (tb (iw x j Wshare))) rfl ?_)
            have hbshare := tb_le (iw x j Wshare)
            refine n_if_eq (tgt := 128) rfl rfl (by omega) (fun h5 => ?_) (fun h5 => ?_)
            · refine r_aload_n rfl rfl ?_
              refine r_ldcS (i := 37) rfl rfl ?_
              refine s_virI [.retAddr 37] [] rfl lkX10_168 rfl rfl rfl (k_isWord sq37 sv37 hx hb hT hC) rfl rfl (Nat.le_refl _) (Nat.le_refl _) rfl (rI (e1 := nI (tb (iw x j Wlife))) rfl ?_)
              have hblife := tb_le (iw x j Wlife)
              refine n_if_eq (tgt := 163) rfl rfl (by omega) (fun h6 => ?_) (fun h6 => ?_)
              · refine r_aload_n rfl rfl ?_
                refine r_ldcS (i := 38) rfl rfl ?_
                refine s_virI [.retAddr 38] [] rfl lkX10_168 rfl rfl rfl (k_isWord sq38 sv38 hx hb hT hC) rfl rfl (Nat.le_refl _) (Nat.le_refl _) rfl (rI (e1 := nI (tb (iw x j Waccrue))) rfl ?_)
                have hbaccrue := tb_le (iw x j Waccrue)
                refine n_if_eq (tgt := 179) rfl rfl (by omega) (fun h7 => ?_) (fun h7 => ?_)
                · refine r_aload_n rfl rfl ?_
                  refine n_iconst 1 rfl ?_
                  refine s_virI [.int (nI 1)] [] rfl lkX10_141 rfl rfl rfl (k_fails hF.1 hC.2.1) rfl rfl (Nat.le_refl _) (Nat.le_refl _) rfl (rI (e1 := nI 0) rfl ?_)
                  refine m_mz (L' := [(53, (aup (aup (σ.1 53) 13 (nI 1)) 14 (nI (tS x j))))]) (M' := []) rfl rfl ?_
                  have e9 : stm x (j, d, u, o) = (1, j, d, u, o) := (if_neg (by rw [tb_z h0]; decide)).trans ((if_neg (by rw [tb_z h1]; decide)).trans ((if_neg (by rw [tb_z h2]; decide)).trans ((if_neg (by rw [tb_z h3]; decide)).trans ((if_neg (by rw [tb_z h4]; decide)).trans ((if_neg (by rw [tb_z h5]; decide)).trans ((if_neg (by rw [tb_z h6]; decide)).trans (if_neg (by rw [tb_z h7]; decide))))))))
                  exact s_ret (st := []) rfl rfl rfl (Nat.zero_le _) (Nat.zero_le _) (⟨_, rfl, by rw [e9]; exact tb_nr rfl, FrQ_mz rfl rfl (fun k hk => KPq (KPq (fun _ _ => rfl) rfl) rfl k hk), by rw [e9]; exact MW_no (by decide) ⟨rfl, rfl⟩⟩)
                · have hiw := tb_ne h7
                  have e8 : stm x (j, d, u, o) = sAcc x (j, d, u, o) := (if_neg (by rw [tb_z h0]; decide)).trans ((if_neg (by rw [tb_z h1]; decide)).trans ((if_neg (by rw [tb_z h2]; decide)).trans ((if_neg (by rw [tb_z h3]; decide)).trans ((if_neg (by rw [tb_z h4]; decide)).trans ((if_neg (by rw [tb_z h5]; decide)).trans ((if_neg (by rw [tb_z h6]; decide)).trans (if_pos hiw)))))))
                  have hk := iw_1 hiw
                  refine r_aload_n rfl rfl ?_
                  refine s_virI [] [] rfl lkX10_225 rfl rfl rfl (k_accrueLine hx hb hT hP hVP hk) rfl rfl (Nat.le_refl _) (Nat.le_refl _) rfl ?_
                  rintro _ σ9 ⟨rfl, hF9, hR9⟩
                  show Ws (true, l9) sc mX10_statement 0 0 0 0 176 [(0, .ref 53)] [.int (nI (tb ((sAcc x (j, d, u, o)).1 == 0)))] (mz σ9 [] []) (RI fun v σ' => v = nI (tb ((stm x (j, d, u, o)).1 == 0)) ∧ FrQ σ σ' ∧ MW σ' x (stm x (j, d, u, o)))
                  refine r_goto (tgt := 184) rfl rfl ?_
                  exact s_ret (st := []) rfl rfl (nar_tb _) (Nat.zero_le _) (Nat.zero_le _) (⟨_, rfl, by rw [e8], hF9, by rw [e8]; exact hR9⟩)
              · have hiw := tb_ne h6
                have e8 : stm x (j, d, u, o) = sLif x (j, d, u, o) := (if_neg (by rw [tb_z h0]; decide)).trans ((if_neg (by rw [tb_z h1]; decide)).trans ((if_neg (by rw [tb_z h2]; decide)).trans ((if_neg (by rw [tb_z h3]; decide)).trans ((if_neg (by rw [tb_z h4]; decide)).trans ((if_neg (by rw [tb_z h5]; decide)).trans (if_pos hiw))))))
                have hk := iw_1 hiw
                refine r_aload_n rfl rfl ?_
                refine n_iconst 1 rfl ?_
                have hk0 : tK x j ≠ 0 := by omega
                rcases Bool.eq_false_or_eq_true (o 1) with ho | ho
                · refine s_virI [.int (nI 1)] [] rfl lkX10_190 rfl rfl rfl (k_once_no (j := tS x j) (by decide) hF.1 hC.2.1 hF.2.2 ho) rfl rfl (Nat.le_refl _) (Nat.le_refl _) rfl (rI (e1 := nI 0) rfl ?_)
                  refine m_mz (L' := [(53, (aup (aup (aup (σ.1 53) 16 (nI (mk (aup o 1 true) 3))) 13 (nI 2)) 14 (nI (tS x j))))]) (M' := []) rfl rfl ?_
                  refine n_if_eq (tgt := 161) rfl rfl (by decide) (fun _ => ?_) (fun hq => absurd hq (by decide))
                  refine n_iconst 0 rfl ?_
                  have e9 : stm x (j, d, u, o) = (2, j, d, u, o) := e8.trans (if_pos ho)
                  exact s_ret (st := []) rfl rfl rfl (Nat.zero_le _) (Nat.zero_le _) (⟨_, rfl, by rw [e9]; exact tb_nr rfl, FrQ_mz rfl rfl (fun k hk => KPq (KPq (KPq (fun _ _ => rfl) rfl) rfl) rfl k hk), by rw [e9]; exact MW_no (by decide) ⟨rfl, rfl⟩⟩)
                · have ho1 : ¬ o 1 = true := by rw [ho]; decide
                  refine s_virI [.int (nI 1)] [] rfl lkX10_190 rfl rfl rfl (k_once (q := 1) (by decide) hx hb hT hC hk0 hF ho) rfl rfl (Nat.le_refl _) (Nat.le_refl _) rfl ?_
                  rintro _ _ ⟨m1, l1, rfl, rfl, t1, F1, p1⟩
                  refine m_mz (L' := [(53, m1)]) (M' := [(53, l1)]) rfl rfl ?_
                  refine n_if_eq (tgt := 161) rfl rfl (by decide) (fun hq => absurd hq (by decide)) (fun _ => ?_)
                  refine r_aload_n rfl rfl ?_
                  refine n_bipush 8 rfl (by decide) ?_
                  refine n_iconst 0 rfl ?_
                  refine n_bipush 100 rfl (by decide) ?_
                  refine s_virI [.int (nI 8), .int (nI 0), .int (nI 100)] [] rfl lkX10_177 rfl rfl rfl (k_lays (b := 8) (l := 0) (m := 100) hx hb hT t1 F1.1 (by decide) (by decide) (by decide)) rfl rfl (Nat.le_refl _) (Nat.le_refl _) rfl ?_
                  rintro _ _ ⟨m2, e2, l2, rfl, rfl, r2⟩
                  refine m_mz (L' := [(53, m2), (55, e2)]) (M' := [(53, l2)]) rfl rfl ?_
                  have hb2 := tb_le ((nu x (tE x j) 0 100).1 == 0)
                  refine n_if_eq (tgt := 161) rfl rfl (by omega) (fun hh1 => ?_) (fun hh1 => ?_)
                  · have hn2 := tbq_n hh1
                    refine n_iconst 0 rfl ?_
                    have e9 : stm x (j, d, u, o) = ((nu x (tE x j) 0 100).1, (nu x (tE x j) 0 100).2.1, d, u, o) := e8.trans ((if_neg ho1).trans (if_pos hn2))
                    exact s_ret (st := []) rfl rfl rfl (Nat.zero_le _) (Nat.zero_le _) (⟨_, rfl, by rw [e9]; exact tb_no hn2, FrQ_mz rfl rfl (fun k hk => ((r2.2 hn2).2 k hk).trans ((p1) k hk)), by rw [e9]; exact MW_no hn2 (r2.2 hn2).1⟩)
                  · have hz1 := tbq_y hh1
                    obtain ⟨t2, q2, p2⟩ := r2.1 hz1
                    have F2 := FE_k F1 p2
                    refine n_iconst 1 rfl ?_
                    refine r_goto (tgt := 162) rfl rfl ?_
                    have e9 : stm x (j, d, u, o) = (0, (nu x (tE x j) 0 100).2.1, up d 0 8 (nu x (tE x j) 0 100).2.2, u, aup o 1 true) := e8.trans ((if_neg ho1).trans (if_neg (fun z => z hz1)))
                    exact s_ret (st := []) rfl rfl rfl (Nat.zero_le _) (Nat.zero_le _) (⟨_, rfl, by rw [e9]; rfl, FrQ_mz rfl rfl (fun k hk => (p2.Q k hk).trans (p1 k hk)), by rw [e9]; exact MW_ok ⟨t2, by show MR e2 _; rw [q2]; exact MRup hM (by decide) (mP0 (by decide)) rfl, NM2_cg hN rfl, F2⟩⟩)
            · have hiw := tb_ne h5
              have e8 : stm x (j, d, u, o) = sSha x (j, d, u, o) := (if_neg (by rw [tb_z h0]; decide)).trans ((if_neg (by rw [tb_z h1]; decide)).trans ((if_neg (by rw [tb_z h2]; decide)).trans ((if_neg (by rw [tb_z h3]; decide)).trans ((if_neg (by rw [tb_z h4]; decide)).trans (if_pos hiw)))))
              have hk := iw_1 hiw
              refine r_aload_n rfl rfl ?_
              refine n_iconst 0 rfl ?_
              have hk0 : tK x j ≠ 0 := by omega
              rcases Bool.eq_false_or_eq_true (o 0) with ho | ho
              · refine s_virI [.int (nI 0)] [] rfl lkX10_190 rfl rfl rfl (k_once_no (j := tS x j) (by decide) hF.1 hC.2.1 hF.2.2 ho) rfl rfl (Nat.le_refl _) (Nat.le_refl _) rfl (rI (e1 := nI 0) rfl ?_)
                refine m_mz (L' := [(53, (aup (aup (aup (σ.1 53) 16 (nI (mk (aup o 0 true) 3))) 13 (nI 2)) 14 (nI (tS x j))))]) (M' := []) rfl rfl ?_
                refine n_if_eq (tgt := 126) rfl rfl (by decide) (fun _ => ?_) (fun hq => absurd hq (by decide))
                refine n_iconst 0 rfl ?_
                have e9 : stm x (j, d, u, o) = (2, j, d, u, o) := e8.trans (if_pos ho)
                exact s_ret (st := []) rfl rfl rfl (Nat.zero_le _) (Nat.zero_le _) (⟨_, rfl, by rw [e9]; exact tb_nr rfl, FrQ_mz rfl rfl (fun k hk => KPq (KPq (KPq (fun _ _ => rfl) rfl) rfl) rfl k hk), by rw [e9]; exact MW_no (by decide) ⟨rfl, rfl⟩⟩)
              · have ho1 : ¬ o 0 = true := by rw [ho]; decide
                refine s_virI [.int (nI 0)] [] rfl lkX10_190 rfl rfl rfl (k_once (q := 0) (by decide) hx hb hT hC hk0 hF ho) rfl rfl (Nat.le_refl _) (Nat.le_refl _) rfl ?_
                rintro _ _ ⟨m1, l1, rfl, rfl, t1, F1, p1⟩
                refine m_mz (L' := [(53, m1)]) (M' := [(53, l1)]) rfl rfl ?_
                refine n_if_eq (tgt := 126) rfl rfl (by decide) (fun hq => absurd hq (by decide)) (fun _ => ?_)
                refine r_aload_n rfl rfl ?_
                refine n_bipush 7 rfl (by decide) ?_
                refine n_iconst 1 rfl ?_
                refine n_bipush 99 rfl (by decide) ?_
                have eT : stm x (j, d, u, o) = two x (j, d, u, o) (nu x (tE x j) 1 99) (nu x (tE x j) 1 99).2.2 (fun v w => up (up d 0 7 v) 0 6 w) (aup o 0 true) := e8.trans (if_neg ho1)
                refine s_virI [.int (nI 7), .int (nI 1), .int (nI 99)] [] rfl lkX10_177 rfl rfl rfl (k_lays (b := 7) (l := 1) (m := 99) hx hb hT t1 F1.1 (by decide) (by decide) (by decide)) rfl rfl (Nat.le_refl _) (Nat.le_refl _) rfl ?_
                rintro _ _ ⟨m2, e2, l2, rfl, rfl, r2⟩
                refine m_mz (L' := [(53, m2), (55, e2)]) (M' := [(53, l2)]) rfl rfl ?_
                have hb2 := tb_le ((nu x (tE x j) 1 99).1 == 0)
                refine n_if_eq (tgt := 126) rfl rfl (by omega) (fun hh1 => ?_) (fun hh1 => ?_)
                · have hn2 := tbq_n hh1
                  refine n_iconst 0 rfl ?_
                  have e9 : _ := eT.trans (two_1 hn2)
                  exact s_ret (st := []) rfl rfl rfl (Nat.zero_le _) (Nat.zero_le _) (⟨_, rfl, by rw [e9]; exact tb_no hn2, FrQ_mz rfl rfl (fun k hk => ((r2.2 hn2).2 k hk).trans ((p1) k hk)), by rw [e9]; exact MW_no hn2 (r2.2 hn2).1⟩)
                · have hz1 := tbq_y hh1
                  obtain ⟨t2, q2, p2⟩ := r2.1 hz1
                  have w1 := nu_fw hz1
                  have F2 := FE_k F1 p2
                  have hg : e2 7 = nI (nu x (tE x j) 1 99).2.2 := by rw [q2, aup_s]
                  refine r_aload_n rfl rfl ?_
                  refine n_bipush 6 rfl (by decide) ?_
                  refine n_iconst 0 rfl ?_
                  refine r_aload_n rfl rfl ?_
                  refine s_getR (r := 55) rfl flX10_13 rfl rfl ?_
                  refine n_bipush 7 rfl (by decide) ?_
                  refine s_iald (x := nI ((nu x (tE x j) 1 99).2.2)) rfl rfl (by decide) hg ?_
                  refine s_virI [.int (nI 6), .int (nI 0), .int (nI ((nu x (tE x j) 1 99).2.2))] [] rfl lkX10_177 rfl rfl rfl (k_lays (b := 6) (l := 0) (m := (nu x (tE x j) 1 99).2.2) hx hb hT t2 F2.1 (by decide) (by omega) (by decide)) rfl rfl (Nat.le_refl _) (Nat.le_refl _) rfl ?_
                  rintro _ _ ⟨m3, e3, l3, rfl, rfl, r3⟩
                  refine m_mz (L' := [(53, m3), (55, e3)]) (M' := [(53, l3)]) rfl rfl ?_
                  have hb3 := tb_le ((nu x (nu x (tE x j) 1 99).2.1 0 (nu x (tE x j) 1 99).2.2).1 == 0)
                  refine n_if_eq (tgt := 126) rfl rfl (by omega) (fun hh2 => ?_) (fun hh2 => ?_)
                  · have hn3 := tbq_n hh2
                    refine n_iconst 0 rfl ?_
                    have e9 : _ := eT.trans (two_2 hz1 hn3)
                    exact s_ret (st := []) rfl rfl rfl (Nat.zero_le _) (Nat.zero_le _) (⟨_, rfl, by rw [e9]; exact tb_no hn3, FrQ_mz rfl rfl (fun k hk => ((r3.2 hn3).2 k hk).trans ((fun k hk => (p2.Q k hk).trans (p1 k hk)) k hk)), by rw [e9]; exact MW_no hn3 (r3.2 hn3).1⟩)
                  · have hz2 := tbq_y hh2
                    obtain ⟨t3, q3, p3⟩ := r3.1 hz2
                    have F3 := FE_k F2 p3
                    have e9 := eT.trans (two_0 hz1 hz2)
                    refine n_iconst 1 rfl ?_
                    refine r_goto (tgt := 127) rfl rfl ?_
                    exact s_ret (st := []) rfl rfl rfl (Nat.zero_le _) (Nat.zero_le _) (⟨_, rfl, by rw [e9]; rfl, FrQ_mz rfl rfl (fun k hk => (p3.Q k hk).trans ((p2.Q k hk).trans (p1 k hk))), by rw [e9]; exact MW_ok ⟨t3, by show MR e3 _; rw [q3]; show MR (aup e2 6 _) _; rw [q2]; exact MRup (MRup hM (by decide) (mP0 (by decide)) rfl) (by decide) (mP0 (by decide)) rfl, NM2_cg hN rfl, F3⟩⟩)
          · have hiw := tb_ne h4
            have e8 : stm x (j, d, u, o) = sLeg x (j, d, u, o) := (if_neg (by rw [tb_z h0]; decide)).trans ((if_neg (by rw [tb_z h1]; decide)).trans ((if_neg (by rw [tb_z h2]; decide)).trans ((if_neg (by rw [tb_z h3]; decide)).trans (if_pos hiw))))
            have hk := iw_1 hiw
            refine r_aload_n rfl rfl ?_
            refine n_iconst 4 rfl ?_
            refine n_bipush 106 rfl (by decide) ?_
            refine s_virI [.int (nI 4), .int (nI 106)] [] rfl lkX10_215 rfl rfl rfl (k_givenLine_4 hx hb hT hP hVP hk) rfl rfl (Nat.le_refl _) (Nat.le_refl _) rfl ?_
            rintro _ σ9 ⟨rfl, hF9, hR9⟩
            show Ws (true, l9) sc mX10_statement 0 0 0 0 75 [(0, .ref 53)] [.int (nI (tb ((sLeg x (j, d, u, o)).1 == 0)))] (mz σ9 [] []) (RI fun v σ' => v = nI (tb ((stm x (j, d, u, o)).1 == 0)) ∧ FrQ σ σ' ∧ MW σ' x (stm x (j, d, u, o)))
            exact s_ret (st := []) rfl rfl (nar_tb _) (Nat.zero_le _) (Nat.zero_le _) (⟨_, rfl, by rw [e8], hF9, by rw [e8]; exact hR9⟩)
        · have hiw := tb_ne h3
          have e8 : stm x (j, d, u, o) = sGif x (j, d, u, o) := (if_neg (by rw [tb_z h0]; decide)).trans ((if_neg (by rw [tb_z h1]; decide)).trans ((if_neg (by rw [tb_z h2]; decide)).trans (if_pos hiw)))
          have hk := iw_1 hiw
          refine r_aload_n rfl rfl ?_
          refine n_iconst 3 rfl ?_
          refine n_bipush 90 rfl (by decide) ?_
          refine s_virI [.int (nI 3), .int (nI 90)] [] rfl lkX10_215 rfl rfl rfl (k_givenLine_3 hx hb hT hP hVP hk) rfl rfl (Nat.le_refl _) (Nat.le_refl _) rfl ?_
          rintro _ σ9 ⟨rfl, hF9, hR9⟩
          show Ws (true, l9) sc mX10_statement 0 0 0 0 58 [(0, .ref 53)] [.int (nI (tb ((sGif x (j, d, u, o)).1 == 0)))] (mz σ9 [] []) (RI fun v σ' => v = nI (tb ((stm x (j, d, u, o)).1 == 0)) ∧ FrQ σ σ' ∧ MW σ' x (stm x (j, d, u, o)))
          exact s_ret (st := []) rfl rfl (nar_tb _) (Nat.zero_le _) (Nat.zero_le _) (⟨_, rfl, by rw [e8], hF9, by rw [e8]; exact hR9⟩)
      · have hiw := tb_ne h2
        have e8 : stm x (j, d, u, o) = sDeb x (j, d, u, o) := (if_neg (by rw [tb_z h0]; decide)).trans ((if_neg (by rw [tb_z h1]; decide)).trans (if_pos hiw))
        have hk := iw_1 hiw
        refine r_aload_n rfl rfl ?_
        refine s_virI [] [] rfl lkX10_210 rfl rfl rfl (k_debtLine hx hb hT hP hVP hk) rfl rfl (Nat.le_refl _) (Nat.le_refl _) rfl ?_
        rintro _ σ9 ⟨rfl, hF9, hR9⟩
        show Ws (true, l9) sc mX10_statement 0 0 0 0 41 [(0, .ref 53)] [.int (nI (tb ((sDeb x (j, d, u, o)).1 == 0)))] (mz σ9 [] []) (RI fun v σ' => v = nI (tb ((stm x (j, d, u, o)).1 == 0)) ∧ FrQ σ σ' ∧ MW σ' x (stm x (j, d, u, o)))
        exact s_ret (st := []) rfl rfl (nar_tb _) (Nat.zero_le _) (Nat.zero_le _) (⟨_, rfl, by rw [e8], hF9, by rw [e8]; exact hR9⟩)
    · have hiw := tb_ne h1
      have e8 : stm x (j, d, u, o) = sAss x (j, d, u, o) := (if_neg (by rw [tb_z h0]; decide)).trans (if_pos hiw)
      have hk := iw_1 hiw
      refine r_aload_n rfl rfl ?_
      refine s_virI [] [] rfl lkX10_205 rfl rfl rfl (k_assetLine hx hb hT hP hVP hk) rfl rfl (Nat.le_refl _) (Nat.le_refl _) rfl ?_
      rintro _ σ9 ⟨rfl, hF9, hR9⟩
      show Ws (true, l9) sc mX10_statement 0 0 0 0 27 [(0, .ref 53)] [.int (nI (tb ((sAss x (j, d, u, o)).1 == 0)))] (mz σ9 [] []) (RI fun v σ' => v = nI (tb ((stm x (j, d, u, o)).1 == 0)) ∧ FrQ σ σ' ∧ MW σ' x (stm x (j, d, u, o)))
      exact s_ret (st := []) rfl rfl (nar_tb _) (Nat.zero_le _) (Nat.zero_le _) (⟨_, rfl, by rw [e8], hF9, by rw [e8]; exact hR9⟩)
  · have hiw := tb_ne h0
    have e8 : stm x (j, d, u, o) = sPer x (j, d, u, o) := if_pos hiw
    have hk := iw_1 hiw
    refine r_aload_n rfl rfl ?_
    refine s_virI [] [] rfl lkX10_199 rfl rfl rfl (k_personLine hx hb hT hP hVP hk) rfl rfl (Nat.le_refl _) (Nat.le_refl _) rfl ?_
    rintro _ σ9 ⟨rfl, hF9, hR9⟩
    show Ws (true, l9) sc mX10_statement 0 0 0 0 13 [(0, .ref 53)] [.int (nI (tb ((sPer x (j, d, u, o)).1 == 0)))] (mz σ9 [] []) (RI fun v σ' => v = nI (tb ((stm x (j, d, u, o)).1 == 0)) ∧ FrQ σ σ' ∧ MW σ' x (stm x (j, d, u, o)))
    exact s_ret (st := []) rfl rfl (nar_tb _) (Nat.zero_le _) (Nat.zero_le _) (⟨_, rfl, by rw [e8], hF9, by rw [e8]; exact hR9⟩)

theorem k_clears {l9 : Bool} {sc : SC} {σ : SS}  : Cs (true, l9) sc mX10_clearsDraft 0 0 [.ref 53] σ (RV fun σ' => ∃ f, σ' = mz σ [(55, f)] [] ∧ MR f dE) := by
  refine Cs.of gmX10_clearsDraft (Nat.le_of_ble_eq_true rfl) ?_
  show Ws (true, l9) sc mX10_clearsDraft 0 0 0 0 0 [(0, .ref 53)] [] (mz σ [] []) (RV fun σ' => ∃ f, σ' = mz σ [(55, f)] [] ∧ MR f dE)
  refine n_iconst 0 rfl ?_
  refine r_istore_n (lv' := [(1, .int (nI 0)), (0, .ref 53)]) rfl rfl (Nat.le_of_ble_eq_true rfl) rfl ?_
  refine r_lv (lv' := [(1, .int (nI 0)), (0, .ref 53)]) [0, 1] rfl ?_
  refine m_newI (L' := [(55, (σ.1 55))]) 55 rfl ?_
  have loop : ∀ (m9 : Nat) (k : Nat) (f : Nat → Int32), 122 - k < m9 → (k ≤ 122) → (∀ j, j < k → f j = nI 0) → Ws (true, l9) sc mX10_clearsDraft 0 0 0 0 2 [(1, .int (nI k)), (0, .ref 53)] [] (mz σ [(55, f)] []) (RV fun σ' => ∃ f, σ' = mz σ [(55, f)] [] ∧ MR f dE) := by
    intro m9
    induction m9 with
    | zero => intro k f hme; exact absurd hme (Nat.not_lt_zero _)
    | succ m9 ih =>
      intro k f hme hk hf
      refine r_iload_n rfl rfl ?_
      refine n_bipush 122 rfl (by decide) ?_
      refine n_icmp_ge (tgt := 21) rfl rfl (by omega) (by omega) (fun h1 => ?_) (fun h1 => ?_)
      · have hke : k = 122 := by omega
        subst hke
        refine r_aload_n rfl rfl ?_
        refine s_getR (r := 55) rfl flX10_13 rfl rfl ?_
        refine n_iconst 5 rfl ?_
        refine n_m1 rfl ?_
        refine m_iast (L' := [(55, (aup f 5 (-1)))]) rfl rfl (by decide) rfl ?_
        refine r_aload_n rfl rfl ?_
        refine s_getR (r := 55) rfl flX10_13 rfl rfl ?_
        refine n_bipush 7 rfl (by decide) ?_
        refine n_iconst 4 rfl ?_
        refine m_iast (L' := [(55, (aup (aup f 5 (-1)) 7 (nI 4)))]) rfl rfl (by decide) rfl ?_
        refine r_aload_n rfl rfl ?_
        refine s_getR (r := 55) rfl flX10_13 rfl rfl ?_
        refine n_bipush 6 rfl (by decide) ?_
        refine n_iconst 1 rfl ?_
        refine m_iast (L' := [(55, (aup (aup (aup f 5 (-1)) 7 (nI 4)) 6 (nI 1)))]) rfl rfl (by decide) rfl ?_
        refine r_aload_n rfl rfl ?_
        refine s_getR (r := 55) rfl flX10_13 rfl rfl ?_
        refine n_bipush 9 rfl (by decide) ?_
        refine n_iconst 1 rfl ?_
        refine m_iast (L' := [(55, (aup (aup (aup (aup f 5 (-1)) 7 (nI 4)) 6 (nI 1)) 9 (nI 1)))]) rfl rfl (by decide) rfl ?_
        exact s_vret (st := []) rfl rfl (Nat.zero_le _) (Nat.zero_le _) (⟨rfl, _, rfl, mR_Ec hf⟩)
      · refine r_aload_n rfl rfl ?_
        refine s_getR (r := 55) rfl flX10_13 rfl rfl ?_
        refine r_iload_n rfl rfl ?_
        refine n_iconst 0 rfl ?_
        refine m_iast (L' := [(55, (aup f k (nI 0)))]) rfl rfl (by omega) rfl ?_
        refine n_iinc (lv' := [(1, .int (nI (k + 1))), (0, .ref 53)]) 1 rfl rfl (Nat.le_of_ble_eq_true rfl) rfl ?_
        refine r_goto (tgt := 2) rfl rfl ?_
        refine r_lv (lv' := [(1, .int (nI (k + 1))), (0, .ref 53)]) [0, 1] rfl ?_
        exact ih (k + 1) _ (by omega) (by omega) (aup_lt hf rfl)
  exact loop 123 0 _ (by omega) (by omega) (fun j hj => absurd hj (Nat.not_lt_zero _))

theorem k_takesD {l9 : Bool} {sc : SC} {σ : SS} {d : D} (hM : MR (σ.1 55) d) : Cs (true, l9) sc mX10_takesDraft 0 0 [.ref 53] σ (RV fun σ' => ∃ f54 g56 f53 f75, σ' = mz σ [(54, f54), (53, f53), (75, f75)] [(56, g56)] ∧ MR f54 d ∧ (∀ p, p < 12 → g56 p = σ.2 57 p) ∧ (f53 32 = nI 0 ∧ ∀ k, k ≠ 32 → f53 k = σ.1 53 k) ∧ ∀ i, i < 2 → f75 i = nI 0) := by
  refine Cs.of gmX10_takesDraft (Nat.le_of_ble_eq_true rfl) ?_
  show Ws (true, l9) sc mX10_takesDraft 0 0 0 0 0 [(0, .ref 53)] [] (mz σ [] []) (RV fun σ' => ∃ f54 g56 f53 f75, σ' = mz σ [(54, f54), (53, f53), (75, f75)] [(56, g56)] ∧ MR f54 d ∧ (∀ p, p < 12 → g56 p = σ.2 57 p) ∧ (f53 32 = nI 0 ∧ ∀ k, k ≠ 32 → f53 k = σ.1 53 k) ∧ ∀ i, i < 2 → f75 i = nI 0)
  refine r_aload_n rfl rfl ?_
  refine s_getR (r := 55) rfl flX10_13 rfl rfl ?_
  refine n_iconst 0 rfl ?_
  refine r_aload_n rfl rfl ?_
  refine s_getR (r := 54) rfl flX10_7 rfl rfl ?_
  refine n_iconst 0 rfl ?_
  refine s_staV [.ref 55, .int (nI 0), .ref 54, .int (nI 0)] [] rfl lkX10_228 (k_copies_55_54 (by decide) (by decide)) rfl rfl (Nat.le_refl _) (Nat.le_refl _) rfl ?_
  rintro _ ⟨f54, rfl, hc1, hc2⟩
  refine m_mz (L' := [(54, f54)]) (M' := []) rfl rfl ?_
  refine n_iconst 0 rfl ?_
  refine r_istore_n (lv' := [(1, .int (nI 0)), (0, .ref 53)]) rfl rfl (Nat.le_of_ble_eq_true rfl) rfl ?_
  refine r_lv (lv' := [(1, .int (nI 0)), (0, .ref 53)]) [0, 1] rfl ?_
  refine m_newL (M' := [(56, (σ.2 56))]) 56 rfl ?_
  have loop : ∀ (m9 : Nat) (k : Nat) (g : Nat → Int64), 12 - k < m9 → (k ≤ 12) → (∀ j, j < k → g j = σ.2 57 j) → Ws (true, l9) sc mX10_takesDraft 0 0 0 0 15 [(1, .int (nI k)), (0, .ref 53)] [] (mz σ [(54, f54)] [(56, g)]) (RV fun σ' => ∃ f54 g56 f53 f75, σ' = mz σ [(54, f54), (53, f53), (75, f75)] [(56, g56)] ∧ MR f54 d ∧ (∀ p, p < 12 → g56 p = σ.2 57 p) ∧ (f53 32 = nI 0 ∧ ∀ k, k ≠ 32 → f53 k = σ.1 53 k) ∧ ∀ i, i < 2 → f75 i = nI 0) := by
    intro m9
    induction m9 with
    | zero => intro k g hme; exact absurd hme (Nat.not_lt_zero _)
    | succ m9 ih =>
      intro k g hme hk hg
      refine r_iload_n rfl rfl ?_
      refine n_bipush 12 rfl (by decide) ?_
      refine n_icmp_ge (tgt := 39) rfl rfl (by omega) (by omega) (fun h1 => ?_) (fun h1 => ?_)
      · have hke : k = 12 := by omega
        subst hke
        refine r_aload_n rfl rfl ?_
        refine n_iconst 0 rfl ?_
        refine m_putI (L' := [(54, f54), (53, (aup (σ.1 53) 32 (nI 0)))]) rfl flX10_232 rfl rfl (okv_i _) rfl ?_
        refine r_aload_n rfl rfl ?_
        refine s_getR (r := 75) rfl flX10_80 rfl rfl ?_
        refine n_iconst 0 rfl ?_
        refine n_iconst 0 rfl ?_
        refine m_zastN (L' := [(54, f54), (53, (aup (σ.1 53) 32 (nI 0))), (75, (aup (σ.1 75) 0 (nI 0)))]) rfl rfl (by decide) (by decide) rfl ?_
        refine r_aload_n rfl rfl ?_
        refine s_getR (r := 75) rfl flX10_80 rfl rfl ?_
        refine n_iconst 1 rfl ?_
        refine n_iconst 0 rfl ?_
        refine m_zastN (L' := [(54, f54), (53, (aup (σ.1 53) 32 (nI 0))), (75, (aup (aup (σ.1 75) 0 (nI 0)) 1 (nI 0)))]) rfl rfl (by decide) (by decide) rfl ?_
        exact s_vret (st := []) rfl rfl (Nat.zero_le _) (Nat.zero_le _) (⟨rfl, f54, g, _, _, rfl, (fun j hj => by have := hc1 j hj; rw [Nat.zero_add] at this; rw [this]; exact hM j hj), hg, ⟨rfl, fun k hk => aup_n _ _ hk⟩, fun i hi => by rcases (show i = 0 ∨ i = 1 by omega) with rfl | rfl <;> rfl⟩)
      · refine r_aload_n rfl rfl ?_
        refine s_getR (r := 56) rfl flX10_16 rfl rfl ?_
        refine r_iload_n rfl rfl ?_
        refine r_aload_n rfl rfl ?_
        refine s_getR (r := 57) rfl flX10_20 rfl rfl ?_
        refine r_iload_n rfl rfl ?_
        refine s_lald (x := σ.2 57 k) rfl rfl (by omega) rfl ?_
        refine m_last (M' := [(56, (aup g k (σ.2 57 k)))]) rfl rfl (by omega) rfl ?_
        refine n_iinc (lv' := [(1, .int (nI (k + 1))), (0, .ref 53)]) 1 rfl rfl (Nat.le_of_ble_eq_true rfl) rfl ?_
        refine r_goto (tgt := 15) rfl rfl ?_
        refine r_lv (lv' := [(1, .int (nI (k + 1))), (0, .ref 53)]) [0, 1] rfl ?_
        exact ih (k + 1) _ (by omega) (by omega) (aup_lt hg rfl)
  exact loop 13 0 _ (by omega) (by omega) (fun j hj => absurd hj (Nat.not_lt_zero _))

theorem k_parse {l9 : Bool} {sc : SC} {σ : SS} {a : AB} {m : Nat} (hA : AV a) (hI : MI9 σ a) (hm : m ≤ aL a) : Cs (true, l9) sc mX10_parse 0 0 [.ref 53, .int (nI m)] σ (RI fun v σ' => v = nI (pa (m, aT a)).1 ∧ σ'.1 53 0 = nI 0 ∧ FrC σ σ' ∧ MI9 σ' (paA a m)) := by
  refine Cs.of gmX10_parse (Nat.le_of_ble_eq_true rfl) ?_
  show Ws (true, l9) sc mX10_parse 0 0 0 0 0 [(0, .ref 53), (1, .int (nI m))] [] (mz σ [] []) (RI fun v σ' => v = nI (pa (m, aT a)).1 ∧ σ'.1 53 0 = nI 0 ∧ FrC σ σ' ∧ MI9 σ' (paA a m))
  have hL := hA.2.2.2.2.1.1
  have hb : ∀ i, aT a i < 256 := hA.2.2.2.2.1.2.1
  have hT0 : ∀ i, i < m → σ.1 58 i = bI (aT a i) := fun i hi => hI.2.2.2.2.2.1 i (by omega)
  have hx : ((m, aT a) : TX).1 ≤ 700 := by show m ≤ 700; omega
  refine r_aload_n rfl rfl ?_
  refine n_iconst 0 rfl ?_
  refine m_putI (L' := [(53, (aup (σ.1 53) 0 (nI 0)))]) rfl flX10_89 rfl rfl (okv_i _) rfl ?_
  refine r_aload_n rfl rfl ?_
  refine r_iload_n rfl rfl ?_
  refine n_iconst 0 rfl ?_
  refine r_aload_n rfl rfl ?_
  refine s_getI (x := nI (aL a)) rfl flX10_92 rfl rfl hI.2.1.2.1 ?_
  refine s_staI [.int (nI m), .int (nI 0), .int (nI (aL a))] [.ref 53] rfl lkX10_113 (k_within_in (by omega) hm (by omega)) rfl rfl (Nat.le_refl _) (Nat.le_refl _) rfl (rI (e1 := nI 1) rfl ?_)
  refine n_if_ne (tgt := 22) rfl rfl (by decide) (fun _ => ?_) (fun hq => absurd hq (by decide))
  refine n_iconst 0 rfl ?_
  refine n_iconst 1 rfl ?_
  refine s_virI [.int (nI 0), .int (nI 1)] [] rfl lkX10_235 rfl rfl rfl (k_tI_no rfl) rfl rfl (Nat.le_refl _) (Nat.le_refl _) rfl (rI (e1 := nI 0) rfl ?_)
  refine n_if_eq (tgt := 32) rfl rfl (by decide) (fun _ => ?_) (fun hq => absurd hq (by decide))
  refine r_aload_n rfl rfl ?_
  refine r_iload_n rfl rfl ?_
  refine m_putI (L' := [(53, (aup (aup (σ.1 53) 0 (nI 0)) 7 (nI m)))]) rfl flX10_99 rfl rfl (okv_i _) rfl ?_
  refine r_aload_n rfl rfl ?_
  refine n_iconst 0 rfl ?_
  refine m_putI (L' := [(53, (aup (aup (aup (σ.1 53) 0 (nI 0)) 7 (nI m)) 6 (nI 0)))]) rfl flX10_92 rfl rfl (okv_i _) rfl ?_
  refine r_aload_n rfl rfl ?_
  refine n_iconst 0 rfl ?_
  refine m_putI (L' := [(53, (aup (aup (aup (aup (σ.1 53) 0 (nI 0)) 7 (nI m)) 6 (nI 0)) 9 (nI 0)))]) rfl flX10_106 rfl rfl (okv_i _) rfl ?_
  refine r_aload_n rfl rfl ?_
  refine n_iconst 0 rfl ?_
  refine m_putI (L' := [(53, (aup (aup (aup (aup (aup (σ.1 53) 0 (nI 0)) 7 (nI m)) 6 (nI 0)) 9 (nI 0)) 13 (nI 0)))]) rfl flX10_138 rfl rfl (okv_i _) rfl ?_
  refine r_aload_n rfl rfl ?_
  refine n_m1 rfl ?_
  refine m_putI (L' := [(53, (aup (aup (aup (aup (aup (aup (σ.1 53) 0 (nI 0)) 7 (nI m)) 6 (nI 0)) 9 (nI 0)) 13 (nI 0)) 14 (-1)))]) rfl flX10_27 rfl rfl (okv_i _) rfl ?_
  refine r_aload_n rfl rfl ?_
  refine n_iconst 0 rfl ?_
  refine m_putI (L' := [(53, (aup (aup (aup (aup (aup (aup (aup (σ.1 53) 0 (nI 0)) 7 (nI m)) 6 (nI 0)) 9 (nI 0)) 13 (nI 0)) 14 (-1)) 16 (nI 0)))]) rfl flX10_148 rfl rfl (okv_i _) rfl ?_
  refine r_aload_n rfl rfl ?_
  refine s_virV [] [] rfl lkX10_83 rfl rfl rfl k_clears rfl rfl (Nat.le_refl _) (Nat.le_refl _) rfl ?_
  rintro _ ⟨f55, rfl, hM0⟩
  refine m_mz (L' := [(53, (aup (aup (aup (aup (aup (aup (aup (σ.1 53) 0 (nI 0)) 7 (nI m)) 6 (nI 0)) 9 (nI 0)) 13 (nI 0)) 14 (-1)) 16 (nI 0))), (55, f55)]) (M' := []) rfl rfl ?_
  refine r_aload_n rfl rfl ?_
  refine s_virV [] [] rfl lkX10_145 rfl rfl rfl (k_adv (x := (m, aT a)) (j := 0) hx hb hT0 rfl rfl (Nat.zero_le _)) rfl rfl (Nat.le_refl _) (Nat.le_refl _) rfl ?_
  rintro _ ⟨m1, l1, rfl, t1, s1, y1⟩
  refine m_mz (L' := [(53, m1), (55, f55)]) (M' := [(53, l1)]) rfl rfl ?_
  have hP0 : MP (mz σ [(53, m1), (55, f55)] [(53, l1)]) (m, aT a) (0, dE, (fun _ => []), (fun _ => false)) := ⟨t1, hM0, fun p hp => absurd hp (Nat.not_lt_zero _), s1 13 (by decide) (by decide) (by decide) (by decide), s1 14 (by decide) (by decide) (by decide) (by decide), s1 16 (by decide) (by decide) (by decide) (by decide)⟩
  have hJ0 : JQ σ (mz σ [(53, m1), (55, f55)] [(53, l1)]) := JQ_mz rfl rfl ⟨s1 0 (by decide) (by decide) (by decide) (by decide), s1 6 (by decide) (by decide) (by decide) (by decide), s1 32 (by decide) (by decide) (by decide) (by decide)⟩
  refine n_iconst 1 rfl ?_
  refine r_istore_n (lv' := [(2, .int (nI 1)), (0, .ref 53), (1, .int (nI m))]) rfl rfl (Nat.le_of_ble_eq_true rfl) rfl ?_
  refine r_lv (lv' := [(2, .int (nI (tb true))), (0, .ref 53), (1, .int (nI m))]) [0, 1, 2] rfl ?_
  have loop : ∀ (m9 : Nat) (f : Nat) (s : PS) (σ1 : SS), f < m9 → (700 ≤ f + s.1) → (pl (m, aT a) f s = pa (m, aT a)) → (MP σ1 (m, aT a) s) → (VP (m, aT a) s) → (JQ σ σ1) → Ws (true, l9) sc mX10_parse 0 0 0 0 72 [(2, .int (nI (tb true))), (0, .ref 53), (1, .int (nI m))] [] (mz σ1 [] []) (RI fun v σ' => v = nI (pa (m, aT a)).1 ∧ σ'.1 53 0 = nI 0 ∧ FrC σ σ' ∧ MI9 σ' (paA a m)) := by
    intro m9
    induction m9 with
    | zero => intro f s σ1 hme; exact absurd hme (Nat.not_lt_zero _)
    | succ m9 ih =>
      intro f s σ1 hme hfs hpl hP hVP hJ
      obtain ⟨j, d, u, o⟩ := s
      have hC : MT (σ1.1 53) (σ1.2 53) (m, aT a) j := hP.1
      have hml := mt_le (tK_le (m, aT a) j)
      have hm0 := mt_eq (c := 0) (by decide) (tK_4 (m, aT a) j)
      have hT1 : ∀ i, i < m → σ1.1 58 i = bI (aT a i) := fun i hi => by rw [hJ.1 58 (by decide)]; exact hT0 i hi
      have hjx : j ≤ m := hVP.2.2.2
      have hfj : 700 ≤ f + j := hfs
      refine r_iload_n rfl rfl ?_
      refine n_if_eq (tgt := 120) rfl rfl (by decide) (fun hq => absurd hq (by decide)) (fun _ => ?_)
      refine r_aload_n rfl rfl ?_
      refine s_getI (x := nI (mt (tK (m, aT a) j))) rfl flX10_123 rfl rfl hC.2.2.2.1 ?_
      refine n_if_eq (tgt := 120) rfl rfl (by omega) (fun h2 => ?_) (fun h2 => ?_)
      · have hk0 : tK (m, aT a) j = 0 := hm0.mp h2
        have e3 : pa (m, aT a) = (0, j, d, u, o) := by rw [← hpl]; cases f with | zero => rfl | succ f => exact if_pos hk0
        refine r_iload_n rfl rfl ?_
        refine n_if_ne (tgt := 129) rfl rfl (by decide) (fun _ => ?_) (fun hq => absurd hq (by decide))
        refine r_aload_n rfl rfl ?_
        refine s_virV [] [] rfl lkX10_86 rfl rfl rfl (k_takesD hP.2.1) rfl rfl (Nat.le_refl _) (Nat.le_refl _) rfl ?_
        rintro _ ⟨f54, g56, f53, f75, rfl, b1, b2, b3, b4⟩
        refine m_mz (L' := [(75, f75), (53, f53), (54, f54)]) (M' := [(56, g56)]) rfl rfl ?_
        refine n_iconst 0 rfl ?_
        have hz : (pa (m, aT a)).1 = 0 := by rw [e3]
        exact s_ret (st := []) rfl rfl rfl (Nat.zero_le _) (Nat.zero_le _) (⟨_, rfl, by rw [hz], (b3.2 0 (by decide)).trans hJ.2.2.1, FrC.tr hJ.C (FrC_mz rfl rfl), by rw [paA_0 hz, e3]; exact ⟨b1, ⟨b3.1, (b3.2 6 (by decide)).trans hJ.2.2.2.1, (b3.2 14 (by decide)).trans (hP.2.2.2.2.1.trans oI_0.symm)⟩, fun i hi => absurd hi (Nat.not_lt_zero _), fun i hi => b4 i hi, fun i _ hb => absurd (show false = true from hb) Bool.false_ne_true, fun i hi => absurd hi (Nat.not_lt_zero _), fun p hp => by have hV : Vd d := hVP.1; have hC9 := vC hV; exact (b2 p (by have hp2 : p < d 0 0 := hp; omega)).trans (hP.2.2.1 p hp)⟩⟩)
      · have hk0 : tK (m, aT a) j ≠ 0 := fun z => h2 (hm0.mpr z)
        have hjl : j < m := by apply Classical.byContradiction; intro z; have hts := tS_ge (m, aT a) j; exact hk0 (tK_0.mpr (kd_end (by show m ≤ _; omega)))
        obtain ⟨f1, rfl⟩ : ∃ f1, f = f1 + 1 := ⟨f - 1, by omega⟩
        have e1 : pl (m, aT a) (f1 + 1) (j, d, u, o) = if (sm1 (m, aT a) (j, d, u, o)).1 ≠ 0 then sm1 (m, aT a) (j, d, u, o) else pl (m, aT a) f1 (sm1 (m, aT a) (j, d, u, o)).2 := if_neg hk0
        have hw := stm_fw hVP
        refine r_aload_n rfl rfl ?_
        refine s_virI [] [] rfl lkX10_239 rfl rfl rfl (k_stm hx hb hT1 hP hVP) rfl rfl (Nat.le_refl _) (Nat.le_refl _) rfl ?_
        rintro _ σ2 ⟨rfl, hF2, hR2⟩
        show Ws (true, l9) sc mX10_parse 0 0 0 0 87 [(2, .int (nI (tb true))), (0, .ref 53), (1, .int (nI m))] [.int (nI (tb ((stm (m, aT a) (j, d, u, o)).1 == 0)))] (mz σ2 [] []) (RI fun v σ' => v = nI (pa (m, aT a)).1 ∧ σ'.1 53 0 = nI 0 ∧ FrC σ σ' ∧ MI9 σ' (paA a m))
        have ht2 := tb_le ((stm (m, aT a) (j, d, u, o)).1 == 0)
        have hJ2 := hJ.trQ hF2
        refine n_if_eq (tgt := 115) rfl rfl (by omega) (fun h3 => ?_) (fun h3 => ?_)
        · have hn := tbq_n h3
          have e2 : sm1 (m, aT a) (j, d, u, o) = stm (m, aT a) (j, d, u, o) := if_pos hn
          have e3 : pa (m, aT a) = stm (m, aT a) (j, d, u, o) := by rw [← hpl, e1, e2, if_pos hn]
          have hq := hR2.2 hn
          have hc5 := hw.2.2
          refine n_iconst 0 rfl ?_
          refine r_istore_n (lv' := [(2, .int (nI 0)), (0, .ref 53), (1, .int (nI m))]) rfl rfl (Nat.le_of_ble_eq_true rfl) rfl ?_
          refine r_goto (tgt := 72) rfl rfl ?_
          refine r_iload_n rfl rfl ?_
          refine n_if_eq (tgt := 120) rfl rfl (by decide) (fun _ => ?_) (fun hq => absurd hq (by decide))
          refine r_iload_n rfl rfl ?_
          refine n_if_ne (tgt := 129) rfl rfl (by decide) (fun hq => absurd hq (by decide)) (fun _ => ?_)
          refine r_aload_n rfl rfl ?_
          refine s_getI (x := nI ((stm (m, aT a) (j, d, u, o)).1)) rfl flX10_138 rfl rfl hq.1 ?_
          have hnz : (pa (m, aT a)).1 ≠ 0 := by rw [e3]; exact hn
          exact s_ret (st := []) rfl rfl rfl (Nat.zero_le _) (Nat.zero_le _) (⟨_, rfl, by rw [e3], hJ2.2.2.1, hJ2.C, by rw [paA_1 hnz]; exact ⟨(hJ2.1 54 (by decide)).symm ▸ hI.1, ⟨hJ2.2.2.2.2.trans hI.2.1.1, hJ2.2.2.2.1, by rw [oI_s, e3]; exact hq.2⟩, (hJ2.1 73 (by decide)).symm ▸ hI.2.2.1, (hJ2.1 75 (by decide)).symm ▸ hI.2.2.2.1, (hJ2.1 74 (by decide)).symm ▸ hI.2.2.2.2.1, fun i hi => absurd hi (Nat.not_lt_zero _), (hJ2.2.1 56 (by decide)).symm ▸ hI.2.2.2.2.2.2⟩⟩)
        · have hz := tbq_y h3
          obtain ⟨hVP2, hlt⟩ := hw.1 hz
          have hP2 := hR2.1 hz
          generalize hst : stm (m, aT a) (j, d, u, o) = rr at *
          obtain ⟨c, j2, d2, u2, o2⟩ := rr
          have hz0 : c = 0 := hz
          subst hz0
          have hC2 : MT (σ2.1 53) (σ2.2 53) (m, aT a) j2 := hP2.1
          have hml2 := mt_le (tK_le (m, aT a) j2)
          have hm3 := mt_eq (c := 3) (by decide) (tK_4 (m, aT a) j2)
          have hT2 : ∀ i, i < m → σ2.1 58 i = bI (aT a i) := fun i hi => by rw [hJ2.1 58 (by decide)]; exact hT0 i hi
          have hlt2 : j < j2 := hlt
          refine r_aload_n rfl rfl ?_
          refine n_iconst 1 rfl ?_
          refine r_aload_n rfl rfl ?_
          refine s_getI (x := nI (mt (tK (m, aT a) j2))) rfl flX10_123 rfl rfl hC2.2.2.2.1 ?_
          refine n_iconst 3 rfl ?_
          suffices K : Ws (true, l9) sc mX10_parse 0 0 0 0 105 [(2, .int (nI (tb true))), (0, .ref 53), (1, .int (nI m))] [.int (nI (tb (decide (tK (m, aT a) j2 = 3)))), .int (nI 1), .ref 53] (mz σ2 [] []) (RI fun v σ' => v = nI (pa (m, aT a)).1 ∧ σ'.1 53 0 = nI 0 ∧ FrC σ σ' ∧ MI9 σ' (paA a m)) by
            refine n_icmp_ne (tgt := 104) rfl rfl (by omega) (by omega) (fun h4 => ?_) (fun h4 => ?_)
            · refine n_iconst 0 rfl ?_
              exact r_top (by rw [decide_eq_false (fun z => h4 (hm3.mpr z))]; rfl) K
            · refine n_iconst 1 rfl ?_
              refine r_goto (tgt := 105) rfl rfl ?_
              exact r_top (by rw [decide_eq_true (hm3.mp h4)]; rfl) K
          by_cases hc9 : tK (m, aT a) j2 = 3
          · rw [decide_eq_true hc9]
            show Ws (true, l9) sc mX10_parse 0 0 0 0 105 [(2, .int (nI (tb true))), (0, .ref 53), (1, .int (nI m))] [.int (nI 1), .int (nI 1), .ref 53] (mz σ2 [] []) (RI fun v σ' => v = nI (pa (m, aT a)).1 ∧ σ'.1 53 0 = nI 0 ∧ FrC σ σ' ∧ MI9 σ' (paA a m))
            refine s_virI [.int (nI 1), .int (nI 1)] [] rfl lkX10_151 rfl rfl rfl (k_starts (x := (m, aT a)) (j := j2) hx hb hT2 hC2 (by rw [hc9]; decide)) rfl rfl (Nat.le_refl _) (Nat.le_refl _) rfl ?_
            rintro _ _ ⟨m3, l3, rfl, rfl, t3, p3⟩
            refine m_mz (L' := [(53, m3)]) (M' := [(53, l3)]) rfl rfl ?_
            refine n_if_eq (tgt := 115) rfl rfl (by decide) (fun hq => absurd hq (by decide)) (fun _ => ?_)
            refine n_iconst 1 rfl ?_
            refine r_goto (tgt := 116) rfl rfl ?_
            refine r_istore_n (lv' := [(2, .int (nI 1)), (0, .ref 53), (1, .int (nI m))]) rfl rfl (Nat.le_of_ble_eq_true rfl) rfl ?_
            refine r_goto (tgt := 72) rfl rfl ?_
            have e2 : sm1 (m, aT a) (j, d, u, o) = (0, tE (m, aT a) j2, d2, u2, o2) := by unfold sm1; rw [hst, if_neg (fun z => z rfl), if_pos hc9]
            have hsf := sm1_fw hVP
            rw [e2] at hsf
            have hs2 := hsf.1 rfl
            have e3 : pl (m, aT a) f1 (tE (m, aT a) j2, d2, u2, o2) = pa (m, aT a) := by rw [← hpl, e1, e2, if_neg (fun z => z rfl)]
            have hgt := tE_j (m, aT a) j2
            have hP3 : MP (mz σ2 [(53, m3)] [(53, l3)]) (m, aT a) (tE (m, aT a) j2, d2, u2, o2) := ⟨t3, hP2.2.1, hP2.2.2.1, FE_k hP2.2.2.2 p3⟩
            have hJ3 : JQ σ (mz σ2 [(53, m3)] [(53, l3)]) := hJ2.trQ (FrQ_mz rfl rfl p3.Q)
            refine r_lv (lv' := [(2, .int (nI (tb true))), (0, .ref 53), (1, .int (nI m))]) [0, 1, 2] rfl ?_
            exact ih f1 (tE (m, aT a) j2, d2, u2, o2) _ (by omega) (by show 700 ≤ f1 + tE (m, aT a) j2; omega) e3 hP3 hs2.1 hJ3
          · rw [decide_eq_false hc9]
            show Ws (true, l9) sc mX10_parse 0 0 0 0 105 [(2, .int (nI (tb true))), (0, .ref 53), (1, .int (nI m))] [.int (nI 0), .int (nI 1), .ref 53] (mz σ2 [] []) (RI fun v σ' => v = nI (pa (m, aT a)).1 ∧ σ'.1 53 0 = nI 0 ∧ FrC σ σ' ∧ MI9 σ' (paA a m))
            refine s_virI [.int (nI 1), .int (nI 0)] [] rfl lkX10_151 rfl rfl rfl (k_starts_no (j := tS (m, aT a) j2) hP2.2.2.2.1 hC2.2.1) rfl rfl (Nat.le_refl _) (Nat.le_refl _) rfl (rI (e1 := nI 0) rfl ?_)
            refine m_mz (L' := [(53, (aup (aup (σ2.1 53) 13 (nI 1)) 14 (nI (tS (m, aT a) j2))))]) (M' := []) rfl rfl ?_
            have e2 : sm1 (m, aT a) (j, d, u, o) = (1, j2, d2, u2, o2) := by unfold sm1; rw [hst, if_neg (fun z => z rfl), if_neg hc9]
            have e3 : pa (m, aT a) = (1, j2, d2, u2, o2) := by rw [← hpl, e1, e2, if_pos (show (1 : Nat) ≠ 0 by decide)]
            have hn : (1 : Nat) ≠ 0 := by decide
            have hJ3 : JQ σ (mz σ2 [(53, (aup (aup (σ2.1 53) 13 (nI 1)) 14 (nI (tS (m, aT a) j2))))] []) := hJ2.trQ (FrQ_mz rfl rfl (fun k hk => KPq (KPq (fun _ _ => rfl) rfl) rfl k hk))
            have hq : MF (aup (aup (σ2.1 53) 13 (nI 1)) 14 (nI (tS (m, aT a) j2))) (m, aT a) 1 j2 := ⟨rfl, rfl⟩
            refine n_if_eq (tgt := 115) rfl rfl (by decide) (fun _ => ?_) (fun hq => absurd hq (by decide))
            refine n_iconst 0 rfl ?_
            refine r_istore_n (lv' := [(2, .int (nI 0)), (0, .ref 53), (1, .int (nI m))]) rfl rfl (Nat.le_of_ble_eq_true rfl) rfl ?_
            refine r_goto (tgt := 72) rfl rfl ?_
            refine r_iload_n rfl rfl ?_
            refine n_if_eq (tgt := 120) rfl rfl (by decide) (fun _ => ?_) (fun hq => absurd hq (by decide))
            refine r_iload_n rfl rfl ?_
            refine n_if_ne (tgt := 129) rfl rfl (by decide) (fun hq => absurd hq (by decide)) (fun _ => ?_)
            refine r_aload_n rfl rfl ?_
            refine s_getI (x := (aup (aup (σ2.1 53) 13 (nI 1)) 14 (nI (tS (m, aT a) j2))) 13) rfl flX10_138 rfl rfl rfl ?_
            have hnz : (pa (m, aT a)).1 ≠ 0 := by rw [e3]; exact hn
            exact s_ret (st := []) rfl rfl rfl (Nat.zero_le _) (Nat.zero_le _) (⟨_, rfl, by rw [e3]; rfl, hJ3.2.2.1, hJ3.C, by rw [paA_1 hnz]; exact ⟨(hJ3.1 54 (by decide)).symm ▸ hI.1, ⟨hJ3.2.2.2.2.trans hI.2.1.1, hJ3.2.2.2.1, by rw [oI_s, e3]; exact hq.2⟩, (hJ3.1 73 (by decide)).symm ▸ hI.2.2.1, (hJ3.1 75 (by decide)).symm ▸ hI.2.2.2.1, (hJ3.1 74 (by decide)).symm ▸ hI.2.2.2.2.1, fun i hi => absurd hi (Nat.not_lt_zero _), (hJ3.2.1 56 (by decide)).symm ▸ hI.2.2.2.2.2.2⟩⟩)
  exact loop 701 700 (0, dE, (fun _ => []), (fun _ => false)) _ (by omega) (Nat.le_refl _) rfl hP0 (VP0 _) hJ0

theorem c_parse {z : SZ} {sc : SC} {σ : SS} {a : AB} {m : Nat} (hA : AV a) (hI : CI9 σ a) (hm : m ≤ aL a) : Cs z sc mX9_parse 0 0 [.ref 0, .int (nI m)] σ (RI fun v σ' => v = nI (pa (m, aT a)).1 ∧ FrM σ σ' ∧ CI9 σ' (paA a m)) := by
  refine Cs.of gmX9_parse (Nat.le_of_ble_eq_true rfl) ?_
  show Ws z sc mX9_parse 0 0 0 0 0 [(0, .ref 0), (1, .int (nI m))] [] (mz σ [] []) (RI fun v σ' => v = nI (pa (m, aT a)).1 ∧ FrM σ σ' ∧ CI9 σ' (paA a m))
  have hL := hA.2.2.2.2.1.1
  have hb : ∀ i, aT a i < 256 := hA.2.2.2.2.1.2.1
  obtain ⟨⟨⟨c1, c2⟩, c3, c4, c5, ⟨c6, c7⟩, c8, c9⟩, hSE⟩ := hI
  have hT0 : ∀ i, i < m → σ.1 3 i = bI (aT a i) := fun i hi => c7 i (by omega)
  have hx : ((m, aT a) : TX).1 ≤ 700 := by show m ≤ 700; omega
  have hpf := pa_fw (m, aT a)
  refine r_iload_n rfl rfl ?_
  refine n_if_lt (tgt := 18) rfl rfl (by omega) (fun hq => hq.elim) (fun _ => ?_)
  refine r_iload_n rfl rfl ?_
  refine r_aload_n rfl rfl ?_
  refine s_getR (r := 1) rfl flX9_10 rfl rfl ?_
  refine s_getR (r := 2) rfl flX9_58 rfl rfl ?_
  refine s_getI (x := nI (aL a)) rfl flX9_72 rfl rfl c6 ?_
  refine n_icmp_le (tgt := 28) rfl rfl (by omega) (by omega) (fun _ => ?_) (fun hq => absurd hq (by omega))
  refine r_aload_n rfl rfl ?_
  refine s_getR (r := 1) rfl flX9_10 rfl rfl ?_
  refine r_iload_n rfl rfl ?_
  refine s_virI [.int (nI m)] [] rfl lkX9_81 rfl rfl rfl (c_read (x := (m, aT a)) hx hb hT0) rfl rfl (Nat.le_refl _) (Nat.le_refl _) rfl ?_
  rintro _ σ1 ⟨rfl, hF1, hR1, hR2⟩
  show Ws z sc mX9_parse 0 0 0 0 36 [(0, .ref 0), (1, .int (nI m))] [.int (nI ((pa (m, aT a)).1))] (mz σ1 [] []) (RI fun v σ' => v = nI (pa (m, aT a)).1 ∧ FrM σ σ' ∧ CI9 σ' (paA a m))
  refine r_istore_n (lv' := [(2, .int (nI ((pa (m, aT a)).1))), (0, .ref 0), (1, .int (nI m))]) rfl rfl (Nat.le_of_ble_eq_true rfl) rfl ?_
  refine r_aload_n rfl rfl ?_
  refine s_getR (r := 1) rfl flX9_10 rfl rfl ?_
  refine s_getR (r := 2) rfl flX9_58 rfl rfl ?_
  refine s_virV [] [] rfl lkX9_85 rfl rfl rfl c_iclear rfl rfl (Nat.le_refl _) (Nat.le_refl _) rfl (rV ?_)
  refine m_mz (L' := [(2, (aup (σ1.1 2) 1 (nI 0)))]) (M' := []) rfl rfl ?_
  rcases (show (pa (m, aT a)).1 = 0 ∨ (pa (m, aT a)).1 ≠ 0 by omega) with hz | hn
  · have hP := hR1 hz
    obtain ⟨hV, h6, hu, hj⟩ := hpf.1 hz
    have hC9 := vC hV
    have hP2 : EE4 (mz σ1 [(2, (aup (σ1.1 2) 1 (nI 0)))] []) (pa (m, aT a)).2.2.1 := hP.2.1
    rw [hz]
    show Ws z sc mX9_parse 0 0 0 0 47 [(2, .int (nI 0)), (0, .ref 0), (1, .int (nI m))] [] (mz σ1 [(2, (aup (σ1.1 2) 1 (nI 0)))] []) (RI fun v σ' => v = nI 0 ∧ FrM σ σ' ∧ CI9 σ' (paA a m))
    refine r_aload_n rfl rfl ?_
    refine r_aload_n rfl rfl ?_
    refine s_getR (r := 1) rfl flX9_10 rfl rfl ?_
    refine s_getI (x := oI 0) rfl flX9_88 rfl rfl ((hP.2.2.2.2.2.1).trans oI_0.symm) ?_
    refine m_putI (L' := [(2, (aup (σ1.1 2) 1 (nI 0))), (0, (aup (σ1.1 0) 7 (oI 0)))]) rfl flX9_50 rfl rfl (okv_i _) rfl ?_
    refine r_iload_n rfl rfl ?_
    refine n_if_ne (tgt := 119) rfl rfl (by decide) (fun hq => absurd hq (by decide)) (fun _ => ?_)
    refine r_aload_n rfl rfl ?_
    refine s_getR (r := 12) rfl flX9_19 rfl rfl ?_
    refine r_aload_n rfl rfl ?_
    refine s_getR (r := 1) rfl flX9_10 rfl rfl ?_
    refine s_getR (r := 4) rfl flX9_91 rfl rfl ?_
    refine s_virV [.ref 4] [] rfl lkX9_92 rfl rfl rfl (c_ecopy hP2 hV) rfl rfl (Nat.le_refl _) (Nat.le_refl _) rfl ?_
    rintro _ ⟨f12, f14, f15, f16, f17, e13, rfl, hE, hg⟩
    refine m_mz (L' := [(2, (aup (σ1.1 2) 1 (nI 0))), (0, (aup (σ1.1 0) 7 (oI 0))), (17, f17), (16, f16), (15, f15), (14, f14), (12, f12)]) (M' := [(13, e13)]) rfl rfl ?_
    refine r_aload_n rfl rfl ?_
    refine s_getR (r := 18) rfl flX9_26 rfl rfl ?_
    refine r_aload_n rfl rfl ?_
    refine s_getR (r := 1) rfl flX9_10 rfl rfl ?_
    refine s_getR (r := 10) rfl flX9_96 rfl rfl ?_
    refine s_virV [.ref 10] [] rfl lkX9_97 rfl rfl rfl c_copyS_18 rfl rfl (Nat.le_refl _) (Nat.le_refl _) rfl (rV ?_)
    refine m_mz (L' := [(2, (aup (σ1.1 2) 1 (nI 0))), (0, (aup (σ1.1 0) 7 (oI 0))), (17, f17), (16, f16), (15, f15), (14, f14), (12, f12), (19, (va_cpy (σ1.1 11) (σ1.1 19) 0 0 79))]) (M' := [(13, e13)]) rfl rfl ?_
    refine r_aload_n rfl rfl ?_
    refine s_getR (r := 50) rfl flX9_46 rfl rfl ?_
    refine s_virV [] [] rfl lkX9_100 rfl rfl rfl c_clearUndo rfl rfl (Nat.le_refl _) (Nat.le_refl _) rfl (rV ?_)
    refine m_mz (L' := [(2, (aup (σ1.1 2) 1 (nI 0))), (0, (aup (σ1.1 0) 7 (oI 0))), (17, f17), (16, f16), (15, f15), (14, f14), (12, f12), (19, (va_cpy (σ1.1 11) (σ1.1 19) 0 0 79)), (50, (aup (σ1.1 50) 2 (nI 0)))]) (M' := [(13, e13)]) rfl rfl ?_
    refine r_aload_n rfl rfl ?_
    refine s_getR (r := 50) rfl flX9_46 rfl rfl ?_
    refine s_virV [] [] rfl lkX9_103 rfl rfl rfl c_clearSlots rfl rfl (Nat.le_refl _) (Nat.le_refl _) rfl (rV ?_)
    refine m_mz (L' := [(2, (aup (σ1.1 2) 1 (nI 0))), (0, (aup (σ1.1 0) 7 (oI 0))), (17, f17), (16, f16), (15, f15), (14, f14), (12, f12), (19, (va_cpy (σ1.1 11) (σ1.1 19) 0 0 79)), (50, (aup (aup (σ1.1 50) 2 (nI 0)) 3 (nI 0)))]) (M' := [(13, e13)]) rfl rfl ?_
    refine r_aload_n rfl rfl ?_
    refine s_getR (r := 20) rfl flX9_33 rfl rfl ?_
    refine r_aload_n rfl rfl ?_
    refine s_getR (r := 12) rfl flX9_19 rfl rfl ?_
    refine r_aload_n rfl rfl ?_
    refine s_getR (r := 18) rfl flX9_26 rfl rfl ?_
    refine s_virV [.ref 12, .ref 18] [] rfl lkX9_54 rfl rfl rfl (c_settle_A (d := (pa (m, aT a)).2.2.1) (SRcpy hP.2.2.1) hE hV) rfl rfl (Nat.le_refl _) (Nat.le_refl _) rfl ?_
    rintro _ ⟨g0, g1, g2, g3, g4, g5, g6, g7, g8, g9, g10, g11, g12, g13, rfl, hSE2⟩
    refine m_mz (L' := [(2, (aup (σ1.1 2) 1 (nI 0))), (0, (aup (σ1.1 0) 7 (oI 0))), (17, f17), (16, f16), (15, f15), (14, f14), (12, f12), (19, (va_cpy (σ1.1 11) (σ1.1 19) 0 0 79)), (50, (aup (aup (σ1.1 50) 2 (nI 0)) 3 (nI 0))), (30, g13), (32, g12), (33, g11), (31, g10), (20, g9), (29, g8), (28, g7), (26, g6), (27, g5), (23, g4), (22, g3), (24, g2), (25, g1), (21, g0)]) (M' := [(13, e13)]) rfl rfl ?_
    refine r_iload_n rfl rfl ?_
    exact s_ret (st := []) rfl rfl rfl (Nat.zero_le _) (Nat.zero_le _) (⟨_, rfl, rfl, FrM.tr (FrM_P hF1) (FrM_mz rfl rfl), by rw [paA_0 hz]; exact ⟨⟨⟨SRcpy hP.2.2.1, hE⟩, ⟨rfl, mk_f2⟩, fun i hi => absurd hi (Nat.not_lt_zero _), fun i _ hb => absurd (show false = true from hb) Bool.false_ne_true, ⟨rfl, fun i hi => absurd hi (Nat.not_lt_zero _)⟩, rfl, fun p hp => (hg p (by have hp2 : p < (pa (m, aT a)).2.2.1 0 0 := hp; omega)).trans (hP.2.2.2.1 p hp)⟩, hSE2⟩⟩)
  · have hc5 := hpf.2.2
    refine r_aload_n rfl rfl ?_
    refine r_aload_n rfl rfl ?_
    refine s_getR (r := 1) rfl flX9_10 rfl rfl ?_
    refine s_getI (x := nI (tS (m, aT a) (pa (m, aT a)).2.1)) rfl flX9_88 rfl rfl (hR2 hn) ?_
    refine m_putI (L' := [(2, (aup (σ1.1 2) 1 (nI 0))), (0, (aup (σ1.1 0) 7 (nI (tS (m, aT a) (pa (m, aT a)).2.1))))]) rfl flX9_50 rfl rfl (okv_i _) rfl ?_
    refine r_iload_n rfl rfl ?_
    refine n_if_ne (tgt := 119) rfl rfl (by omega) (fun _ => ?_) (fun hq => absurd hq (by omega))
    refine r_iload_n rfl rfl ?_
    exact s_ret (st := []) rfl rfl rfl (Nat.zero_le _) (Nat.zero_le _) (⟨_, rfl, rfl, FrM.tr (FrM_P hF1) (FrM_mz rfl rfl), by rw [paA_1 hn]; exact ⟨⟨⟨(hF1.1 19 rfl).symm ▸ c1, (show EE σ1 _ from EE_P hF1 c2)⟩, (hF1.1 50 rfl).symm ▸ c3, (hF1.1 51 rfl).symm ▸ c4, (hF1.1 52 rfl).symm ▸ c5, ⟨rfl, fun i hi => absurd hi (Nat.not_lt_zero _)⟩, (oI_s _).symm, (hF1.2.1 13 (by decide)).symm ▸ c9⟩, (show SEA σ1 _ from SE_P hF1 hSE)⟩⟩)

