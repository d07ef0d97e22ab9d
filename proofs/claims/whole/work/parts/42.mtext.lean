theorem wb_tb (n : Nat) : (lN n).toBitVec = BitVec.ofNat 64 n := rfl
theorem wb_inj {a b : Int64} (h : a.toBitVec = b.toBitVec) : a = b := Int64.toBitVec_inj.mp h
theorem wb_c : ∀ k, k < 64 → ((nI k).toInt64 &&& 63) = lN k := by decide +kernel
theorem wb_sm : ∀ k, k < 64 → (BitVec.ofNat 64 k).smod 64 = BitVec.ofNat 64 k := by decide +kernel
theorem wb_shl (n : Nat) {k : Nat} (hk : k < 64) : lN n <<< ((nI k).toInt64 &&& 63) = lN (n * 2 ^ k) := by
  rw [wb_c k hk]
  apply wb_inj
  rw [Int64.toBitVec_shiftLeft, wb_tb, wb_tb, wb_tb, wb_sm k hk]
  apply BitVec.eq_of_toNat_eq
  rw [BitVec.shiftLeft_eq', BitVec.toNat_shiftLeft, BitVec.toNat_ofNat, BitVec.toNat_ofNat, BitVec.toNat_ofNat, Nat.mod_eq_of_lt (show k < 2 ^ 64 by omega), Nat.shiftLeft_eq, Nat.mul_mod, Nat.mod_mod, ← Nat.mul_mod]
theorem wb_or {a b : Nat} (ha : a < 2 ^ 64) (hb : b < 2 ^ 64) : lN a ||| lN b = lN (a ||| b) := by
  apply wb_inj
  rw [Int64.toBitVec_or, wb_tb, wb_tb, wb_tb]
  apply BitVec.eq_of_toNat_eq
  rw [BitVec.toNat_or, BitVec.toNat_ofNat, BitVec.toNat_ofNat, BitVec.toNat_ofNat, Nat.mod_eq_of_lt ha, Nat.mod_eq_of_lt hb, Nat.mod_eq_of_lt (Nat.or_lt_two_pow ha hb)]
theorem wb_app {a t : Nat} (ha : a < 2 ^ 56) (ht : t < 256) : (lN a <<< ((nI 8).toInt64 &&& 63)) ||| lN t = lN (a * 256 + t) := by
  rw [wb_shl a (by decide), wb_or (by omega) (by omega)]
  congr 1
  have h := Nat.shiftLeft_add_eq_or_of_lt (i := 8) (b := t) (by omega) a
  rw [Nat.shiftLeft_eq] at h
  exact h.symm
theorem w256_lt7 {w : List Nat} (h : w.length ≤ 7) (hc : ∀ c ∈ w, 1 ≤ c ∧ c ≤ 26) : w256 w 0 < 2 ^ 56 := by
  rw [w256_B]
  have h1 := wB_lt (b := 256) (o := 96) w 0 (fun c hd => by have := hc c hd; omega)
  have h2 : 256 ^ w.length ≤ 256 ^ 7 := Nat.pow_le_pow_right (by decide) h
  have h3 : (256 : Nat) ^ 7 = 2 ^ 56 := by decide
  omega
/-- the model's number of a kind -/
def mt (k : Nat) : Nat := if k = 5 then 4 else k
def MT (f : Nat → Int32) (g : Nat → Int64) (x : TX) (j : Nat) : Prop := f 7 = nI x.1 ∧ f 8 = nI (tS x j) ∧ (tK x j ≠ 0 → f 9 = nI (tE x j)) ∧ f 10 = nI (mt (tK x j)) ∧ (tK x j = 2 → f 11 = nI (vl x j)) ∧ (tK x j = 1 → g 12 = lN (w256 (wl x j) 0))
theorem mt_le {k : Nat} (h : k ≤ 5) : mt k ≤ 4 := by unfold mt; split <;> omega
theorem mt_eq {k c : Nat} (hc : c < 4) (h4 : k ≠ 4) : mt k = c ↔ k = c := by unfold mt; split <;> omega
theorem tK_4 (x : TX) (j : Nat) : tK x j ≠ 4 := by
  unfold tK
  have := tS_4 x j
  split
  · decide
  · exact this
/-- the letters told so far -/
def lt8 (x : TX) (s i : Nat) : List Nat := ltr x.2 s (if i - s < 8 then i - s else 8)
theorem lt8_s {x : TX} {s i : Nat} (hi : s ≤ i) (h : i - s < 8) : lt8 x s (i + 1) = lt8 x s i ++ [x.2 i - 96] := by
  unfold lt8
  rw [if_pos h]
  have e : (if i + 1 - s < 8 then i + 1 - s else 8) = (i - s) + 1 := by split <;> omega
  rw [e]
  show ltr x.2 s (i - s) ++ [x.2 (s + (i - s)) - 96] = _
  rw [show s + (i - s) = i by omega]
theorem lt8_k {x : TX} {s i : Nat} (h : ¬ i - s < 8) : lt8 x s (i + 1) = lt8 x s i := by
  unfold lt8
  rw [if_neg h, if_neg (by omega)]
theorem lt8_w {x : TX} {s i : Nat} (h : i - s ≤ 8) : lt8 x s i = ltr x.2 s (i - s) := by
  unfold lt8
  split
  · rfl
  · rw [show i - s = 8 by omega]
/-- the number told so far -/
def dg7 (x : TX) (s i : Nat) : Nat := dgt x.2 s (if i - s < 7 then i - s else 7)
theorem dg7_s {x : TX} {s i : Nat} (hi : s ≤ i) (h : i - s < 7) : dg7 x s (i + 1) = dg7 x s i * 10 + (x.2 i - 48) := by
  unfold dg7
  rw [if_pos h]
  have e : (if i + 1 - s < 7 then i + 1 - s else 7) = (i - s) + 1 := by split <;> omega
  rw [e]
  show dgt x.2 s (i - s) * 10 + (x.2 (s + (i - s)) - 48) = _
  rw [show s + (i - s) = i by omega]
theorem dg7_k {x : TX} {s i : Nat} (h : ¬ i - s < 7) : dg7 x s (i + 1) = dg7 x s i := by
  unfold dg7
  rw [if_neg h, if_neg (by omega)]
theorem dg7_w {x : TX} {s i : Nat} (h : i - s ≤ 7) : dg7 x s i = dgt x.2 s (i - s) := by
  unfold dg7
  split
  · rfl
  · rw [show i - s = 7 by omega]
theorem kd_i1 {x : TX} {i : Nat} (h : i < x.1) (h1 : 97 ≤ x.2 i ∧ x.2 i ≤ 122) : kd x i = 1 := by unfold kd; rw [if_neg (by omega), if_pos h1]
theorem kd_i2 {x : TX} {i : Nat} (h : i < x.1) (h1 : 48 ≤ x.2 i ∧ x.2 i ≤ 57) : kd x i = 2 := by unfold kd; rw [if_neg (by omega), if_neg (by omega), if_pos h1]
theorem kd_i4 {x : TX} {i : Nat} (h : i < x.1) (h1 : x.2 i = 32 ∨ x.2 i = 10) : kd x i = 4 := by unfold kd; rw [if_neg (by omega), if_neg (by omega), if_neg (by omega), if_pos h1]
theorem kd_i3 {x : TX} {i : Nat} (h : i < x.1) (h1 : x.2 i = 59) : kd x i = 3 := by unfold kd; rw [if_neg (by omega), if_neg (by omega), if_neg (by omega), if_neg (by omega), if_pos h1]
theorem kd_i5 {x : TX} {i : Nat} (h : i < x.1) (h1 : ¬ (97 ≤ x.2 i ∧ x.2 i ≤ 122)) (h2 : ¬ (48 ≤ x.2 i ∧ x.2 i ≤ 57)) (h3 : x.2 i ≠ 32 ∧ x.2 i ≠ 10) (h4 : x.2 i ≠ 59) : kd x i = 5 := by unfold kd; rw [if_neg (by omega), if_neg h1, if_neg h2, if_neg (by omega), if_neg h4]
theorem m1_out {l m : Nat} (hl : l < 1000) : (-1 : Int32) < nI l ∨ (¬ (-1 : Int32) < nI l ∧ nI (m + 1) ≤ -1) := by
  refine Or.inl (Int32.lt_iff_toInt_lt.mpr ?_)
  have h1 : (-1 : Int32).toInt = -1 := by decide
  rw [nI_toInt (by omega), h1]
  omega
theorem lt_snoc2 {P : Nat → Prop} {s i : Nat} (h : ∀ k, s ≤ k → k < i → P k) (hi : P i) : ∀ k, s ≤ k → k < i + 1 → P k := by
  intro k h1 h2
  by_cases e : k = i
  · rw [e]; exact hi
  · exact h k h1 (by omega)
theorem kd_n4 {x : TX} {i : Nat} (h : i < x.1) (h2 : x.2 i ≠ 32) (h3 : x.2 i ≠ 10) : kd x i ≠ 4 := by
  unfold kd
  rw [if_neg (by omega)]
  split
  · decide
  · split
    · decide
    · rw [if_neg (by omega)]
      split <;> decide
theorem k_byteAt {l9 : Bool} {sc : SC} {σ : SS} {i : Nat} {x : TX} (hx : x.1 ≤ 700) (hb : ∀ i, x.2 i < 256) (hT : ∀ i, i < x.1 → σ.1 58 i = bI (x.2 i)) (h7 : σ.1 53 7 = nI x.1) (hi : i < x.1) : Cs (true, l9) sc mX10_byteAt 0 0 [.ref 53, .int (nI i)] σ (PI (nI (x.2 i)) σ) := by
  refine Cs.of gmX10_byteAt (Nat.le_of_ble_eq_true rfl) ?_
  show Ws (true, l9) sc mX10_byteAt 0 0 0 0 0 [(0, .ref 53), (1, .int (nI i))] [] (mz σ [] []) (PI (nI (x.2 i)) σ)
  refine r_iload_n rfl rfl ?_
  refine r_aload_n rfl rfl ?_
  refine s_getI (x := nI x.1) rfl flX10_99 rfl rfl h7 ?_
  refine n_icmp_ge (tgt := 21) rfl rfl (by omega) (by omega) (fun hq => absurd hq (by omega)) (fun _ => ?_)
  refine r_aload_n rfl rfl ?_
  refine s_getR (r := 58) rfl flX10_23 rfl rfl ?_
  refine r_iload_n rfl rfl ?_
  refine s_bald (x := bI (x.2 i)) rfl rfl (by omega) (hT i hi) ?_
  refine n_sipush 255 rfl (by decide) ?_
  refine r_iand rfl ?_
  refine r_top (y := nI (x.2 i)) (bI_255 _ (hb i)) ?_
  refine r_goto (tgt := 22) rfl rfl ?_
  exact s_ret (st := []) rfl rfl rfl (Nat.zero_le _) (Nat.zero_le _) (pI rfl rfl)

theorem k_byteAt_o {l9 : Bool} {sc : SC} {σ : SS} {x : TX} {i : Nat} (hx : x.1 ≤ 700) (h7 : σ.1 53 7 = nI x.1) (hi : x.1 ≤ i) (hi2 : i < 100000) : Cs (true, l9) sc mX10_byteAt 0 0 [.ref 53, .int (nI i)] σ (PI (-1) σ) := by
  refine Cs.of gmX10_byteAt (Nat.le_of_ble_eq_true rfl) ?_
  show Ws (true, l9) sc mX10_byteAt 0 0 0 0 0 [(0, .ref 53), (1, .int (nI i))] [] (mz σ [] []) (PI (-1) σ)
  refine r_iload_n rfl rfl ?_
  refine r_aload_n rfl rfl ?_
  refine s_getI (x := nI x.1) rfl flX10_99 rfl rfl h7 ?_
  refine n_icmp_ge (tgt := 21) rfl rfl (by omega) (by omega) (fun _ => ?_) (fun hq => absurd hq (by omega))
  refine n_m1 rfl ?_
  exact s_ret (st := []) rfl rfl rfl (Nat.zero_le _) (Nat.zero_le _) (pI rfl rfl)

theorem k_letters {l9 : Bool} {sc : SC} {σ : SS} {s : Nat} {x : TX} (hx : x.1 ≤ 700) (hb : ∀ i, x.2 i < 256) (hT : ∀ i, i < x.1 → σ.1 58 i = bI (x.2 i)) (h7 : σ.1 53 7 = nI x.1) (h8 : σ.1 53 8 = nI s) (h9 : σ.1 53 9 = nI s) (hs : s ≤ x.1) : Cs (true, l9) sc mX10_takesLetters 0 0 [.ref 53] σ (RV fun σ' => ∃ f g, σ' = mz σ [(53, f)] [(53, g)] ∧ f 9 = nI (run x 1 s) ∧ g 12 = lN (w256 (lt8 x s (run x 1 s)) 0) ∧ (∀ k, k ≠ 9 → f k = σ.1 53 k) ∧ ∀ k, k ≠ 12 → g k = σ.2 53 k) := by
  refine Cs.of gmX10_takesLetters (Nat.le_of_ble_eq_true rfl) ?_
  show Ws (true, l9) sc mX10_takesLetters 0 0 0 0 0 [(0, .ref 53)] [] (mz σ [] []) (RV fun σ' => ∃ f g, σ' = mz σ [(53, f)] [(53, g)] ∧ f 9 = nI (run x 1 s) ∧ g 12 = lN (w256 (lt8 x s (run x 1 s)) 0) ∧ (∀ k, k ≠ 9 → f k = σ.1 53 k) ∧ ∀ k, k ≠ 12 → g k = σ.2 53 k)
  refine r_aload_n rfl rfl ?_
  refine n_lconst0 rfl ?_
  refine m_putL (M' := [(53, (aup (σ.2 53) 12 (lN 0)))]) rfl flX10_102 rfl rfl (okv_l _) rfl ?_
  refine r_lv (lv' := [(0, .ref 53)]) [0] rfl ?_
  refine m_newI (L' := [(53, (σ.1 53))]) 53 rfl ?_
  have loop : ∀ (m9 : Nat) (i : Nat) (f : Nat → Int32) (g : Nat → Int64), x.1 + 1 - i < m9 → (i ≤ x.1) → (s ≤ i) → (run x 1 i = run x 1 s) → (f 9 = nI i) → (g 12 = lN (w256 (lt8 x s i) 0)) → (∀ k, k ≠ 9 → f k = σ.1 53 k) → (∀ k, k ≠ 12 → g k = σ.2 53 k) → (∀ k, s ≤ k → k < i → 97 ≤ x.2 k ∧ x.2 k ≤ 122) → Ws (true, l9) sc mX10_takesLetters 0 0 0 0 5 [(0, .ref 53)] [] (mz σ [(53, f)] [(53, g)]) (RV fun σ' => ∃ f g, σ' = mz σ [(53, f)] [(53, g)] ∧ f 9 = nI (run x 1 s) ∧ g 12 = lN (w256 (lt8 x s (run x 1 s)) 0) ∧ (∀ k, k ≠ 9 → f k = σ.1 53 k) ∧ ∀ k, k ≠ 12 → g k = σ.2 53 k) := by
    intro m9
    induction m9 with
    | zero => intro i f g hme; exact absurd hme (Nat.not_lt_zero _)
    | succ m9 ih =>
      intro i f g hme hi hsi hr f9 g12 fk gk hall
      have f7 : f 7 = nI x.1 := (fk 7 (by decide)).trans h7
      have f8 : f 8 = nI s := (fk 8 (by decide)).trans h8
      by_cases h1 : x.1 ≤ i
      · refine r_aload_n rfl rfl ?_
        refine r_aload_n rfl rfl ?_
        refine s_getI (x := nI i) rfl flX10_106 rfl rfl f9 ?_
        refine s_virI [.int (nI i)] [] rfl lkX10_109 rfl rfl rfl (k_byteAt_o hx f7 h1 (by omega)) rfl rfl (Nat.le_refl _) (Nat.le_refl _) rfl (rI (e1 := -1) rfl ?_)
        refine n_bipush 97 rfl (by decide) ?_
        refine n_bipush 122 rfl (by decide) ?_
        refine s_staI [.int (-1), .int (nI 97), .int (nI 122)] [] rfl lkX10_113 (k_within_out (by decide) (m1_out (by decide))) rfl rfl (Nat.le_refl _) (Nat.le_refl _) rfl (rI (e1 := nI 0) rfl ?_)
        refine n_if_eq (tgt := 78) rfl rfl (by decide) (fun _ => ?_) (fun hq => absurd hq (by decide))
        have hre : run x 1 s = i := by rw [← hr]; exact run_n (by rw [kd_end h1]; decide)
        exact s_vret (st := []) rfl rfl (Nat.zero_le _) (Nat.zero_le _) (⟨rfl, f, g, rfl, by rw [hre]; exact f9, by rw [hre]; exact g12, fk, gk⟩)
      · have h1 : i < x.1 := by omega
        have hbi := hb i
        refine r_aload_n rfl rfl ?_
        refine r_aload_n rfl rfl ?_
        refine s_getI (x := nI i) rfl flX10_106 rfl rfl f9 ?_
        refine s_virI [.int (nI i)] [] rfl lkX10_109 rfl rfl rfl (k_byteAt hx hb hT f7 h1) rfl rfl (Nat.le_refl _) (Nat.le_refl _) rfl (rI (e1 := nI (x.2 i)) rfl ?_)
        refine n_bipush 97 rfl (by decide) ?_
        refine n_bipush 122 rfl (by decide) ?_
        refine s_staI [.int (nI (x.2 i)), .int (nI 97), .int (nI 122)] [] rfl lkX10_113 (k_within (by decide) (by omega) (by decide)) rfl rfl (Nat.le_refl _) (Nat.le_refl _) rfl (rI (e1 := nI (tb (decide (97 ≤ x.2 i ∧ x.2 i ≤ 122)))) rfl ?_)
        have ht := tb_le (decide (97 ≤ x.2 i ∧ x.2 i ≤ 122))
        refine n_if_eq (tgt := 78) rfl rfl (by omega) (fun h2 => ?_) (fun h2 => ?_)
        · have hz := of_decide_eq_false (tb_z h2)
          have hre : run x 1 s = i := by rw [← hr]; exact run_n (fun z => hz (kd_1 z))
          exact s_vret (st := []) rfl rfl (Nat.zero_le _) (Nat.zero_le _) (⟨rfl, f, g, rfl, by rw [hre]; exact f9, by rw [hre]; exact g12, fk, gk⟩)
        · have hz := of_decide_eq_true (tb_ne h2)
          have hk1 := kd_i1 h1 hz
          have hok := ltr_ok (t := x.2) (s := s) (n := i - s) (fun k a b => hall k a (by omega))
          refine r_aload_n rfl rfl ?_
          refine r_aload_n rfl rfl ?_
          refine s_getI (x := nI i) rfl flX10_106 rfl rfl f9 ?_
          refine r_aload_n rfl rfl ?_
          refine s_getI (x := nI s) rfl flX10_117 rfl rfl f8 ?_
          refine n_isub rfl (by omega) ?_
          refine n_bipush 8 rfl (by decide) ?_
          suffices K : Ws (true, l9) sc mX10_takesLetters 0 0 0 0 62 [(0, .ref 53)] [.long (lN (w256 (lt8 x s (i + 1)) 0)), .ref 53] (mz σ [(53, f)] [(53, g)]) (RV fun σ' => ∃ f g, σ' = mz σ [(53, f)] [(53, g)] ∧ f 9 = nI (run x 1 s) ∧ g 12 = lN (w256 (lt8 x s (run x 1 s)) 0) ∧ (∀ k, k ≠ 9 → f k = σ.1 53 k) ∧ ∀ k, k ≠ 12 → g k = σ.2 53 k) by
            refine n_icmp_ge (tgt := 58) rfl rfl (by omega) (by omega) (fun h3 => ?_) (fun h3 => ?_)
            · refine r_aload_n rfl rfl ?_
              refine s_getL (x := lN (w256 (lt8 x s i) 0)) rfl flX10_102 rfl rfl g12 ?_
              exact r_topL (by rw [lt8_k (by omega)]) K
            · have hl7 : w256 (lt8 x s i) 0 < 2 ^ 56 := by rw [lt8_w (by omega)]; exact w256_lt7 (by rw [ltr_len]; omega) hok
              refine r_aload_n rfl rfl ?_
              refine s_getL (x := lN (w256 (lt8 x s i) 0)) rfl flX10_102 rfl rfl g12 ?_
              refine n_bipush 8 rfl (by decide) ?_
              refine r_lshl rfl rfl ?_
              refine r_aload_n rfl rfl ?_
              refine r_aload_n rfl rfl ?_
              refine s_getI (x := nI i) rfl flX10_106 rfl rfl f9 ?_
              refine s_virI [.int (nI i)] [.long (lN (w256 (lt8 x s i) 0) <<< ((nI 8).toInt64 &&& 63)), .ref 53] rfl lkX10_109 rfl rfl rfl (k_byteAt hx hb hT f7 h1) rfl rfl (Nat.le_refl _) (Nat.le_refl _) rfl (rI (e1 := nI (x.2 i)) rfl ?_)
              refine n_i2l rfl (by omega) ?_
              refine r_lor rfl ?_
              refine r_goto (tgt := 62) rfl rfl ?_
              exact r_topL (by rw [wb_app hl7 hbi, lt8_s hsi (by omega), w256_snoc]; congr 1; omega) K
          refine m_putL (M' := [(53, (aup g 12 (lN (w256 (lt8 x s (i + 1)) 0))))]) rfl flX10_102 rfl rfl (okv_l _) rfl ?_
          refine r_aload_n rfl rfl ?_
          refine r_dup rfl rfl ?_
          refine s_getI (x := nI i) rfl flX10_106 rfl rfl f9 ?_
          refine n_iconst 1 rfl ?_
          refine n_iadd rfl ?_
          refine m_putI (L' := [(53, (aup f 9 (nI (i + 1))))]) rfl flX10_106 rfl rfl (okv_i _) rfl ?_
          refine r_goto (tgt := 5) rfl rfl ?_
          refine r_lv (lv' := [(0, .ref 53)]) [0] rfl ?_
          exact ih (i + 1) _ _ (by omega) (by omega) (by omega) (by rw [← run_y (by decide) hk1]; exact hr) rfl rfl (fun k hk => by rw [aup_n _ _ hk]; exact fk k hk) (fun k hk => by rw [aup_n _ _ hk]; exact gk k hk) (lt_snoc2 hall hz)
  exact loop (x.1 + 2) s _ _ (by omega) hs (Nat.le_refl _) rfl h9 (by unfold lt8; rw [if_pos (by omega), Nat.sub_self]; rfl) (fun k _ => rfl) (fun k hk => aup_n _ _ hk) (fun k a b => absurd a (by omega))

theorem k_adv {l9 : Bool} {sc : SC} {σ : SS} {j : Nat} {x : TX} (hx : x.1 ≤ 700) (hb : ∀ i, x.2 i < 256) (hT : ∀ i, i < x.1 → σ.1 58 i = bI (x.2 i)) (h7 : σ.1 53 7 = nI x.1) (h9 : σ.1 53 9 = nI j) (hj : j ≤ x.1) : Cs (true, l9) sc mX10_advance 0 0 [.ref 53] σ (RV fun σ' => ∃ f g, σ' = mz σ [(53, f)] [(53, g)] ∧ MT f g x j ∧ (∀ k, k ≠ 8 → k ≠ 9 → k ≠ 10 → k ≠ 11 → f k = σ.1 53 k) ∧ ∀ k, k ≠ 12 → g k = σ.2 53 k) := by
  refine Cs.of gmX10_advance (Nat.le_of_ble_eq_true rfl) ?_
  show Ws (true, l9) sc mX10_advance 0 0 0 0 0 [(0, .ref 53)] [] (mz σ [] []) (RV fun σ' => ∃ f g, σ' = mz σ [(53, f)] [(53, g)] ∧ MT f g x j ∧ (∀ k, k ≠ 8 → k ≠ 9 → k ≠ 10 → k ≠ 11 → f k = σ.1 53 k) ∧ ∀ k, k ≠ 12 → g k = σ.2 53 k)
  refine m_newL (M' := [(53, (σ.2 53))]) 53 rfl ?_
  refine r_lv (lv' := [(0, .ref 53)]) [0] rfl ?_
  refine m_newI (L' := [(53, (σ.1 53))]) 53 rfl ?_
  have loop : ∀ (m9 : Nat) (i : Nat) (f : Nat → Int32), x.1 + 1 - i < m9 → (i ≤ x.1) → (run x 4 i = run x 4 j) → (f 9 = nI i) → (∀ k, k ≠ 9 → f k = σ.1 53 k) → Ws (true, l9) sc mX10_advance 0 0 0 0 0 [(0, .ref 53)] [] (mz σ [(53, f)] [(53, (σ.2 53))]) (RV fun σ' => ∃ f g, σ' = mz σ [(53, f)] [(53, g)] ∧ MT f g x j ∧ (∀ k, k ≠ 8 → k ≠ 9 → k ≠ 10 → k ≠ 11 → f k = σ.1 53 k) ∧ ∀ k, k ≠ 12 → g k = σ.2 53 k) := by
    intro m9
    induction m9 with
    | zero => intro i f hme; exact absurd hme (Nat.not_lt_zero _)
    | succ m9 ih =>
      intro i f hme hi hr f9 fk
      have f7 : f 7 = nI x.1 := (fk 7 (by decide)).trans h7
      by_cases h1 : x.1 ≤ i
      · have hS : tS x j = i := by unfold tS; rw [← hr]; exact run_n (by rw [kd_end h1]; decide)
        have hK : tK x j = 0 := tK_0.mpr (by rw [hS]; exact kd_end h1)
        refine r_aload_n rfl rfl ?_
        refine r_aload_n rfl rfl ?_
        refine s_getI (x := nI i) rfl flX10_106 rfl rfl f9 ?_
        refine s_virI [.int (nI i)] [] rfl lkX10_109 rfl rfl rfl (k_byteAt_o hx f7 h1 (by omega)) rfl rfl (Nat.le_refl _) (Nat.le_refl _) rfl (rI (e1 := -1) rfl ?_)
        refine n_bipush 32 rfl (by decide) ?_
        refine r_icmp_eq (tgt := 26) rfl rfl (fun hq => absurd hq (by decide)) (fun _ => ?_)
        refine r_aload_n rfl rfl ?_
        refine r_aload_n rfl rfl ?_
        refine s_getI (x := nI i) rfl flX10_106 rfl rfl f9 ?_
        refine s_virI [.int (nI i)] [] rfl lkX10_109 rfl rfl rfl (k_byteAt_o hx f7 h1 (by omega)) rfl rfl (Nat.le_refl _) (Nat.le_refl _) rfl (rI (e1 := -1) rfl ?_)
        refine n_bipush 10 rfl (by decide) ?_
        refine r_icmp_ne (tgt := 39) rfl rfl (fun _ => ?_) (fun hq => absurd hq (by decide))
        refine r_aload_n rfl rfl ?_
        refine r_aload_n rfl rfl ?_
        refine s_getI (x := nI i) rfl flX10_106 rfl rfl f9 ?_
        refine m_putI (L' := [(53, (aup f 8 (nI i)))]) rfl flX10_117 rfl rfl (okv_i _) rfl ?_
        refine r_aload_n rfl rfl ?_
        refine n_iconst 0 rfl ?_
        refine m_putI (L' := [(53, (aup (aup f 8 (nI i)) 11 (nI 0)))]) rfl flX10_120 rfl rfl (okv_i _) rfl ?_
        refine r_aload_n rfl rfl ?_
        refine r_aload_n rfl rfl ?_
        refine s_getI (x := nI i) rfl flX10_106 rfl rfl f9 ?_
        refine s_virI [.int (nI i)] [] rfl lkX10_109 rfl rfl rfl (k_byteAt_o hx f7 h1 (by omega)) rfl rfl (Nat.le_refl _) (Nat.le_refl _) rfl (rI (e1 := -1) rfl ?_)
        refine r_istore_n (lv' := [(1, .int (-1)), (0, .ref 53)]) rfl rfl (Nat.le_of_ble_eq_true rfl) rfl ?_
        refine r_iload_n rfl rfl ?_
        refine n_m1 rfl ?_
        refine r_icmp_ne (tgt := 74) rfl rfl (fun hq => absurd hq (by decide)) (fun _ => ?_)
        refine r_aload_n rfl rfl ?_
        refine n_iconst 0 rfl ?_
        refine m_putI (L' := [(53, (aup (aup (aup f 8 (nI i)) 11 (nI 0)) 10 (nI 0)))]) rfl flX10_123 rfl rfl (okv_i _) rfl ?_
        refine r_goto (tgt := 252) rfl rfl ?_
        exact s_vret (st := []) rfl rfl (Nat.zero_le _) (Nat.zero_le _) (⟨rfl, _, _, rfl, ⟨f7, congrArg nI hS.symm, fun z => absurd hK z, by rw [hK]; rfl, fun z => absurd (hK.symm.trans z) (by decide), fun z => absurd (hK.symm.trans z) (by decide)⟩, fun k a b c d => by rw [aup_n _ _ c, aup_n _ _ d, aup_n _ _ a]; exact fk k b, fun k _ => rfl⟩)
      · have h1 : i < x.1 := by omega
        have hbi := hb i
        refine r_aload_n rfl rfl ?_
        refine r_aload_n rfl rfl ?_
        refine s_getI (x := nI i) rfl flX10_106 rfl rfl f9 ?_
        refine s_virI [.int (nI i)] [] rfl lkX10_109 rfl rfl rfl (k_byteAt hx hb hT f7 h1) rfl rfl (Nat.le_refl _) (Nat.le_refl _) rfl (rI (e1 := nI (x.2 i)) rfl ?_)
        refine n_bipush 32 rfl (by decide) ?_
        refine n_icmp_eq (tgt := 26) rfl rfl (by omega) (by omega) (fun h2 => ?_) (fun h2 => ?_)
        · have hk4 := kd_i4 h1 (Or.inl h2)
          refine r_aload_n rfl rfl ?_
          refine r_dup rfl rfl ?_
          refine s_getI (x := nI i) rfl flX10_106 rfl rfl f9 ?_
          refine n_iconst 1 rfl ?_
          refine n_iadd rfl ?_
          refine m_putI (L' := [(53, (aup f 9 (nI (i + 1))))]) rfl flX10_106 rfl rfl (okv_i _) rfl ?_
          refine r_goto (tgt := 0) rfl rfl ?_
          refine r_lv (lv' := [(0, .ref 53)]) [0] rfl ?_
          exact ih (i + 1) _ (by omega) (by omega) (by rw [← run_y (by decide) hk4]; exact hr) rfl (fun k hk => by rw [aup_n _ _ hk]; exact fk k hk)
        · refine r_aload_n rfl rfl ?_
          refine r_aload_n rfl rfl ?_
          refine s_getI (x := nI i) rfl flX10_106 rfl rfl f9 ?_
          refine s_virI [.int (nI i)] [] rfl lkX10_109 rfl rfl rfl (k_byteAt hx hb hT f7 h1) rfl rfl (Nat.le_refl _) (Nat.le_refl _) rfl (rI (e1 := nI (x.2 i)) rfl ?_)
          refine n_bipush 10 rfl (by decide) ?_
          refine n_icmp_ne (tgt := 39) rfl rfl (by omega) (by omega) (fun h3 => ?_) (fun h3 => ?_)
          · have hn4 : kd x i ≠ 4 := kd_n4 h1 h2 h3
            have hS : tS x j = i := by unfold tS; rw [← hr]; exact run_n hn4
            refine r_aload_n rfl rfl ?_
            refine r_aload_n rfl rfl ?_
            refine s_getI (x := nI i) rfl flX10_106 rfl rfl f9 ?_
            refine m_putI (L' := [(53, (aup f 8 (nI i)))]) rfl flX10_117 rfl rfl (okv_i _) rfl ?_
            refine r_aload_n rfl rfl ?_
            refine n_iconst 0 rfl ?_
            refine m_putI (L' := [(53, (aup (aup f 8 (nI i)) 11 (nI 0)))]) rfl flX10_120 rfl rfl (okv_i _) rfl ?_
            refine r_aload_n rfl rfl ?_
            refine r_aload_n rfl rfl ?_
            refine s_getI (x := nI i) rfl flX10_106 rfl rfl f9 ?_
            refine s_virI [.int (nI i)] [] rfl lkX10_109 rfl rfl rfl (k_byteAt hx hb hT f7 h1) rfl rfl (Nat.le_refl _) (Nat.le_refl _) rfl (rI (e1 := nI (x.2 i)) rfl ?_)
            refine r_istore_n (lv' := [(1, .int (nI (x.2 i))), (0, .ref 53)]) rfl rfl (Nat.le_of_ble_eq_true rfl) rfl ?_
            refine r_iload_n rfl rfl ?_
            refine n_m1 rfl ?_
            refine r_icmp_ne (tgt := 74) rfl rfl (fun _ => ?_) (fun hq => absurd hq (nI_m1 (by omega)))
            refine r_iload_n rfl rfl ?_
            refine n_bipush 97 rfl (by decide) ?_
            refine n_bipush 122 rfl (by decide) ?_
            refine s_staI [.int (nI (x.2 i)), .int (nI 97), .int (nI 122)] [] rfl lkX10_113 (k_within (by decide) (by omega) (by decide)) rfl rfl (Nat.le_refl _) (Nat.le_refl _) rfl (rI (e1 := nI (tb (decide (97 ≤ x.2 i ∧ x.2 i ≤ 122)))) rfl ?_)
            have ht := tb_le (decide (97 ≤ x.2 i ∧ x.2 i ≤ 122))
            refine n_if_eq (tgt := 115) rfl rfl (by omega) (fun h4 => ?_) (fun h4 => ?_)
            · have hz1 := of_decide_eq_false (tb_z h4)
              refine r_iload_n rfl rfl ?_
              refine n_bipush 48 rfl (by decide) ?_
              refine n_bipush 57 rfl (by decide) ?_
              refine s_staI [.int (nI (x.2 i)), .int (nI 48), .int (nI 57)] [] rfl lkX10_113 (k_within (by decide) (by omega) (by decide)) rfl rfl (Nat.le_refl _) (Nat.le_refl _) rfl (rI (e1 := nI (tb (decide (48 ≤ x.2 i ∧ x.2 i ≤ 57)))) rfl ?_)
              have ht2 := tb_le (decide (48 ≤ x.2 i ∧ x.2 i ≤ 57))
              refine n_if_eq (tgt := 227) rfl rfl (by omega) (fun h5 => ?_) (fun h5 => ?_)
              · have hz2 := of_decide_eq_false (tb_z h5)
                refine r_aload_n rfl rfl ?_
                refine r_dup rfl rfl ?_
                refine s_getI (x := nI i) rfl flX10_106 rfl rfl f9 ?_
                refine n_iconst 1 rfl ?_
                refine n_iadd rfl ?_
                refine m_putI (L' := [(53, (aup (aup (aup f 8 (nI i)) 11 (nI 0)) 9 (nI (i + 1))))]) rfl flX10_106 rfl rfl (okv_i _) rfl ?_
                refine r_aload_n rfl rfl ?_
                refine r_iload_n rfl rfl ?_
                refine n_bipush 59 rfl (by decide) ?_
                refine n_icmp_ne (tgt := 248) rfl rfl (by omega) (by omega) (fun h6 => ?_) (fun h6 => ?_)
                · have hk := kd_i5 h1 hz1 hz2 ⟨h2, h3⟩ h6
                  have hE : tE x j = i + 1 := by unfold tE; rw [hS, hk, if_neg (by omega)]
                  have hK : tK x j = 5 := by unfold tK; rw [hS, hk, if_neg (by omega)]
                  refine n_iconst 4 rfl ?_
                  refine m_putI (L' := [(53, (aup (aup (aup (aup f 8 (nI i)) 11 (nI 0)) 9 (nI (i + 1))) 10 (nI 4)))]) rfl flX10_123 rfl rfl (okv_i _) rfl ?_
                  exact s_vret (st := []) rfl rfl (Nat.zero_le _) (Nat.zero_le _) (⟨rfl, _, _, rfl, ⟨f7, congrArg nI hS.symm, fun _ => congrArg nI hE.symm, by rw [hK]; rfl, fun z => absurd (hK.symm.trans z) (by decide), fun z => absurd (hK.symm.trans z) (by decide)⟩, fun k a b c d => by rw [aup_n _ _ c, aup_n _ _ b, aup_n _ _ d, aup_n _ _ a]; exact fk k b, fun k _ => rfl⟩)
                · have hk := kd_i3 h1 h6
                  have hE : tE x j = i + 1 := by unfold tE; rw [hS, hk, if_neg (by omega)]
                  have hK : tK x j = 3 := by unfold tK; rw [hS, hk, if_neg (by omega)]
                  refine n_iconst 3 rfl ?_
                  refine r_goto (tgt := 249) rfl rfl ?_
                  refine m_putI (L' := [(53, (aup (aup (aup (aup f 8 (nI i)) 11 (nI 0)) 9 (nI (i + 1))) 10 (nI 3)))]) rfl flX10_123 rfl rfl (okv_i _) rfl ?_
                  exact s_vret (st := []) rfl rfl (Nat.zero_le _) (Nat.zero_le _) (⟨rfl, _, _, rfl, ⟨f7, congrArg nI hS.symm, fun _ => congrArg nI hE.symm, by rw [hK]; rfl, fun z => absurd (hK.symm.trans z) (by decide), fun z => absurd (hK.symm.trans z) (by decide)⟩, fun k a b c d => by rw [aup_n _ _ c, aup_n _ _ b, aup_n _ _ d, aup_n _ _ a]; exact fk k b, fun k _ => rfl⟩)
              · have hz := of_decide_eq_true (tb_ne h5)
                have hk1 := kd_i2 h1 hz
                have hE : tE x j = run x 2 i := by unfold tE; rw [hS, hk1, if_pos (Or.inr rfl), run_y (by decide) hk1]
                refine r_lv (lv' := [(0, .ref 53)]) [1] rfl ?_
                have loop2 : ∀ (m9_2 : Nat) (e : Nat) (g : Nat → Int32), x.1 + 1 - e < m9_2 → (e ≤ x.1) → (i ≤ e) → (run x 2 e = run x 2 i) → (g 9 = nI e) → (g 11 = nI (dg7 x i e)) → (g 8 = nI i) → (∀ k, k ≠ 8 → k ≠ 9 → k ≠ 11 → g k = f k) → (∀ k, i ≤ k → k < e → 48 ≤ x.2 k ∧ x.2 k ≤ 57) → Ws (true, l9) sc mX10_advance 0 0 0 0 126 [(0, .ref 53)] [] (mz σ [(53, g)] [(53, (σ.2 53))]) (RV fun σ' => ∃ f g, σ' = mz σ [(53, f)] [(53, g)] ∧ MT f g x j ∧ (∀ k, k ≠ 8 → k ≠ 9 → k ≠ 10 → k ≠ 11 → f k = σ.1 53 k) ∧ ∀ k, k ≠ 12 → g k = σ.2 53 k) := by
                  intro m9_2
                  induction m9_2 with
                  | zero => intro e g hme; exact absurd hme (Nat.not_lt_zero _)
                  | succ m9_2 ih2 =>
                    intro e g hme he hie hr2 g9 g11 g8 gk hall
                    have g7 : g 7 = nI x.1 := (gk 7 (by decide) (by decide) (by decide)).trans f7
                    by_cases h6 : x.1 ≤ e
                    · refine r_aload_n rfl rfl ?_
                      refine r_aload_n rfl rfl ?_
                      refine s_getI (x := nI e) rfl flX10_106 rfl rfl g9 ?_
                      refine s_virI [.int (nI e)] [] rfl lkX10_109 rfl rfl rfl (k_byteAt_o hx g7 h6 (by omega)) rfl rfl (Nat.le_refl _) (Nat.le_refl _) rfl (rI (e1 := -1) rfl ?_)
                      refine n_bipush 48 rfl (by decide) ?_
                      refine n_bipush 57 rfl (by decide) ?_
                      refine s_staI [.int (-1), .int (nI 48), .int (nI 57)] [] rfl lkX10_113 (k_within_out (by decide) (m1_out (by decide))) rfl rfl (Nat.le_refl _) (Nat.le_refl _) rfl (rI (e1 := nI 0) rfl ?_)
                      refine n_if_eq (tgt := 201) rfl rfl (by decide) (fun _ => ?_) (fun hq => absurd hq (by decide))
                      have hre : run x 2 i = e := by rw [← hr2]; exact run_n (by rw [kd_end h6]; decide)
                      refine r_aload_n rfl rfl ?_
                      refine r_aload_n rfl rfl ?_
                      refine s_getI (x := nI e) rfl flX10_106 rfl rfl g9 ?_
                      refine r_aload_n rfl rfl ?_
                      refine s_getI (x := nI i) rfl flX10_117 rfl rfl g8 ?_
                      refine n_isub rfl (by omega) ?_
                      refine n_bipush 7 rfl (by decide) ?_
                      refine n_icmp_le (tgt := 220) rfl rfl (by omega) (by omega) (fun h8 => ?_) (fun h8 => ?_)
                      · have hK : tK x j = 2 := by unfold tK; rw [hE, hre, hS, hk1, if_neg (by omega)]
                        refine n_iconst 2 rfl ?_
                        refine m_putI (L' := [(53, (aup g 10 (nI 2)))]) rfl flX10_123 rfl rfl (okv_i _) rfl ?_
                        refine r_goto (tgt := 252) rfl rfl ?_
                        exact s_vret (st := []) rfl rfl (Nat.zero_le _) (Nat.zero_le _) (⟨rfl, _, _, rfl, ⟨g7, g8.trans (congrArg nI hS.symm), fun _ => g9.trans (congrArg nI (by rw [hE, hre])), by rw [hK]; rfl, fun _ => by show g 11 = _; rw [g11, dg7_w (by omega)]; unfold vl; rw [hE, hre, hS], fun z => absurd (hK.symm.trans z) (by decide)⟩, fun k a b c d => by rw [aup_n _ _ c, gk k a b d]; exact fk k b, fun k _ => rfl⟩)
                      · have hK : tK x j = 5 := by unfold tK; rw [hE, hre, hS, hk1, if_pos (Or.inr ⟨rfl, by omega⟩)]
                        refine n_iconst 4 rfl ?_
                        refine r_goto (tgt := 221) rfl rfl ?_
                        refine m_putI (L' := [(53, (aup g 10 (nI 4)))]) rfl flX10_123 rfl rfl (okv_i _) rfl ?_
                        refine r_goto (tgt := 252) rfl rfl ?_
                        exact s_vret (st := []) rfl rfl (Nat.zero_le _) (Nat.zero_le _) (⟨rfl, _, _, rfl, ⟨g7, g8.trans (congrArg nI hS.symm), fun _ => g9.trans (congrArg nI (by rw [hE, hre])), by rw [hK]; rfl, fun z => absurd (hK.symm.trans z) (by decide), fun z => absurd (hK.symm.trans z) (by decide)⟩, fun k a b c d => by rw [aup_n _ _ c, gk k a b d]; exact fk k b, fun k _ => rfl⟩)
                    · have h6 : e < x.1 := by omega
                      have hbe := hb e
                      refine r_aload_n rfl rfl ?_
                      refine r_aload_n rfl rfl ?_
                      refine s_getI (x := nI e) rfl flX10_106 rfl rfl g9 ?_
                      refine s_virI [.int (nI e)] [] rfl lkX10_109 rfl rfl rfl (k_byteAt hx hb hT g7 h6) rfl rfl (Nat.le_refl _) (Nat.le_refl _) rfl (rI (e1 := nI (x.2 e)) rfl ?_)
                      refine n_bipush 48 rfl (by decide) ?_
                      refine n_bipush 57 rfl (by decide) ?_
                      refine s_staI [.int (nI (x.2 e)), .int (nI 48), .int (nI 57)] [] rfl lkX10_113 (k_within (by decide) (by omega) (by decide)) rfl rfl (Nat.le_refl _) (Nat.le_refl _) rfl (rI (e1 := nI (tb (decide (48 ≤ x.2 e ∧ x.2 e ≤ 57)))) rfl ?_)
                      have ht3 := tb_le (decide (48 ≤ x.2 e ∧ x.2 e ≤ 57))
                      refine n_if_eq (tgt := 201) rfl rfl (by omega) (fun h7 => ?_) (fun h7 => ?_)
                      · have hzz := of_decide_eq_false (tb_z h7)
                        have hre : run x 2 i = e := by rw [← hr2]; exact run_n (fun z => hzz (kd_2 z))
                        refine r_aload_n rfl rfl ?_
                        refine r_aload_n rfl rfl ?_
                        refine s_getI (x := nI e) rfl flX10_106 rfl rfl g9 ?_
                        refine r_aload_n rfl rfl ?_
                        refine s_getI (x := nI i) rfl flX10_117 rfl rfl g8 ?_
                        refine n_isub rfl (by omega) ?_
                        refine n_bipush 7 rfl (by decide) ?_
                        refine n_icmp_le (tgt := 220) rfl rfl (by omega) (by omega) (fun h8 => ?_) (fun h8 => ?_)
                        · have hK : tK x j = 2 := by unfold tK; rw [hE, hre, hS, hk1, if_neg (by omega)]
                          refine n_iconst 2 rfl ?_
                          refine m_putI (L' := [(53, (aup g 10 (nI 2)))]) rfl flX10_123 rfl rfl (okv_i _) rfl ?_
                          refine r_goto (tgt := 252) rfl rfl ?_
                          exact s_vret (st := []) rfl rfl (Nat.zero_le _) (Nat.zero_le _) (⟨rfl, _, _, rfl, ⟨g7, g8.trans (congrArg nI hS.symm), fun _ => g9.trans (congrArg nI (by rw [hE, hre])), by rw [hK]; rfl, fun _ => by show g 11 = _; rw [g11, dg7_w (by omega)]; unfold vl; rw [hE, hre, hS], fun z => absurd (hK.symm.trans z) (by decide)⟩, fun k a b c d => by rw [aup_n _ _ c, gk k a b d]; exact fk k b, fun k _ => rfl⟩)
                        · have hK : tK x j = 5 := by unfold tK; rw [hE, hre, hS, hk1, if_pos (Or.inr ⟨rfl, by omega⟩)]
                          refine n_iconst 4 rfl ?_
                          refine r_goto (tgt := 221) rfl rfl ?_
                          refine m_putI (L' := [(53, (aup g 10 (nI 4)))]) rfl flX10_123 rfl rfl (okv_i _) rfl ?_
                          refine r_goto (tgt := 252) rfl rfl ?_
                          exact s_vret (st := []) rfl rfl (Nat.zero_le _) (Nat.zero_le _) (⟨rfl, _, _, rfl, ⟨g7, g8.trans (congrArg nI hS.symm), fun _ => g9.trans (congrArg nI (by rw [hE, hre])), by rw [hK]; rfl, fun z => absurd (hK.symm.trans z) (by decide), fun z => absurd (hK.symm.trans z) (by decide)⟩, fun k a b c d => by rw [aup_n _ _ c, gk k a b d]; exact fk k b, fun k _ => rfl⟩)
                      · have hzz := of_decide_eq_true (tb_ne h7)
                        have hke := kd_i2 h6 hzz
                        refine r_aload_n rfl rfl ?_
                        refine r_aload_n rfl rfl ?_
                        refine s_getI (x := nI e) rfl flX10_106 rfl rfl g9 ?_
                        refine r_aload_n rfl rfl ?_
                        refine s_getI (x := nI i) rfl flX10_117 rfl rfl g8 ?_
                        refine n_isub rfl (by omega) ?_
                        refine n_bipush 7 rfl (by decide) ?_
                        suffices K : Ws (true, l9) sc mX10_advance 0 0 0 0 185 [(0, .ref 53)] [.int (nI (dg7 x i (e + 1))), .ref 53] (mz σ [(53, g)] [(53, (σ.2 53))]) (RV fun σ' => ∃ f g, σ' = mz σ [(53, f)] [(53, g)] ∧ MT f g x j ∧ (∀ k, k ≠ 8 → k ≠ 9 → k ≠ 10 → k ≠ 11 → f k = σ.1 53 k) ∧ ∀ k, k ≠ 12 → g k = σ.2 53 k) by
                          refine n_icmp_ge (tgt := 181) rfl rfl (by omega) (by omega) (fun h8 => ?_) (fun h8 => ?_)
                          · refine r_aload_n rfl rfl ?_
                            refine s_getI (x := nI (dg7 x i e)) rfl flX10_120 rfl rfl g11 ?_
                            exact r_top (by rw [dg7_k (by omega)]) K
                          · have hd7 := dgt_lt (t := x.2) (s := i) (n := e - i) (fun k a b => hall k a (by omega))
                            have hp7 : 10 ^ (e - i) ≤ 10 ^ 7 := Nat.pow_le_pow_right (by decide) (by omega)
                            have hdw := dg7_w (x := x) (s := i) (i := e) (by omega)
                            refine n_bipush 10 rfl (by decide) ?_
                            refine r_aload_n rfl rfl ?_
                            refine s_getI (x := nI (dg7 x i e)) rfl flX10_120 rfl rfl g11 ?_
                            refine n_imul rfl ?_
                            refine r_aload_n rfl rfl ?_
                            refine r_aload_n rfl rfl ?_
                            refine s_getI (x := nI e) rfl flX10_106 rfl rfl g9 ?_
                            refine s_virI [.int (nI e)] [.int (nI (10 * (dg7 x i e))), .ref 53] rfl lkX10_109 rfl rfl rfl (k_byteAt hx hb hT g7 h6) rfl rfl (Nat.le_refl _) (Nat.le_refl _) rfl (rI (e1 := nI (x.2 e)) rfl ?_)
                            refine n_iadd rfl ?_
                            refine n_bipush 48 rfl (by decide) ?_
                            refine n_isub rfl (by omega) ?_
                            refine r_goto (tgt := 185) rfl rfl ?_
                            exact r_top (by rw [dg7_s hie (by omega)]; congr 1; omega) K
                        refine m_putI (L' := [(53, (aup g 11 (nI (dg7 x i (e + 1)))))]) rfl flX10_120 rfl rfl (okv_i _) rfl ?_
                        refine r_aload_n rfl rfl ?_
                        refine r_dup rfl rfl ?_
                        refine s_getI (x := nI e) rfl flX10_106 rfl rfl g9 ?_
                        refine n_iconst 1 rfl ?_
                        refine n_iadd rfl ?_
                        refine m_putI (L' := [(53, (aup (aup g 11 (nI (dg7 x i (e + 1)))) 9 (nI (e + 1))))]) rfl flX10_106 rfl rfl (okv_i _) rfl ?_
                        refine r_goto (tgt := 126) rfl rfl ?_
                        refine r_lv (lv' := [(0, .ref 53)]) [0] rfl ?_
                        exact ih2 (e + 1) _ (by omega) (by omega) (by omega) (by rw [← run_y (by decide) hke]; exact hr2) rfl rfl g8 (fun k a b c => by rw [aup_n _ _ b, aup_n _ _ c]; exact gk k a b c) (lt_snoc2 hall hzz)
                exact loop2 (x.1 + 2) i _ (by omega) hi (Nat.le_refl _) rfl f9 (by unfold dg7; rw [if_pos (by omega), Nat.sub_self]; rfl) rfl (fun k a b c => by rw [aup_n _ _ c, aup_n _ _ a]) (fun k a b => absurd a (by omega))
            · have hz := of_decide_eq_true (tb_ne h4)
              have hk1 := kd_i1 h1 hz
              have hkS : kd x (tS x j) = 1 := by rw [hS]; exact hk1
              have hE : tE x j = run x 1 i := by unfold tE; rw [hS, hk1, if_pos (Or.inl rfl), run_y (by decide) hk1]
              have hge := run_ge x 1 i
              have hle := run_le (x := x) (c := 1) (i := i) hi
              refine r_aload_n rfl rfl ?_
              refine s_virV [] [] rfl lkX10_126 rfl rfl rfl (k_letters (s := i) hx hb hT f7 rfl f9 hi) rfl rfl (Nat.le_refl _) (Nat.le_refl _) rfl ?_
              rintro _ ⟨f2, g2, rfl, f29, g212, f2k, g2k⟩
              refine m_mz (L' := [(53, f2)]) (M' := [(53, g2)]) rfl rfl ?_
              have f28 : f2 8 = nI i := f2k 8 (by decide)
              refine r_aload_n rfl rfl ?_
              refine r_aload_n rfl rfl ?_
              refine s_getI (x := nI (run x 1 i)) rfl flX10_106 rfl rfl f29 ?_
              refine r_aload_n rfl rfl ?_
              refine s_getI (x := nI i) rfl flX10_117 rfl rfl f28 ?_
              refine n_isub rfl (by omega) ?_
              refine n_bipush 8 rfl (by decide) ?_
              refine n_icmp_le (tgt := 108) rfl rfl (by omega) (by omega) (fun h5 => ?_) (fun h5 => ?_)
              · have hK : tK x j = 1 := by unfold tK; rw [hE, hS, hk1, if_neg (by omega)]
                refine n_iconst 1 rfl ?_
                refine m_putI (L' := [(53, (aup f2 10 (nI 1)))]) rfl flX10_123 rfl rfl (okv_i _) rfl ?_
                refine r_goto (tgt := 252) rfl rfl ?_
                exact s_vret (st := []) rfl rfl (Nat.zero_le _) (Nat.zero_le _) (⟨rfl, _, _, rfl, ⟨(f2k 7 (by decide)).trans f7, f28.trans (congrArg nI hS.symm), fun _ => f29.trans (congrArg nI hE.symm), by rw [hK]; rfl, fun z => absurd (hK.symm.trans z) (by decide), fun _ => by rw [g212, lt8_w (by omega)]; unfold wl; rw [hE, hS]⟩, fun k a b c d => by rw [aup_n _ _ c, f2k k b]; show aup (aup f 8 (nI i)) 11 (nI 0) k = _; rw [aup_n _ _ d, aup_n _ _ a]; exact fk k b, g2k⟩)
              · have hK : tK x j = 5 := by unfold tK; rw [hE, hS, hk1, if_pos (Or.inl ⟨rfl, by omega⟩)]
                refine n_iconst 4 rfl ?_
                refine r_goto (tgt := 109) rfl rfl ?_
                refine m_putI (L' := [(53, (aup f2 10 (nI 4)))]) rfl flX10_123 rfl rfl (okv_i _) rfl ?_
                refine r_goto (tgt := 252) rfl rfl ?_
                exact s_vret (st := []) rfl rfl (Nat.zero_le _) (Nat.zero_le _) (⟨rfl, _, _, rfl, ⟨(f2k 7 (by decide)).trans f7, f28.trans (congrArg nI hS.symm), fun _ => f29.trans (congrArg nI hE.symm), by rw [hK]; rfl, fun z => absurd (hK.symm.trans z) (by decide), fun z => absurd (hK.symm.trans z) (by decide)⟩, fun k a b c d => by rw [aup_n _ _ c, f2k k b]; show aup (aup f 8 (nI i)) 11 (nI 0) k = _; rw [aup_n _ _ d, aup_n _ _ a]; exact fk k b, g2k⟩)
          · have hk4 := kd_i4 h1 (Or.inr h3)
            refine r_aload_n rfl rfl ?_
            refine r_dup rfl rfl ?_
            refine s_getI (x := nI i) rfl flX10_106 rfl rfl f9 ?_
            refine n_iconst 1 rfl ?_
            refine n_iadd rfl ?_
            refine m_putI (L' := [(53, (aup f 9 (nI (i + 1))))]) rfl flX10_106 rfl rfl (okv_i _) rfl ?_
            refine r_goto (tgt := 0) rfl rfl ?_
            refine r_lv (lv' := [(0, .ref 53)]) [0] rfl ?_
            exact ih (i + 1) _ (by omega) (by omega) (by rw [← run_y (by decide) hk4]; exact hr) rfl (fun k hk => by rw [aup_n _ _ hk]; exact fk k hk)
  exact loop (x.1 + 2) j _ (by omega) hj rfl h9 (fun k _ => rfl)

theorem k_isWord {l9 : Bool} {sc : SC} {σ : SS} {j i : Nat} {s : String × Nat × String × List Int32} {w : List Nat} (hs : strJ[i]? = some s) (hw : isS s w) {x : TX} (hx : x.1 ≤ 700) (hb : ∀ i, x.2 i < 256) (hT : ∀ i, i < x.1 → σ.1 58 i = bI (x.2 i)) (hM : MT (σ.1 53) (σ.2 53) x j) : Cs (true, l9) sc mX10_isWord 0 0 [.ref 53, .retAddr i] σ (PI (nI (tb (iw x j w))) σ) := by
  refine Cs.of gmX10_isWord (Nat.le_of_ble_eq_true rfl) ?_
  show Ws (true, l9) sc mX10_isWord 0 0 0 0 0 [(0, .ref 53), (1, .retAddr i)] [] (mz σ [] []) (PI (nI (tb (iw x j w))) σ)
  obtain ⟨w1, w2, w3⟩ := hw
  have hml := mt_le (tK_le x j)
  have hgt := tE_gt x j
  have hm1 := mt_eq (c := 1) (by decide) (tK_4 x j)
  refine r_aload_n rfl rfl ?_
  refine s_getI (x := nI (mt (tK x j))) rfl flX10_123 rfl rfl hM.2.2.2.1 ?_
  refine n_iconst 1 rfl ?_
  suffices K : Ws (true, l9) sc mX10_isWord 0 0 0 0 29 [(0, .ref 53), (1, .retAddr i)] [.int (nI (tb (decide (tK x j = 1 ∧ (wl x j).length = w.length))))] (mz σ [] []) (PI (nI (tb (iw x j w))) σ) by
    refine n_icmp_ne (tgt := 28) rfl rfl (by omega) (by omega) (fun h1 => ?_) (fun h1 => ?_)
    · refine n_iconst 0 rfl ?_
      exact r_top (by rw [decide_eq_false (fun z => h1 (hm1.mpr z.1))]; rfl) K
    · have hk1 := hm1.mp h1
      obtain ⟨k1, k2, k3⟩ := tK_1 hk1
      have hwl : (wl x j).length = tE x j - tS x j := by unfold wl; rw [ltr_len]
      refine r_aload_n rfl rfl ?_
      refine s_getI (x := nI (tE x j)) rfl flX10_106 rfl rfl (hM.2.2.1 (by omega)) ?_
      refine r_aload_n rfl rfl ?_
      refine s_getI (x := nI (tS x j)) rfl flX10_117 rfl rfl hM.2.1 ?_
      refine n_isub rfl (by omega) ?_
      refine r_aload_nK rfl rfl (by have := str_lt hs; omega) ?_
      refine s_virKI [] [.int (nI ((tE x j) - (tS x j)))] rfl lkX10_129 hs rfl (c_slen hs) rfl rfl (Nat.le_refl _) (Nat.le_refl _) (rI (e1 := nI s.2.2.2.length) rfl ?_)
      refine n_icmp_ne (tgt := 28) rfl rfl (by omega) (by omega) (fun h2 => ?_) (fun h2 => ?_)
      · refine n_iconst 0 rfl ?_
        exact r_top (by rw [decide_eq_false (by omega)]; rfl) K
      · refine n_iconst 1 rfl ?_
        refine r_goto (tgt := 29) rfl rfl ?_
        exact r_top (by rw [decide_eq_true ⟨hk1, by omega⟩]; rfl) K
  refine r_istore_n (lv' := [(2, .int (nI (tb (decide (tK x j = 1 ∧ (wl x j).length = w.length))))), (0, .ref 53), (1, .retAddr i)]) rfl rfl (Nat.le_of_ble_eq_true rfl) rfl ?_
  refine n_iconst 0 rfl ?_
  refine r_istore_n (lv' := [(3, .int (nI 0)), (2, .int (nI (tb (decide (tK x j = 1 ∧ (wl x j).length = w.length))))), (0, .ref 53), (1, .retAddr i)]) rfl rfl (Nat.le_of_ble_eq_true rfl) rfl ?_
  refine r_lv (lv' := [(3, .int (nI 0)), (0, .ref 53), (1, .retAddr i), (2, .int (nI (tb (decide (tK x j = 1 ∧ (wl x j).length = w.length)))))]) [0, 2, 3, 1] rfl ?_
  have loop : ∀ (m9 : Nat) (q : Nat) (c : Bool), w.length - q < m9 → (q ≤ w.length) → (c = true → tK x j = 1 ∧ (wl x j).length = w.length ∧ ∀ k, k < q → x.2 (tS x j + k) - 96 = w.getD k 0) → (c = false → iw x j w = false) → Ws (true, l9) sc mX10_isWord 0 0 0 0 32 [(3, .int (nI q)), (0, .ref 53), (1, .retAddr i), (2, .int (nI (tb c)))] [] (mz σ [] []) (PI (nI (tb (iw x j w))) σ) := by
    intro m9
    induction m9 with
    | zero => intro q c hme; exact absurd hme (Nat.not_lt_zero _)
    | succ m9 ih =>
      intro q c hme hq h0 h00
      have hcb := tb_le c
      refine r_iload_n rfl rfl ?_
      refine r_aload_nK rfl rfl (by have := str_lt hs; omega) ?_
      refine s_virKI [] [.int (nI q)] rfl lkX10_129 hs rfl (c_slen hs) rfl rfl (Nat.le_refl _) (Nat.le_refl _) (rI (e1 := nI s.2.2.2.length) rfl ?_)
      refine n_icmp_ge (tgt := 75) rfl rfl (by omega) (by omega) (fun h4 => ?_) (fun h4 => ?_)
      · have hfin : iw x j w = c := by
          cases hc : c with
          | false => exact h00 hc
          | true => obtain ⟨a1, a2, a3⟩ := h0 hc; obtain ⟨k1, k2, k3⟩ := tK_1 a1; exact decide_eq_true ⟨a1, wl_eq (by have : (wl x j).length = tE x j - tS x j := (by unfold wl; rw [ltr_len]); omega) (fun k hk => a3 k (by omega))⟩
        refine r_iload_n rfl rfl ?_
        exact s_ret (st := []) rfl rfl (nar_tb _) (Nat.zero_le _) (Nat.zero_le _) (pI (by rw [hfin]) rfl)
      · refine r_iload_n rfl rfl ?_
        refine n_if_eq (tgt := 75) rfl rfl (by omega) (fun h5 => ?_) (fun h5 => ?_)
        · have hfin : iw x j w = c := (h00 (tb_z h5)).trans (tb_z h5).symm
          refine r_iload_n rfl rfl ?_
          exact s_ret (st := []) rfl rfl (nar_tb _) (Nat.zero_le _) (Nat.zero_le _) (pI (by rw [hfin]) rfl)
        · obtain ⟨a1, a2, a3⟩ := h0 (tb_ne h5)
          obtain ⟨k1, k2, k3⟩ := tK_1 a1
          have hwl : (wl x j).length = tE x j - tS x j := by unfold wl; rw [ltr_len]
          have hkd := kd_1 (k2 (tS x j + q) (by omega) (by omega))
          have hwq := w3 q (by omega)
          refine r_aload_n rfl rfl ?_
          refine s_getR (r := 58) rfl flX10_23 rfl rfl ?_
          refine r_aload_n rfl rfl ?_
          refine s_getI (x := nI (tS x j)) rfl flX10_117 rfl rfl hM.2.1 ?_
          refine r_iload_n rfl rfl ?_
          refine n_iadd rfl ?_
          refine s_bald (x := nI (x.2 (tS x j + q))) rfl rfl (by omega) ((hT _ (by omega)).trans (bI_p (by omega))) ?_
          refine r_aload_nK rfl rfl (by have := str_lt hs; omega) ?_
          refine r_iload_n rfl rfl ?_
          refine s_virKI [.int (nI q)] [.int (nI (x.2 (tS x j + q)))] rfl lkX10_134 hs rfl (c_chAt hs (b := w.getD q 0 + 96) (by omega) (by omega) hwq.1 (by omega)) rfl rfl (Nat.le_refl _) (Nat.le_refl _) (rI (e1 := nI (w.getD q 0 + 96)) rfl ?_)
          suffices K : Ws (true, l9) sc mX10_isWord 0 0 0 0 68 [(3, .int (nI q)), (0, .ref 53), (1, .retAddr i), (2, .int (nI (tb c)))] [.int (nI (tb (decide (x.2 (tS x j + q) = w.getD q 0 + 96))))] (mz σ [] []) (PI (nI (tb (iw x j w))) σ) by
            refine n_icmp_ne (tgt := 67) rfl rfl (by omega) (by omega) (fun h6 => ?_) (fun h6 => ?_)
            · refine n_iconst 0 rfl ?_
              exact r_top (by rw [decide_eq_false h6]; rfl) K
            · refine n_iconst 1 rfl ?_
              refine r_goto (tgt := 68) rfl rfl ?_
              exact r_top (by rw [decide_eq_true h6]; rfl) K
          refine r_istore_n (lv' := [(2, .int (nI (tb (decide (x.2 (tS x j + q) = w.getD q 0 + 96))))), (3, .int (nI q)), (0, .ref 53), (1, .retAddr i)]) rfl rfl (Nat.le_of_ble_eq_true rfl) rfl ?_
          refine n_iinc (lv' := [(3, .int (nI (q + 1))), (2, .int (nI (tb (decide (x.2 (tS x j + q) = w.getD q 0 + 96))))), (0, .ref 53), (1, .retAddr i)]) 1 rfl rfl (Nat.le_of_ble_eq_true rfl) rfl ?_
          refine r_goto (tgt := 32) rfl rfl ?_
          refine r_lv (lv' := [(3, .int (nI (q + 1))), (0, .ref 53), (1, .retAddr i), (2, .int (nI (tb (decide (x.2 (tS x j + q) = w.getD q 0 + 96)))))]) [0, 2, 3, 1] rfl ?_
          exact ih (q + 1) _ (by omega) (by omega) (fun z => ⟨a1, a2, lt_snoc a3 (by have := of_decide_eq_true z; omega)⟩) (fun z => decide_eq_false (fun y => wl_ne (k := q) (by omega) (by have := of_decide_eq_false z; omega) y.2))
  exact loop (w.length + 1) 0 _ (by omega) (Nat.zero_le _) (fun z => ⟨(of_decide_eq_true z).1, (of_decide_eq_true z).2, fun k hk => absurd hk (Nat.not_lt_zero _)⟩) (fun z => decide_eq_false (fun y => of_decide_eq_false z ⟨y.1, by rw [y.2]⟩))

