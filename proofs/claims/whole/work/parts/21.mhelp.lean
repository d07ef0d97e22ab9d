/-- how many children -/
def ch (d : D) (q : Nat) : Nat := sm (fun k => tb (d 1 k == q + 1)) (d 0 0)
theorem pnI {q : Nat} (h : q < 900) : ¬ nI q = -1 := by
  rw [← oI_s]
  exact oI_ne h
theorem fb1 {a : Nat} (ha : a ≤ 120) (h : ¬ nI 100 - nI (a / 10 * 10) ≤ nI 90) : nI 90 = nI (fa a) := (by decide +kernel : ∀ a, a < 121 → ¬ nI 100 - nI (a / 10 * 10) ≤ nI 90 → nI 90 = nI (fa a)) a (by omega) h
theorem fb2 {a : Nat} (ha : a ≤ 120) (h : ¬ nI 10 ≤ nI 100 - nI (a / 10 * 10)) : nI 10 = nI (fa a) := (by decide +kernel : ∀ a, a < 121 → ¬ nI 10 ≤ nI 100 - nI (a / 10 * 10) → nI 10 = nI (fa a)) a (by omega) h
theorem fb3 {a : Nat} (ha : a ≤ 120) (h : nI 100 - nI (a / 10 * 10) ≤ nI 90) (h2 : nI 10 ≤ nI 100 - nI (a / 10 * 10)) : nI 100 - nI (a / 10 * 10) = nI (fa a) := (by decide +kernel : ∀ a, a < 121 → nI 100 - nI (a / 10 * 10) ≤ nI 90 → nI 10 ≤ nI 100 - nI (a / 10 * 10) → nI 100 - nI (a / 10 * 10) = nI (fa a)) a (by omega) h h2
theorem c_of {l9 : Bool} {sc : SC} {σ : SS} {q v : Nat} {x : Int32} (hq : q < 12) (hv : v < 4) (hx : σ.1 54 (10 + 4 * q + v) = x) : Cs (true, l9) sc mX10_of 0 0 [.ref 53, .int (nI q), .int (nI v)] σ (PI x σ) := by
  refine Cs.of gmX10_of (Nat.le_of_ble_eq_true rfl) ?_
  show Ws (true, l9) sc mX10_of 0 0 0 0 0 [(0, .ref 53), (1, .int (nI q)), (2, .int (nI v))] [] (mz σ [] []) (PI x σ)
  refine r_aload_n rfl rfl ?_
  refine s_getR (r := 54) rfl flX10_7 rfl rfl ?_
  refine n_bipush 10 rfl (by decide) ?_
  refine n_iconst 4 rfl ?_
  refine r_iload_n rfl rfl ?_
  refine n_imul rfl ?_
  refine n_iadd rfl ?_
  refine r_iload_n rfl rfl ?_
  refine n_iadd rfl ?_
  refine s_iald (x := x) rfl rfl (by omega) hx ?_
  exact s_ret (st := []) rfl rfl rfl (Nat.zero_le _) (Nat.zero_le _) (pI rfl rfl)

theorem c_netOf {l9 : Bool} {sc : SC} {σ : SS} {d : D} {a : Nat} (hM : MR (σ.1 54) d) (hV : Vd d) (ha : a < 8) : Cs (true, l9) sc mX10_netOf 0 0 [.ref 53, .int (nI a)] σ (PI (nI (nt d a)) σ) := by
  refine Cs.of gmX10_netOf (Nat.le_of_ble_eq_true rfl) ?_
  show Ws (true, l9) sc mX10_netOf 0 0 0 0 0 [(0, .ref 53), (1, .int (nI a))] [] (mz σ [] []) (PI (nI (nt d a)) σ)
  have hA := vV hV a
  have hx : d 5 a * d 6 a ≤ 9999999 * 100 := Nat.mul_le_mul hA.1 hA.2
  refine r_aload_n rfl rfl ?_
  refine s_getR (r := 54) rfl flX10_7 rfl rfl ?_
  refine n_bipush 58 rfl (by decide) ?_
  refine n_iconst 2 rfl ?_
  refine r_iload_n rfl rfl ?_
  refine n_imul rfl ?_
  refine n_iadd rfl ?_
  refine s_iald (x := nI (d 5 a)) rfl rfl (by omega) (Ma0 hM ha) ?_
  refine r_istore_n (lv' := [(2, .int (nI (d 5 a))), (0, .ref 53), (1, .int (nI a))]) rfl rfl (Nat.le_of_ble_eq_true rfl) rfl ?_
  refine r_iload_n rfl rfl ?_
  refine r_iload_n rfl rfl ?_
  refine r_aload_n rfl rfl ?_
  refine s_getR (r := 54) rfl flX10_7 rfl rfl ?_
  refine n_bipush 58 rfl (by decide) ?_
  refine n_iconst 2 rfl ?_
  refine r_iload_n rfl rfl ?_
  refine n_imul rfl ?_
  refine n_iadd rfl ?_
  refine n_iconst 1 rfl ?_
  refine n_iadd rfl ?_
  refine s_iald (x := nI (d 6 a)) rfl rfl (by omega) (Ma1 hM ha) ?_
  refine n_imul rfl ?_
  refine n_bipush 100 rfl (by decide) ?_
  refine n_idiv rfl (by omega) (by omega) (by omega) ?_
  refine n_isub rfl (nt_sub hV a) ?_
  exact s_ret (st := []) rfl rfl rfl (Nat.zero_le _) (Nat.zero_le _) (pI rfl rfl)

theorem c_takesShareN {l9 : Bool} {sc : SC} {σ : SS} {d : D} {q : Nat} (hM : MR (σ.1 54) d) (hV : Vd d) (hq : q < 12) : Cs (true, l9) sc mX10_takesShare 0 0 [.ref 53, .int (nI q)] σ (PI (nI (tb (tk d q))) σ) := by
  refine Cs.of gmX10_takesShare (Nat.le_of_ble_eq_true rfl) ?_
  show Ws (true, l9) sc mX10_takesShare 0 0 0 0 0 [(0, .ref 53), (1, .int (nI q))] [] (mz σ [] []) (PI (nI (tb (tk d q))) σ)
  have hC := vC hV
  refine r_iload_n rfl rfl ?_
  refine n_m1 rfl ?_
  suffices K : Ws (true, l9) sc mX10_takesShare 0 0 0 0 28 [(0, .ref 53), (1, .int (nI q))] [.int (nI (tb (tk d q)))] (mz σ [] []) (PI (nI (tb (tk d q))) σ) by
    refine r_icmp_eq (tgt := 27) rfl rfl (fun hq => absurd hq (pnI (by omega))) (fun _ => ?_)
    have hA := vA hV q
    refine r_aload_n rfl rfl ?_
    refine r_iload_n rfl rfl ?_
    refine n_iconst 2 rfl ?_
    refine s_virI [.int (nI q), .int (nI 2)] [] rfl lkX10_245 rfl rfl rfl (c_of (x := nI (d 3 q)) (by omega) (by omega) (M2 hM (by omega))) rfl rfl (Nat.le_refl _) (Nat.le_refl _) rfl (rI (e1 := nI (d 3 q)) rfl ?_)
    refine n_if_ne (tgt := 27) rfl rfl (by omega) (fun h1 => ?_) (fun h1 => ?_)
    · refine n_iconst 0 rfl ?_
      exact r_top (by rw [tk_no (Or.inl h1)]; rfl) K
    · refine r_aload_n rfl rfl ?_
      refine r_iload_n rfl rfl ?_
      refine n_iconst 3 rfl ?_
      refine s_virI [.int (nI q), .int (nI 3)] [] rfl lkX10_245 rfl rfl rfl (c_of (x := nI (d 4 q)) (by omega) (by omega) (M3 hM (by omega))) rfl rfl (Nat.le_refl _) (Nat.le_refl _) rfl (rI (e1 := nI (d 4 q)) rfl ?_)
      refine n_if_ne (tgt := 27) rfl rfl (by omega) (fun h2 => ?_) (fun h2 => ?_)
      · refine n_iconst 0 rfl ?_
        exact r_top (by rw [tk_no (Or.inr h2)]; rfl) K
      · refine n_iconst 1 rfl ?_
        refine r_goto (tgt := 28) rfl rfl ?_
        exact r_top (by rw [tk_yes h1 h2]; rfl) K
  exact s_ret (st := []) rfl rfl (nar_tb _) (Nat.zero_le _) (Nat.zero_le _) (pI rfl rfl)

theorem c_takesShareO {l9 : Bool} {sc : SC} {σ : SS} {d : D} (hM : MR (σ.1 54) d) (hV : Vd d)  : Cs (true, l9) sc mX10_takesShare 0 0 [.ref 53, .int (oI (d 0 5))] σ (PI (nI (tb (hs d))) σ) := by
  refine Cs.of gmX10_takesShare (Nat.le_of_ble_eq_true rfl) ?_
  show Ws (true, l9) sc mX10_takesShare 0 0 0 0 0 [(0, .ref 53), (1, .int (oI (d 0 5)))] [] (mz σ [] []) (PI (nI (tb (hs d))) σ)
  have hC := vC hV
  refine r_iload_n rfl rfl ?_
  refine n_m1 rfl ?_
  suffices K : Ws (true, l9) sc mX10_takesShare 0 0 0 0 28 [(0, .ref 53), (1, .int (oI (d 0 5)))] [.int (nI (tb (hs d)))] (mz σ [] []) (PI (nI (tb (hs d))) σ) by
    refine r_icmp_eq (tgt := 27) rfl rfl (fun h0 => ?_) (fun h0 => ?_)
    · refine n_iconst 0 rfl ?_
      exact r_top (by rw [hs_no (noI hC.2.2.2.2.2.1 h0)]; rfl) K
    · obtain ⟨s, hs9⟩ : ∃ s, d 0 5 = s + 1 := ⟨d 0 5 - 1, by have := noI2 (d := d) h0; omega⟩
      rw [hs9, oI_s]
      rw [hs9, oI_s] at K
      have hA := vA hV s
      refine r_aload_n rfl rfl ?_
      refine r_iload_n rfl rfl ?_
      refine n_iconst 2 rfl ?_
      refine s_virI [.int (nI s), .int (nI 2)] [] rfl lkX10_245 rfl rfl rfl (c_of (x := nI (d 3 s)) (by omega) (by omega) (M2 hM (by omega))) rfl rfl (Nat.le_refl _) (Nat.le_refl _) rfl (rI (e1 := nI (d 3 s)) rfl ?_)
      refine n_if_ne (tgt := 27) rfl rfl (by omega) (fun h1 => ?_) (fun h1 => ?_)
      · refine n_iconst 0 rfl ?_
        exact r_top (by rw [hs_s hs9, tk_no (Or.inl h1)]; rfl) K
      · refine r_aload_n rfl rfl ?_
        refine r_iload_n rfl rfl ?_
        refine n_iconst 3 rfl ?_
        refine s_virI [.int (nI s), .int (nI 3)] [] rfl lkX10_245 rfl rfl rfl (c_of (x := nI (d 4 s)) (by omega) (by omega) (M3 hM (by omega))) rfl rfl (Nat.le_refl _) (Nat.le_refl _) rfl (rI (e1 := nI (d 4 s)) rfl ?_)
        refine n_if_ne (tgt := 27) rfl rfl (by omega) (fun h2 => ?_) (fun h2 => ?_)
        · refine n_iconst 0 rfl ?_
          exact r_top (by rw [hs_s hs9, tk_no (Or.inr h2)]; rfl) K
        · refine n_iconst 1 rfl ?_
          refine r_goto (tgt := 28) rfl rfl ?_
          exact r_top (by rw [hs_s hs9, tk_yes h1 h2]; rfl) K
  exact s_ret (st := []) rfl rfl (nar_tb _) (Nat.zero_le _) (Nat.zero_le _) (pI rfl rfl)

theorem c_goesOn {l9 : Bool} {sc : SC} {σ : SS} {d : D} {q : Nat} (hM : MR (σ.1 54) d) (hV : Vd d) (hq : q < 12) : Cs (true, l9) sc mX10_goesOn 0 0 [.ref 53, .int (nI q)] σ (PI (nI (tb (go d q))) σ) := by
  refine Cs.of gmX10_goesOn (Nat.le_of_ble_eq_true rfl) ?_
  show Ws (true, l9) sc mX10_goesOn 0 0 0 0 0 [(0, .ref 53), (1, .int (nI q))] [] (mz σ [] []) (PI (nI (tb (go d q))) σ)
  have hC := vC hV
  have hA := vA hV q
  refine r_aload_n rfl rfl ?_
  refine r_iload_n rfl rfl ?_
  refine n_iconst 2 rfl ?_
  refine s_virI [.int (nI q), .int (nI 2)] [] rfl lkX10_245 rfl rfl rfl (c_of (x := nI (d 3 q)) (by omega) (by omega) (M2 hM (by omega))) rfl rfl (Nat.le_refl _) (Nat.le_refl _) rfl (rI (e1 := nI (d 3 q)) rfl ?_)
  refine n_iconst 1 rfl ?_
  suffices K : Ws (true, l9) sc mX10_goesOn 0 0 0 0 36 [(0, .ref 53), (1, .int (nI q))] [.int (nI (tb (go d q)))] (mz σ [] []) (PI (nI (tb (go d q))) σ) by
    refine n_icmp_eq (tgt := 31) rfl rfl (by omega) (by omega) (fun h1 => ?_) (fun h1 => ?_)
    · refine n_iconst 1 rfl ?_
      refine r_goto (tgt := 36) rfl rfl ?_
      exact r_top (by rw [go_yes (Or.inl (by omega))]; rfl) K
    · refine r_aload_n rfl rfl ?_
      refine r_iload_n rfl rfl ?_
      refine n_iconst 3 rfl ?_
      refine s_virI [.int (nI q), .int (nI 3)] [] rfl lkX10_245 rfl rfl rfl (c_of (x := nI (d 4 q)) (by omega) (by omega) (M3 hM (by omega))) rfl rfl (Nat.le_refl _) (Nat.le_refl _) rfl (rI (e1 := nI (d 4 q)) rfl ?_)
      refine n_iconst 1 rfl ?_
      refine n_icmp_ne (tgt := 35) rfl rfl (by omega) (by omega) (fun h2 => ?_) (fun h2 => ?_)
      · refine n_iconst 0 rfl ?_
        exact r_top (by rw [go_no (by omega) (Or.inl (by omega))]; rfl) K
      · refine r_aload_n rfl rfl ?_
        refine s_getR (r := 54) rfl flX10_7 rfl rfl ?_
        refine n_bipush 9 rfl (by decide) ?_
        refine s_iald (x := nI (d 0 9)) rfl rfl (by decide) (MRat hM 0 9 (by decide) (by decide)) ?_
        refine n_iconst 1 rfl ?_
        refine n_icmp_ne (tgt := 35) rfl rfl (by omega) (by omega) (fun h3 => ?_) (fun h3 => ?_)
        · refine n_iconst 0 rfl ?_
          exact r_top (by rw [go_no (by omega) (Or.inr (by omega))]; rfl) K
        · refine n_iconst 1 rfl ?_
          refine r_goto (tgt := 36) rfl rfl ?_
          exact r_top (by rw [go_yes (Or.inr (by omega))]; rfl) K
  exact s_ret (st := []) rfl rfl (nar_tb _) (Nat.zero_le _) (Nat.zero_le _) (pI rfl rfl)

theorem c_giftOf {l9 : Bool} {sc : SC} {σ : SS} {d : D} {q : Nat} (hM : MR (σ.1 54) d) (hV : Vd d) (hq : q < 12) : Cs (true, l9) sc mX10_giftOf 0 0 [.ref 53, .int (nI q)] σ (PI (nI (gf d q)) σ) := by
  refine Cs.of gmX10_giftOf (Nat.le_of_ble_eq_true rfl) ?_
  show Ws (true, l9) sc mX10_giftOf 0 0 0 0 0 [(0, .ref 53), (1, .int (nI q))] [] (mz σ [] []) (PI (nI (gf d q)) σ)
  have hC := vC hV
  refine n_iconst 0 rfl ?_
  refine r_istore_n (lv' := [(2, .int (nI 0)), (0, .ref 53), (1, .int (nI q))]) rfl rfl (Nat.le_of_ble_eq_true rfl) rfl ?_
  refine n_iconst 0 rfl ?_
  refine r_istore_n (lv' := [(3, .int (nI 0)), (2, .int (nI 0)), (0, .ref 53), (1, .int (nI q))]) rfl rfl (Nat.le_of_ble_eq_true rfl) rfl ?_
  refine r_lv (lv' := [(3, .int (nI 0)), (2, .int (nI 0)), (0, .ref 53), (1, .int (nI q))]) [0, 1, 2, 3] rfl ?_
  have loop : ∀ (m9 : Nat) (g : Nat) , d 0 3 - g < m9 → (g ≤ d 0 3) → Ws (true, l9) sc mX10_giftOf 0 0 0 0 4 [(3, .int (nI g)), (2, .int (nI (sm (fun g => if d 9 g = q then d 10 g else 0) g))), (0, .ref 53), (1, .int (nI q))] [] (mz σ [] []) (PI (nI (gf d q)) σ) := by
    intro m9
    induction m9 with
    | zero => intro g  hme; exact absurd hme (Nat.not_lt_zero _)
    | succ m9 ih =>
      intro g  hme hg
      have hG := vG hV g
      refine r_iload_n rfl rfl ?_
      refine r_aload_n rfl rfl ?_
      refine s_getR (r := 54) rfl flX10_7 rfl rfl ?_
      refine n_iconst 3 rfl ?_
      refine s_iald (x := nI (d 0 3)) rfl rfl (by decide) (MRat hM 0 3 (by decide) (by decide)) ?_
      refine n_icmp_ge (tgt := 55) rfl rfl (by omega) (by omega) (fun h1 => ?_) (fun h1 => ?_)
      · refine r_iload_n rfl rfl ?_
        exact s_ret (st := []) rfl rfl rfl (Nat.zero_le _) (Nat.zero_le _) (pI (by rw [show g = d 0 3 by omega]; rfl) rfl)
      · refine r_iload_n rfl rfl ?_
        refine r_aload_n rfl rfl ?_
        refine s_getR (r := 54) rfl flX10_7 rfl rfl ?_
        refine n_bipush 90 rfl (by decide) ?_
        refine n_iconst 2 rfl ?_
        refine r_iload_n rfl rfl ?_
        refine n_imul rfl ?_
        refine n_iadd rfl ?_
        refine s_iald (x := nI (d 9 g)) rfl rfl (by omega) (Mg0 hM (by omega)) ?_
        refine r_iload_n rfl rfl ?_
        suffices K : Ws (true, l9) sc mX10_giftOf 0 0 0 0 47 [(3, .int (nI g)), (2, .int (nI (sm (fun g => if d 9 g = q then d 10 g else 0) g))), (0, .ref 53), (1, .int (nI q))] [.int (nI (if d 9 g = q then d 10 g else 0)), .int (nI (sm (fun g => if d 9 g = q then d 10 g else 0) g))] (mz σ [] []) (PI (nI (gf d q)) σ) by
          refine n_icmp_ne (tgt := 46) rfl rfl (by omega) (by omega) (fun h2 => ?_) (fun h2 => ?_)
          · refine n_iconst 0 rfl ?_
            exact r_top (by rw [if_neg h2]) K
          · refine r_aload_n rfl rfl ?_
            refine s_getR (r := 54) rfl flX10_7 rfl rfl ?_
            refine n_bipush 90 rfl (by decide) ?_
            refine n_iconst 2 rfl ?_
            refine r_iload_n rfl rfl ?_
            refine n_imul rfl ?_
            refine n_iadd rfl ?_
            refine n_iconst 1 rfl ?_
            refine n_iadd rfl ?_
            refine s_iald (x := nI (d 10 g)) rfl rfl (by omega) (Mg1 hM (by omega)) ?_
            refine r_goto (tgt := 47) rfl rfl ?_
            exact r_top (by rw [if_pos h2]) K
        refine n_iadd rfl ?_
        refine r_istore_n (lv' := [(2, .int (nI ((sm (fun g => if d 9 g = q then d 10 g else 0) g) + (if d 9 g = q then d 10 g else 0)))), (3, .int (nI g)), (0, .ref 53), (1, .int (nI q))]) rfl rfl (Nat.le_of_ble_eq_true rfl) rfl ?_
        refine n_iinc (lv' := [(3, .int (nI (g + 1))), (2, .int (nI ((sm (fun g => if d 9 g = q then d 10 g else 0) g) + (if d 9 g = q then d 10 g else 0)))), (0, .ref 53), (1, .int (nI q))]) 1 rfl rfl (Nat.le_of_ble_eq_true rfl) rfl ?_
        refine r_goto (tgt := 4) rfl rfl ?_
        refine r_lv (lv' := [(3, .int (nI (g + 1))), (2, .int (nI ((sm (fun g => if d 9 g = q then d 10 g else 0) g) + (if d 9 g = q then d 10 g else 0)))), (0, .ref 53), (1, .int (nI q))]) [0, 1, 2, 3] rfl ?_
        exact ih (g + 1) (by omega) (by omega)
  exact loop (d 0 3 + 1) 0 (by omega) (by omega)

theorem c_mchildren {l9 : Bool} {sc : SC} {σ : SS} {d : D} {q : Nat} (hM : MR (σ.1 54) d) (hV : Vd d) (hq : q < 12) : Cs (true, l9) sc mX10_childrenOf 0 0 [.ref 53, .int (nI q)] σ (PI (nI (ch d q)) σ) := by
  refine Cs.of gmX10_childrenOf (Nat.le_of_ble_eq_true rfl) ?_
  show Ws (true, l9) sc mX10_childrenOf 0 0 0 0 0 [(0, .ref 53), (1, .int (nI q))] [] (mz σ [] []) (PI (nI (ch d q)) σ)
  have hC := vC hV
  refine n_iconst 0 rfl ?_
  refine r_istore_n (lv' := [(2, .int (nI 0)), (0, .ref 53), (1, .int (nI q))]) rfl rfl (Nat.le_of_ble_eq_true rfl) rfl ?_
  refine n_iconst 0 rfl ?_
  refine r_istore_n (lv' := [(3, .int (nI 0)), (2, .int (nI 0)), (0, .ref 53), (1, .int (nI q))]) rfl rfl (Nat.le_of_ble_eq_true rfl) rfl ?_
  refine r_lv (lv' := [(3, .int (nI 0)), (2, .int (nI 0)), (0, .ref 53), (1, .int (nI q))]) [0, 1, 2, 3] rfl ?_
  have loop : ∀ (m9 : Nat) (k : Nat) , d 0 0 - k < m9 → (k ≤ d 0 0) → Ws (true, l9) sc mX10_childrenOf 0 0 0 0 4 [(3, .int (nI k)), (2, .int (nI (sm (fun k => tb (d 1 k == q + 1)) k))), (0, .ref 53), (1, .int (nI q))] [] (mz σ [] []) (PI (nI (ch d q)) σ) := by
    intro m9
    induction m9 with
    | zero => intro k  hme; exact absurd hme (Nat.not_lt_zero _)
    | succ m9 ih =>
      intro k  hme hk
      have hP := vP hV k
      refine r_iload_n rfl rfl ?_
      refine r_aload_n rfl rfl ?_
      refine s_getR (r := 54) rfl flX10_7 rfl rfl ?_
      refine n_iconst 0 rfl ?_
      refine s_iald (x := nI (d 0 0)) rfl rfl (by decide) (MRat hM 0 0 (by decide) (by decide)) ?_
      refine n_icmp_ge (tgt := 38) rfl rfl (by omega) (by omega) (fun h1 => ?_) (fun h1 => ?_)
      · refine r_iload_n rfl rfl ?_
        exact s_ret (st := []) rfl rfl rfl (Nat.zero_le _) (Nat.zero_le _) (pI (by rw [show k = d 0 0 by omega]; rfl) rfl)
      · refine r_iload_n rfl rfl ?_
        refine r_aload_n rfl rfl ?_
        refine r_iload_n rfl rfl ?_
        refine n_iconst 0 rfl ?_
        refine s_virI [.int (nI k), .int (nI 0)] [.int (nI (sm (fun k => tb (d 1 k == q + 1)) k))] rfl lkX10_245 rfl rfl rfl (c_of (x := oI (d 1 k)) (by omega) (by omega) (M0 hM (by omega))) rfl rfl (Nat.le_refl _) (Nat.le_refl _) rfl (rI (e1 := oI (d 1 k)) rfl ?_)
        refine r_iload_n rfl rfl ?_
        suffices K : Ws (true, l9) sc mX10_childrenOf 0 0 0 0 30 [(3, .int (nI k)), (2, .int (nI (sm (fun k => tb (d 1 k == q + 1)) k))), (0, .ref 53), (1, .int (nI q))] [.int (nI (tb (d 1 k == q + 1))), .int (nI (sm (fun k => tb (d 1 k == q + 1)) k))] (mz σ [] []) (PI (nI (ch d q)) σ) by
          refine r_icmp_ne (tgt := 29) rfl rfl (fun h2 => ?_) (fun h2 => ?_)
          · refine n_iconst 0 rfl ?_
            exact r_top (by rw [beq_false_of_ne (fun z => h2 (by rw [z, oI_s]))]; rfl) K
          · refine n_iconst 1 rfl ?_
            refine r_goto (tgt := 30) rfl rfl ?_
            exact r_top (by rw [(oI_q (q := q) (by omega) (by omega)).mp h2.symm, beq_self_eq_true]; rfl) K
        refine n_iadd rfl ?_
        refine r_istore_n (lv' := [(2, .int (nI ((sm (fun k => tb (d 1 k == q + 1)) k) + (tb (d 1 k == q + 1))))), (3, .int (nI k)), (0, .ref 53), (1, .int (nI q))]) rfl rfl (Nat.le_of_ble_eq_true rfl) rfl ?_
        refine n_iinc (lv' := [(3, .int (nI (k + 1))), (2, .int (nI ((sm (fun k => tb (d 1 k == q + 1)) k) + (tb (d 1 k == q + 1))))), (0, .ref 53), (1, .int (nI q))]) 1 rfl rfl (Nat.le_of_ble_eq_true rfl) rfl ?_
        refine r_goto (tgt := 4) rfl rfl ?_
        refine r_lv (lv' := [(3, .int (nI (k + 1))), (2, .int (nI ((sm (fun k => tb (d 1 k == q + 1)) k) + (tb (d 1 k == q + 1))))), (0, .ref 53), (1, .int (nI q))]) [0, 1, 2, 3] rfl ?_
        exact ih (k + 1) (by omega) (by omega)
  exact loop (d 0 0 + 1) 0 (by omega) (by omega)

theorem c_heirMany {l9 : Bool} {sc : SC} {σ : SS} {d : D} (hM : MR (σ.1 54) d) (hV : Vd d) (hH : ∀ p, p < d 0 0 → σ.1 66 p = nI (tb (he d p))) : Cs (true, l9) sc mX10_heirMany 0 0 [.ref 53] σ (PI (nI (hm d)) σ) := by
  refine Cs.of gmX10_heirMany (Nat.le_of_ble_eq_true rfl) ?_
  show Ws (true, l9) sc mX10_heirMany 0 0 0 0 0 [(0, .ref 53)] [] (mz σ [] []) (PI (nI (hm d)) σ)
  have hC := vC hV
  refine n_iconst 0 rfl ?_
  refine r_istore_n (lv' := [(1, .int (nI 0)), (0, .ref 53)]) rfl rfl (Nat.le_of_ble_eq_true rfl) rfl ?_
  refine n_iconst 0 rfl ?_
  refine r_istore_n (lv' := [(2, .int (nI 0)), (1, .int (nI 0)), (0, .ref 53)]) rfl rfl (Nat.le_of_ble_eq_true rfl) rfl ?_
  refine r_lv (lv' := [(2, .int (nI 0)), (1, .int (nI 0)), (0, .ref 53)]) [0, 1, 2] rfl ?_
  have loop : ∀ (m9 : Nat) (k : Nat) , d 0 0 - k < m9 → (k ≤ d 0 0) → Ws (true, l9) sc mX10_heirMany 0 0 0 0 4 [(2, .int (nI k)), (1, .int (nI (sm (fun p => tb (he d p)) k))), (0, .ref 53)] [] (mz σ [] []) (PI (nI (hm d)) σ) := by
    intro m9
    induction m9 with
    | zero => intro k  hme; exact absurd hme (Nat.not_lt_zero _)
    | succ m9 ih =>
      intro k  hme hk
      have ht := tb_le (he d k)
      refine r_iload_n rfl rfl ?_
      refine r_aload_n rfl rfl ?_
      refine s_getR (r := 54) rfl flX10_7 rfl rfl ?_
      refine n_iconst 0 rfl ?_
      refine s_iald (x := nI (d 0 0)) rfl rfl (by decide) (MRat hM 0 0 (by decide) (by decide)) ?_
      refine n_icmp_ge (tgt := 37) rfl rfl (by omega) (by omega) (fun h1 => ?_) (fun h1 => ?_)
      · refine r_iload_n rfl rfl ?_
        exact s_ret (st := []) rfl rfl rfl (Nat.zero_le _) (Nat.zero_le _) (pI (by rw [show k = d 0 0 by omega]; rfl) rfl)
      · refine r_iload_n rfl rfl ?_
        refine r_aload_n rfl rfl ?_
        refine s_getR (r := 66) rfl flX10_53 rfl rfl ?_
        refine r_iload_n rfl rfl ?_
        refine s_zald (x := nI (tb (he d k))) rfl rfl (by omega) (hH _ (by omega)) ?_
        suffices K : Ws (true, l9) sc mX10_heirMany 0 0 0 0 29 [(2, .int (nI k)), (1, .int (nI (sm (fun p => tb (he d p)) k))), (0, .ref 53)] [.int (nI (tb (he d k))), .int (nI (sm (fun p => tb (he d p)) k))] (mz σ [] []) (PI (nI (hm d)) σ) by
          refine n_if_eq (tgt := 28) rfl rfl (by omega) (fun h2 => ?_) (fun h2 => ?_)
          · refine n_iconst 0 rfl ?_
            exact r_top (by rw [h2]) K
          · refine n_iconst 1 rfl ?_
            refine r_goto (tgt := 29) rfl rfl ?_
            exact r_top (by rw [tb_ne h2]; rfl) K
        refine n_iadd rfl ?_
        refine r_istore_n (lv' := [(1, .int (nI ((sm (fun p => tb (he d p)) k) + (tb (he d k))))), (2, .int (nI k)), (0, .ref 53)]) rfl rfl (Nat.le_of_ble_eq_true rfl) rfl ?_
        refine n_iinc (lv' := [(2, .int (nI (k + 1))), (1, .int (nI ((sm (fun p => tb (he d p)) k) + (tb (he d k))))), (0, .ref 53)]) 1 rfl rfl (Nat.le_of_ble_eq_true rfl) rfl ?_
        refine r_goto (tgt := 4) rfl rfl ?_
        refine r_lv (lv' := [(2, .int (nI (k + 1))), (1, .int (nI ((sm (fun p => tb (he d p)) k) + (tb (he d k))))), (0, .ref 53)]) [0, 1, 2] rfl ?_
        exact ih (k + 1) (by omega) (by omega)
  exact loop (d 0 0 + 1) 0 (by omega) (by omega)

theorem c_linesUnder {l9 : Bool} {sc : SC} {σ : SS} {d : D} {q : Nat} {b : Nat → Bool} (hM : MR (σ.1 54) d) (hV : Vd d) (hq : q ≤ 12) (hL : ∀ k, k < d 0 0 → σ.1 65 k = nI (tb (b k))) (hb : ∀ k, d 0 5 = k + 1 → b k = false) : Cs (true, l9) sc mX10_linesUnder 0 0 [.ref 53, .int (oI q)] σ (PI (nI (lu d b q)) σ) := by
  refine Cs.of gmX10_linesUnder (Nat.le_of_ble_eq_true rfl) ?_
  show Ws (true, l9) sc mX10_linesUnder 0 0 0 0 0 [(0, .ref 53), (1, .int (oI q))] [] (mz σ [] []) (PI (nI (lu d b q)) σ)
  have hC := vC hV
  refine n_iconst 0 rfl ?_
  refine r_istore_n (lv' := [(2, .int (nI 0)), (0, .ref 53), (1, .int (oI q))]) rfl rfl (Nat.le_of_ble_eq_true rfl) rfl ?_
  refine n_iconst 0 rfl ?_
  refine r_istore_n (lv' := [(3, .int (nI 0)), (2, .int (nI 0)), (0, .ref 53), (1, .int (oI q))]) rfl rfl (Nat.le_of_ble_eq_true rfl) rfl ?_
  refine r_lv (lv' := [(3, .int (nI 0)), (2, .int (nI 0)), (0, .ref 53), (1, .int (oI q))]) [0, 1, 2, 3] rfl ?_
  have loop : ∀ (m9 : Nat) (k : Nat) , d 0 0 - k < m9 → (k ≤ d 0 0) → Ws (true, l9) sc mX10_linesUnder 0 0 0 0 4 [(3, .int (nI k)), (2, .int (nI (sm (fun k => tb (b k && d 1 k == q)) k))), (0, .ref 53), (1, .int (oI q))] [] (mz σ [] []) (PI (nI (lu d b q)) σ) := by
    intro m9
    induction m9 with
    | zero => intro k  hme; exact absurd hme (Nat.not_lt_zero _)
    | succ m9 ih =>
      intro k  hme hk
      have ht := tb_le (b k)
      have hP := vP hV k
      refine r_iload_n rfl rfl ?_
      refine r_aload_n rfl rfl ?_
      refine s_getR (r := 54) rfl flX10_7 rfl rfl ?_
      refine n_iconst 0 rfl ?_
      refine s_iald (x := nI (d 0 0)) rfl rfl (by decide) (MRat hM 0 0 (by decide) (by decide)) ?_
      refine n_icmp_ge (tgt := 57) rfl rfl (by omega) (by omega) (fun h1 => ?_) (fun h1 => ?_)
      · refine r_iload_n rfl rfl ?_
        exact s_ret (st := []) rfl rfl rfl (Nat.zero_le _) (Nat.zero_le _) (pI (by rw [show k = d 0 0 by omega]; rfl) rfl)
      · refine r_iload_n rfl rfl ?_
        refine r_iload_n rfl rfl ?_
        refine r_aload_n rfl rfl ?_
        refine s_getR (r := 54) rfl flX10_7 rfl rfl ?_
        refine n_iconst 5 rfl ?_
        refine s_iald (x := oI (d 0 5)) rfl rfl (by decide) (MRat hM 0 5 (by decide) (by decide)) ?_
        suffices K : Ws (true, l9) sc mX10_linesUnder 0 0 0 0 49 [(3, .int (nI k)), (2, .int (nI (sm (fun k => tb (b k && d 1 k == q)) k))), (0, .ref 53), (1, .int (oI q))] [.int (nI (tb (b k && d 1 k == q))), .int (nI (sm (fun k => tb (b k && d 1 k == q)) k))] (mz σ [] []) (PI (nI (lu d b q)) σ) by
          refine r_icmp_eq (tgt := 48) rfl rfl (fun h2 => ?_) (fun h2 => ?_)
          · refine n_iconst 0 rfl ?_
            exact r_top (by rw [hb k ((oI_q (by omega) (by omega)).mp h2)]; rfl) K
          · refine r_aload_n rfl rfl ?_
            refine r_iload_n rfl rfl ?_
            refine n_iconst 0 rfl ?_
            refine s_virI [.int (nI k), .int (nI 0)] [.int (nI (sm (fun k => tb (b k && d 1 k == q)) k))] rfl lkX10_245 rfl rfl rfl (c_of (x := oI (d 1 k)) (by omega) (by omega) (M0 hM (by omega))) rfl rfl (Nat.le_refl _) (Nat.le_refl _) rfl (rI (e1 := oI (d 1 k)) rfl ?_)
            refine r_iload_n rfl rfl ?_
            refine r_icmp_ne (tgt := 48) rfl rfl (fun h3 => ?_) (fun h3 => ?_)
            · refine n_iconst 0 rfl ?_
              exact r_top (by rw [beq_false_of_ne (fun z => h3 (by rw [z])), Bool.and_false]; rfl) K
            · refine r_aload_n rfl rfl ?_
              refine s_getR (r := 65) rfl flX10_50 rfl rfl ?_
              refine r_iload_n rfl rfl ?_
              refine s_zald (x := nI (tb (b k))) rfl rfl (by omega) (hL _ (by omega)) ?_
              refine n_if_eq (tgt := 48) rfl rfl (by omega) (fun h4 => ?_) (fun h4 => ?_)
              · refine n_iconst 0 rfl ?_
                exact r_top (by rw [tb_z h4]; rfl) K
              · refine n_iconst 1 rfl ?_
                refine r_goto (tgt := 49) rfl rfl ?_
                exact r_top (by rw [tb_ne h4, (oI_eq (by omega) (by omega)).mp h3, beq_self_eq_true]; rfl) K
        refine n_iadd rfl ?_
        refine r_istore_n (lv' := [(2, .int (nI ((sm (fun k => tb (b k && d 1 k == q)) k) + (tb (b k && d 1 k == q))))), (3, .int (nI k)), (0, .ref 53), (1, .int (oI q))]) rfl rfl (Nat.le_of_ble_eq_true rfl) rfl ?_
        refine n_iinc (lv' := [(3, .int (nI (k + 1))), (2, .int (nI ((sm (fun k => tb (b k && d 1 k == q)) k) + (tb (b k && d 1 k == q))))), (0, .ref 53), (1, .int (oI q))]) 1 rfl rfl (Nat.le_of_ble_eq_true rfl) rfl ?_
        refine r_goto (tgt := 4) rfl rfl ?_
        refine r_lv (lv' := [(3, .int (nI (k + 1))), (2, .int (nI ((sm (fun k => tb (b k && d 1 k == q)) k) + (tb (b k && d 1 k == q))))), (0, .ref 53), (1, .int (oI q))]) [0, 1, 2, 3] rfl ?_
        exact ih (k + 1) (by omega) (by omega)
  exact loop (d 0 0 + 1) 0 (by omega) (by omega)

theorem c_common {l9 : Bool} {sc : SC} {σ : SS} {a b : Nat} (ha : a < 65536) (hb : b < 65536) : Cs (true, l9) sc mX10_common 0 0 [.long (lN a), .long (lN b)] σ (PL (lN (Nat.gcd a b)) σ) := by
  refine Cs.of gmX10_common (Nat.le_of_ble_eq_true rfl) ?_
  show Ws (true, l9) sc mX10_common 0 0 0 0 0 [(0, .long (lN a)), (2, .long (lN b))] [] (mz σ [] []) (PL (lN (Nat.gcd a b)) σ)
  refine r_lload_n rfl rfl ?_
  refine r_lstore (lv' := [(4, .long (lN a)), (0, .long (lN a)), (2, .long (lN b))]) rfl (Nat.le_of_ble_eq_true rfl) rfl ?_
  refine r_lload_n rfl rfl ?_
  refine r_lstore (lv' := [(6, .long (lN b)), (4, .long (lN a)), (0, .long (lN a)), (2, .long (lN b))]) rfl (Nat.le_of_ble_eq_true rfl) rfl ?_
  refine r_lv (lv' := [(4, .long (lN a)), (6, .long (lN b))]) [1, 0] rfl ?_
  have loop : ∀ (m9 : Nat) (x : Nat) (y : Nat), y < m9 → (x < 65536) → (y < 65536) → (Nat.gcd x y = Nat.gcd a b) → Ws (true, l9) sc mX10_common 0 0 0 0 6 [(4, .long (lN x)), (6, .long (lN y))] [] (mz σ [] []) (PL (lN (Nat.gcd a b)) σ) := by
    intro m9
    induction m9 with
    | zero => intro x y hme; exact absurd hme (Nat.not_lt_zero _)
    | succ m9 ih =>
      intro x y hme hx hy hg
      refine r_lload rfl rfl ?_
      refine n_lconst0 rfl ?_
      refine n_lcmp_eq (tgt := 31) rfl rfl rfl (by omega) (by omega) (fun h1 => ?_) (fun h1 => ?_)
      · refine r_lload rfl rfl ?_
        exact s_lret (st := []) rfl rfl (Nat.zero_le _) (Nat.zero_le _) (pL (by rw [← hg, h1, Nat.gcd_zero_right]) rfl)
      · have hml := Nat.mod_lt x (Nat.pos_of_ne_zero h1)
        refine r_lload rfl rfl ?_
        refine r_lload rfl rfl ?_
        refine n_lrem rfl (by omega) (by omega) (by omega) ?_
        refine r_lstore (lv' := [(8, .long (lN (x % y))), (4, .long (lN x)), (6, .long (lN y))]) rfl (Nat.le_of_ble_eq_true rfl) rfl ?_
        refine r_lload rfl rfl ?_
        refine r_lstore (lv' := [(4, .long (lN y)), (8, .long (lN (x % y))), (6, .long (lN y))]) rfl (Nat.le_of_ble_eq_true rfl) rfl ?_
        refine r_lload rfl rfl ?_
        refine r_lstore (lv' := [(6, .long (lN (x % y))), (4, .long (lN y)), (8, .long (lN (x % y)))]) rfl (Nat.le_of_ble_eq_true rfl) rfl ?_
        refine r_goto (tgt := 6) rfl rfl ?_
        refine r_lv (lv' := [(4, .long (lN y)), (6, .long (lN (x % y)))]) [1, 0] rfl ?_
        exact ih y (x % y) (by omega) hy (by omega) (by rw [← hg, Nat.gcd_comm y, ← Nat.gcd_rec, Nat.gcd_comm])
  exact loop (b + 1) a b (by omega) ha hb rfl

theorem c_factorOf {l9 : Bool} {sc : SC} {σ : SS} {a : Nat} (ha : a ≤ 120) : Cs (true, l9) sc mX10_factorOf 0 0 [.int (nI a)] σ (PI (nI (fa a)) σ) := by
  refine Cs.of gmX10_factorOf (Nat.le_of_ble_eq_true rfl) ?_
  show Ws (true, l9) sc mX10_factorOf 0 0 0 0 0 [(0, .int (nI a))] [] (mz σ [] []) (PI (nI (fa a)) σ)
  refine n_bipush 100 rfl (by decide) ?_
  refine r_iload_n rfl rfl ?_
  refine n_bipush 10 rfl (by decide) ?_
  refine n_idiv rfl (by omega) (by omega) (by omega) ?_
  refine n_bipush 10 rfl (by decide) ?_
  refine n_imul rfl ?_
  refine r_isub rfl ?_
  refine r_istore_n (lv' := [(1, .int ((nI 100) - (nI ((a / 10) * 10)))), (0, .int (nI a))]) rfl rfl (Nat.le_of_ble_eq_true rfl) rfl ?_
  refine r_iload_n rfl rfl ?_
  refine n_bipush 90 rfl (by decide) ?_
  suffices K : Ws (true, l9) sc mX10_factorOf 0 0 0 0 34 [(1, .int ((nI 100) - (nI ((a / 10) * 10)))), (0, .int (nI a))] [.int (nI (fa a))] (mz σ [] []) (PI (nI (fa a)) σ) by
    refine r_icmp_le (tgt := 22) rfl rfl (fun h1 => ?_) (fun h1 => ?_)
    · refine r_iload_n rfl rfl ?_
      refine n_bipush 10 rfl (by decide) ?_
      refine r_icmp_ge (tgt := 33) rfl rfl (fun h2 => ?_) (fun h2 => ?_)
      · refine r_iload_n rfl rfl ?_
        exact r_top (fb3 ha h1 h2) K
      · refine n_bipush 10 rfl (by decide) ?_
        refine r_goto (tgt := 34) rfl rfl ?_
        exact r_top (fb2 ha h2) K
    · refine n_bipush 90 rfl (by decide) ?_
      refine r_goto (tgt := 34) rfl rfl ?_
      exact r_top (fb1 ha h1) K
  exact s_ret (st := []) rfl rfl rfl (Nat.zero_le _) (Nat.zero_le _) (pI rfl rfl)

theorem c_splits_8 {l9 : Bool} {sc : SC} {σ : SS} {t : Nat} {w : Nat → Nat} (ht : t < 2147483648) (hN : ∀ i, i < 8 → σ.2 59 i = lN (w i)) (hw : sm w 8 < 2147483648) : Cs (true, l9) sc mX10_splits 0 0 [.ref 53, .long (lN t), .int (nI 8)] σ (RV fun σ' => ∃ f g, σ' = mz σ [(60, f), (61, g)] [] ∧ (∀ i, i < 8 → f i = nI (sp t (sm w 8) w 8 i)) ∧ ∀ i, i < 8 → g i = nI (tb (ce t (sm w 8) w 8 i))) := by
  refine Cs.of gmX10_splits (Nat.le_of_ble_eq_true rfl) ?_
  show Ws (true, l9) sc mX10_splits 0 0 0 0 0 [(0, .ref 53), (1, .long (lN t)), (3, .int (nI 8))] [] (mz σ [] []) (RV fun σ' => ∃ f g, σ' = mz σ [(60, f), (61, g)] [] ∧ (∀ i, i < 8 → f i = nI (sp t (sm w 8) w 8 i)) ∧ ∀ i, i < 8 → g i = nI (tb (ce t (sm w 8) w 8 i)))
  have hB := bs_le t w 8
  have hT : (if sm w 8 = 0 then 0 else t) ≤ t := by split <;> omega
  have hwi : ∀ i, i < 8 → w i < 2147483648 := fun i hi => Nat.lt_of_le_of_lt (sm_pos hi) hw
  refine n_lconst0 rfl ?_
  refine r_lstore (lv' := [(4, .long (lN 0)), (0, .ref 53), (1, .long (lN t)), (3, .int (nI 8))]) rfl (Nat.le_of_ble_eq_true rfl) rfl ?_
  refine n_iconst 0 rfl ?_
  refine r_istore (lv' := [(6, .int (nI 0)), (4, .long (lN 0)), (0, .ref 53), (1, .long (lN t)), (3, .int (nI 8))]) rfl (Nat.le_of_ble_eq_true rfl) rfl ?_
  refine r_lv (lv' := [(6, .int (nI 0)), (4, .long (lN 0)), (0, .ref 53), (1, .long (lN t)), (3, .int (nI 8))]) [0, 1, 2, 3, 4] rfl ?_
  have loop : ∀ (m9 : Nat) (i : Nat) , 8 - i < m9 → (i ≤ 8) → Ws (true, l9) sc mX10_splits 0 0 0 0 6 [(6, .int (nI i)), (4, .long (lN (sm w i))), (0, .ref 53), (1, .long (lN t)), (3, .int (nI 8))] [] (mz σ [] []) (RV fun σ' => ∃ f g, σ' = mz σ [(60, f), (61, g)] [] ∧ (∀ i, i < 8 → f i = nI (sp t (sm w 8) w 8 i)) ∧ ∀ i, i < 8 → g i = nI (tb (ce t (sm w 8) w 8 i))) := by
    intro m9
    induction m9 with
    | zero => intro i  hme; exact absurd hme (Nat.not_lt_zero _)
    | succ m9 ih =>
      intro i  hme hi
      refine r_iload rfl rfl ?_
      refine r_iload_n rfl rfl ?_
      refine n_icmp_ge (tgt := 30) rfl rfl (by omega) (by omega) (fun h1 => ?_) (fun h1 => ?_)
      · have hie : i = 8 := by omega
        subst hie
        refine r_lload rfl rfl ?_
        refine n_lconst0 rfl ?_
        suffices K : Ws (true, l9) sc mX10_splits 0 0 0 0 42 [(6, .int (nI 8)), (4, .long (lN (sm w 8))), (0, .ref 53), (1, .long (lN t)), (3, .int (nI 8))] [.long (lN ((if sm w 8 = 0 then 0 else t)))] (mz σ [] []) (RV fun σ' => ∃ f g, σ' = mz σ [(60, f), (61, g)] [] ∧ (∀ i, i < 8 → f i = nI (sp t (sm w 8) w 8 i)) ∧ ∀ i, i < 8 → g i = nI (tb (ce t (sm w 8) w 8 i))) by
          refine n_lcmp_ne (tgt := 41) rfl rfl rfl (by omega) (by omega) (fun h2 => ?_) (fun h2 => ?_)
          · refine r_lload_n rfl rfl ?_
            rw [if_neg h2] at K
            exact K
          · refine n_lconst0 rfl ?_
            refine r_goto (tgt := 42) rfl rfl ?_
            rw [if_pos h2] at K
            exact K
        refine r_lstore (lv' := [(6, .long (lN ((if sm w 8 = 0 then 0 else t)))), (4, .long (lN (sm w 8))), (0, .ref 53), (1, .long (lN t)), (3, .int (nI 8))]) rfl (Nat.le_of_ble_eq_true rfl) rfl ?_
        refine n_iconst 0 rfl ?_
        refine r_istore (lv' := [(8, .int (nI 0)), (6, .long (lN ((if sm w 8 = 0 then 0 else t)))), (4, .long (lN (sm w 8))), (0, .ref 53), (1, .long (lN t)), (3, .int (nI 8))]) rfl (Nat.le_of_ble_eq_true rfl) rfl ?_
        refine r_lv (lv' := [(8, .int (nI 0)), (6, .long (lN ((if sm w 8 = 0 then 0 else t)))), (0, .ref 53), (1, .long (lN t)), (3, .int (nI 8)), (4, .long (lN (sm w 8)))]) [0, 1, 3, 4, 5, 2] rfl ?_
        refine m_newI (L' := [(60, (σ.1 60))]) 60 rfl ?_
        have loop2 : ∀ (m9_2 : Nat) (k : Nat) (f : Nat → Int32), 8 - k < m9_2 → (k ≤ 8) → (∀ j, j < k → f j = nI (bs t (sm w 8) w j)) → Ws (true, l9) sc mX10_splits 0 0 0 0 47 [(8, .int (nI k)), (6, .long (lN ((if sm w 8 = 0 then 0 else t) - sm (bs t (sm w 8) w) k))), (0, .ref 53), (1, .long (lN t)), (3, .int (nI 8)), (4, .long (lN (sm w 8)))] [] (mz σ [(60, f)] []) (RV fun σ' => ∃ f g, σ' = mz σ [(60, f), (61, g)] [] ∧ (∀ i, i < 8 → f i = nI (sp t (sm w 8) w 8 i)) ∧ ∀ i, i < 8 → g i = nI (tb (ce t (sm w 8) w 8 i))) := by
          intro m9_2
          induction m9_2 with
          | zero => intro k f hme; exact absurd hme (Nat.not_lt_zero _)
          | succ m9_2 ih2 =>
            intro k f hme hk hf
            refine r_iload rfl rfl ?_
            refine r_iload_n rfl rfl ?_
            refine n_icmp_ge (tgt := 103) rfl rfl (by omega) (by omega) (fun h2 => ?_) (fun h2 => ?_)
            · have hke : k = 8 := by omega
              subst hke
              refine n_iconst 0 rfl ?_
              refine r_istore (lv' := [(8, .int (nI 0)), (6, .long (lN ((if sm w 8 = 0 then 0 else t) - sm (bs t (sm w 8) w) 8))), (0, .ref 53), (1, .long (lN t)), (3, .int (nI 8)), (4, .long (lN (sm w 8)))]) rfl (Nat.le_of_ble_eq_true rfl) rfl ?_
              refine r_lv (lv' := [(8, .int (nI 0)), (6, .long (lN ((if sm w 8 = 0 then 0 else t) - sm (bs t (sm w 8) w) 8))), (0, .ref 53), (1, .long (lN t)), (3, .int (nI 8)), (4, .long (lN (sm w 8)))]) [0, 1, 2, 3, 4, 5] rfl ?_
              refine m_newI (L' := [(60, f), (61, (σ.1 61))]) 61 rfl ?_
              have loop3 : ∀ (m9_3 : Nat) (q : Nat) (e g : Nat → Int32), 8 - q < m9_3 → (q ≤ 8) → (∀ j, j < 8 → e j = nI (if j < q then sp t (sm w 8) w 8 j else bs t (sm w 8) w j)) → (∀ j, j < q → g j = nI (tb (ce t (sm w 8) w 8 j))) → Ws (true, l9) sc mX10_splits 0 0 0 0 106 [(8, .int (nI q)), (6, .long (lN (rm t (sm w 8) w 8 q))), (0, .ref 53), (1, .long (lN t)), (3, .int (nI 8)), (4, .long (lN (sm w 8)))] [] (mz σ [(60, e), (61, g)] []) (RV fun σ' => ∃ f g, σ' = mz σ [(60, f), (61, g)] [] ∧ (∀ i, i < 8 → f i = nI (sp t (sm w 8) w 8 i)) ∧ ∀ i, i < 8 → g i = nI (tb (ce t (sm w 8) w 8 i))) := by
                intro m9_3
                induction m9_3 with
                | zero => intro q e g hme; exact absurd hme (Nat.not_lt_zero _)
                | succ m9_3 ih3 =>
                  intro q e g hme hq he hg
                  have hR := rm_le t (sm w 8) w 8 q
                  refine r_iload rfl rfl ?_
                  refine r_iload_n rfl rfl ?_
                  refine n_icmp_ge (tgt := 176) rfl rfl (by omega) (by omega) (fun h3 => ?_) (fun h3 => ?_)
                  · exact s_vret (st := []) rfl rfl (Nat.zero_le _) (Nat.zero_le _) (⟨rfl, e, g, rfl, fun j hj => by rw [he j hj, if_pos (by omega)], fun j hj => hg j (by omega)⟩)
                  · have hw2 := hwi q (by omega)
                    refine r_aload_n rfl rfl ?_
                    refine s_getR (r := 61) rfl flX10_37 rfl rfl ?_
                    refine r_iload rfl rfl ?_
                    refine r_lload rfl rfl ?_
                    refine n_lconst0 rfl ?_
                    suffices K : Ws (true, l9) sc mX10_splits 0 0 0 0 142 [(8, .int (nI q)), (6, .long (lN (rm t (sm w 8) w 8 q))), (0, .ref 53), (1, .long (lN t)), (3, .int (nI 8)), (4, .long (lN (sm w 8)))] [.int (nI (tb (ce t (sm w 8) w 8 q))), .int (nI q), .ref 61] (mz σ [(60, e), (61, g)] []) (RV fun σ' => ∃ f g, σ' = mz σ [(60, f), (61, g)] [] ∧ (∀ i, i < 8 → f i = nI (sp t (sm w 8) w 8 i)) ∧ ∀ i, i < 8 → g i = nI (tb (ce t (sm w 8) w 8 i))) by
                      refine n_lcmp_le (tgt := 141) rfl rfl rfl (by omega) (by omega) (fun h4 => ?_) (fun h4 => ?_)
                      · refine n_iconst 0 rfl ?_
                        exact r_top (by show nI 0 = nI (tb (decide (0 < rm t (sm w 8) w 8 q ∧ 0 < w q))); rw [decide_eq_false (by omega)]; rfl) K
                      · refine r_aload_n rfl rfl ?_
                        refine s_getR (r := 59) rfl flX10_31 rfl rfl ?_
                        refine r_iload rfl rfl ?_
                        refine s_lald (x := lN (w q)) rfl rfl (by omega) (hN _ (by omega)) ?_
                        refine n_lconst0 rfl ?_
                        refine n_lcmp_le (tgt := 141) rfl rfl rfl (by omega) (by omega) (fun h5 => ?_) (fun h5 => ?_)
                        · refine n_iconst 0 rfl ?_
                          exact r_top (by show nI 0 = nI (tb (decide (0 < rm t (sm w 8) w 8 q ∧ 0 < w q))); rw [decide_eq_false (by omega)]; rfl) K
                        · refine n_iconst 1 rfl ?_
                          refine r_goto (tgt := 142) rfl rfl ?_
                          exact r_top (by show nI 1 = nI (tb (decide (0 < rm t (sm w 8) w 8 q ∧ 0 < w q))); rw [decide_eq_true ⟨h4, h5⟩]; rfl) K
                    have hcb := tb_le (ce t (sm w 8) w 8 q)
                    refine m_zastN (L' := [(60, e), (61, (aup g q (nI (tb (ce t (sm w 8) w 8 q)))))]) rfl rfl (by omega) (nar_b _) rfl ?_
                    refine r_aload_n rfl rfl ?_
                    refine s_getR (r := 61) rfl flX10_37 rfl rfl ?_
                    refine r_iload rfl rfl ?_
                    refine s_zald (x := nI (tb (ce t (sm w 8) w 8 q))) rfl rfl (by omega) (aup_s _ _ _) ?_
                    refine n_if_eq (tgt := 170) rfl rfl (by omega) (fun h6 => ?_) (fun h6 => ?_)
                    · have hz := of_decide_eq_false (tb_z h6)
                      refine n_iinc (lv' := [(8, .int (nI (q + 1))), (6, .long (lN (rm t (sm w 8) w 8 q))), (0, .ref 53), (1, .long (lN t)), (3, .int (nI 8)), (4, .long (lN (sm w 8)))]) 1 rfl rfl (Nat.le_of_ble_eq_true rfl) rfl ?_
                      refine r_goto (tgt := 106) rfl rfl ?_
                      have e1 : rm t (sm w 8) w 8 (q + 1) = rm t (sm w 8) w 8 q := if_neg hz
                      have e2 : sp t (sm w 8) w 8 q = bs t (sm w 8) w q := by show bs t (sm w 8) w q + tb (ce t (sm w 8) w 8 q) = _; rw [h6]; rfl
                      rw [← e1]
                      refine r_lv (lv' := [(8, .int (nI (q + 1))), (6, .long (lN (rm t (sm w 8) w 8 (q + 1)))), (0, .ref 53), (1, .long (lN t)), (3, .int (nI 8)), (4, .long (lN (sm w 8)))]) [0, 1, 2, 3, 4, 5] rfl ?_
                      exact ih3 (q + 1) e _ (by omega) (by omega) (fun j hj => by rw [he j hj, ifs_e e2 j]) (aup_lt hg rfl)
                    · have hz := of_decide_eq_true (tb_ne h6)
                      have e1 : rm t (sm w 8) w 8 (q + 1) = rm t (sm w 8) w 8 q - 1 := if_pos hz
                      have e2 : sp t (sm w 8) w 8 q = bs t (sm w 8) w q + 1 := by show bs t (sm w 8) w q + tb (ce t (sm w 8) w 8 q) = _; rw [tb_ne h6]; rfl
                      refine r_aload_n rfl rfl ?_
                      refine s_getR (r := 60) rfl flX10_34 rfl rfl ?_
                      refine r_iload rfl rfl ?_
                      refine r_dup2 rfl rfl rfl ?_
                      refine s_iald (x := nI (bs t (sm w 8) w q)) rfl rfl (by omega) ((he q (by omega)).trans (congrArg nI (if_neg (Nat.lt_irrefl _)))) ?_
                      refine n_iconst 1 rfl ?_
                      refine n_iadd rfl ?_
                      refine m_iast (L' := [(60, (aup e q (nI ((bs t (sm w 8) w q) + 1)))), (61, (aup g q (nI (tb (ce t (sm w 8) w 8 q)))))]) rfl rfl (by omega) rfl ?_
                      refine r_lload rfl rfl ?_
                      refine n_lconst1 rfl ?_
                      refine n_lsub rfl (by omega) ?_
                      refine r_lstore (lv' := [(6, .long (lN ((rm t (sm w 8) w 8 q) - 1))), (8, .int (nI q)), (0, .ref 53), (1, .long (lN t)), (3, .int (nI 8)), (4, .long (lN (sm w 8)))]) rfl (Nat.le_of_ble_eq_true rfl) rfl ?_
                      refine n_iinc (lv' := [(8, .int (nI (q + 1))), (6, .long (lN ((rm t (sm w 8) w 8 q) - 1))), (0, .ref 53), (1, .long (lN t)), (3, .int (nI 8)), (4, .long (lN (sm w 8)))]) 1 rfl rfl (Nat.le_of_ble_eq_true rfl) rfl ?_
                      refine r_goto (tgt := 106) rfl rfl ?_
                      rw [← e1]
                      refine r_lv (lv' := [(8, .int (nI (q + 1))), (6, .long (lN (rm t (sm w 8) w 8 (q + 1)))), (0, .ref 53), (1, .long (lN t)), (3, .int (nI 8)), (4, .long (lN (sm w 8)))]) [0, 1, 2, 3, 4, 5] rfl ?_
                      exact ih3 (q + 1) _ _ (by omega) (by omega) (aup_all he (by rw [ifs_s, e2]) (fun j _ z => by rw [ifs_n z])) (aup_lt hg rfl)
              exact loop3 9 0 f _ (by omega) (by omega) (fun j hj => by rw [if_neg (by omega)]; exact hf j hj) (fun j hj => absurd hj (Nat.not_lt_zero _))
            · have hwq := hwi k (by omega)
              have hBi : sm (bs t (sm w 8) w) (k + 1) = sm (bs t (sm w 8) w) k + bs t (sm w 8) w k := rfl
              have hBm := sm_mono (f := bs t (sm w 8) w) (show k + 1 ≤ 8 by omega)
              have hmul : t * w k < 9223372036854775808 := Nat.lt_of_lt_of_le (Nat.mul_lt_mul'' ht hwq) (by decide)
              refine r_aload_n rfl rfl ?_
              refine s_getR (r := 60) rfl flX10_34 rfl rfl ?_
              refine r_iload rfl rfl ?_
              refine r_lload rfl rfl ?_
              refine n_lconst0 rfl ?_
              suffices K : Ws (true, l9) sc mX10_splits 0 0 0 0 83 [(8, .int (nI k)), (6, .long (lN ((if sm w 8 = 0 then 0 else t) - sm (bs t (sm w 8) w) k))), (0, .ref 53), (1, .long (lN t)), (3, .int (nI 8)), (4, .long (lN (sm w 8)))] [.int (nI (bs t (sm w 8) w k)), .int (nI k), .ref 60] (mz σ [(60, f)] []) (RV fun σ' => ∃ f g, σ' = mz σ [(60, f), (61, g)] [] ∧ (∀ i, i < 8 → f i = nI (sp t (sm w 8) w 8 i)) ∧ ∀ i, i < 8 → g i = nI (tb (ce t (sm w 8) w 8 i))) by
                refine n_lcmp_ne (tgt := 70) rfl rfl rfl (by omega) (by omega) (fun h7 => ?_) (fun h7 => ?_)
                · refine r_lload_n rfl rfl ?_
                  refine r_aload_n rfl rfl ?_
                  refine s_getR (r := 59) rfl flX10_31 rfl rfl ?_
                  refine r_iload rfl rfl ?_
                  refine s_lald (x := lN (w k)) rfl rfl (by omega) (hN _ (by omega)) ?_
                  refine n_lmul rfl ?_
                  refine r_lload rfl rfl ?_
                  refine n_ldiv rfl (by omega) (by omega) (by omega) ?_
                  refine n_l2i rfl ?_
                  exact K 
                · refine n_iconst 0 rfl ?_
                  refine r_goto (tgt := 83) rfl rfl ?_
                  exact r_top (by show nI 0 = nI (t * w k / sm w 8); rw [h7, Nat.div_zero]) K
              refine m_iast (L' := [(60, (aup f k (nI (bs t (sm w 8) w k))))]) rfl rfl (by omega) rfl ?_
              refine r_lload rfl rfl ?_
              refine r_aload_n rfl rfl ?_
              refine s_getR (r := 60) rfl flX10_34 rfl rfl ?_
              refine r_iload rfl rfl ?_
              refine s_iald (x := nI (bs t (sm w 8) w k)) rfl rfl (by omega) (aup_s _ _ _) ?_
              refine n_i2l rfl (by omega) ?_
              refine n_lsub rfl (by omega) ?_
              refine r_lstore (lv' := [(6, .long (lN (((if sm w 8 = 0 then 0 else t) - sm (bs t (sm w 8) w) k) - (bs t (sm w 8) w k)))), (8, .int (nI k)), (0, .ref 53), (1, .long (lN t)), (3, .int (nI 8)), (4, .long (lN (sm w 8)))]) rfl (Nat.le_of_ble_eq_true rfl) rfl ?_
              refine n_iinc (lv' := [(8, .int (nI (k + 1))), (6, .long (lN (((if sm w 8 = 0 then 0 else t) - sm (bs t (sm w 8) w) k) - (bs t (sm w 8) w k)))), (0, .ref 53), (1, .long (lN t)), (3, .int (nI 8)), (4, .long (lN (sm w 8)))]) 1 rfl rfl (Nat.le_of_ble_eq_true rfl) rfl ?_
              refine r_goto (tgt := 47) rfl rfl ?_
              rw [show (if sm w 8 = 0 then 0 else t) - sm (bs t (sm w 8) w) k - bs t (sm w 8) w k = (if sm w 8 = 0 then 0 else t) - sm (bs t (sm w 8) w) (k + 1) by omega]
              refine r_lv (lv' := [(8, .int (nI (k + 1))), (6, .long (lN ((if sm w 8 = 0 then 0 else t) - sm (bs t (sm w 8) w) (k + 1)))), (0, .ref 53), (1, .long (lN t)), (3, .int (nI 8)), (4, .long (lN (sm w 8)))]) [0, 1, 2, 3, 4, 5] rfl ?_
              exact ih2 (k + 1) _ (by omega) (by omega) (aup_lt hf rfl)
        exact loop2 9 0 _ (by omega) (by omega) (fun j hj => absurd hj (Nat.not_lt_zero _))
      · refine r_lload rfl rfl ?_
        refine r_aload_n rfl rfl ?_
        refine s_getR (r := 59) rfl flX10_31 rfl rfl ?_
        refine r_iload rfl rfl ?_
        refine s_lald (x := lN (w i)) rfl rfl (by omega) (hN _ (by omega)) ?_
        refine n_ladd rfl ?_
        refine r_lstore (lv' := [(4, .long (lN ((sm w i) + (w i)))), (6, .int (nI i)), (0, .ref 53), (1, .long (lN t)), (3, .int (nI 8))]) rfl (Nat.le_of_ble_eq_true rfl) rfl ?_
        refine n_iinc (lv' := [(6, .int (nI (i + 1))), (4, .long (lN ((sm w i) + (w i)))), (0, .ref 53), (1, .long (lN t)), (3, .int (nI 8))]) 1 rfl rfl (Nat.le_of_ble_eq_true rfl) rfl ?_
        refine r_goto (tgt := 6) rfl rfl ?_
        refine r_lv (lv' := [(6, .int (nI (i + 1))), (4, .long (lN ((sm w i) + (w i)))), (0, .ref 53), (1, .long (lN t)), (3, .int (nI 8))]) [0, 1, 2, 3, 4] rfl ?_
        exact ih (i + 1) (by omega) (by omega)
  exact loop 9 0 (by omega) (by omega)

theorem c_splits_12 {l9 : Bool} {sc : SC} {σ : SS} {t : Nat} {w : Nat → Nat} (ht : t < 2147483648) (hN : ∀ i, i < 12 → σ.2 59 i = lN (w i)) (hw : sm w 12 < 2147483648) : Cs (true, l9) sc mX10_splits 0 0 [.ref 53, .long (lN t), .int (nI 12)] σ (RV fun σ' => ∃ f g, σ' = mz σ [(60, f), (61, g)] [] ∧ (∀ i, i < 12 → f i = nI (sp t (sm w 12) w 12 i)) ∧ ∀ i, i < 12 → g i = nI (tb (ce t (sm w 12) w 12 i))) := by
  refine Cs.of gmX10_splits (Nat.le_of_ble_eq_true rfl) ?_
  show Ws (true, l9) sc mX10_splits 0 0 0 0 0 [(0, .ref 53), (1, .long (lN t)), (3, .int (nI 12))] [] (mz σ [] []) (RV fun σ' => ∃ f g, σ' = mz σ [(60, f), (61, g)] [] ∧ (∀ i, i < 12 → f i = nI (sp t (sm w 12) w 12 i)) ∧ ∀ i, i < 12 → g i = nI (tb (ce t (sm w 12) w 12 i)))
  have hB := bs_le t w 12
  have hT : (if sm w 12 = 0 then 0 else t) ≤ t := by split <;> omega
  have hwi : ∀ i, i < 12 → w i < 2147483648 := fun i hi => Nat.lt_of_le_of_lt (sm_pos hi) hw
  refine n_lconst0 rfl ?_
  refine r_lstore (lv' := [(4, .long (lN 0)), (0, .ref 53), (1, .long (lN t)), (3, .int (nI 12))]) rfl (Nat.le_of_ble_eq_true rfl) rfl ?_
  refine n_iconst 0 rfl ?_
  refine r_istore (lv' := [(6, .int (nI 0)), (4, .long (lN 0)), (0, .ref 53), (1, .long (lN t)), (3, .int (nI 12))]) rfl (Nat.le_of_ble_eq_true rfl) rfl ?_
  refine r_lv (lv' := [(6, .int (nI 0)), (4, .long (lN 0)), (0, .ref 53), (1, .long (lN t)), (3, .int (nI 12))]) [0, 1, 2, 3, 4] rfl ?_
  have loop : ∀ (m9 : Nat) (i : Nat) , 12 - i < m9 → (i ≤ 12) → Ws (true, l9) sc mX10_splits 0 0 0 0 6 [(6, .int (nI i)), (4, .long (lN (sm w i))), (0, .ref 53), (1, .long (lN t)), (3, .int (nI 12))] [] (mz σ [] []) (RV fun σ' => ∃ f g, σ' = mz σ [(60, f), (61, g)] [] ∧ (∀ i, i < 12 → f i = nI (sp t (sm w 12) w 12 i)) ∧ ∀ i, i < 12 → g i = nI (tb (ce t (sm w 12) w 12 i))) := by
    intro m9
    induction m9 with
    | zero => intro i  hme; exact absurd hme (Nat.not_lt_zero _)
    | succ m9 ih =>
      intro i  hme hi
      refine r_iload rfl rfl ?_
      refine r_iload_n rfl rfl ?_
      refine n_icmp_ge (tgt := 30) rfl rfl (by omega) (by omega) (fun h1 => ?_) (fun h1 => ?_)
      · have hie : i = 12 := by omega
        subst hie
        refine r_lload rfl rfl ?_
        refine n_lconst0 rfl ?_
        suffices K : Ws (true, l9) sc mX10_splits 0 0 0 0 42 [(6, .int (nI 12)), (4, .long (lN (sm w 12))), (0, .ref 53), (1, .long (lN t)), (3, .int (nI 12))] [.long (lN ((if sm w 12 = 0 then 0 else t)))] (mz σ [] []) (RV fun σ' => ∃ f g, σ' = mz σ [(60, f), (61, g)] [] ∧ (∀ i, i < 12 → f i = nI (sp t (sm w 12) w 12 i)) ∧ ∀ i, i < 12 → g i = nI (tb (ce t (sm w 12) w 12 i))) by
          refine n_lcmp_ne (tgt := 41) rfl rfl rfl (by omega) (by omega) (fun h2 => ?_) (fun h2 => ?_)
          · refine r_lload_n rfl rfl ?_
            rw [if_neg h2] at K
            exact K
          · refine n_lconst0 rfl ?_
            refine r_goto (tgt := 42) rfl rfl ?_
            rw [if_pos h2] at K
            exact K
        refine r_lstore (lv' := [(6, .long (lN ((if sm w 12 = 0 then 0 else t)))), (4, .long (lN (sm w 12))), (0, .ref 53), (1, .long (lN t)), (3, .int (nI 12))]) rfl (Nat.le_of_ble_eq_true rfl) rfl ?_
        refine n_iconst 0 rfl ?_
        refine r_istore (lv' := [(8, .int (nI 0)), (6, .long (lN ((if sm w 12 = 0 then 0 else t)))), (4, .long (lN (sm w 12))), (0, .ref 53), (1, .long (lN t)), (3, .int (nI 12))]) rfl (Nat.le_of_ble_eq_true rfl) rfl ?_
        refine r_lv (lv' := [(8, .int (nI 0)), (6, .long (lN ((if sm w 12 = 0 then 0 else t)))), (0, .ref 53), (1, .long (lN t)), (3, .int (nI 12)), (4, .long (lN (sm w 12)))]) [0, 1, 3, 4, 5, 2] rfl ?_
        refine m_newI (L' := [(60, (σ.1 60))]) 60 rfl ?_
        have loop2 : ∀ (m9_2 : Nat) (k : Nat) (f : Nat → Int32), 12 - k < m9_2 → (k ≤ 12) → (∀ j, j < k → f j = nI (bs t (sm w 12) w j)) → Ws (true, l9) sc mX10_splits 0 0 0 0 47 [(8, .int (nI k)), (6, .long (lN ((if sm w 12 = 0 then 0 else t) - sm (bs t (sm w 12) w) k))), (0, .ref 53), (1, .long (lN t)), (3, .int (nI 12)), (4, .long (lN (sm w 12)))] [] (mz σ [(60, f)] []) (RV fun σ' => ∃ f g, σ' = mz σ [(60, f), (61, g)] [] ∧ (∀ i, i < 12 → f i = nI (sp t (sm w 12) w 12 i)) ∧ ∀ i, i < 12 → g i = nI (tb (ce t (sm w 12) w 12 i))) := by
          intro m9_2
          induction m9_2 with
          | zero => intro k f hme; exact absurd hme (Nat.not_lt_zero _)
          | succ m9_2 ih2 =>
            intro k f hme hk hf
            refine r_iload rfl rfl ?_
            refine r_iload_n rfl rfl ?_
            refine n_icmp_ge (tgt := 103) rfl rfl (by omega) (by omega) (fun h2 => ?_) (fun h2 => ?_)
            · have hke : k = 12 := by omega
              subst hke
              refine n_iconst 0 rfl ?_
              refine r_istore (lv' := [(8, .int (nI 0)), (6, .long (lN ((if sm w 12 = 0 then 0 else t) - sm (bs t (sm w 12) w) 12))), (0, .ref 53), (1, .long (lN t)), (3, .int (nI 12)), (4, .long (lN (sm w 12)))]) rfl (Nat.le_of_ble_eq_true rfl) rfl ?_
              refine r_lv (lv' := [(8, .int (nI 0)), (6, .long (lN ((if sm w 12 = 0 then 0 else t) - sm (bs t (sm w 12) w) 12))), (0, .ref 53), (1, .long (lN t)), (3, .int (nI 12)), (4, .long (lN (sm w 12)))]) [0, 1, 2, 3, 4, 5] rfl ?_
              refine m_newI (L' := [(60, f), (61, (σ.1 61))]) 61 rfl ?_
              have loop3 : ∀ (m9_3 : Nat) (q : Nat) (e g : Nat → Int32), 12 - q < m9_3 → (q ≤ 12) → (∀ j, j < 12 → e j = nI (if j < q then sp t (sm w 12) w 12 j else bs t (sm w 12) w j)) → (∀ j, j < q → g j = nI (tb (ce t (sm w 12) w 12 j))) → Ws (true, l9) sc mX10_splits 0 0 0 0 106 [(8, .int (nI q)), (6, .long (lN (rm t (sm w 12) w 12 q))), (0, .ref 53), (1, .long (lN t)), (3, .int (nI 12)), (4, .long (lN (sm w 12)))] [] (mz σ [(60, e), (61, g)] []) (RV fun σ' => ∃ f g, σ' = mz σ [(60, f), (61, g)] [] ∧ (∀ i, i < 12 → f i = nI (sp t (sm w 12) w 12 i)) ∧ ∀ i, i < 12 → g i = nI (tb (ce t (sm w 12) w 12 i))) := by
                intro m9_3
                induction m9_3 with
                | zero => intro q e g hme; exact absurd hme (Nat.not_lt_zero _)
                | succ m9_3 ih3 =>
                  intro q e g hme hq he hg
                  have hR := rm_le t (sm w 12) w 12 q
                  refine r_iload rfl rfl ?_
                  refine r_iload_n rfl rfl ?_
                  refine n_icmp_ge (tgt := 176) rfl rfl (by omega) (by omega) (fun h3 => ?_) (fun h3 => ?_)
                  · exact s_vret (st := []) rfl rfl (Nat.zero_le _) (Nat.zero_le _) (⟨rfl, e, g, rfl, fun j hj => by rw [he j hj, if_pos (by omega)], fun j hj => hg j (by omega)⟩)
                  · have hw2 := hwi q (by omega)
                    refine r_aload_n rfl rfl ?_
                    refine s_getR (r := 61) rfl flX10_37 rfl rfl ?_
                    refine r_iload rfl rfl ?_
                    refine r_lload rfl rfl ?_
                    refine n_lconst0 rfl ?_
                    suffices K : Ws (true, l9) sc mX10_splits 0 0 0 0 142 [(8, .int (nI q)), (6, .long (lN (rm t (sm w 12) w 12 q))), (0, .ref 53), (1, .long (lN t)), (3, .int (nI 12)), (4, .long (lN (sm w 12)))] [.int (nI (tb (ce t (sm w 12) w 12 q))), .int (nI q), .ref 61] (mz σ [(60, e), (61, g)] []) (RV fun σ' => ∃ f g, σ' = mz σ [(60, f), (61, g)] [] ∧ (∀ i, i < 12 → f i = nI (sp t (sm w 12) w 12 i)) ∧ ∀ i, i < 12 → g i = nI (tb (ce t (sm w 12) w 12 i))) by
                      refine n_lcmp_le (tgt := 141) rfl rfl rfl (by omega) (by omega) (fun h4 => ?_) (fun h4 => ?_)
                      · refine n_iconst 0 rfl ?_
                        exact r_top (by show nI 0 = nI (tb (decide (0 < rm t (sm w 12) w 12 q ∧ 0 < w q))); rw [decide_eq_false (by omega)]; rfl) K
                      · refine r_aload_n rfl rfl ?_
                        refine s_getR (r := 59) rfl flX10_31 rfl rfl ?_
                        refine r_iload rfl rfl ?_
                        refine s_lald (x := lN (w q)) rfl rfl (by omega) (hN _ (by omega)) ?_
                        refine n_lconst0 rfl ?_
                        refine n_lcmp_le (tgt := 141) rfl rfl rfl (by omega) (by omega) (fun h5 => ?_) (fun h5 => ?_)
                        · refine n_iconst 0 rfl ?_
                          exact r_top (by show nI 0 = nI (tb (decide (0 < rm t (sm w 12) w 12 q ∧ 0 < w q))); rw [decide_eq_false (by omega)]; rfl) K
                        · refine n_iconst 1 rfl ?_
                          refine r_goto (tgt := 142) rfl rfl ?_
                          exact r_top (by show nI 1 = nI (tb (decide (0 < rm t (sm w 12) w 12 q ∧ 0 < w q))); rw [decide_eq_true ⟨h4, h5⟩]; rfl) K
                    have hcb := tb_le (ce t (sm w 12) w 12 q)
                    refine m_zastN (L' := [(60, e), (61, (aup g q (nI (tb (ce t (sm w 12) w 12 q)))))]) rfl rfl (by omega) (nar_b _) rfl ?_
                    refine r_aload_n rfl rfl ?_
                    refine s_getR (r := 61) rfl flX10_37 rfl rfl ?_
                    refine r_iload rfl rfl ?_
                    refine s_zald (x := nI (tb (ce t (sm w 12) w 12 q))) rfl rfl (by omega) (aup_s _ _ _) ?_
                    refine n_if_eq (tgt := 170) rfl rfl (by omega) (fun h6 => ?_) (fun h6 => ?_)
                    · have hz := of_decide_eq_false (tb_z h6)
                      refine n_iinc (lv' := [(8, .int (nI (q + 1))), (6, .long (lN (rm t (sm w 12) w 12 q))), (0, .ref 53), (1, .long (lN t)), (3, .int (nI 12)), (4, .long (lN (sm w 12)))]) 1 rfl rfl (Nat.le_of_ble_eq_true rfl) rfl ?_
                      refine r_goto (tgt := 106) rfl rfl ?_
                      have e1 : rm t (sm w 12) w 12 (q + 1) = rm t (sm w 12) w 12 q := if_neg hz
                      have e2 : sp t (sm w 12) w 12 q = bs t (sm w 12) w q := by show bs t (sm w 12) w q + tb (ce t (sm w 12) w 12 q) = _; rw [h6]; rfl
                      rw [← e1]
                      refine r_lv (lv' := [(8, .int (nI (q + 1))), (6, .long (lN (rm t (sm w 12) w 12 (q + 1)))), (0, .ref 53), (1, .long (lN t)), (3, .int (nI 12)), (4, .long (lN (sm w 12)))]) [0, 1, 2, 3, 4, 5] rfl ?_
                      exact ih3 (q + 1) e _ (by omega) (by omega) (fun j hj => by rw [he j hj, ifs_e e2 j]) (aup_lt hg rfl)
                    · have hz := of_decide_eq_true (tb_ne h6)
                      have e1 : rm t (sm w 12) w 12 (q + 1) = rm t (sm w 12) w 12 q - 1 := if_pos hz
                      have e2 : sp t (sm w 12) w 12 q = bs t (sm w 12) w q + 1 := by show bs t (sm w 12) w q + tb (ce t (sm w 12) w 12 q) = _; rw [tb_ne h6]; rfl
                      refine r_aload_n rfl rfl ?_
                      refine s_getR (r := 60) rfl flX10_34 rfl rfl ?_
                      refine r_iload rfl rfl ?_
                      refine r_dup2 rfl rfl rfl ?_
                      refine s_iald (x := nI (bs t (sm w 12) w q)) rfl rfl (by omega) ((he q (by omega)).trans (congrArg nI (if_neg (Nat.lt_irrefl _)))) ?_
                      refine n_iconst 1 rfl ?_
                      refine n_iadd rfl ?_
                      refine m_iast (L' := [(60, (aup e q (nI ((bs t (sm w 12) w q) + 1)))), (61, (aup g q (nI (tb (ce t (sm w 12) w 12 q)))))]) rfl rfl (by omega) rfl ?_
                      refine r_lload rfl rfl ?_
                      refine n_lconst1 rfl ?_
                      refine n_lsub rfl (by omega) ?_
                      refine r_lstore (lv' := [(6, .long (lN ((rm t (sm w 12) w 12 q) - 1))), (8, .int (nI q)), (0, .ref 53), (1, .long (lN t)), (3, .int (nI 12)), (4, .long (lN (sm w 12)))]) rfl (Nat.le_of_ble_eq_true rfl) rfl ?_
                      refine n_iinc (lv' := [(8, .int (nI (q + 1))), (6, .long (lN ((rm t (sm w 12) w 12 q) - 1))), (0, .ref 53), (1, .long (lN t)), (3, .int (nI 12)), (4, .long (lN (sm w 12)))]) 1 rfl rfl (Nat.le_of_ble_eq_true rfl) rfl ?_
                      refine r_goto (tgt := 106) rfl rfl ?_
                      rw [← e1]
                      refine r_lv (lv' := [(8, .int (nI (q + 1))), (6, .long (lN (rm t (sm w 12) w 12 (q + 1)))), (0, .ref 53), (1, .long (lN t)), (3, .int (nI 12)), (4, .long (lN (sm w 12)))]) [0, 1, 2, 3, 4, 5] rfl ?_
                      exact ih3 (q + 1) _ _ (by omega) (by omega) (aup_all he (by rw [ifs_s, e2]) (fun j _ z => by rw [ifs_n z])) (aup_lt hg rfl)
              exact loop3 13 0 f _ (by omega) (by omega) (fun j hj => by rw [if_neg (by omega)]; exact hf j hj) (fun j hj => absurd hj (Nat.not_lt_zero _))
            · have hwq := hwi k (by omega)
              have hBi : sm (bs t (sm w 12) w) (k + 1) = sm (bs t (sm w 12) w) k + bs t (sm w 12) w k := rfl
              have hBm := sm_mono (f := bs t (sm w 12) w) (show k + 1 ≤ 12 by omega)
              have hmul : t * w k < 9223372036854775808 := Nat.lt_of_lt_of_le (Nat.mul_lt_mul'' ht hwq) (by decide)
              refine r_aload_n rfl rfl ?_
              refine s_getR (r := 60) rfl flX10_34 rfl rfl ?_
              refine r_iload rfl rfl ?_
              refine r_lload rfl rfl ?_
              refine n_lconst0 rfl ?_
              suffices K : Ws (true, l9) sc mX10_splits 0 0 0 0 83 [(8, .int (nI k)), (6, .long (lN ((if sm w 12 = 0 then 0 else t) - sm (bs t (sm w 12) w) k))), (0, .ref 53), (1, .long (lN t)), (3, .int (nI 12)), (4, .long (lN (sm w 12)))] [.int (nI (bs t (sm w 12) w k)), .int (nI k), .ref 60] (mz σ [(60, f)] []) (RV fun σ' => ∃ f g, σ' = mz σ [(60, f), (61, g)] [] ∧ (∀ i, i < 12 → f i = nI (sp t (sm w 12) w 12 i)) ∧ ∀ i, i < 12 → g i = nI (tb (ce t (sm w 12) w 12 i))) by
                refine n_lcmp_ne (tgt := 70) rfl rfl rfl (by omega) (by omega) (fun h7 => ?_) (fun h7 => ?_)
                · refine r_lload_n rfl rfl ?_
                  refine r_aload_n rfl rfl ?_
                  refine s_getR (r := 59) rfl flX10_31 rfl rfl ?_
                  refine r_iload rfl rfl ?_
                  refine s_lald (x := lN (w k)) rfl rfl (by omega) (hN _ (by omega)) ?_
                  refine n_lmul rfl ?_
                  refine r_lload rfl rfl ?_
                  refine n_ldiv rfl (by omega) (by omega) (by omega) ?_
                  refine n_l2i rfl ?_
                  exact K 
                · refine n_iconst 0 rfl ?_
                  refine r_goto (tgt := 83) rfl rfl ?_
                  exact r_top (by show nI 0 = nI (t * w k / sm w 12); rw [h7, Nat.div_zero]) K
              refine m_iast (L' := [(60, (aup f k (nI (bs t (sm w 12) w k))))]) rfl rfl (by omega) rfl ?_
              refine r_lload rfl rfl ?_
              refine r_aload_n rfl rfl ?_
              refine s_getR (r := 60) rfl flX10_34 rfl rfl ?_
              refine r_iload rfl rfl ?_
              refine s_iald (x := nI (bs t (sm w 12) w k)) rfl rfl (by omega) (aup_s _ _ _) ?_
              refine n_i2l rfl (by omega) ?_
              refine n_lsub rfl (by omega) ?_
              refine r_lstore (lv' := [(6, .long (lN (((if sm w 12 = 0 then 0 else t) - sm (bs t (sm w 12) w) k) - (bs t (sm w 12) w k)))), (8, .int (nI k)), (0, .ref 53), (1, .long (lN t)), (3, .int (nI 12)), (4, .long (lN (sm w 12)))]) rfl (Nat.le_of_ble_eq_true rfl) rfl ?_
              refine n_iinc (lv' := [(8, .int (nI (k + 1))), (6, .long (lN (((if sm w 12 = 0 then 0 else t) - sm (bs t (sm w 12) w) k) - (bs t (sm w 12) w k)))), (0, .ref 53), (1, .long (lN t)), (3, .int (nI 12)), (4, .long (lN (sm w 12)))]) 1 rfl rfl (Nat.le_of_ble_eq_true rfl) rfl ?_
              refine r_goto (tgt := 47) rfl rfl ?_
              rw [show (if sm w 12 = 0 then 0 else t) - sm (bs t (sm w 12) w) k - bs t (sm w 12) w k = (if sm w 12 = 0 then 0 else t) - sm (bs t (sm w 12) w) (k + 1) by omega]
              refine r_lv (lv' := [(8, .int (nI (k + 1))), (6, .long (lN ((if sm w 12 = 0 then 0 else t) - sm (bs t (sm w 12) w) (k + 1)))), (0, .ref 53), (1, .long (lN t)), (3, .int (nI 12)), (4, .long (lN (sm w 12)))]) [0, 1, 2, 3, 4, 5] rfl ?_
              exact ih2 (k + 1) _ (by omega) (by omega) (aup_lt hf rfl)
        exact loop2 13 0 _ (by omega) (by omega) (fun j hj => absurd hj (Nat.not_lt_zero _))
      · refine r_lload rfl rfl ?_
        refine r_aload_n rfl rfl ?_
        refine s_getR (r := 59) rfl flX10_31 rfl rfl ?_
        refine r_iload rfl rfl ?_
        refine s_lald (x := lN (w i)) rfl rfl (by omega) (hN _ (by omega)) ?_
        refine n_ladd rfl ?_
        refine r_lstore (lv' := [(4, .long (lN ((sm w i) + (w i)))), (6, .int (nI i)), (0, .ref 53), (1, .long (lN t)), (3, .int (nI 12))]) rfl (Nat.le_of_ble_eq_true rfl) rfl ?_
        refine n_iinc (lv' := [(6, .int (nI (i + 1))), (4, .long (lN ((sm w i) + (w i)))), (0, .ref 53), (1, .long (lN t)), (3, .int (nI 12))]) 1 rfl rfl (Nat.le_of_ble_eq_true rfl) rfl ?_
        refine r_goto (tgt := 6) rfl rfl ?_
        refine r_lv (lv' := [(6, .int (nI (i + 1))), (4, .long (lN ((sm w i) + (w i)))), (0, .ref 53), (1, .long (lN t)), (3, .int (nI 12))]) [0, 1, 2, 3, 4] rfl ?_
        exact ih (i + 1) (by omega) (by omega)
  exact loop 13 0 (by omega) (by omega)

