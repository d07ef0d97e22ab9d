/-- the model's answer: what it is, what is thrown, what is held then -/
def QM (σ : SS) (a : AB) (e : Int32) (t : Nat) : Out → SS → Prop := RI fun v σ' => v = e ∧ σ'.1 53 0 = nI t ∧ FrC σ σ' ∧ MI9 σ' a
theorem cps_1 {f g : Nat → Int32} {t s i : Nat} {v : Int32} (h1 : ∀ j, j < i → f (t + j) = g (s + j)) (hv : v = g (s + i)) : ∀ j, j < i + 1 → aup f (t + i) v (t + j) = g (s + j) := by
  intro j hj
  by_cases e : j = i
  · rw [e, aup_s]; exact hv
  · rw [aup_n _ _ (by omega)]; exact h1 j (by omega)
theorem cps_2 {f g : Nat → Int32} {t i : Nat} {v : Int32} (h2 : ∀ j, (j < t ∨ t + i ≤ j) → f j = g j) : ∀ j, (j < t ∨ t + (i + 1) ≤ j) → aup f (t + i) v j = g j := by
  intro j hj
  rw [aup_n _ _ (by omega)]
  exact h2 j (by omega)
theorem tm1_out {m : Nat} {x : Int32} (hm : m < 1000000000) (h0 : ¬ x < 0) (h : nI m ≤ x) : ¬ x ≤ nI m - nI 1 := by
  intro q
  cases m with
  | zero =>
    have h1 : nI 0 - nI 1 = -1 := by decide
    rw [h1] at q
    refine h0 (Int32.lt_iff_toInt_lt.mpr ?_)
    have e0 := Int32.le_iff_toInt_le.mp q
    have e1 : (-1 : Int32).toInt = -1 := by decide
    have e2 : (0 : Int32).toInt = 0 := by decide
    omega
  | succ m =>
    rw [nI_s (by omega : 1 ≤ m + 1), Nat.add_sub_cancel] at q
    have h2 := Int32.le_trans h q
    have := (nI_leI (by omega) (by omega)).mp h2
    omega
theorem mrow_put {f54 f73 g : Nat → Int32} {d : D} {u : Nat} {s : Nat → D} (h73 : ∀ i, i < u → ∀ j, j < 122 → f73 (122 * i + j) = mR (s i) j) (hM : MR f54 d) (h1 : ∀ j, j < 122 → g (122 * u + j) = f54 (0 + j)) (h2 : ∀ j, (j < 122 * u ∨ 122 * u + 122 ≤ j) → g j = f73 j) : ∀ i, i < u + 1 → ∀ j, j < 122 → g (122 * i + j) = mR (aup s u d i) j := by
  intro i hi j hj
  by_cases e : i = u
  · subst e
    rw [aup_s, h1 j hj, Nat.zero_add]
    exact hM j hj
  · rw [aup_n _ _ e, h2 _ (by omega)]
    exact h73 i (by omega) j hj
theorem mrow_sh2 {f g : Nat → Int32} {k : Nat} {s : Nat → D} (h2 : ∀ i, i < k → ∀ j, j < 122 → f (122 * i + j) = mR (s (i + 1)) j) (h3 : ∀ i, k ≤ i → i < 10 → ∀ j, j < 122 → f (122 * i + j) = mR (s i) j) (hk : k < 9) (h4 : ∀ j, j < 122 → g (122 * k + j) = f (122 * (k + 1) + j)) (h5 : ∀ j, (j < 122 * k ∨ 122 * k + 122 ≤ j) → g j = f j) : ∀ i, i < k + 1 → ∀ j, j < 122 → g (122 * i + j) = mR (s (i + 1)) j := by
  intro i hi j hj
  by_cases e : i = k
  · subst e
    rw [h4 j hj]
    exact h3 (i + 1) (by omega) (by omega) j hj
  · rw [h5 _ (by omega)]
    exact h2 i (by omega) j hj
theorem mrow_sh3 {f g : Nat → Int32} {k : Nat} {s : Nat → D} (h3 : ∀ i, k ≤ i → i < 10 → ∀ j, j < 122 → f (122 * i + j) = mR (s i) j) (h5 : ∀ j, (j < 122 * k ∨ 122 * k + 122 ≤ j) → g j = f j) : ∀ i, k + 1 ≤ i → i < 10 → ∀ j, j < 122 → g (122 * i + j) = mR (s i) j := by
  intro i hi hi2 j hj
  rw [h5 _ (by omega)]
  exact h3 i (by omega) hi2 j hj
theorem mrow_get {f g : Nat → Int32} {d : D} {b : Nat} (h : ∀ j, j < 122 → f (b + j) = mR d j) (h1 : ∀ j, j < 122 → g (0 + j) = f (b + j)) : MR g d := by
  intro j hj
  have h2 := h1 j hj
  rw [Nat.zero_add] at h2
  rw [h2]
  exact h j hj
theorem mslot_put {f54 f74 g : Nat → Int32} {d : D} {q : Nat} {b : Nat → Bool} {s : Nat → D} (h74 : ∀ i, i < 2 → b i = true → ∀ j, j < 122 → f74 (122 * i + j) = mR (s i) j) (hM : MR f54 d) (h1 : ∀ j, j < 122 → g (122 * q + j) = f54 (0 + j)) (h2 : ∀ j, (j < 122 * q ∨ 122 * q + 122 ≤ j) → g j = f74 j) : ∀ i, i < 2 → aup b q true i = true → ∀ j, j < 122 → g (122 * i + j) = mR (aup s q d i) j := by
  intro i hi hb j hj
  by_cases e : i = q
  · subst e
    rw [aup_s, h1 j hj, Nat.zero_add]
    exact hM j hj
  · rw [aup_n _ _ e] at hb
    rw [aup_n _ _ e, h2 _ (by omega)]
    exact h74 i hi hb j hj
theorem mk_hi {b : Nat → Bool} {a : Nat} (h : ∀ i, a ≤ i → b i = false) : ∀ m, a ≤ m → mk b m = mk b a
  | 0, ha => by rw [Nat.le_zero.mp ha]
  | m + 1, ha => by
    by_cases e : a = m + 1
    · rw [e]
    · show mk b m ||| tb (b m) <<< m = _
      rw [h m (by omega), mk_hi h m (by omega)]
      show _ ||| 0 <<< m = _
      rw [Nat.zero_shiftLeft, Nat.or_zero]
theorem MR_sz {f : Nat → Int32} {d : D} {k : Nat} (h : MR f d) (hk : k ≤ 9) : f k = szv d k := by
  rw [MRat h 0 k (by omega) (mP0 (by omega))]
  unfold szv
  by_cases e : k = 5
  · subst e; rfl
  · rw [if_neg e]
    show cond ((0 : Nat) == 1 || ((0 : Nat) == 0 && k == 5)) _ _ = _
    rw [beq_false_of_ne e]
    rfl
theorem he_hi {d : D} {p : Nat} (h : d 0 0 ≤ p) : he d p = false := by
  cases e : he d p with
  | false => rfl
  | true => have := he_lt e; omega
theorem ou_hi {d : D} {p : Nat} (h : d 0 0 ≤ p) : ou d p = false := by
  unfold ou
  rw [decide_eq_false (by rw [wt_hi h]; omega)]
  rfl
theorem sv_no {d : D} {q : Nat} (hV : Vd d) (h : he d q = false) : (0 : Int32) = sv d q := by
  unfold sv
  have h1 : ¬ 0 < wt d q := fun z => by rw [(wt_pos hV).mp z] at h; exact absurd h (by decide)
  have h2 := lo_lw (F := a8 d) (G := gf d) (w := wt d) (k := 12) (p := q)
  rw [if_neg (show ¬ 0 < w9 d q by unfold w9 wf; omega)]
theorem k_within_in {l9 : Bool} {sc : SC} {σ : SS} {q l m : Nat} (hl : l ≤ q) (hq : q ≤ m) (hm : m < 2147483648) : Cs (true, l9) sc mX10_within 0 0 [.int (nI q), .int (nI l), .int (nI m)] σ (PI (nI 1) σ) := by
  refine Cs.of gmX10_within (Nat.le_of_ble_eq_true rfl) ?_
  show Ws (true, l9) sc mX10_within 0 0 0 0 0 [(0, .int (nI q)), (1, .int (nI l)), (2, .int (nI m))] [] (mz σ [] []) (PI (nI 1) σ)
  refine r_iload_n rfl rfl ?_
  refine r_iload_n rfl rfl ?_
  refine n_icmp_lt (tgt := 14) rfl rfl (by omega) (by omega) (fun hq => absurd hq (by omega)) (fun _ => ?_)
  refine r_iload_n rfl rfl ?_
  refine r_iload_n rfl rfl ?_
  refine n_icmp_gt (tgt := 14) rfl rfl (by omega) (by omega) (fun hq => absurd hq (by omega)) (fun _ => ?_)
  refine n_iconst 1 rfl ?_
  refine r_goto (tgt := 15) rfl rfl ?_
  exact s_ret (st := []) rfl rfl rfl (Nat.zero_le _) (Nat.zero_le _) (pI rfl rfl)

theorem k_within_out {l9 : Bool} {sc : SC} {σ : SS} {x : Int32} {l m : Nat} (hm : m < 1000000000) (hx : (x < nI l ∨ (¬ x < nI l ∧ nI (m + 1) ≤ x))) : Cs (true, l9) sc mX10_within 0 0 [.int x, .int (nI l), .int (nI m)] σ (PI (nI 0) σ) := by
  refine Cs.of gmX10_within (Nat.le_of_ble_eq_true rfl) ?_
  show Ws (true, l9) sc mX10_within 0 0 0 0 0 [(0, .int x), (1, .int (nI l)), (2, .int (nI m))] [] (mz σ [] []) (PI (nI 0) σ)
  rcases hx with hx | hx
  · refine r_iload_n rfl rfl ?_
    refine r_iload_n rfl rfl ?_
    refine r_icmp_lt (tgt := 14) rfl rfl (fun _ => ?_) (fun hq => absurd hq (fun z => z hx))
    refine n_iconst 0 rfl ?_
    exact s_ret (st := []) rfl rfl rfl (Nat.zero_le _) (Nat.zero_le _) (pI rfl rfl)
  · refine r_iload_n rfl rfl ?_
    refine r_iload_n rfl rfl ?_
    refine r_icmp_lt (tgt := 14) rfl rfl (fun hq => absurd hq hx.1) (fun _ => ?_)
    refine r_iload_n rfl rfl ?_
    refine r_iload_n rfl rfl ?_
    refine r_icmp_gt (tgt := 14) rfl rfl (fun _ => ?_) (fun hq => absurd hq (fun z => nle_s2 hm hx.2 (Int32.not_lt.mp z)))
    refine n_iconst 0 rfl ?_
    exact s_ret (st := []) rfl rfl rfl (Nat.zero_le _) (Nat.zero_le _) (pI rfl rfl)

theorem k_within {l9 : Bool} {sc : SC} {σ : SS} {q l m : Nat} (hl : l < 1000000000) (hq : q < 1000000000) (hm : m < 1000000000) : Cs (true, l9) sc mX10_within 0 0 [.int (nI q), .int (nI l), .int (nI m)] σ (PI (nI (tb (decide (l ≤ q ∧ q ≤ m)))) σ) := by
  refine Cs.of gmX10_within (Nat.le_of_ble_eq_true rfl) ?_
  show Ws (true, l9) sc mX10_within 0 0 0 0 0 [(0, .int (nI q)), (1, .int (nI l)), (2, .int (nI m))] [] (mz σ [] []) (PI (nI (tb (decide (l ≤ q ∧ q ≤ m)))) σ)
  refine r_iload_n rfl rfl ?_
  refine r_iload_n rfl rfl ?_
  suffices K : Ws (true, l9) sc mX10_within 0 0 0 0 15 [(0, .int (nI q)), (1, .int (nI l)), (2, .int (nI m))] [.int (nI (tb (decide (l ≤ q ∧ q ≤ m))))] (mz σ [] []) (PI (nI (tb (decide (l ≤ q ∧ q ≤ m)))) σ) by
    refine n_icmp_lt (tgt := 14) rfl rfl (by omega) (by omega) (fun h1 => ?_) (fun h1 => ?_)
    · refine n_iconst 0 rfl ?_
      exact r_top (by rw [decide_eq_false (by omega)]; rfl) K
    · refine r_iload_n rfl rfl ?_
      refine r_iload_n rfl rfl ?_
      refine n_icmp_gt (tgt := 14) rfl rfl (by omega) (by omega) (fun h2 => ?_) (fun h2 => ?_)
      · refine n_iconst 0 rfl ?_
        exact r_top (by rw [decide_eq_false (by omega)]; rfl) K
      · refine n_iconst 1 rfl ?_
        refine r_goto (tgt := 15) rfl rfl ?_
        exact r_top (by rw [decide_eq_true ⟨h1, h2⟩]; rfl) K
  exact s_ret (st := []) rfl rfl (nar_tb _) (Nat.zero_le _) (Nat.zero_le _) (pI rfl rfl)

theorem k_tI_no {l9 : Bool} {sc : SC} {σ : SS} {t : Nat} (h0 : σ.1 53 0 = nI 0) : Cs (true, l9) sc mX10_throwsIf 0 0 [.ref 53, .int (nI 0), .int (nI t)] σ (PI (nI 0) σ) := by
  refine Cs.of gmX10_throwsIf (Nat.le_of_ble_eq_true rfl) ?_
  show Ws (true, l9) sc mX10_throwsIf 0 0 0 0 0 [(0, .ref 53), (1, .int (nI 0)), (2, .int (nI t))] [] (mz σ [] []) (PI (nI 0) σ)
  refine r_aload_n rfl rfl ?_
  refine s_getI (x := nI 0) rfl flX10_89 rfl rfl h0 ?_
  refine n_if_ne (tgt := 16) rfl rfl (by decide) (fun hq => absurd hq (by decide)) (fun _ => ?_)
  refine r_iload_n rfl rfl ?_
  refine n_if_eq (tgt := 16) rfl rfl (by decide) (fun _ => ?_) (fun hq => absurd hq (by decide))
  refine r_aload_n rfl rfl ?_
  refine s_getI (x := nI 0) rfl flX10_89 rfl rfl h0 ?_
  refine n_if_le (tgt := 27) rfl rfl (by decide) (fun _ => ?_) (fun hq => absurd hq (by decide))
  refine n_iconst 0 rfl ?_
  exact s_ret (st := []) rfl rfl rfl (Nat.zero_le _) (Nat.zero_le _) (pI rfl rfl)

theorem k_tI_yes {l9 : Bool} {sc : SC} {σ : SS} {t : Nat} (h0 : σ.1 53 0 = nI 0) (ht : 0 < t) (ht2 : t < 1000) : Cs (true, l9) sc mX10_throwsIf 0 0 [.ref 53, .int (nI 1), .int (nI t)] σ (PI (nI 1) (mz σ [(53, aup (σ.1 53) 0 (nI t))] [])) := by
  refine Cs.of gmX10_throwsIf (Nat.le_of_ble_eq_true rfl) ?_
  show Ws (true, l9) sc mX10_throwsIf 0 0 0 0 0 [(0, .ref 53), (1, .int (nI 1)), (2, .int (nI t))] [] (mz σ [] []) (PI (nI 1) (mz σ [(53, aup (σ.1 53) 0 (nI t))] []))
  refine r_aload_n rfl rfl ?_
  refine s_getI (x := nI 0) rfl flX10_89 rfl rfl h0 ?_
  refine n_if_ne (tgt := 16) rfl rfl (by decide) (fun hq => absurd hq (by decide)) (fun _ => ?_)
  refine r_iload_n rfl rfl ?_
  refine n_if_eq (tgt := 16) rfl rfl (by decide) (fun hq => absurd hq (by decide)) (fun _ => ?_)
  refine r_aload_n rfl rfl ?_
  refine r_iload_n rfl rfl ?_
  refine m_putI (L' := [(53, (aup (σ.1 53) 0 (nI t)))]) rfl flX10_89 rfl rfl (okv_i _) rfl ?_
  refine r_aload_n rfl rfl ?_
  refine s_getI (x := nI t) rfl flX10_89 rfl rfl rfl ?_
  refine n_if_le (tgt := 27) rfl rfl (by omega) (fun hq => absurd hq (by omega)) (fun _ => ?_)
  refine n_iconst 1 rfl ?_
  refine r_goto (tgt := 28) rfl rfl ?_
  exact s_ret (st := []) rfl rfl rfl (Nat.zero_le _) (Nat.zero_le _) (pI rfl rfl)

theorem k_no_in {l9 : Bool} {sc : SC} {σ : SS} {q m : Nat} (h0 : σ.1 53 0 = nI 0) (hq : q < m) (hm : m < 1000000000) : Cs (true, l9) sc mX10_no 0 0 [.ref 53, .int (nI q), .int (nI m)] σ (PI (nI 0) σ) := by
  refine Cs.of gmX10_no (Nat.le_of_ble_eq_true rfl) ?_
  show Ws (true, l9) sc mX10_no 0 0 0 0 0 [(0, .ref 53), (1, .int (nI q)), (2, .int (nI m))] [] (mz σ [] []) (PI (nI 0) σ)
  refine r_aload_n rfl rfl ?_
  refine r_iload_n rfl rfl ?_
  refine n_iconst 0 rfl ?_
  refine r_iload_n rfl rfl ?_
  refine n_iconst 1 rfl ?_
  refine n_isub rfl (by omega) ?_
  refine s_staI [.int (nI q), .int (nI 0), .int (nI (m - 1))] [.ref 53] rfl lkX10_113 (k_within_in (by omega) (by omega) (by omega)) rfl rfl (Nat.le_refl _) (Nat.le_refl _) rfl (rI (e1 := nI 1) rfl ?_)
  refine n_if_ne (tgt := 16) rfl rfl (by decide) (fun _ => ?_) (fun hq => absurd hq (by decide))
  refine n_iconst 0 rfl ?_
  refine n_iconst 1 rfl ?_
  refine s_virI [.int (nI 0), .int (nI 1)] [] rfl lkX10_235 rfl rfl rfl (k_tI_no h0) rfl rfl (Nat.le_refl _) (Nat.le_refl _) rfl (rI (e1 := nI 0) rfl ?_)
  exact s_ret (st := []) rfl rfl rfl (Nat.zero_le _) (Nat.zero_le _) (pI rfl rfl)

theorem k_within_o2 {l9 : Bool} {sc : SC} {σ : SS} {x : Int32} {m : Nat} (hm : m < 1000000000) (hx : (x < 0 ∨ (¬ x < 0 ∧ nI (m) ≤ x))) : Cs (true, l9) sc mX10_within 0 0 [.int x, .int (nI 0), .int (nI m - nI 1)] σ (PI (nI 0) σ) := by
  refine Cs.of gmX10_within (Nat.le_of_ble_eq_true rfl) ?_
  show Ws (true, l9) sc mX10_within 0 0 0 0 0 [(0, .int x), (1, .int (nI 0)), (2, .int (nI m - nI 1))] [] (mz σ [] []) (PI (nI 0) σ)
  rcases hx with hx | hx
  · refine r_iload_n rfl rfl ?_
    refine r_iload_n rfl rfl ?_
    refine r_icmp_lt (tgt := 14) rfl rfl (fun _ => ?_) (fun hq => absurd hq (fun z => z hx))
    refine n_iconst 0 rfl ?_
    exact s_ret (st := []) rfl rfl rfl (Nat.zero_le _) (Nat.zero_le _) (pI rfl rfl)
  · refine r_iload_n rfl rfl ?_
    refine r_iload_n rfl rfl ?_
    refine r_icmp_lt (tgt := 14) rfl rfl (fun hq => absurd hq hx.1) (fun _ => ?_)
    refine r_iload_n rfl rfl ?_
    refine r_iload_n rfl rfl ?_
    refine r_icmp_gt (tgt := 14) rfl rfl (fun _ => ?_) (fun hq => absurd hq (fun z => tm1_out hm hx.1 hx.2 (Int32.not_lt.mp z)))
    refine n_iconst 0 rfl ?_
    exact s_ret (st := []) rfl rfl rfl (Nat.zero_le _) (Nat.zero_le _) (pI rfl rfl)

theorem k_no_out {l9 : Bool} {sc : SC} {σ : SS} {x : Int32} {m : Nat} (h0 : σ.1 53 0 = nI 0) (hm : m < 1000000000) (hx : (x < 0 ∨ (¬ x < 0 ∧ nI (m) ≤ x))) : Cs (true, l9) sc mX10_no 0 0 [.ref 53, .int x, .int (nI m)] σ (PI (nI 1) (mz σ [(53, aup (σ.1 53) 0 (nI 1))] [])) := by
  refine Cs.of gmX10_no (Nat.le_of_ble_eq_true rfl) ?_
  show Ws (true, l9) sc mX10_no 0 0 0 0 0 [(0, .ref 53), (1, .int x), (2, .int (nI m))] [] (mz σ [] []) (PI (nI 1) (mz σ [(53, aup (σ.1 53) 0 (nI 1))] []))
  refine r_aload_n rfl rfl ?_
  refine r_iload_n rfl rfl ?_
  refine n_iconst 0 rfl ?_
  refine r_iload_n rfl rfl ?_
  refine n_iconst 1 rfl ?_
  refine r_isub rfl ?_
  refine s_staI [.int x, .int (nI 0), .int ((nI m) - (nI 1))] [.ref 53] rfl lkX10_113 (k_within_o2 hm hx) rfl rfl (Nat.le_refl _) (Nat.le_refl _) rfl (rI (e1 := nI 0) rfl ?_)
  refine n_if_ne (tgt := 16) rfl rfl (by decide) (fun hq => absurd hq (by decide)) (fun _ => ?_)
  refine n_iconst 1 rfl ?_
  refine r_goto (tgt := 17) rfl rfl ?_
  refine n_iconst 1 rfl ?_
  refine s_virI [.int (nI 1), .int (nI 1)] [] rfl lkX10_235 rfl rfl rfl (k_tI_yes h0 (by decide) (by decide)) rfl rfl (Nat.le_refl _) (Nat.le_refl _) rfl (rI (e1 := nI 1) rfl ?_)
  refine m_mz (L' := [(53, (aup (σ.1 53) 0 (nI 1)))]) (M' := []) rfl rfl ?_
  exact s_ret (st := []) rfl rfl rfl (Nat.zero_le _) (Nat.zero_le _) (pI rfl rfl)

theorem k_noPerson_in {l9 : Bool} {sc : SC} {σ : SS} {d : D} {q : Nat} {hM : MR (σ.1 54) d} (hV : Vd d) (hq : q < d 0 0) : Cs (true, l9) sc mX10_noPerson 0 0 [.ref 53, .int (nI q)] σ (PI (nI 0) (mz σ [(53, aup (σ.1 53) 0 (nI 0))] [])) := by
  refine Cs.of gmX10_noPerson (Nat.le_of_ble_eq_true rfl) ?_
  show Ws (true, l9) sc mX10_noPerson 0 0 0 0 0 [(0, .ref 53), (1, .int (nI q))] [] (mz σ [] []) (PI (nI 0) (mz σ [(53, aup (σ.1 53) 0 (nI 0))] []))
  have hC := vC hV
  refine r_aload_n rfl rfl ?_
  refine n_iconst 0 rfl ?_
  refine m_putI (L' := [(53, (aup (σ.1 53) 0 (nI 0)))]) rfl flX10_89 rfl rfl (okv_i _) rfl ?_
  refine r_aload_n rfl rfl ?_
  refine r_iload_n rfl rfl ?_
  refine r_aload_n rfl rfl ?_
  refine s_getR (r := 54) rfl flX10_7 rfl rfl ?_
  refine n_iconst 0 rfl ?_
  refine s_iald (x := nI (d 0 0)) rfl rfl (by decide) (MRat hM 0 0 (by decide) (by decide)) ?_
  refine s_virI [.int (nI q), .int (nI (d 0 0))] [] rfl lkX10_242 rfl rfl rfl (k_no_in rfl hq (by omega)) rfl rfl (Nat.le_refl _) (Nat.le_refl _) rfl (rI (e1 := nI 0) rfl ?_)
  exact s_ret (st := []) rfl rfl rfl (Nat.zero_le _) (Nat.zero_le _) (pI rfl rfl)

theorem k_noPerson_out {l9 : Bool} {sc : SC} {σ : SS} {d : D} {x : Int32} {hM : MR (σ.1 54) d} (hV : Vd d) (hx : (x < 0 ∨ (¬ x < 0 ∧ nI (d 0 0) ≤ x))) : Cs (true, l9) sc mX10_noPerson 0 0 [.ref 53, .int x] σ (PI (nI 1) (mz σ [(53, aup (aup (σ.1 53) 0 (nI 0)) 0 (nI 1))] [])) := by
  refine Cs.of gmX10_noPerson (Nat.le_of_ble_eq_true rfl) ?_
  show Ws (true, l9) sc mX10_noPerson 0 0 0 0 0 [(0, .ref 53), (1, .int x)] [] (mz σ [] []) (PI (nI 1) (mz σ [(53, aup (aup (σ.1 53) 0 (nI 0)) 0 (nI 1))] []))
  have hC := vC hV
  refine r_aload_n rfl rfl ?_
  refine n_iconst 0 rfl ?_
  refine m_putI (L' := [(53, (aup (σ.1 53) 0 (nI 0)))]) rfl flX10_89 rfl rfl (okv_i _) rfl ?_
  refine r_aload_n rfl rfl ?_
  refine r_iload_n rfl rfl ?_
  refine r_aload_n rfl rfl ?_
  refine s_getR (r := 54) rfl flX10_7 rfl rfl ?_
  refine n_iconst 0 rfl ?_
  refine s_iald (x := nI (d 0 0)) rfl rfl (by decide) (MRat hM 0 0 (by decide) (by decide)) ?_
  refine s_virI [.int x, .int (nI (d 0 0))] [] rfl lkX10_242 rfl rfl rfl (k_no_out rfl (by omega) hx) rfl rfl (Nat.le_refl _) (Nat.le_refl _) rfl (rI (e1 := nI 1) rfl ?_)
  refine m_mz (L' := [(53, (aup (aup (σ.1 53) 0 (nI 0)) 0 (nI 1)))]) (M' := []) rfl rfl ?_
  exact s_ret (st := []) rfl rfl rfl (Nat.zero_le _) (Nat.zero_le _) (pI rfl rfl)

theorem k_noWhat_in {l9 : Bool} {sc : SC} {σ : SS} {q m : Nat} (h0 : σ.1 53 0 = nI 0) (hq : q ≤ m) (hm : m < 1000) : Cs (true, l9) sc mX10_noWhat 0 0 [.ref 53, .int (nI q), .int (nI m)] σ (PI (nI 0) σ) := by
  refine Cs.of gmX10_noWhat (Nat.le_of_ble_eq_true rfl) ?_
  show Ws (true, l9) sc mX10_noWhat 0 0 0 0 0 [(0, .ref 53), (1, .int (nI q)), (2, .int (nI m))] [] (mz σ [] []) (PI (nI 0) σ)
  refine r_aload_n rfl rfl ?_
  refine r_iload_n rfl rfl ?_
  refine n_iconst 0 rfl ?_
  refine r_iload_n rfl rfl ?_
  refine s_staI [.int (nI q), .int (nI 0), .int (nI m)] [.ref 53] rfl lkX10_113 (k_within_in (by omega) (by omega) (by omega)) rfl rfl (Nat.le_refl _) (Nat.le_refl _) rfl (rI (e1 := nI 1) rfl ?_)
  refine n_if_ne (tgt := 14) rfl rfl (by decide) (fun _ => ?_) (fun hq => absurd hq (by decide))
  refine n_iconst 0 rfl ?_
  refine n_iconst 2 rfl ?_
  refine s_virI [.int (nI 0), .int (nI 2)] [] rfl lkX10_235 rfl rfl rfl (k_tI_no h0) rfl rfl (Nat.le_refl _) (Nat.le_refl _) rfl (rI (e1 := nI 0) rfl ?_)
  exact s_ret (st := []) rfl rfl rfl (Nat.zero_le _) (Nat.zero_le _) (pI rfl rfl)

theorem k_noWhat_out {l9 : Bool} {sc : SC} {σ : SS} {x : Int32} {m : Nat} (h0 : σ.1 53 0 = nI 0) (hm : m < 1000) (hx : (x < nI 0 ∨ (¬ x < nI 0 ∧ nI (m + 1) ≤ x))) : Cs (true, l9) sc mX10_noWhat 0 0 [.ref 53, .int x, .int (nI m)] σ (PI (nI 1) (mz σ [(53, aup (σ.1 53) 0 (nI 2))] [])) := by
  refine Cs.of gmX10_noWhat (Nat.le_of_ble_eq_true rfl) ?_
  show Ws (true, l9) sc mX10_noWhat 0 0 0 0 0 [(0, .ref 53), (1, .int x), (2, .int (nI m))] [] (mz σ [] []) (PI (nI 1) (mz σ [(53, aup (σ.1 53) 0 (nI 2))] []))
  refine r_aload_n rfl rfl ?_
  refine r_iload_n rfl rfl ?_
  refine n_iconst 0 rfl ?_
  refine r_iload_n rfl rfl ?_
  refine s_staI [.int x, .int (nI 0), .int (nI m)] [.ref 53] rfl lkX10_113 (k_within_out (by omega) hx) rfl rfl (Nat.le_refl _) (Nat.le_refl _) rfl (rI (e1 := nI 0) rfl ?_)
  refine n_if_ne (tgt := 14) rfl rfl (by decide) (fun hq => absurd hq (by decide)) (fun _ => ?_)
  refine n_iconst 1 rfl ?_
  refine r_goto (tgt := 15) rfl rfl ?_
  refine n_iconst 2 rfl ?_
  refine s_virI [.int (nI 1), .int (nI 2)] [] rfl lkX10_235 rfl rfl rfl (k_tI_yes h0 (by decide) (by decide)) rfl rfl (Nat.le_refl _) (Nat.le_refl _) rfl (rI (e1 := nI 1) rfl ?_)
  refine m_mz (L' := [(53, (aup (σ.1 53) 0 (nI 2)))]) (M' := []) rfl rfl ?_
  exact s_ret (st := []) rfl rfl rfl (Nat.zero_le _) (Nat.zero_le _) (pI rfl rfl)

theorem k_noSlot_in {l9 : Bool} {sc : SC} {σ : SS} {q : Nat} (hq : q < 2) : Cs (true, l9) sc mX10_noSlot 0 0 [.ref 53, .int (nI q)] σ (PI (nI 0) (mz σ [(53, aup (σ.1 53) 0 (nI 0))] [])) := by
  refine Cs.of gmX10_noSlot (Nat.le_of_ble_eq_true rfl) ?_
  show Ws (true, l9) sc mX10_noSlot 0 0 0 0 0 [(0, .ref 53), (1, .int (nI q))] [] (mz σ [] []) (PI (nI 0) (mz σ [(53, aup (σ.1 53) 0 (nI 0))] []))
  refine r_aload_n rfl rfl ?_
  refine n_iconst 0 rfl ?_
  refine m_putI (L' := [(53, (aup (σ.1 53) 0 (nI 0)))]) rfl flX10_89 rfl rfl (okv_i _) rfl ?_
  refine r_aload_n rfl rfl ?_
  refine r_iload_n rfl rfl ?_
  refine n_iconst 2 rfl ?_
  refine s_virI [.int (nI q), .int (nI 2)] [] rfl lkX10_242 rfl rfl rfl (k_no_in rfl hq (by omega)) rfl rfl (Nat.le_refl _) (Nat.le_refl _) rfl (rI (e1 := nI 0) rfl ?_)
  exact s_ret (st := []) rfl rfl rfl (Nat.zero_le _) (Nat.zero_le _) (pI rfl rfl)

theorem k_noSlot_out {l9 : Bool} {sc : SC} {σ : SS} {x : Int32} (hx : (x < 0 ∨ (¬ x < 0 ∧ nI (2) ≤ x))) : Cs (true, l9) sc mX10_noSlot 0 0 [.ref 53, .int x] σ (PI (nI 1) (mz σ [(53, aup (aup (σ.1 53) 0 (nI 0)) 0 (nI 1))] [])) := by
  refine Cs.of gmX10_noSlot (Nat.le_of_ble_eq_true rfl) ?_
  show Ws (true, l9) sc mX10_noSlot 0 0 0 0 0 [(0, .ref 53), (1, .int x)] [] (mz σ [] []) (PI (nI 1) (mz σ [(53, aup (aup (σ.1 53) 0 (nI 0)) 0 (nI 1))] []))
  refine r_aload_n rfl rfl ?_
  refine n_iconst 0 rfl ?_
  refine m_putI (L' := [(53, (aup (σ.1 53) 0 (nI 0)))]) rfl flX10_89 rfl rfl (okv_i _) rfl ?_
  refine r_aload_n rfl rfl ?_
  refine r_iload_n rfl rfl ?_
  refine n_iconst 2 rfl ?_
  refine s_virI [.int x, .int (nI 2)] [] rfl lkX10_242 rfl rfl rfl (k_no_out rfl (by omega) hx) rfl rfl (Nat.le_refl _) (Nat.le_refl _) rfl (rI (e1 := nI 1) rfl ?_)
  refine m_mz (L' := [(53, (aup (aup (σ.1 53) 0 (nI 0)) 0 (nI 1)))]) (M' := []) rfl rfl ?_
  exact s_ret (st := []) rfl rfl rfl (Nat.zero_le _) (Nat.zero_le _) (pI rfl rfl)

theorem k_copies_55_54 {l9 : Bool} {sc : SC} {σ : SS} {s t : Nat} (hs : s + 122 ≤ 122) (ht : t + 122 ≤ 122) : Cs (true, l9) sc mX10_copies 0 0 [.ref 55, .int (nI s), .ref 54, .int (nI t)] σ (RV fun σ' => ∃ f, σ' = mz σ [(54, f)] [] ∧ (∀ j, j < 122 → f (t + j) = σ.1 55 (s + j)) ∧ ∀ j, (j < t ∨ t + 122 ≤ j) → f j = σ.1 54 j) := by
  refine Cs.of gmX10_copies (Nat.le_of_ble_eq_true rfl) ?_
  show Ws (true, l9) sc mX10_copies 0 0 0 0 0 [(0, .ref 55), (1, .int (nI s)), (2, .ref 54), (3, .int (nI t))] [] (mz σ [] []) (RV fun σ' => ∃ f, σ' = mz σ [(54, f)] [] ∧ (∀ j, j < 122 → f (t + j) = σ.1 55 (s + j)) ∧ ∀ j, (j < t ∨ t + 122 ≤ j) → f j = σ.1 54 j)
  refine n_iconst 0 rfl ?_
  refine r_istore (lv' := [(4, .int (nI 0)), (0, .ref 55), (1, .int (nI s)), (2, .ref 54), (3, .int (nI t))]) rfl (Nat.le_of_ble_eq_true rfl) rfl ?_
  refine r_lv (lv' := [(4, .int (nI 0)), (0, .ref 55), (1, .int (nI s)), (2, .ref 54), (3, .int (nI t))]) [0, 1, 2, 3, 4] rfl ?_
  refine m_newI (L' := [(54, (σ.1 54))]) 54 rfl ?_
  have loop : ∀ (m9 : Nat) (i : Nat) (f : Nat → Int32), 122 - i < m9 → (i ≤ 122) → (∀ j, j < i → f (t + j) = σ.1 55 (s + j)) → (∀ j, (j < t ∨ t + i ≤ j) → f j = σ.1 54 j) → Ws (true, l9) sc mX10_copies 0 0 0 0 3 [(4, .int (nI i)), (0, .ref 55), (1, .int (nI s)), (2, .ref 54), (3, .int (nI t))] [] (mz σ [(54, f)] []) (RV fun σ' => ∃ f, σ' = mz σ [(54, f)] [] ∧ (∀ j, j < 122 → f (t + j) = σ.1 55 (s + j)) ∧ ∀ j, (j < t ∨ t + 122 ≤ j) → f j = σ.1 54 j) := by
    intro m9
    induction m9 with
    | zero => intro i f hme; exact absurd hme (Nat.not_lt_zero _)
    | succ m9 ih =>
      intro i f hme hi h1 h2
      refine r_iload rfl rfl ?_
      refine n_bipush 122 rfl (by decide) ?_
      refine n_icmp_ge (tgt := 28) rfl rfl (by omega) (by omega) (fun h9 => ?_) (fun h9 => ?_)
      · have hie : i = 122 := by omega
        subst hie
        exact s_vret (st := []) rfl rfl (Nat.zero_le _) (Nat.zero_le _) (⟨rfl, f, rfl, h1, h2⟩)
      · refine r_aload_n rfl rfl ?_
        refine r_iload_n rfl rfl ?_
        refine r_iload rfl rfl ?_
        refine n_iadd rfl ?_
        refine r_aload_n rfl rfl ?_
        refine r_iload_n rfl rfl ?_
        refine r_iload rfl rfl ?_
        refine n_iadd rfl ?_
        refine s_iald (x := σ.1 55 (s + i)) rfl rfl (by omega) rfl ?_
        refine m_iast (L' := [(54, (aup f (t + i) (σ.1 55 (s + i))))]) rfl rfl (by omega) rfl ?_
        refine n_iinc (lv' := [(4, .int (nI (i + 1))), (0, .ref 55), (1, .int (nI s)), (2, .ref 54), (3, .int (nI t))]) 1 rfl rfl (Nat.le_of_ble_eq_true rfl) rfl ?_
        refine r_goto (tgt := 3) rfl rfl ?_
        refine r_lv (lv' := [(4, .int (nI (i + 1))), (0, .ref 55), (1, .int (nI s)), (2, .ref 54), (3, .int (nI t))]) [0, 1, 2, 3, 4] rfl ?_
        exact ih (i + 1) _ (by omega) (by omega) (cps_1 h1 rfl) (cps_2 h2)
  exact loop 123 0 _ (by omega) (by omega) (fun j hj => absurd hj (Nat.not_lt_zero _)) (fun j _ => rfl)

theorem k_copies_54_73 {l9 : Bool} {sc : SC} {σ : SS} {s t : Nat} (hs : s + 122 ≤ 122) (ht : t + 122 ≤ 1220) : Cs (true, l9) sc mX10_copies 0 0 [.ref 54, .int (nI s), .ref 73, .int (nI t)] σ (RV fun σ' => ∃ f, σ' = mz σ [(73, f)] [] ∧ (∀ j, j < 122 → f (t + j) = σ.1 54 (s + j)) ∧ ∀ j, (j < t ∨ t + 122 ≤ j) → f j = σ.1 73 j) := by
  refine Cs.of gmX10_copies (Nat.le_of_ble_eq_true rfl) ?_
  show Ws (true, l9) sc mX10_copies 0 0 0 0 0 [(0, .ref 54), (1, .int (nI s)), (2, .ref 73), (3, .int (nI t))] [] (mz σ [] []) (RV fun σ' => ∃ f, σ' = mz σ [(73, f)] [] ∧ (∀ j, j < 122 → f (t + j) = σ.1 54 (s + j)) ∧ ∀ j, (j < t ∨ t + 122 ≤ j) → f j = σ.1 73 j)
  refine n_iconst 0 rfl ?_
  refine r_istore (lv' := [(4, .int (nI 0)), (0, .ref 54), (1, .int (nI s)), (2, .ref 73), (3, .int (nI t))]) rfl (Nat.le_of_ble_eq_true rfl) rfl ?_
  refine r_lv (lv' := [(4, .int (nI 0)), (0, .ref 54), (1, .int (nI s)), (2, .ref 73), (3, .int (nI t))]) [0, 1, 2, 3, 4] rfl ?_
  refine m_newI (L' := [(73, (σ.1 73))]) 73 rfl ?_
  have loop : ∀ (m9 : Nat) (i : Nat) (f : Nat → Int32), 122 - i < m9 → (i ≤ 122) → (∀ j, j < i → f (t + j) = σ.1 54 (s + j)) → (∀ j, (j < t ∨ t + i ≤ j) → f j = σ.1 73 j) → Ws (true, l9) sc mX10_copies 0 0 0 0 3 [(4, .int (nI i)), (0, .ref 54), (1, .int (nI s)), (2, .ref 73), (3, .int (nI t))] [] (mz σ [(73, f)] []) (RV fun σ' => ∃ f, σ' = mz σ [(73, f)] [] ∧ (∀ j, j < 122 → f (t + j) = σ.1 54 (s + j)) ∧ ∀ j, (j < t ∨ t + 122 ≤ j) → f j = σ.1 73 j) := by
    intro m9
    induction m9 with
    | zero => intro i f hme; exact absurd hme (Nat.not_lt_zero _)
    | succ m9 ih =>
      intro i f hme hi h1 h2
      refine r_iload rfl rfl ?_
      refine n_bipush 122 rfl (by decide) ?_
      refine n_icmp_ge (tgt := 28) rfl rfl (by omega) (by omega) (fun h9 => ?_) (fun h9 => ?_)
      · have hie : i = 122 := by omega
        subst hie
        exact s_vret (st := []) rfl rfl (Nat.zero_le _) (Nat.zero_le _) (⟨rfl, f, rfl, h1, h2⟩)
      · refine r_aload_n rfl rfl ?_
        refine r_iload_n rfl rfl ?_
        refine r_iload rfl rfl ?_
        refine n_iadd rfl ?_
        refine r_aload_n rfl rfl ?_
        refine r_iload_n rfl rfl ?_
        refine r_iload rfl rfl ?_
        refine n_iadd rfl ?_
        refine s_iald (x := σ.1 54 (s + i)) rfl rfl (by omega) rfl ?_
        refine m_iast (L' := [(73, (aup f (t + i) (σ.1 54 (s + i))))]) rfl rfl (by omega) rfl ?_
        refine n_iinc (lv' := [(4, .int (nI (i + 1))), (0, .ref 54), (1, .int (nI s)), (2, .ref 73), (3, .int (nI t))]) 1 rfl rfl (Nat.le_of_ble_eq_true rfl) rfl ?_
        refine r_goto (tgt := 3) rfl rfl ?_
        refine r_lv (lv' := [(4, .int (nI (i + 1))), (0, .ref 54), (1, .int (nI s)), (2, .ref 73), (3, .int (nI t))]) [0, 1, 2, 3, 4] rfl ?_
        exact ih (i + 1) _ (by omega) (by omega) (cps_1 h1 rfl) (cps_2 h2)
  exact loop 123 0 _ (by omega) (by omega) (fun j hj => absurd hj (Nat.not_lt_zero _)) (fun j _ => rfl)

theorem k_copies_73_73 {l9 : Bool} {sc : SC} {σ : SS} {s t : Nat} (hs : s + 122 ≤ 1220) (ht : t + 122 ≤ 1220) (hst : t + 122 ≤ s) : Cs (true, l9) sc mX10_copies 0 0 [.ref 73, .int (nI s), .ref 73, .int (nI t)] σ (RV fun σ' => ∃ f, σ' = mz σ [(73, f)] [] ∧ (∀ j, j < 122 → f (t + j) = σ.1 73 (s + j)) ∧ ∀ j, (j < t ∨ t + 122 ≤ j) → f j = σ.1 73 j) := by
  refine Cs.of gmX10_copies (Nat.le_of_ble_eq_true rfl) ?_
  show Ws (true, l9) sc mX10_copies 0 0 0 0 0 [(0, .ref 73), (1, .int (nI s)), (2, .ref 73), (3, .int (nI t))] [] (mz σ [] []) (RV fun σ' => ∃ f, σ' = mz σ [(73, f)] [] ∧ (∀ j, j < 122 → f (t + j) = σ.1 73 (s + j)) ∧ ∀ j, (j < t ∨ t + 122 ≤ j) → f j = σ.1 73 j)
  refine n_iconst 0 rfl ?_
  refine r_istore (lv' := [(4, .int (nI 0)), (0, .ref 73), (1, .int (nI s)), (2, .ref 73), (3, .int (nI t))]) rfl (Nat.le_of_ble_eq_true rfl) rfl ?_
  refine r_lv (lv' := [(4, .int (nI 0)), (0, .ref 73), (1, .int (nI s)), (2, .ref 73), (3, .int (nI t))]) [0, 1, 2, 3, 4] rfl ?_
  refine m_newI (L' := [(73, (σ.1 73))]) 73 rfl ?_
  have loop : ∀ (m9 : Nat) (i : Nat) (f : Nat → Int32), 122 - i < m9 → (i ≤ 122) → (∀ j, j < i → f (t + j) = σ.1 73 (s + j)) → (∀ j, (j < t ∨ t + i ≤ j) → f j = σ.1 73 j) → Ws (true, l9) sc mX10_copies 0 0 0 0 3 [(4, .int (nI i)), (0, .ref 73), (1, .int (nI s)), (2, .ref 73), (3, .int (nI t))] [] (mz σ [(73, f)] []) (RV fun σ' => ∃ f, σ' = mz σ [(73, f)] [] ∧ (∀ j, j < 122 → f (t + j) = σ.1 73 (s + j)) ∧ ∀ j, (j < t ∨ t + 122 ≤ j) → f j = σ.1 73 j) := by
    intro m9
    induction m9 with
    | zero => intro i f hme; exact absurd hme (Nat.not_lt_zero _)
    | succ m9 ih =>
      intro i f hme hi h1 h2
      refine r_iload rfl rfl ?_
      refine n_bipush 122 rfl (by decide) ?_
      refine n_icmp_ge (tgt := 28) rfl rfl (by omega) (by omega) (fun h9 => ?_) (fun h9 => ?_)
      · have hie : i = 122 := by omega
        subst hie
        exact s_vret (st := []) rfl rfl (Nat.zero_le _) (Nat.zero_le _) (⟨rfl, f, rfl, h1, h2⟩)
      · refine r_aload_n rfl rfl ?_
        refine r_iload_n rfl rfl ?_
        refine r_iload rfl rfl ?_
        refine n_iadd rfl ?_
        refine r_aload_n rfl rfl ?_
        refine r_iload_n rfl rfl ?_
        refine r_iload rfl rfl ?_
        refine n_iadd rfl ?_
        refine s_iald (x := σ.1 73 (s + i)) rfl rfl (by omega) (h2 _ (by omega)) ?_
        refine m_iast (L' := [(73, (aup f (t + i) (σ.1 73 (s + i))))]) rfl rfl (by omega) rfl ?_
        refine n_iinc (lv' := [(4, .int (nI (i + 1))), (0, .ref 73), (1, .int (nI s)), (2, .ref 73), (3, .int (nI t))]) 1 rfl rfl (Nat.le_of_ble_eq_true rfl) rfl ?_
        refine r_goto (tgt := 3) rfl rfl ?_
        refine r_lv (lv' := [(4, .int (nI (i + 1))), (0, .ref 73), (1, .int (nI s)), (2, .ref 73), (3, .int (nI t))]) [0, 1, 2, 3, 4] rfl ?_
        exact ih (i + 1) _ (by omega) (by omega) (cps_1 h1 rfl) (cps_2 h2)
  exact loop 123 0 _ (by omega) (by omega) (fun j hj => absurd hj (Nat.not_lt_zero _)) (fun j _ => rfl)

theorem k_copies_73_54 {l9 : Bool} {sc : SC} {σ : SS} {s t : Nat} (hs : s + 122 ≤ 1220) (ht : t + 122 ≤ 122) : Cs (true, l9) sc mX10_copies 0 0 [.ref 73, .int (nI s), .ref 54, .int (nI t)] σ (RV fun σ' => ∃ f, σ' = mz σ [(54, f)] [] ∧ (∀ j, j < 122 → f (t + j) = σ.1 73 (s + j)) ∧ ∀ j, (j < t ∨ t + 122 ≤ j) → f j = σ.1 54 j) := by
  refine Cs.of gmX10_copies (Nat.le_of_ble_eq_true rfl) ?_
  show Ws (true, l9) sc mX10_copies 0 0 0 0 0 [(0, .ref 73), (1, .int (nI s)), (2, .ref 54), (3, .int (nI t))] [] (mz σ [] []) (RV fun σ' => ∃ f, σ' = mz σ [(54, f)] [] ∧ (∀ j, j < 122 → f (t + j) = σ.1 73 (s + j)) ∧ ∀ j, (j < t ∨ t + 122 ≤ j) → f j = σ.1 54 j)
  refine n_iconst 0 rfl ?_
  refine r_istore (lv' := [(4, .int (nI 0)), (0, .ref 73), (1, .int (nI s)), (2, .ref 54), (3, .int (nI t))]) rfl (Nat.le_of_ble_eq_true rfl) rfl ?_
  refine r_lv (lv' := [(4, .int (nI 0)), (0, .ref 73), (1, .int (nI s)), (2, .ref 54), (3, .int (nI t))]) [0, 1, 2, 3, 4] rfl ?_
  refine m_newI (L' := [(54, (σ.1 54))]) 54 rfl ?_
  have loop : ∀ (m9 : Nat) (i : Nat) (f : Nat → Int32), 122 - i < m9 → (i ≤ 122) → (∀ j, j < i → f (t + j) = σ.1 73 (s + j)) → (∀ j, (j < t ∨ t + i ≤ j) → f j = σ.1 54 j) → Ws (true, l9) sc mX10_copies 0 0 0 0 3 [(4, .int (nI i)), (0, .ref 73), (1, .int (nI s)), (2, .ref 54), (3, .int (nI t))] [] (mz σ [(54, f)] []) (RV fun σ' => ∃ f, σ' = mz σ [(54, f)] [] ∧ (∀ j, j < 122 → f (t + j) = σ.1 73 (s + j)) ∧ ∀ j, (j < t ∨ t + 122 ≤ j) → f j = σ.1 54 j) := by
    intro m9
    induction m9 with
    | zero => intro i f hme; exact absurd hme (Nat.not_lt_zero _)
    | succ m9 ih =>
      intro i f hme hi h1 h2
      refine r_iload rfl rfl ?_
      refine n_bipush 122 rfl (by decide) ?_
      refine n_icmp_ge (tgt := 28) rfl rfl (by omega) (by omega) (fun h9 => ?_) (fun h9 => ?_)
      · have hie : i = 122 := by omega
        subst hie
        exact s_vret (st := []) rfl rfl (Nat.zero_le _) (Nat.zero_le _) (⟨rfl, f, rfl, h1, h2⟩)
      · refine r_aload_n rfl rfl ?_
        refine r_iload_n rfl rfl ?_
        refine r_iload rfl rfl ?_
        refine n_iadd rfl ?_
        refine r_aload_n rfl rfl ?_
        refine r_iload_n rfl rfl ?_
        refine r_iload rfl rfl ?_
        refine n_iadd rfl ?_
        refine s_iald (x := σ.1 73 (s + i)) rfl rfl (by omega) rfl ?_
        refine m_iast (L' := [(54, (aup f (t + i) (σ.1 73 (s + i))))]) rfl rfl (by omega) rfl ?_
        refine n_iinc (lv' := [(4, .int (nI (i + 1))), (0, .ref 73), (1, .int (nI s)), (2, .ref 54), (3, .int (nI t))]) 1 rfl rfl (Nat.le_of_ble_eq_true rfl) rfl ?_
        refine r_goto (tgt := 3) rfl rfl ?_
        refine r_lv (lv' := [(4, .int (nI (i + 1))), (0, .ref 73), (1, .int (nI s)), (2, .ref 54), (3, .int (nI t))]) [0, 1, 2, 3, 4] rfl ?_
        exact ih (i + 1) _ (by omega) (by omega) (cps_1 h1 rfl) (cps_2 h2)
  exact loop 123 0 _ (by omega) (by omega) (fun j hj => absurd hj (Nat.not_lt_zero _)) (fun j _ => rfl)

theorem k_copies_54_74 {l9 : Bool} {sc : SC} {σ : SS} {s t : Nat} (hs : s + 122 ≤ 122) (ht : t + 122 ≤ 244) : Cs (true, l9) sc mX10_copies 0 0 [.ref 54, .int (nI s), .ref 74, .int (nI t)] σ (RV fun σ' => ∃ f, σ' = mz σ [(74, f)] [] ∧ (∀ j, j < 122 → f (t + j) = σ.1 54 (s + j)) ∧ ∀ j, (j < t ∨ t + 122 ≤ j) → f j = σ.1 74 j) := by
  refine Cs.of gmX10_copies (Nat.le_of_ble_eq_true rfl) ?_
  show Ws (true, l9) sc mX10_copies 0 0 0 0 0 [(0, .ref 54), (1, .int (nI s)), (2, .ref 74), (3, .int (nI t))] [] (mz σ [] []) (RV fun σ' => ∃ f, σ' = mz σ [(74, f)] [] ∧ (∀ j, j < 122 → f (t + j) = σ.1 54 (s + j)) ∧ ∀ j, (j < t ∨ t + 122 ≤ j) → f j = σ.1 74 j)
  refine n_iconst 0 rfl ?_
  refine r_istore (lv' := [(4, .int (nI 0)), (0, .ref 54), (1, .int (nI s)), (2, .ref 74), (3, .int (nI t))]) rfl (Nat.le_of_ble_eq_true rfl) rfl ?_
  refine r_lv (lv' := [(4, .int (nI 0)), (0, .ref 54), (1, .int (nI s)), (2, .ref 74), (3, .int (nI t))]) [0, 1, 2, 3, 4] rfl ?_
  refine m_newI (L' := [(74, (σ.1 74))]) 74 rfl ?_
  have loop : ∀ (m9 : Nat) (i : Nat) (f : Nat → Int32), 122 - i < m9 → (i ≤ 122) → (∀ j, j < i → f (t + j) = σ.1 54 (s + j)) → (∀ j, (j < t ∨ t + i ≤ j) → f j = σ.1 74 j) → Ws (true, l9) sc mX10_copies 0 0 0 0 3 [(4, .int (nI i)), (0, .ref 54), (1, .int (nI s)), (2, .ref 74), (3, .int (nI t))] [] (mz σ [(74, f)] []) (RV fun σ' => ∃ f, σ' = mz σ [(74, f)] [] ∧ (∀ j, j < 122 → f (t + j) = σ.1 54 (s + j)) ∧ ∀ j, (j < t ∨ t + 122 ≤ j) → f j = σ.1 74 j) := by
    intro m9
    induction m9 with
    | zero => intro i f hme; exact absurd hme (Nat.not_lt_zero _)
    | succ m9 ih =>
      intro i f hme hi h1 h2
      refine r_iload rfl rfl ?_
      refine n_bipush 122 rfl (by decide) ?_
      refine n_icmp_ge (tgt := 28) rfl rfl (by omega) (by omega) (fun h9 => ?_) (fun h9 => ?_)
      · have hie : i = 122 := by omega
        subst hie
        exact s_vret (st := []) rfl rfl (Nat.zero_le _) (Nat.zero_le _) (⟨rfl, f, rfl, h1, h2⟩)
      · refine r_aload_n rfl rfl ?_
        refine r_iload_n rfl rfl ?_
        refine r_iload rfl rfl ?_
        refine n_iadd rfl ?_
        refine r_aload_n rfl rfl ?_
        refine r_iload_n rfl rfl ?_
        refine r_iload rfl rfl ?_
        refine n_iadd rfl ?_
        refine s_iald (x := σ.1 54 (s + i)) rfl rfl (by omega) rfl ?_
        refine m_iast (L' := [(74, (aup f (t + i) (σ.1 54 (s + i))))]) rfl rfl (by omega) rfl ?_
        refine n_iinc (lv' := [(4, .int (nI (i + 1))), (0, .ref 54), (1, .int (nI s)), (2, .ref 74), (3, .int (nI t))]) 1 rfl rfl (Nat.le_of_ble_eq_true rfl) rfl ?_
        refine r_goto (tgt := 3) rfl rfl ?_
        refine r_lv (lv' := [(4, .int (nI (i + 1))), (0, .ref 54), (1, .int (nI s)), (2, .ref 74), (3, .int (nI t))]) [0, 1, 2, 3, 4] rfl ?_
        exact ih (i + 1) _ (by omega) (by omega) (cps_1 h1 rfl) (cps_2 h2)
  exact loop 123 0 _ (by omega) (by omega) (fun j hj => absurd hj (Nat.not_lt_zero _)) (fun j _ => rfl)

theorem k_copies_74_54 {l9 : Bool} {sc : SC} {σ : SS} {s t : Nat} (hs : s + 122 ≤ 244) (ht : t + 122 ≤ 122) : Cs (true, l9) sc mX10_copies 0 0 [.ref 74, .int (nI s), .ref 54, .int (nI t)] σ (RV fun σ' => ∃ f, σ' = mz σ [(54, f)] [] ∧ (∀ j, j < 122 → f (t + j) = σ.1 74 (s + j)) ∧ ∀ j, (j < t ∨ t + 122 ≤ j) → f j = σ.1 54 j) := by
  refine Cs.of gmX10_copies (Nat.le_of_ble_eq_true rfl) ?_
  show Ws (true, l9) sc mX10_copies 0 0 0 0 0 [(0, .ref 74), (1, .int (nI s)), (2, .ref 54), (3, .int (nI t))] [] (mz σ [] []) (RV fun σ' => ∃ f, σ' = mz σ [(54, f)] [] ∧ (∀ j, j < 122 → f (t + j) = σ.1 74 (s + j)) ∧ ∀ j, (j < t ∨ t + 122 ≤ j) → f j = σ.1 54 j)
  refine n_iconst 0 rfl ?_
  refine r_istore (lv' := [(4, .int (nI 0)), (0, .ref 74), (1, .int (nI s)), (2, .ref 54), (3, .int (nI t))]) rfl (Nat.le_of_ble_eq_true rfl) rfl ?_
  refine r_lv (lv' := [(4, .int (nI 0)), (0, .ref 74), (1, .int (nI s)), (2, .ref 54), (3, .int (nI t))]) [0, 1, 2, 3, 4] rfl ?_
  refine m_newI (L' := [(54, (σ.1 54))]) 54 rfl ?_
  have loop : ∀ (m9 : Nat) (i : Nat) (f : Nat → Int32), 122 - i < m9 → (i ≤ 122) → (∀ j, j < i → f (t + j) = σ.1 74 (s + j)) → (∀ j, (j < t ∨ t + i ≤ j) → f j = σ.1 54 j) → Ws (true, l9) sc mX10_copies 0 0 0 0 3 [(4, .int (nI i)), (0, .ref 74), (1, .int (nI s)), (2, .ref 54), (3, .int (nI t))] [] (mz σ [(54, f)] []) (RV fun σ' => ∃ f, σ' = mz σ [(54, f)] [] ∧ (∀ j, j < 122 → f (t + j) = σ.1 74 (s + j)) ∧ ∀ j, (j < t ∨ t + 122 ≤ j) → f j = σ.1 54 j) := by
    intro m9
    induction m9 with
    | zero => intro i f hme; exact absurd hme (Nat.not_lt_zero _)
    | succ m9 ih =>
      intro i f hme hi h1 h2
      refine r_iload rfl rfl ?_
      refine n_bipush 122 rfl (by decide) ?_
      refine n_icmp_ge (tgt := 28) rfl rfl (by omega) (by omega) (fun h9 => ?_) (fun h9 => ?_)
      · have hie : i = 122 := by omega
        subst hie
        exact s_vret (st := []) rfl rfl (Nat.zero_le _) (Nat.zero_le _) (⟨rfl, f, rfl, h1, h2⟩)
      · refine r_aload_n rfl rfl ?_
        refine r_iload_n rfl rfl ?_
        refine r_iload rfl rfl ?_
        refine n_iadd rfl ?_
        refine r_aload_n rfl rfl ?_
        refine r_iload_n rfl rfl ?_
        refine r_iload rfl rfl ?_
        refine n_iadd rfl ?_
        refine s_iald (x := σ.1 74 (s + i)) rfl rfl (by omega) rfl ?_
        refine m_iast (L' := [(54, (aup f (t + i) (σ.1 74 (s + i))))]) rfl rfl (by omega) rfl ?_
        refine n_iinc (lv' := [(4, .int (nI (i + 1))), (0, .ref 74), (1, .int (nI s)), (2, .ref 54), (3, .int (nI t))]) 1 rfl rfl (Nat.le_of_ble_eq_true rfl) rfl ?_
        refine r_goto (tgt := 3) rfl rfl ?_
        refine r_lv (lv' := [(4, .int (nI (i + 1))), (0, .ref 74), (1, .int (nI s)), (2, .ref 54), (3, .int (nI t))]) [0, 1, 2, 3, 4] rfl ?_
        exact ih (i + 1) _ (by omega) (by omega) (cps_1 h1 rfl) (cps_2 h2)
  exact loop 123 0 _ (by omega) (by omega) (fun j hj => absurd hj (Nat.not_lt_zero _)) (fun j _ => rfl)

theorem k_keeps {l9 : Bool} {sc : SC} {σ : SS} {d : D} {u : Nat} {s : Nat → D} (hM : MR (σ.1 54) d) (hu : u ≤ 10) (h53 : σ.1 53 32 = nI u) (h73 : ∀ i, i < u → ∀ j, j < 122 → σ.1 73 (122 * i + j) = mR (s i) j) : Cs (true, l9) sc mX10_keeps 0 0 [.ref 53] σ (RV fun σ' => ∃ f73 f53, σ' = mz σ [(73, f73), (53, f53)] [] ∧ (f53 32 = nI (pu u s d).1 ∧ ∀ k, k ≠ 32 → f53 k = σ.1 53 k) ∧ ∀ i, i < (pu u s d).1 → ∀ j, j < 122 → f73 (122 * i + j) = mR ((pu u s d).2 i) j) := by
  refine Cs.of gmX10_keeps (Nat.le_of_ble_eq_true rfl) ?_
  show Ws (true, l9) sc mX10_keeps 0 0 0 0 0 [(0, .ref 53)] [] (mz σ [] []) (RV fun σ' => ∃ f73 f53, σ' = mz σ [(73, f73), (53, f53)] [] ∧ (f53 32 = nI (pu u s d).1 ∧ ∀ k, k ≠ 32 → f53 k = σ.1 53 k) ∧ ∀ i, i < (pu u s d).1 → ∀ j, j < 122 → f73 (122 * i + j) = mR ((pu u s d).2 i) j)
  refine m_newI (L' := [(73, (σ.1 73))]) 73 rfl ?_
  refine m_newI (L' := [(73, (σ.1 73)), (53, (σ.1 53))]) 53 rfl ?_
  refine r_aload_n rfl rfl ?_
  refine s_getI (x := nI u) rfl flX10_232 rfl rfl h53 ?_
  refine n_bipush 10 rfl (by decide) ?_
  refine n_icmp_ne (tgt := 56) rfl rfl (by omega) (by omega) (fun h1 => ?_) (fun h1 => ?_)
  · have e9 : pu u s d = (u + 1, aup s u d) := if_pos (by omega)
    rw [e9]
    refine r_aload_n rfl rfl ?_
    refine s_getR (r := 54) rfl flX10_7 rfl rfl ?_
    refine n_iconst 0 rfl ?_
    refine r_aload_n rfl rfl ?_
    refine s_getR (r := 73) rfl flX10_74 rfl rfl ?_
    refine n_bipush 122 rfl (by decide) ?_
    refine r_aload_n rfl rfl ?_
    refine s_getI (x := nI u) rfl flX10_232 rfl rfl h53 ?_
    refine n_imul rfl ?_
    refine s_staV [.ref 54, .int (nI 0), .ref 73, .int (nI (122 * u))] [] rfl lkX10_228 (k_copies_54_73 (by omega) (by omega)) rfl rfl (Nat.le_refl _) (Nat.le_refl _) rfl ?_
    rintro _ ⟨f73, rfl, h1, h2⟩
    refine m_mz (L' := [(73, f73), (53, (σ.1 53))]) (M' := []) rfl rfl ?_
    refine r_aload_n rfl rfl ?_
    refine r_dup rfl rfl ?_
    refine s_getI (x := nI u) rfl flX10_232 rfl rfl h53 ?_
    refine n_iconst 1 rfl ?_
    refine n_iadd rfl ?_
    refine m_putI (L' := [(73, f73), (53, (aup (σ.1 53) 32 (nI (u + 1))))]) rfl flX10_232 rfl rfl (okv_i _) rfl ?_
    exact s_vret (st := []) rfl rfl (Nat.zero_le _) (Nat.zero_le _) (⟨rfl, _, _, rfl, ⟨rfl, fun k hk => aup_n _ _ hk⟩, mrow_put h73 hM h1 h2⟩)
  · subst h1
    have e9 : pu 10 s d = (10, aup (fun i => s (i + 1)) 9 d) := rfl
    rw [e9]
    refine r_aload_n rfl rfl ?_
    refine r_dup rfl rfl ?_
    refine s_getI (x := nI 10) rfl flX10_232 rfl rfl h53 ?_
    refine n_iconst 1 rfl ?_
    refine n_isub rfl (by omega) ?_
    refine m_putI (L' := [(73, (σ.1 73)), (53, (aup (σ.1 53) 32 (nI 9)))]) rfl flX10_232 rfl rfl (okv_i _) rfl ?_
    refine n_iconst 0 rfl ?_
    refine r_istore_n (lv' := [(1, .int (nI 0)), (0, .ref 53)]) rfl rfl (Nat.le_of_ble_eq_true rfl) rfl ?_
    refine r_lv (lv' := [(1, .int (nI 0)), (0, .ref 53)]) [0, 1] rfl ?_
    have loop : ∀ (m9 : Nat) (k : Nat) (f : Nat → Int32), 9 - k < m9 → (k ≤ 9) → (∀ i, i < k → ∀ j, j < 122 → f (122 * i + j) = mR (s (i + 1)) j) → (∀ i, k ≤ i → i < 10 → ∀ j, j < 122 → f (122 * i + j) = mR (s i) j) → Ws (true, l9) sc mX10_keeps 0 0 0 0 21 [(1, .int (nI k)), (0, .ref 53)] [] (mz σ [(73, f), (53, (aup (σ.1 53) 32 (nI 9)))] []) (RV fun σ' => ∃ f73 f53, σ' = mz σ [(73, f73), (53, f53)] [] ∧ (f53 32 = nI (((10, aup (fun i => s (i + 1)) 9 d) : Nat × (Nat → D))).1 ∧ ∀ k, k ≠ 32 → f53 k = σ.1 53 k) ∧ ∀ i, i < (((10, aup (fun i => s (i + 1)) 9 d) : Nat × (Nat → D))).1 → ∀ j, j < 122 → f73 (122 * i + j) = mR ((((10, aup (fun i => s (i + 1)) 9 d) : Nat × (Nat → D))).2 i) j) := by
      intro m9
      induction m9 with
      | zero => intro k f hme; exact absurd hme (Nat.not_lt_zero _)
      | succ m9 ih =>
        intro k f hme hk h2 h3
        refine r_iload_n rfl rfl ?_
        refine r_aload_n rfl rfl ?_
        refine s_getI (x := nI 9) rfl flX10_232 rfl rfl rfl ?_
        have hk9 : k < 9 ∨ k = 9 := by omega
        refine n_icmp_ge (tgt := 56) rfl rfl (by omega) (by omega) (fun h9 => ?_) (fun h9 => ?_)
        · have hke : k = 9 := by omega
          subst hke
          refine r_aload_n rfl rfl ?_
          refine s_getR (r := 54) rfl flX10_7 rfl rfl ?_
          refine n_iconst 0 rfl ?_
          refine r_aload_n rfl rfl ?_
          refine s_getR (r := 73) rfl flX10_74 rfl rfl ?_
          refine n_bipush 122 rfl (by decide) ?_
          refine r_aload_n rfl rfl ?_
          refine s_getI (x := nI 9) rfl flX10_232 rfl rfl rfl ?_
          refine n_imul rfl ?_
          refine s_staV [.ref 54, .int (nI 0), .ref 73, .int (nI 1098)] [] rfl lkX10_228 (k_copies_54_73 (by omega) (by omega)) rfl rfl (Nat.le_refl _) (Nat.le_refl _) rfl ?_
          rintro _ ⟨f73, rfl, h4, h5⟩
          refine m_mz (L' := [(73, f73), (53, (aup (σ.1 53) 32 (nI 9)))]) (M' := []) rfl rfl ?_
          refine r_aload_n rfl rfl ?_
          refine r_dup rfl rfl ?_
          refine s_getI (x := nI 9) rfl flX10_232 rfl rfl rfl ?_
          refine n_iconst 1 rfl ?_
          refine n_iadd rfl ?_
          refine m_putI (L' := [(73, f73), (53, (aup (aup (σ.1 53) 32 (nI 9)) 32 (nI 10)))]) rfl flX10_232 rfl rfl (okv_i _) rfl ?_
          exact s_vret (st := []) rfl rfl (Nat.zero_le _) (Nat.zero_le _) (⟨rfl, _, _, rfl, ⟨rfl, fun k hk => by rw [aup_n _ _ hk, aup_n _ _ hk]⟩, mrow_put (u := 9) (s := fun i => s (i + 1)) h2 hM h4 h5⟩)
        · refine r_aload_n rfl rfl ?_
          refine s_getR (r := 73) rfl flX10_74 rfl rfl ?_
          refine n_bipush 122 rfl (by decide) ?_
          refine r_iload_n rfl rfl ?_
          refine n_iconst 1 rfl ?_
          refine n_iadd rfl ?_
          refine n_imul rfl ?_
          refine r_aload_n rfl rfl ?_
          refine s_getR (r := 73) rfl flX10_74 rfl rfl ?_
          refine n_bipush 122 rfl (by decide) ?_
          refine r_iload_n rfl rfl ?_
          refine n_imul rfl ?_
          refine s_staV [.ref 73, .int (nI (122 * (k + 1))), .ref 73, .int (nI (122 * k))] [] rfl lkX10_228 (k_copies_73_73 (by omega) (by omega) (by omega)) rfl rfl (Nat.le_refl _) (Nat.le_refl _) rfl ?_
          rintro _ ⟨f2, rfl, h4, h5⟩
          refine m_mz (L' := [(73, f2), (53, (aup (σ.1 53) 32 (nI 9)))]) (M' := []) rfl rfl ?_
          refine n_iinc (lv' := [(1, .int (nI (k + 1))), (0, .ref 53)]) 1 rfl rfl (Nat.le_of_ble_eq_true rfl) rfl ?_
          refine r_goto (tgt := 21) rfl rfl ?_
          refine r_lv (lv' := [(1, .int (nI (k + 1))), (0, .ref 53)]) [0, 1] rfl ?_
          exact ih (k + 1) _ (by omega) (by omega) (mrow_sh2 h2 h3 (by omega) h4 h5) (mrow_sh3 h3 h5)
    exact loop 10 0 _ (by omega) (by omega) (fun i hi => absurd hi (Nat.not_lt_zero _)) (fun i _ hi => h73 i hi)

