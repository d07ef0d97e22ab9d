/-- what the settlement's rows hold -/
def SE9 (fi fdp flp fl fdv fwt fp fg fw fpa fs : Nat → Int32) (d : D) : Prop := (fi 0 = nI (nts d) ∧ fi 1 = nI (nts d - lf d 5) ∧ fi 2 = nI (du d 5 - (nts d - lf d 5)) ∧ fi 3 = nI (lu9 d) ∧ fi 4 = nI (rs d)) ∧ (∀ i, i < 8 → fdp i = nI (pd d i)) ∧ (∀ i, i < 8 → flp i = nI (lp d i)) ∧ (fl 0 = nI (mk (he d) 12) ∧ fl 1 = nI (mk (isL d) 12)) ∧ (∀ i, i < 12 → fdv i = nI (dc d i)) ∧ (∀ i, i < 12 → fwt i = nI (wt d i)) ∧ (fp 0 = nI (mk (ou d) 12) ∧ fp 1 = nI (po d) ∧ fp 2 = nI (sm (w9 d) 12)) ∧ (∀ i, i < 12 → fg i = nI (gf d i)) ∧ (∀ i, i < 12 → fw i = nI (w9 d i)) ∧ (∀ i, i < 12 → fpa i = nI (ps d i)) ∧ (fs 3 = nI (a5 d) ∧ fs 4 = nI (a6 d) ∧ fs 5 = nI (a7 d) ∧ fs 6 = nI (a8 d) ∧ fs 7 = nI (a9 d))
def SEA (σ : SS) (d : D) : Prop := SE9 (σ.1 21) (σ.1 22) (σ.1 23) (σ.1 26) (σ.1 28) (σ.1 29) (σ.1 30) (σ.1 31) (σ.1 32) (σ.1 33) (σ.1 20) d
def SEB (σ : SS) (d : D) : Prop := SE9 (σ.1 37) (σ.1 38) (σ.1 39) (σ.1 42) (σ.1 44) (σ.1 45) (σ.1 46) (σ.1 47) (σ.1 48) (σ.1 49) (σ.1 36) d
/-- who is left out after some rounds -/
def ot (F : Nat) (G w : Nat → Nat) (k p : Nat) : Bool := decide (0 < w p) && lo F G w k p == 0
theorem ot_0 {F : Nat} {G w : Nat → Nat} (p : Nat) : ot F G w 0 p = false := by
  unfold ot
  show (decide (0 < w p) && w p == 0) = false
  cases w p <;> rfl
theorem ot_s {F : Nat} {G w : Nat → Nat} {k j : Nat} (h : (ws (ov F G (lo F G w k)) 12).1 = j + 1) : ∀ i, i < 12 → ot F G w (k + 1) i = (ot F G w k i || i == j) := by
  intro i _
  have h1 := (ws_sp (ov F G (lo F G w k)) 12).2.2 j h
  have e : lo F G w (k + 1) = aup (lo F G w k) j 0 := ls_st h
  unfold ot
  rw [e]
  by_cases q : i = j
  · subst q
    have h2 := ov_w h1.2.2
    have h3 := lo_lw (F := F) (G := G) (w := w) (k := k) (p := i)
    rw [aup_s, decide_eq_true (by omega : 0 < w i)]
    simp
  · rw [aup_n _ _ q, beq_false_of_ne q, Bool.or_false]
theorem ot_fix {F : Nat} {G w : Nat → Nat} {k : Nat} (hk : k ≤ 12) (h : (ws (ov F G (lo F G w k)) 12).1 = 0) : wf F G w = lo F G w k := lo_fix h 12 hk
theorem ws_ov0 {F : Nat} {G w : Nat → Nat} {i : Nat} (h : w i = 0) : ws (ov F G w) (i + 1) = ws (ov F G w) i := by
  show (if (ws (ov F G w) i).2 < ov F G w i then _ else _) = _
  have e : ov F G w i = 0 := if_neg (by omega)
  rw [e, if_neg (by omega)]
theorem ovb {F b : Nat} {G w : Nat → Nat} {p : Nat} (h : G p ≤ b) : ov F G w p ≤ b := by
  unfold ov
  split
  · exact Nat.le_trans (Nat.sub_le _ _) h
  · exact Nat.zero_le _
theorem wsb {b : Nat} (o : Nat → Nat) : ∀ m, (∀ j, j < m → o j ≤ b) → (ws o m).2 ≤ b := by
  intro m h
  cases e : (ws o m).1 with
  | zero => rw [(ws_sp o m).2.1 e]; omega
  | succ j => have := (ws_sp o m).2.2 j e; rw [this.2.1]; exact h j this.1
theorem noI {s m : Nat} (hm : s ≤ m) (h : oI s = -1) (hb : m ≤ 12 := by omega) : s = 0 := by
  rw [← oI_0, oI_eq (by omega) (by decide)] at h
  exact h
theorem noI2 {d : D} (h : ¬ oI (d 0 5) = -1) : d 0 5 ≠ 0 := by
  intro z
  rw [z] at h
  exact h oI_0
theorem hs_no {d : D} (h : d 0 5 = 0) : hs d = false := by
  unfold hs
  rw [h]
  rfl
theorem hs_s {d : D} {s : Nat} (h : d 0 5 = s + 1) : hs d = tk d s := by
  unfold hs
  rw [h, Nat.add_sub_cancel, beq_false_of_ne (Nat.succ_ne_zero s)]
  rfl
theorem hs_ex {d : D} (h : hs d = true) : ∃ s, d 0 5 = s + 1 := by
  cases e : d 0 5 with
  | zero => rw [hs_no e] at h; exact absurd h (by decide)
  | succ s => exact ⟨s, rfl⟩
theorem c_lifeFactor {z : SZ} {sc : SC} {σ : SS} {a : Nat} (ha : a ≤ 120) : Cs z sc mX7_lifeFactor 0 0 [.int (nI a)] σ (PI (nI (fa a)) σ) := by
  refine Cs.of gmX7_lifeFactor (Nat.le_of_ble_eq_true rfl) ?_
  show Ws z sc mX7_lifeFactor 0 0 0 0 0 [(0, .int (nI a))] [] (mz σ [] []) (PI (nI (fa a)) σ)
  refine n_bipush 10 rfl (by decide) ?_
  refine n_bipush 90 rfl (by decide) ?_
  refine n_bipush 100 rfl (by decide) ?_
  refine r_iload_n rfl rfl ?_
  refine n_bipush 10 rfl (by decide) ?_
  refine n_idiv rfl (by omega) (by omega) (by omega) ?_
  refine n_bipush 10 rfl (by decide) ?_
  refine n_imul rfl ?_
  refine r_isub rfl ?_
  refine r_mmin rfl ma_minLX7_48 ma_minS maI ma_minC rfl rfl (Nat.zero_le _) (Nat.zero_le _) ?_
  refine r_mmax rfl ma_maxLX7_54 ma_maxS maI ma_maxC rfl rfl (Nat.zero_le _) (Nat.zero_le _) ?_
  exact s_ret (st := []) rfl rfl rfl (Nat.zero_le _) (Nat.zero_le _) (pI (fa_i a ha) rfl)

theorem c_isIn_A {z : SZ} {sc : SC} {σ : SS} {q x : Nat} (hq : q < 12) (hx : σ.1 32 q = nI x) (hb : x < 2147483648) : Cs z sc mX6_isInAccount 0 0 [.ref 30, .int (nI q)] σ (PI (nI (tb (decide (0 < x)))) σ) := by
  refine Cs.of gmX6_isInAccount (Nat.le_of_ble_eq_true rfl) ?_
  show Ws z sc mX6_isInAccount 0 0 0 0 0 [(0, .ref 30), (1, .int (nI q))] [] (mz σ [] []) (PI (nI (tb (decide (0 < x)))) σ)
  refine r_iload_n rfl rfl ?_
  refine n_if_lt (tgt := 23) rfl rfl (by omega) (fun hq => hq.elim) (fun _ => ?_)
  refine r_iload_n rfl rfl ?_
  refine n_bipush 12 rfl (by decide) ?_
  refine n_icmp_ge (tgt := 23) rfl rfl (by omega) (by omega) (fun hq => absurd hq (by omega)) (fun _ => ?_)
  refine r_aload_n rfl rfl ?_
  refine s_getR (r := 32) rfl flX6_25 rfl rfl ?_
  refine r_iload_n rfl rfl ?_
  refine s_iald (x := nI x) rfl rfl (by omega) hx ?_
  suffices K : Ws z sc mX6_isInAccount 0 0 0 0 24 [(0, .ref 30), (1, .int (nI q))] [.int (nI (tb (decide (0 < x))))] (mz σ [] []) (PI (nI (tb (decide (0 < x)))) σ) by
    refine n_if_le (tgt := 23) rfl rfl (by omega) (fun h => ?_) (fun h => ?_)
    · refine n_iconst 0 rfl ?_
      exact r_top (by rw [h]; rfl) K
    · refine n_iconst 1 rfl ?_
      refine r_goto (tgt := 24) rfl rfl ?_
      exact r_top (by rw [decide_eq_true h]; rfl) K
  exact s_ret (st := []) rfl rfl (nar_tb _) (Nat.zero_le _) (Nat.zero_le _) (pI rfl rfl)

theorem c_due_A {z : SZ} {sc : SC} {σ : SS} {q x t v : Nat} (hq : q < 12) (hx : σ.1 32 q = nI x) (hb : x < 2147483648) (ht : σ.1 30 1 = nI t) (htb : t < 2147483648) (hs : σ.1 30 2 = nI v) (hvb : v < 2147483648) : Cs z sc mX6_due 0 0 [.ref 30, .int (nI q)] σ (PI (nI (t * x / v)) σ) := by
  refine Cs.of gmX6_due (Nat.le_of_ble_eq_true rfl) ?_
  show Ws z sc mX6_due 0 0 0 0 0 [(0, .ref 30), (1, .int (nI q))] [] (mz σ [] []) (PI (nI (t * x / v)) σ)
  have hd := tb_le (decide (0 < x))
  refine r_aload_n rfl rfl ?_
  refine r_iload_n rfl rfl ?_
  refine s_virI [.int (nI q)] [] rfl lkX6_58 rfl rfl rfl (c_isIn_A hq hx hb) rfl rfl (Nat.le_refl _) (Nat.le_refl _) rfl (rI (e1 := nI (tb (decide (0 < x)))) rfl ?_)
  suffices K : Ws z sc mX6_due 0 0 0 0 29 [(0, .ref 30), (1, .int (nI q))] [.int (nI (t * x / v))] (mz σ [] []) (PI (nI (t * x / v)) σ) by
    refine n_if_eq (tgt := 28) rfl rfl (by omega) (fun h => ?_) (fun h => ?_)
    · refine n_iconst 0 rfl ?_
      exact r_top (by rw [show x = 0 by have := of_decide_eq_false (tb_z h); omega, Nat.mul_zero, Nat.zero_div]) K
    · refine r_aload_n rfl rfl ?_
      refine s_getI (x := nI t) rfl flX6_15 rfl rfl ht ?_
      refine r_aload_n rfl rfl ?_
      refine s_getR (r := 32) rfl flX6_25 rfl rfl ?_
      refine r_iload_n rfl rfl ?_
      refine s_iald (x := nI x) rfl rfl (by omega) hx ?_
      refine r_aload_n rfl rfl ?_
      refine s_getI (x := nI v) rfl flX6_18 rfl rfl hs ?_
      refine s_staNI [.int (nI t), .int (nI x), .int (nI v)] [] rfl lkX6_62 (c_portion htb hb hvb) rfl rfl (Nat.le_refl _) (Nat.le_refl _) (rI (e1 := nI (t * x / v)) rfl ?_)
      refine r_goto (tgt := 29) rfl rfl ?_
      exact K 
  exact s_ret (st := []) rfl rfl rfl (Nat.zero_le _) (Nat.zero_le _) (pI rfl rfl)

theorem c_cent_A {z : SZ} {sc : SC} {σ : SS} {q x t v : Nat} {c : Bool} (hq : q < 12) (hx : σ.1 32 q = nI x) (hb : x < 2147483648) (ht : σ.1 30 1 = nI t) (htb : t < 2147483648) (hs : σ.1 30 2 = nI v) (hvb : v < 2147483648) (hp : σ.1 33 q = nI (t * x / v + tb c)) (hc : x = 0 → c = false) : Cs z sc mX6_cent 0 0 [.ref 30, .int (nI q)] σ (PI (nI (tb c)) σ) := by
  refine Cs.of gmX6_cent (Nat.le_of_ble_eq_true rfl) ?_
  show Ws z sc mX6_cent 0 0 0 0 0 [(0, .ref 30), (1, .int (nI q))] [] (mz σ [] []) (PI (nI (tb c)) σ)
  have hd := tb_le (decide (0 < x))
  refine r_aload_n rfl rfl ?_
  refine r_iload_n rfl rfl ?_
  refine s_virI [.int (nI q)] [] rfl lkX6_58 rfl rfl rfl (c_isIn_A hq hx hb) rfl rfl (Nat.le_refl _) (Nat.le_refl _) rfl (rI (e1 := nI (tb (decide (0 < x)))) rfl ?_)
  suffices K : Ws z sc mX6_cent 0 0 0 0 24 [(0, .ref 30), (1, .int (nI q))] [.int (nI (tb c))] (mz σ [] []) (PI (nI (tb c)) σ) by
    refine n_if_eq (tgt := 23) rfl rfl (by omega) (fun h => ?_) (fun h => ?_)
    · refine n_iconst 0 rfl ?_
      exact r_top (by rw [hc (by have := of_decide_eq_false (tb_z h); omega)]; rfl) K
    · refine r_aload_n rfl rfl ?_
      refine s_getR (r := 33) rfl flX6_28 rfl rfl ?_
      refine r_iload_n rfl rfl ?_
      refine s_iald (x := nI (t * x / v + tb c)) rfl rfl (by omega) hp ?_
      refine r_aload_n rfl rfl ?_
      refine r_iload_n rfl rfl ?_
      refine s_virI [.int (nI q)] [.int (nI (t * x / v + tb c))] rfl lkX6_66 rfl rfl rfl (c_due_A hq hx hb ht htb hs hvb) rfl rfl (Nat.le_refl _) (Nat.le_refl _) rfl (rI (e1 := nI (t * x / v)) rfl ?_)
      refine n_isub rfl (by omega) ?_
      refine r_goto (tgt := 24) rfl rfl ?_
      exact r_top (by rw [Nat.add_sub_cancel_left]) K
  exact s_ret (st := []) rfl rfl rfl (Nat.zero_le _) (Nat.zero_le _) (pI rfl rfl)

theorem c_fromFund_A {z : SZ} {sc : SC} {σ : SS} {q x : Nat} {a b : Int32} (hq : q < 12) (hx : σ.1 32 q = nI x) (hb : x < 2147483648) (hp : σ.1 33 q = a) (hg : σ.1 31 q = b) : Cs z sc mX6_fromFund 0 0 [.ref 30, .int (nI q)] σ (PI (if 0 < x then a - b else 0) σ) := by
  refine Cs.of gmX6_fromFund (Nat.le_of_ble_eq_true rfl) ?_
  show Ws z sc mX6_fromFund 0 0 0 0 0 [(0, .ref 30), (1, .int (nI q))] [] (mz σ [] []) (PI (if 0 < x then a - b else 0) σ)
  have hd := tb_le (decide (0 < x))
  refine r_aload_n rfl rfl ?_
  refine r_iload_n rfl rfl ?_
  refine s_virI [.int (nI q)] [] rfl lkX6_58 rfl rfl rfl (c_isIn_A hq hx hb) rfl rfl (Nat.le_refl _) (Nat.le_refl _) rfl (rI (e1 := nI (tb (decide (0 < x)))) rfl ?_)
  suffices K : Ws z sc mX6_fromFund 0 0 0 0 25 [(0, .ref 30), (1, .int (nI q))] [.int (if 0 < x then a - b else 0)] (mz σ [] []) (PI (if 0 < x then a - b else 0) σ) by
    refine n_if_eq (tgt := 24) rfl rfl (by omega) (fun h => ?_) (fun h => ?_)
    · refine n_iconst 0 rfl ?_
      exact r_top (by rw [if_neg (of_decide_eq_false (tb_z h))]; rfl) K
    · refine r_aload_n rfl rfl ?_
      refine s_getR (r := 33) rfl flX6_28 rfl rfl ?_
      refine r_iload_n rfl rfl ?_
      refine s_iald (x := a) rfl rfl (by omega) hp ?_
      refine r_aload_n rfl rfl ?_
      refine s_getR (r := 31) rfl flX6_21 rfl rfl ?_
      refine r_iload_n rfl rfl ?_
      refine s_iald (x := b) rfl rfl (by omega) hg ?_
      refine r_isub rfl ?_
      refine r_goto (tgt := 25) rfl rfl ?_
      exact r_top (by rw [if_pos (of_decide_eq_true (tb_ne h))]) K
  exact s_ret (st := []) rfl rfl rfl (Nat.zero_le _) (Nat.zero_le _) (pI rfl rfl)

theorem c_reckon_A {z : SZ} {sc : SC} {σ : SS} {F : Nat} {G w : Nat → Nat} (hW : ∀ i, i < 12 → σ.1 32 i = nI (w i)) (hwb : ∀ i, i < 12 → w i ≤ 4096) (hG : ∀ i, i < 12 → σ.1 31 i = nI (G i)) (hGb : ∀ i, i < 12 → G i ≤ 89999991) : Cs z sc mX6_reckon 0 0 [.ref 30, .int (nI F)] σ (RV fun σ' => ∃ f, σ' = mz σ [(30, f)] [] ∧ f 0 = σ.1 30 0 ∧ f 1 = nI (pt F G w) ∧ f 2 = nI (sm w 12)) := by
  refine Cs.of gmX6_reckon (Nat.le_of_ble_eq_true rfl) ?_
  show Ws z sc mX6_reckon 0 0 0 0 0 [(0, .ref 30), (1, .int (nI F))] [] (mz σ [] []) (RV fun σ' => ∃ f, σ' = mz σ [(30, f)] [] ∧ f 0 = σ.1 30 0 ∧ f 1 = nI (pt F G w) ∧ f 2 = nI (sm w 12))
  have hsw := sm_w hwb
  refine r_aload_n rfl rfl ?_
  refine r_iload_n rfl rfl ?_
  refine m_putI (L' := [(30, (aup (σ.1 30) 1 (nI F)))]) rfl flX6_15 rfl rfl (okv_i _) rfl ?_
  refine r_aload_n rfl rfl ?_
  refine r_aload_n rfl rfl ?_
  refine s_getR (r := 32) rfl flX6_25 rfl rfl ?_
  refine s_staNI [.ref 32] [.ref 30] rfl lkX6_69 (c_sumOf_32 hW) rfl rfl (Nat.le_refl _) (Nat.le_refl _) (rI (e1 := nI (sm w 12)) rfl ?_)
  refine m_putI (L' := [(30, (aup (aup (σ.1 30) 1 (nI F)) 2 (nI (sm w 12))))]) rfl flX6_18 rfl rfl (okv_i _) rfl ?_
  refine n_iconst 0 rfl ?_
  refine r_istore_n (lv' := [(2, .int (nI 0)), (0, .ref 30), (1, .int (nI F))]) rfl rfl (Nat.le_of_ble_eq_true rfl) rfl ?_
  refine r_lv (lv' := [(2, .int (nI 0)), (0, .ref 30), (1, .int (nI F))]) [0, 1, 2] rfl ?_
  have loop : ∀ (m9 : Nat) (i : Nat) (f : Nat → Int32), 12 - i < m9 → (i ≤ 12) → (f 0 = σ.1 30 0) → (f 1 = nI (F + sm (fun p => if 0 < w p then G p else 0) i)) → (f 2 = nI (sm w 12)) → Ws z sc mX6_reckon 0 0 0 0 18 [(2, .int (nI i)), (0, .ref 30), (1, .int (nI F))] [] (mz σ [(30, f)] []) (RV fun σ' => ∃ f, σ' = mz σ [(30, f)] [] ∧ f 0 = σ.1 30 0 ∧ f 1 = nI (pt F G w) ∧ f 2 = nI (sm w 12)) := by
    intro m9
    induction m9 with
    | zero => intro i f hme; exact absurd hme (Nat.not_lt_zero _)
    | succ m9 ih =>
      intro i f hme hi h0 h1 h2
      refine r_iload_n rfl rfl ?_
      refine n_bipush 12 rfl (by decide) ?_
      refine n_icmp_ge (tgt := 53) rfl rfl (by omega) (by omega) (fun hh => ?_) (fun hh => ?_)
      · exact s_vret (st := []) rfl rfl (Nat.zero_le _) (Nat.zero_le _) (⟨rfl, f, rfl, h0, by rw [h1, show i = 12 by omega]; rfl, h2⟩)
      · have hwi := hwb i (by omega)
        have hd := tb_le (decide (0 < w i))
        refine r_aload_n rfl rfl ?_
        refine r_iload_n rfl rfl ?_
        refine s_virI [.int (nI i)] [] rfl lkX6_58 rfl rfl rfl (c_isIn_A (by omega) (hW i (by omega)) (by omega)) rfl rfl (Nat.le_refl _) (Nat.le_refl _) rfl (rI (e1 := nI (tb (decide (0 < w i)))) rfl ?_)
        refine n_if_eq (tgt := 47) rfl rfl (by omega) (fun h => ?_) (fun h => ?_)
        · refine n_iinc (lv' := [(2, .int (nI (i + 1))), (0, .ref 30), (1, .int (nI F))]) 1 rfl rfl (Nat.le_of_ble_eq_true rfl) rfl ?_
          refine r_goto (tgt := 18) rfl rfl ?_
          refine r_lv (lv' := [(2, .int (nI (i + 1))), (0, .ref 30), (1, .int (nI F))]) [0, 1, 2] rfl ?_
          exact ih (i + 1) f (by omega) (by omega) h0 (by rw [h1]; show _ = nI (F + (sm (fun p => if 0 < w p then G p else 0) i + (if 0 < w i then G i else 0))); rw [if_neg (of_decide_eq_false (tb_z h)), Nat.add_zero]) h2
        · refine r_aload_n rfl rfl ?_
          refine r_dup rfl rfl ?_
          refine s_getI (x := nI (F + sm (fun p => if 0 < w p then G p else 0) i)) rfl flX6_15 rfl rfl h1 ?_
          refine r_aload_n rfl rfl ?_
          refine s_getR (r := 31) rfl flX6_21 rfl rfl ?_
          refine r_iload_n rfl rfl ?_
          refine s_iald (x := nI (G i)) rfl rfl (by omega) (hG _ (by omega)) ?_
          refine n_iadd rfl ?_
          refine m_putI (L' := [(30, (aup f 1 (nI ((F + sm (fun p => if 0 < w p then G p else 0) i) + (G i)))))]) rfl flX6_15 rfl rfl (okv_i _) rfl ?_
          refine n_iinc (lv' := [(2, .int (nI (i + 1))), (0, .ref 30), (1, .int (nI F))]) 1 rfl rfl (Nat.le_of_ble_eq_true rfl) rfl ?_
          refine r_goto (tgt := 18) rfl rfl ?_
          refine r_lv (lv' := [(2, .int (nI (i + 1))), (0, .ref 30), (1, .int (nI F))]) [0, 1, 2] rfl ?_
          exact ih (i + 1) _ (by omega) (by omega) h0 (by show nI _ = nI (F + (sm (fun p => if 0 < w p then G p else 0) i + (if 0 < w i then G i else 0))); rw [if_pos (of_decide_eq_true (tb_ne h)), Nat.add_assoc]) h2
  exact loop 13 0 _ (by omega) (by omega) rfl rfl rfl

theorem c_over_A {z : SZ} {sc : SC} {σ : SS} {F : Nat} {G w : Nat → Nat} (hF : F ≤ 79999992) (hW : ∀ i, i < 12 → σ.1 32 i = nI (w i)) (hwb : ∀ i, i < 12 → w i ≤ 4096) (hG : ∀ i, i < 12 → σ.1 31 i = nI (G i)) (hGb : ∀ i, i < 12 → G i ≤ 89999991) (hP : σ.1 30 1 = nI (pt F G w)) (hS : σ.1 30 2 = nI (sm w 12)) : Cs z sc mX6_findOverpaid 0 0 [.ref 30] σ (PI (oI (ws (ov F G w) 12).1) σ) := by
  refine Cs.of gmX6_findOverpaid (Nat.le_of_ble_eq_true rfl) ?_
  show Ws z sc mX6_findOverpaid 0 0 0 0 0 [(0, .ref 30)] [] (mz σ [] []) (PI (oI (ws (ov F G w) 12).1) σ)
  have hsw := sm_w hwb
  have hpt := pt_le (F := F) (w := w) hGb
  refine n_m1 rfl ?_
  refine r_istore_n (lv' := [(1, .int ((-1))), (0, .ref 30)]) rfl rfl (Nat.le_of_ble_eq_true rfl) rfl ?_
  refine n_iconst 0 rfl ?_
  refine r_istore_n (lv' := [(2, .int (nI 0)), (1, .int ((-1))), (0, .ref 30)]) rfl rfl (Nat.le_of_ble_eq_true rfl) rfl ?_
  refine n_iconst 0 rfl ?_
  refine r_istore_n (lv' := [(3, .int (nI 0)), (2, .int (nI 0)), (1, .int ((-1))), (0, .ref 30)]) rfl rfl (Nat.le_of_ble_eq_true rfl) rfl ?_
  rw [show ((-1 : Int32)) = oI (ws (ov F G w) 0).1 from oI_0.symm]
  refine r_lv (lv' := [(3, .int (nI 0)), (0, .ref 30), (1, .int (oI ((ws (ov F G w) 0).1))), (2, .int (nI ((ws (ov F G w) 0).2)))]) [0, 3, 2, 1] rfl ?_
  have loop : ∀ (m9 : Nat) (i : Nat) , 12 - i < m9 → (i ≤ 12) → Ws z sc mX6_findOverpaid 0 0 0 0 6 [(3, .int (nI i)), (0, .ref 30), (1, .int (oI ((ws (ov F G w) i).1))), (2, .int (nI ((ws (ov F G w) i).2)))] [] (mz σ [] []) (PI (oI (ws (ov F G w) 12).1) σ) := by
    intro m9
    induction m9 with
    | zero => intro i  hme; exact absurd hme (Nat.not_lt_zero _)
    | succ m9 ih =>
      intro i  hme hi
      refine r_iload_n rfl rfl ?_
      refine n_bipush 12 rfl (by decide) ?_
      refine n_icmp_ge (tgt := 57) rfl rfl (by omega) (by omega) (fun hh => ?_) (fun hh => ?_)
      · refine r_iload_n rfl rfl ?_
        exact s_ret (st := []) rfl rfl rfl (Nat.zero_le _) (Nat.zero_le _) (pI (by rw [show i = 12 by omega]) rfl)
      · have hwi := hwb i (by omega)
        have hGi := hGb i (by omega)
        have hd := tb_le (decide (0 < w i))
        have hle := wsb (ov F G w) i (b := 89999991) (fun j hj => ovb (hGb j (by omega)))
        have hdu : pt F G w * w i / sm w 12 ≤ pt F G w := mul_div_le (sm_pos (by omega))
        refine r_aload_n rfl rfl ?_
        refine r_iload_n rfl rfl ?_
        refine s_virI [.int (nI i)] [] rfl lkX6_58 rfl rfl rfl (c_isIn_A (by omega) (hW i (by omega)) (by omega)) rfl rfl (Nat.le_refl _) (Nat.le_refl _) rfl (rI (e1 := nI (tb (decide (0 < w i)))) rfl ?_)
        refine n_if_eq (tgt := 51) rfl rfl (by omega) (fun h => ?_) (fun h => ?_)
        · refine n_iinc (lv' := [(3, .int (nI (i + 1))), (0, .ref 30), (1, .int (oI ((ws (ov F G w) i).1))), (2, .int (nI ((ws (ov F G w) i).2)))]) 1 rfl rfl (Nat.le_of_ble_eq_true rfl) rfl ?_
          refine r_goto (tgt := 6) rfl rfl ?_
          have e : ws (ov F G w) (i + 1) = ws (ov F G w) i := ws_ov0 (by have := of_decide_eq_false (tb_z h); omega)
          rw [← e]
          refine r_lv (lv' := [(3, .int (nI (i + 1))), (0, .ref 30), (1, .int (oI ((ws (ov F G w) (i + 1)).1))), (2, .int (nI ((ws (ov F G w) (i + 1)).2)))]) [0, 1, 2, 3] rfl ?_
          exact ih (i + 1) (by omega) (by omega)
        · have hp := of_decide_eq_true (tb_ne h)
          have ho : ov F G w i = G i - pt F G w * w i / sm w 12 := if_pos hp
          refine r_aload_n rfl rfl ?_
          refine s_getR (r := 31) rfl flX6_21 rfl rfl ?_
          refine r_iload_n rfl rfl ?_
          refine s_iald (x := nI (G i)) rfl rfl (by omega) (hG _ (by omega)) ?_
          refine r_aload_n rfl rfl ?_
          refine r_iload_n rfl rfl ?_
          refine s_virI [.int (nI i)] [.int (nI (G i))] rfl lkX6_66 rfl rfl rfl (c_due_A (by omega) (hW i (by omega)) (by omega) hP (by omega) hS (by omega)) rfl rfl (Nat.le_refl _) (Nat.le_refl _) rfl (rI (e1 := nI (pt F G w * w i / sm w 12)) rfl ?_)
          refine r_isub rfl ?_
          refine r_iload_n rfl rfl ?_
          refine r_icmp_le (tgt := 51) rfl rfl (fun h2 => ?_) (fun h2 => ?_)
          · refine n_iinc (lv' := [(3, .int (nI (i + 1))), (0, .ref 30), (1, .int (oI ((ws (ov F G w) i).1))), (2, .int (nI ((ws (ov F G w) i).2)))]) 1 rfl rfl (Nat.le_of_ble_eq_true rfl) rfl ?_
            refine r_goto (tgt := 6) rfl rfl ?_
            have e : ws (ov F G w) (i + 1) = ws (ov F G w) i := if_neg (fun z => by rw [ho] at z; exact absurd h2 (Int32.not_le.mpr ((sub_lt (by omega) (by omega) (by omega)).mpr z)))
            rw [← e]
            refine r_lv (lv' := [(3, .int (nI (i + 1))), (0, .ref 30), (1, .int (oI ((ws (ov F G w) (i + 1)).1))), (2, .int (nI ((ws (ov F G w) (i + 1)).2)))]) [0, 1, 2, 3] rfl ?_
            exact ih (i + 1) (by omega) (by omega)
          · have hlt : (ws (ov F G w) i).2 < ov F G w i := by rw [ho]; exact (sub_lt (by omega) (by omega) (by omega)).mp (Int32.not_le.mp h2)
            have hgt : pt F G w * w i / sm w 12 ≤ G i := by omega
            have e : ws (ov F G w) (i + 1) = (i + 1, ov F G w i) := if_pos hlt
            have e1 : oI (ws (ov F G w) (i + 1)).1 = nI i := by rw [e]; exact oI_s i
            have e2 : nI (G i - pt F G w * w i / sm w 12) = nI (ws (ov F G w) (i + 1)).2 := by rw [e, ← ho]
            refine r_iload_n rfl rfl ?_
            refine r_istore_n (lv' := [(1, .int (nI i)), (3, .int (nI i)), (0, .ref 30), (2, .int (nI ((ws (ov F G w) i).2)))]) rfl rfl (Nat.le_of_ble_eq_true rfl) rfl ?_
            refine r_aload_n rfl rfl ?_
            refine s_getR (r := 31) rfl flX6_21 rfl rfl ?_
            refine r_iload_n rfl rfl ?_
            refine s_iald (x := nI (G i)) rfl rfl (by omega) (hG _ (by omega)) ?_
            refine r_aload_n rfl rfl ?_
            refine r_iload_n rfl rfl ?_
            refine s_virI [.int (nI i)] [.int (nI (G i))] rfl lkX6_66 rfl rfl rfl (c_due_A (by omega) (hW i (by omega)) (by omega) hP (by omega) hS (by omega)) rfl rfl (Nat.le_refl _) (Nat.le_refl _) rfl (rI (e1 := nI (pt F G w * w i / sm w 12)) rfl ?_)
            refine n_isub rfl (by omega) ?_
            refine r_istore_n (lv' := [(2, .int (nI ((G i) - (pt F G w * w i / sm w 12)))), (1, .int (nI i)), (3, .int (nI i)), (0, .ref 30)]) rfl rfl (Nat.le_of_ble_eq_true rfl) rfl ?_
            refine n_iinc (lv' := [(3, .int (nI (i + 1))), (2, .int (nI ((G i) - (pt F G w * w i / sm w 12)))), (1, .int (nI i)), (0, .ref 30)]) 1 rfl rfl (Nat.le_of_ble_eq_true rfl) rfl ?_
            refine r_goto (tgt := 6) rfl rfl ?_
            refine r_lv (lv' := [(3, .int (nI (i + 1))), (0, .ref 30), (1, .int (nI i)), (2, .int (nI ((G i) - (pt F G w * w i / sm w 12))))]) [0, 3, 2, 1] rfl ?_
            have ii := ih (i + 1) (by omega) (by omega)
            rw [e1, ← e2] at ii
            exact ii
  exact loop 13 0 (by omega) (by omega)

theorem c_isIn_B {z : SZ} {sc : SC} {σ : SS} {q x : Nat} (hq : q < 12) (hx : σ.1 48 q = nI x) (hb : x < 2147483648) : Cs z sc mX6_isInAccount 0 0 [.ref 46, .int (nI q)] σ (PI (nI (tb (decide (0 < x)))) σ) := by
  refine Cs.of gmX6_isInAccount (Nat.le_of_ble_eq_true rfl) ?_
  show Ws z sc mX6_isInAccount 0 0 0 0 0 [(0, .ref 46), (1, .int (nI q))] [] (mz σ [] []) (PI (nI (tb (decide (0 < x)))) σ)
  refine r_iload_n rfl rfl ?_
  refine n_if_lt (tgt := 23) rfl rfl (by omega) (fun hq => hq.elim) (fun _ => ?_)
  refine r_iload_n rfl rfl ?_
  refine n_bipush 12 rfl (by decide) ?_
  refine n_icmp_ge (tgt := 23) rfl rfl (by omega) (by omega) (fun hq => absurd hq (by omega)) (fun _ => ?_)
  refine r_aload_n rfl rfl ?_
  refine s_getR (r := 48) rfl flX6_25 rfl rfl ?_
  refine r_iload_n rfl rfl ?_
  refine s_iald (x := nI x) rfl rfl (by omega) hx ?_
  suffices K : Ws z sc mX6_isInAccount 0 0 0 0 24 [(0, .ref 46), (1, .int (nI q))] [.int (nI (tb (decide (0 < x))))] (mz σ [] []) (PI (nI (tb (decide (0 < x)))) σ) by
    refine n_if_le (tgt := 23) rfl rfl (by omega) (fun h => ?_) (fun h => ?_)
    · refine n_iconst 0 rfl ?_
      exact r_top (by rw [h]; rfl) K
    · refine n_iconst 1 rfl ?_
      refine r_goto (tgt := 24) rfl rfl ?_
      exact r_top (by rw [decide_eq_true h]; rfl) K
  exact s_ret (st := []) rfl rfl (nar_tb _) (Nat.zero_le _) (Nat.zero_le _) (pI rfl rfl)

theorem c_due_B {z : SZ} {sc : SC} {σ : SS} {q x t v : Nat} (hq : q < 12) (hx : σ.1 48 q = nI x) (hb : x < 2147483648) (ht : σ.1 46 1 = nI t) (htb : t < 2147483648) (hs : σ.1 46 2 = nI v) (hvb : v < 2147483648) : Cs z sc mX6_due 0 0 [.ref 46, .int (nI q)] σ (PI (nI (t * x / v)) σ) := by
  refine Cs.of gmX6_due (Nat.le_of_ble_eq_true rfl) ?_
  show Ws z sc mX6_due 0 0 0 0 0 [(0, .ref 46), (1, .int (nI q))] [] (mz σ [] []) (PI (nI (t * x / v)) σ)
  have hd := tb_le (decide (0 < x))
  refine r_aload_n rfl rfl ?_
  refine r_iload_n rfl rfl ?_
  refine s_virI [.int (nI q)] [] rfl lkX6_58 rfl rfl rfl (c_isIn_B hq hx hb) rfl rfl (Nat.le_refl _) (Nat.le_refl _) rfl (rI (e1 := nI (tb (decide (0 < x)))) rfl ?_)
  suffices K : Ws z sc mX6_due 0 0 0 0 29 [(0, .ref 46), (1, .int (nI q))] [.int (nI (t * x / v))] (mz σ [] []) (PI (nI (t * x / v)) σ) by
    refine n_if_eq (tgt := 28) rfl rfl (by omega) (fun h => ?_) (fun h => ?_)
    · refine n_iconst 0 rfl ?_
      exact r_top (by rw [show x = 0 by have := of_decide_eq_false (tb_z h); omega, Nat.mul_zero, Nat.zero_div]) K
    · refine r_aload_n rfl rfl ?_
      refine s_getI (x := nI t) rfl flX6_15 rfl rfl ht ?_
      refine r_aload_n rfl rfl ?_
      refine s_getR (r := 48) rfl flX6_25 rfl rfl ?_
      refine r_iload_n rfl rfl ?_
      refine s_iald (x := nI x) rfl rfl (by omega) hx ?_
      refine r_aload_n rfl rfl ?_
      refine s_getI (x := nI v) rfl flX6_18 rfl rfl hs ?_
      refine s_staNI [.int (nI t), .int (nI x), .int (nI v)] [] rfl lkX6_62 (c_portion htb hb hvb) rfl rfl (Nat.le_refl _) (Nat.le_refl _) (rI (e1 := nI (t * x / v)) rfl ?_)
      refine r_goto (tgt := 29) rfl rfl ?_
      exact K 
  exact s_ret (st := []) rfl rfl rfl (Nat.zero_le _) (Nat.zero_le _) (pI rfl rfl)

theorem c_cent_B {z : SZ} {sc : SC} {σ : SS} {q x t v : Nat} {c : Bool} (hq : q < 12) (hx : σ.1 48 q = nI x) (hb : x < 2147483648) (ht : σ.1 46 1 = nI t) (htb : t < 2147483648) (hs : σ.1 46 2 = nI v) (hvb : v < 2147483648) (hp : σ.1 49 q = nI (t * x / v + tb c)) (hc : x = 0 → c = false) : Cs z sc mX6_cent 0 0 [.ref 46, .int (nI q)] σ (PI (nI (tb c)) σ) := by
  refine Cs.of gmX6_cent (Nat.le_of_ble_eq_true rfl) ?_
  show Ws z sc mX6_cent 0 0 0 0 0 [(0, .ref 46), (1, .int (nI q))] [] (mz σ [] []) (PI (nI (tb c)) σ)
  have hd := tb_le (decide (0 < x))
  refine r_aload_n rfl rfl ?_
  refine r_iload_n rfl rfl ?_
  refine s_virI [.int (nI q)] [] rfl lkX6_58 rfl rfl rfl (c_isIn_B hq hx hb) rfl rfl (Nat.le_refl _) (Nat.le_refl _) rfl (rI (e1 := nI (tb (decide (0 < x)))) rfl ?_)
  suffices K : Ws z sc mX6_cent 0 0 0 0 24 [(0, .ref 46), (1, .int (nI q))] [.int (nI (tb c))] (mz σ [] []) (PI (nI (tb c)) σ) by
    refine n_if_eq (tgt := 23) rfl rfl (by omega) (fun h => ?_) (fun h => ?_)
    · refine n_iconst 0 rfl ?_
      exact r_top (by rw [hc (by have := of_decide_eq_false (tb_z h); omega)]; rfl) K
    · refine r_aload_n rfl rfl ?_
      refine s_getR (r := 49) rfl flX6_28 rfl rfl ?_
      refine r_iload_n rfl rfl ?_
      refine s_iald (x := nI (t * x / v + tb c)) rfl rfl (by omega) hp ?_
      refine r_aload_n rfl rfl ?_
      refine r_iload_n rfl rfl ?_
      refine s_virI [.int (nI q)] [.int (nI (t * x / v + tb c))] rfl lkX6_66 rfl rfl rfl (c_due_B hq hx hb ht htb hs hvb) rfl rfl (Nat.le_refl _) (Nat.le_refl _) rfl (rI (e1 := nI (t * x / v)) rfl ?_)
      refine n_isub rfl (by omega) ?_
      refine r_goto (tgt := 24) rfl rfl ?_
      exact r_top (by rw [Nat.add_sub_cancel_left]) K
  exact s_ret (st := []) rfl rfl rfl (Nat.zero_le _) (Nat.zero_le _) (pI rfl rfl)

theorem c_fromFund_B {z : SZ} {sc : SC} {σ : SS} {q x : Nat} {a b : Int32} (hq : q < 12) (hx : σ.1 48 q = nI x) (hb : x < 2147483648) (hp : σ.1 49 q = a) (hg : σ.1 47 q = b) : Cs z sc mX6_fromFund 0 0 [.ref 46, .int (nI q)] σ (PI (if 0 < x then a - b else 0) σ) := by
  refine Cs.of gmX6_fromFund (Nat.le_of_ble_eq_true rfl) ?_
  show Ws z sc mX6_fromFund 0 0 0 0 0 [(0, .ref 46), (1, .int (nI q))] [] (mz σ [] []) (PI (if 0 < x then a - b else 0) σ)
  have hd := tb_le (decide (0 < x))
  refine r_aload_n rfl rfl ?_
  refine r_iload_n rfl rfl ?_
  refine s_virI [.int (nI q)] [] rfl lkX6_58 rfl rfl rfl (c_isIn_B hq hx hb) rfl rfl (Nat.le_refl _) (Nat.le_refl _) rfl (rI (e1 := nI (tb (decide (0 < x)))) rfl ?_)
  suffices K : Ws z sc mX6_fromFund 0 0 0 0 25 [(0, .ref 46), (1, .int (nI q))] [.int (if 0 < x then a - b else 0)] (mz σ [] []) (PI (if 0 < x then a - b else 0) σ) by
    refine n_if_eq (tgt := 24) rfl rfl (by omega) (fun h => ?_) (fun h => ?_)
    · refine n_iconst 0 rfl ?_
      exact r_top (by rw [if_neg (of_decide_eq_false (tb_z h))]; rfl) K
    · refine r_aload_n rfl rfl ?_
      refine s_getR (r := 49) rfl flX6_28 rfl rfl ?_
      refine r_iload_n rfl rfl ?_
      refine s_iald (x := a) rfl rfl (by omega) hp ?_
      refine r_aload_n rfl rfl ?_
      refine s_getR (r := 47) rfl flX6_21 rfl rfl ?_
      refine r_iload_n rfl rfl ?_
      refine s_iald (x := b) rfl rfl (by omega) hg ?_
      refine r_isub rfl ?_
      refine r_goto (tgt := 25) rfl rfl ?_
      exact r_top (by rw [if_pos (of_decide_eq_true (tb_ne h))]) K
  exact s_ret (st := []) rfl rfl rfl (Nat.zero_le _) (Nat.zero_le _) (pI rfl rfl)

theorem c_reckon_B {z : SZ} {sc : SC} {σ : SS} {F : Nat} {G w : Nat → Nat} (hW : ∀ i, i < 12 → σ.1 48 i = nI (w i)) (hwb : ∀ i, i < 12 → w i ≤ 4096) (hG : ∀ i, i < 12 → σ.1 47 i = nI (G i)) (hGb : ∀ i, i < 12 → G i ≤ 89999991) : Cs z sc mX6_reckon 0 0 [.ref 46, .int (nI F)] σ (RV fun σ' => ∃ f, σ' = mz σ [(46, f)] [] ∧ f 0 = σ.1 46 0 ∧ f 1 = nI (pt F G w) ∧ f 2 = nI (sm w 12)) := by
  refine Cs.of gmX6_reckon (Nat.le_of_ble_eq_true rfl) ?_
  show Ws z sc mX6_reckon 0 0 0 0 0 [(0, .ref 46), (1, .int (nI F))] [] (mz σ [] []) (RV fun σ' => ∃ f, σ' = mz σ [(46, f)] [] ∧ f 0 = σ.1 46 0 ∧ f 1 = nI (pt F G w) ∧ f 2 = nI (sm w 12))
  have hsw := sm_w hwb
  refine r_aload_n rfl rfl ?_
  refine r_iload_n rfl rfl ?_
  refine m_putI (L' := [(46, (aup (σ.1 46) 1 (nI F)))]) rfl flX6_15 rfl rfl (okv_i _) rfl ?_
  refine r_aload_n rfl rfl ?_
  refine r_aload_n rfl rfl ?_
  refine s_getR (r := 48) rfl flX6_25 rfl rfl ?_
  refine s_staNI [.ref 48] [.ref 46] rfl lkX6_69 (c_sumOf_48 hW) rfl rfl (Nat.le_refl _) (Nat.le_refl _) (rI (e1 := nI (sm w 12)) rfl ?_)
  refine m_putI (L' := [(46, (aup (aup (σ.1 46) 1 (nI F)) 2 (nI (sm w 12))))]) rfl flX6_18 rfl rfl (okv_i _) rfl ?_
  refine n_iconst 0 rfl ?_
  refine r_istore_n (lv' := [(2, .int (nI 0)), (0, .ref 46), (1, .int (nI F))]) rfl rfl (Nat.le_of_ble_eq_true rfl) rfl ?_
  refine r_lv (lv' := [(2, .int (nI 0)), (0, .ref 46), (1, .int (nI F))]) [0, 1, 2] rfl ?_
  have loop : ∀ (m9 : Nat) (i : Nat) (f : Nat → Int32), 12 - i < m9 → (i ≤ 12) → (f 0 = σ.1 46 0) → (f 1 = nI (F + sm (fun p => if 0 < w p then G p else 0) i)) → (f 2 = nI (sm w 12)) → Ws z sc mX6_reckon 0 0 0 0 18 [(2, .int (nI i)), (0, .ref 46), (1, .int (nI F))] [] (mz σ [(46, f)] []) (RV fun σ' => ∃ f, σ' = mz σ [(46, f)] [] ∧ f 0 = σ.1 46 0 ∧ f 1 = nI (pt F G w) ∧ f 2 = nI (sm w 12)) := by
    intro m9
    induction m9 with
    | zero => intro i f hme; exact absurd hme (Nat.not_lt_zero _)
    | succ m9 ih =>
      intro i f hme hi h0 h1 h2
      refine r_iload_n rfl rfl ?_
      refine n_bipush 12 rfl (by decide) ?_
      refine n_icmp_ge (tgt := 53) rfl rfl (by omega) (by omega) (fun hh => ?_) (fun hh => ?_)
      · exact s_vret (st := []) rfl rfl (Nat.zero_le _) (Nat.zero_le _) (⟨rfl, f, rfl, h0, by rw [h1, show i = 12 by omega]; rfl, h2⟩)
      · have hwi := hwb i (by omega)
        have hd := tb_le (decide (0 < w i))
        refine r_aload_n rfl rfl ?_
        refine r_iload_n rfl rfl ?_
        refine s_virI [.int (nI i)] [] rfl lkX6_58 rfl rfl rfl (c_isIn_B (by omega) (hW i (by omega)) (by omega)) rfl rfl (Nat.le_refl _) (Nat.le_refl _) rfl (rI (e1 := nI (tb (decide (0 < w i)))) rfl ?_)
        refine n_if_eq (tgt := 47) rfl rfl (by omega) (fun h => ?_) (fun h => ?_)
        · refine n_iinc (lv' := [(2, .int (nI (i + 1))), (0, .ref 46), (1, .int (nI F))]) 1 rfl rfl (Nat.le_of_ble_eq_true rfl) rfl ?_
          refine r_goto (tgt := 18) rfl rfl ?_
          refine r_lv (lv' := [(2, .int (nI (i + 1))), (0, .ref 46), (1, .int (nI F))]) [0, 1, 2] rfl ?_
          exact ih (i + 1) f (by omega) (by omega) h0 (by rw [h1]; show _ = nI (F + (sm (fun p => if 0 < w p then G p else 0) i + (if 0 < w i then G i else 0))); rw [if_neg (of_decide_eq_false (tb_z h)), Nat.add_zero]) h2
        · refine r_aload_n rfl rfl ?_
          refine r_dup rfl rfl ?_
          refine s_getI (x := nI (F + sm (fun p => if 0 < w p then G p else 0) i)) rfl flX6_15 rfl rfl h1 ?_
          refine r_aload_n rfl rfl ?_
          refine s_getR (r := 47) rfl flX6_21 rfl rfl ?_
          refine r_iload_n rfl rfl ?_
          refine s_iald (x := nI (G i)) rfl rfl (by omega) (hG _ (by omega)) ?_
          refine n_iadd rfl ?_
          refine m_putI (L' := [(46, (aup f 1 (nI ((F + sm (fun p => if 0 < w p then G p else 0) i) + (G i)))))]) rfl flX6_15 rfl rfl (okv_i _) rfl ?_
          refine n_iinc (lv' := [(2, .int (nI (i + 1))), (0, .ref 46), (1, .int (nI F))]) 1 rfl rfl (Nat.le_of_ble_eq_true rfl) rfl ?_
          refine r_goto (tgt := 18) rfl rfl ?_
          refine r_lv (lv' := [(2, .int (nI (i + 1))), (0, .ref 46), (1, .int (nI F))]) [0, 1, 2] rfl ?_
          exact ih (i + 1) _ (by omega) (by omega) h0 (by show nI _ = nI (F + (sm (fun p => if 0 < w p then G p else 0) i + (if 0 < w i then G i else 0))); rw [if_pos (of_decide_eq_true (tb_ne h)), Nat.add_assoc]) h2
  exact loop 13 0 _ (by omega) (by omega) rfl rfl rfl

theorem c_over_B {z : SZ} {sc : SC} {σ : SS} {F : Nat} {G w : Nat → Nat} (hF : F ≤ 79999992) (hW : ∀ i, i < 12 → σ.1 48 i = nI (w i)) (hwb : ∀ i, i < 12 → w i ≤ 4096) (hG : ∀ i, i < 12 → σ.1 47 i = nI (G i)) (hGb : ∀ i, i < 12 → G i ≤ 89999991) (hP : σ.1 46 1 = nI (pt F G w)) (hS : σ.1 46 2 = nI (sm w 12)) : Cs z sc mX6_findOverpaid 0 0 [.ref 46] σ (PI (oI (ws (ov F G w) 12).1) σ) := by
  refine Cs.of gmX6_findOverpaid (Nat.le_of_ble_eq_true rfl) ?_
  show Ws z sc mX6_findOverpaid 0 0 0 0 0 [(0, .ref 46)] [] (mz σ [] []) (PI (oI (ws (ov F G w) 12).1) σ)
  have hsw := sm_w hwb
  have hpt := pt_le (F := F) (w := w) hGb
  refine n_m1 rfl ?_
  refine r_istore_n (lv' := [(1, .int ((-1))), (0, .ref 46)]) rfl rfl (Nat.le_of_ble_eq_true rfl) rfl ?_
  refine n_iconst 0 rfl ?_
  refine r_istore_n (lv' := [(2, .int (nI 0)), (1, .int ((-1))), (0, .ref 46)]) rfl rfl (Nat.le_of_ble_eq_true rfl) rfl ?_
  refine n_iconst 0 rfl ?_
  refine r_istore_n (lv' := [(3, .int (nI 0)), (2, .int (nI 0)), (1, .int ((-1))), (0, .ref 46)]) rfl rfl (Nat.le_of_ble_eq_true rfl) rfl ?_
  rw [show ((-1 : Int32)) = oI (ws (ov F G w) 0).1 from oI_0.symm]
  refine r_lv (lv' := [(3, .int (nI 0)), (0, .ref 46), (1, .int (oI ((ws (ov F G w) 0).1))), (2, .int (nI ((ws (ov F G w) 0).2)))]) [0, 3, 2, 1] rfl ?_
  have loop : ∀ (m9 : Nat) (i : Nat) , 12 - i < m9 → (i ≤ 12) → Ws z sc mX6_findOverpaid 0 0 0 0 6 [(3, .int (nI i)), (0, .ref 46), (1, .int (oI ((ws (ov F G w) i).1))), (2, .int (nI ((ws (ov F G w) i).2)))] [] (mz σ [] []) (PI (oI (ws (ov F G w) 12).1) σ) := by
    intro m9
    induction m9 with
    | zero => intro i  hme; exact absurd hme (Nat.not_lt_zero _)
    | succ m9 ih =>
      intro i  hme hi
      refine r_iload_n rfl rfl ?_
      refine n_bipush 12 rfl (by decide) ?_
      refine n_icmp_ge (tgt := 57) rfl rfl (by omega) (by omega) (fun hh => ?_) (fun hh => ?_)
      · refine r_iload_n rfl rfl ?_
        exact s_ret (st := []) rfl rfl rfl (Nat.zero_le _) (Nat.zero_le _) (pI (by rw [show i = 12 by omega]) rfl)
      · have hwi := hwb i (by omega)
        have hGi := hGb i (by omega)
        have hd := tb_le (decide (0 < w i))
        have hle := wsb (ov F G w) i (b := 89999991) (fun j hj => ovb (hGb j (by omega)))
        have hdu : pt F G w * w i / sm w 12 ≤ pt F G w := mul_div_le (sm_pos (by omega))
        refine r_aload_n rfl rfl ?_
        refine r_iload_n rfl rfl ?_
        refine s_virI [.int (nI i)] [] rfl lkX6_58 rfl rfl rfl (c_isIn_B (by omega) (hW i (by omega)) (by omega)) rfl rfl (Nat.le_refl _) (Nat.le_refl _) rfl (rI (e1 := nI (tb (decide (0 < w i)))) rfl ?_)
        refine n_if_eq (tgt := 51) rfl rfl (by omega) (fun h => ?_) (fun h => ?_)
        · refine n_iinc (lv' := [(3, .int (nI (i + 1))), (0, .ref 46), (1, .int (oI ((ws (ov F G w) i).1))), (2, .int (nI ((ws (ov F G w) i).2)))]) 1 rfl rfl (Nat.le_of_ble_eq_true rfl) rfl ?_
          refine r_goto (tgt := 6) rfl rfl ?_
          have e : ws (ov F G w) (i + 1) = ws (ov F G w) i := ws_ov0 (by have := of_decide_eq_false (tb_z h); omega)
          rw [← e]
          refine r_lv (lv' := [(3, .int (nI (i + 1))), (0, .ref 46), (1, .int (oI ((ws (ov F G w) (i + 1)).1))), (2, .int (nI ((ws (ov F G w) (i + 1)).2)))]) [0, 1, 2, 3] rfl ?_
          exact ih (i + 1) (by omega) (by omega)
        · have hp := of_decide_eq_true (tb_ne h)
          have ho : ov F G w i = G i - pt F G w * w i / sm w 12 := if_pos hp
          refine r_aload_n rfl rfl ?_
          refine s_getR (r := 47) rfl flX6_21 rfl rfl ?_
          refine r_iload_n rfl rfl ?_
          refine s_iald (x := nI (G i)) rfl rfl (by omega) (hG _ (by omega)) ?_
          refine r_aload_n rfl rfl ?_
          refine r_iload_n rfl rfl ?_
          refine s_virI [.int (nI i)] [.int (nI (G i))] rfl lkX6_66 rfl rfl rfl (c_due_B (by omega) (hW i (by omega)) (by omega) hP (by omega) hS (by omega)) rfl rfl (Nat.le_refl _) (Nat.le_refl _) rfl (rI (e1 := nI (pt F G w * w i / sm w 12)) rfl ?_)
          refine r_isub rfl ?_
          refine r_iload_n rfl rfl ?_
          refine r_icmp_le (tgt := 51) rfl rfl (fun h2 => ?_) (fun h2 => ?_)
          · refine n_iinc (lv' := [(3, .int (nI (i + 1))), (0, .ref 46), (1, .int (oI ((ws (ov F G w) i).1))), (2, .int (nI ((ws (ov F G w) i).2)))]) 1 rfl rfl (Nat.le_of_ble_eq_true rfl) rfl ?_
            refine r_goto (tgt := 6) rfl rfl ?_
            have e : ws (ov F G w) (i + 1) = ws (ov F G w) i := if_neg (fun z => by rw [ho] at z; exact absurd h2 (Int32.not_le.mpr ((sub_lt (by omega) (by omega) (by omega)).mpr z)))
            rw [← e]
            refine r_lv (lv' := [(3, .int (nI (i + 1))), (0, .ref 46), (1, .int (oI ((ws (ov F G w) (i + 1)).1))), (2, .int (nI ((ws (ov F G w) (i + 1)).2)))]) [0, 1, 2, 3] rfl ?_
            exact ih (i + 1) (by omega) (by omega)
          · have hlt : (ws (ov F G w) i).2 < ov F G w i := by rw [ho]; exact (sub_lt (by omega) (by omega) (by omega)).mp (Int32.not_le.mp h2)
            have hgt : pt F G w * w i / sm w 12 ≤ G i := by omega
            have e : ws (ov F G w) (i + 1) = (i + 1, ov F G w i) := if_pos hlt
            have e1 : oI (ws (ov F G w) (i + 1)).1 = nI i := by rw [e]; exact oI_s i
            have e2 : nI (G i - pt F G w * w i / sm w 12) = nI (ws (ov F G w) (i + 1)).2 := by rw [e, ← ho]
            refine r_iload_n rfl rfl ?_
            refine r_istore_n (lv' := [(1, .int (nI i)), (3, .int (nI i)), (0, .ref 46), (2, .int (nI ((ws (ov F G w) i).2)))]) rfl rfl (Nat.le_of_ble_eq_true rfl) rfl ?_
            refine r_aload_n rfl rfl ?_
            refine s_getR (r := 47) rfl flX6_21 rfl rfl ?_
            refine r_iload_n rfl rfl ?_
            refine s_iald (x := nI (G i)) rfl rfl (by omega) (hG _ (by omega)) ?_
            refine r_aload_n rfl rfl ?_
            refine r_iload_n rfl rfl ?_
            refine s_virI [.int (nI i)] [.int (nI (G i))] rfl lkX6_66 rfl rfl rfl (c_due_B (by omega) (hW i (by omega)) (by omega) hP (by omega) hS (by omega)) rfl rfl (Nat.le_refl _) (Nat.le_refl _) rfl (rI (e1 := nI (pt F G w * w i / sm w 12)) rfl ?_)
            refine n_isub rfl (by omega) ?_
            refine r_istore_n (lv' := [(2, .int (nI ((G i) - (pt F G w * w i / sm w 12)))), (1, .int (nI i)), (3, .int (nI i)), (0, .ref 46)]) rfl rfl (Nat.le_of_ble_eq_true rfl) rfl ?_
            refine n_iinc (lv' := [(3, .int (nI (i + 1))), (2, .int (nI ((G i) - (pt F G w * w i / sm w 12)))), (1, .int (nI i)), (0, .ref 46)]) 1 rfl rfl (Nat.le_of_ble_eq_true rfl) rfl ?_
            refine r_goto (tgt := 6) rfl rfl ?_
            refine r_lv (lv' := [(3, .int (nI (i + 1))), (0, .ref 46), (1, .int (nI i)), (2, .int (nI ((G i) - (pt F G w * w i / sm w 12))))]) [0, 3, 2, 1] rfl ?_
            have ii := ih (i + 1) (by omega) (by omega)
            rw [e1, ← e2] at ii
            exact ii
  exact loop 13 0 (by omega) (by omega)

theorem c_divide_AA {z : SZ} {sc : SC} {σ : SS} {F : Nat} {G w : Nat → Nat} (hF : F ≤ 79999992) (hW : ∀ i, i < 12 → σ.1 29 i = nI (w i)) (hwb : ∀ i, i < 12 → w i ≤ 4096) (hG : ∀ i, i < 12 → σ.1 31 i = nI (G i)) (hGb : ∀ i, i < 12 → G i ≤ 89999991) : Cs z sc mX6_divide 0 0 [.ref 30, .int (nI F), .ref 26] σ (RV fun σ' => ∃ f1 f2 f3, σ' = mz σ [(30, f1), (32, f2), (33, f3)] [] ∧ (f1 0 = nI (mk (ot F G w 12) 12) ∧ f1 1 = nI (pt F G (wf F G w)) ∧ f1 2 = nI (sm (wf F G w) 12)) ∧ (∀ i, i < 12 → f2 i = nI (wf F G w i)) ∧ ∀ i, i < 12 → f3 i = nI (sp (pt F G (wf F G w)) (sm (wf F G w) 12) (wf F G w) 12 i)) := by
  refine Cs.of gmX6_divide (Nat.le_of_ble_eq_true rfl) ?_
  show Ws z sc mX6_divide 0 0 0 0 0 [(0, .ref 30), (1, .int (nI F)), (2, .ref 26)] [] (mz σ [] []) (RV fun σ' => ∃ f1 f2 f3, σ' = mz σ [(30, f1), (32, f2), (33, f3)] [] ∧ (f1 0 = nI (mk (ot F G w 12) 12) ∧ f1 1 = nI (pt F G (wf F G w)) ∧ f1 2 = nI (sm (wf F G w) 12)) ∧ (∀ i, i < 12 → f2 i = nI (wf F G w i)) ∧ ∀ i, i < 12 → f3 i = nI (sp (pt F G (wf F G w)) (sm (wf F G w) 12) (wf F G w) 12 i))
  refine r_aload_n rfl rfl ?_
  refine n_iconst 0 rfl ?_
  refine m_putI (L' := [(30, (aup (σ.1 30) 0 (nI 0)))]) rfl flX6_9 rfl rfl (okv_i _) rfl ?_
  refine r_aload_n rfl rfl ?_
  refine s_getR (r := 29) rfl flX6_37 rfl rfl ?_
  refine n_iconst 0 rfl ?_
  refine r_aload_n rfl rfl ?_
  refine s_getR (r := 32) rfl flX6_25 rfl rfl ?_
  refine n_iconst 0 rfl ?_
  refine n_bipush 12 rfl (by decide) ?_
  refine m_cpyi (L' := [(30, (aup (σ.1 30) 0 (nI 0))), (32, (va_cpy (σ.1 29) (σ.1 32) 0 0 12))]) rfl syX6_40 rfl rfl (by omega) (by omega) rfl rfl rfl ?_
  refine r_aload_n rfl rfl ?_
  refine r_iload_n rfl rfl ?_
  have hW0 : ∀ i, i < 12 → va_cpy (σ.1 29) (σ.1 32) 0 0 12 i = nI (lo F G w 0 i) := fun i hi => by rw [cpy_0 _ _ hi]; exact hW i hi
  have hlb : ∀ k i, i < 12 → lo F G w k i ≤ 4096 := fun k i hi => Nat.le_trans lo_lw (hwb i hi)
  refine s_virV [.int (nI F)] [] rfl lkX6_46 rfl rfl rfl (c_reckon_A (w := lo F G w 0) hW0 (hlb 0) hG hGb) rfl rfl (Nat.le_refl _) (Nat.le_refl _) rfl ?_
  rintro _ ⟨g1, rfl, g10, g11, g12⟩
  refine m_mz (L' := [(30, g1), (32, (va_cpy (σ.1 29) (σ.1 32) 0 0 12))]) (M' := []) rfl rfl ?_
  refine r_aload_n rfl rfl ?_
  refine s_virI [] [] rfl lkX6_50 rfl rfl rfl (c_over_A hF hW0 (hlb 0) hG hGb g11 g12) rfl rfl (Nat.le_refl _) (Nat.le_refl _) rfl (rI (e1 := oI ((ws (ov F G (lo F G w 0)) 12).1)) rfl ?_)
  refine r_istore_n (lv' := [(3, .int (oI ((ws (ov F G (lo F G w 0)) 12).1))), (0, .ref 30), (1, .int (nI F)), (2, .ref 26)]) rfl rfl (Nat.le_of_ble_eq_true rfl) rfl ?_
  refine n_iconst 0 rfl ?_
  refine r_istore (lv' := [(4, .int (nI 0)), (3, .int (oI ((ws (ov F G (lo F G w 0)) 12).1))), (0, .ref 30), (1, .int (nI F)), (2, .ref 26)]) rfl (Nat.le_of_ble_eq_true rfl) rfl ?_
  refine r_lv (lv' := [(4, .int (nI 0)), (0, .ref 30), (1, .int (nI F)), (2, .ref 26), (3, .int (oI ((ws (ov F G (lo F G w 0)) 12).1)))]) [0, 2, 3, 4, 1] rfl ?_
  have loop : ∀ (m9 : Nat) (k : Nat) (f1 f2 : Nat → Int32), 12 - k < m9 → (k ≤ 12) → (f1 0 = nI (mk (ot F G w k) 12)) → (f1 1 = nI (pt F G (lo F G w k))) → (f1 2 = nI (sm (lo F G w k) 12)) → (∀ i, i < 12 → f2 i = nI (lo F G w k i)) → Ws z sc mX6_divide 0 0 0 0 33 [(4, .int (nI k)), (0, .ref 30), (1, .int (nI F)), (2, .ref 26), (3, .int (oI ((ws (ov F G (lo F G w k)) 12).1)))] [] (mz σ [(30, f1), (32, f2)] []) (RV fun σ' => ∃ f1 f2 f3, σ' = mz σ [(30, f1), (32, f2), (33, f3)] [] ∧ (f1 0 = nI (mk (ot F G w 12) 12) ∧ f1 1 = nI (pt F G (wf F G w)) ∧ f1 2 = nI (sm (wf F G w) 12)) ∧ (∀ i, i < 12 → f2 i = nI (wf F G w i)) ∧ ∀ i, i < 12 → f3 i = nI (sp (pt F G (wf F G w)) (sm (wf F G w) 12) (wf F G w) 12 i)) := by
    intro m9
    induction m9 with
    | zero => intro k f1 f2 hme; exact absurd hme (Nat.not_lt_zero _)
    | succ m9 ih =>
      intro k f1 f2 hme hk h0 h1 h2 hf2
      have hws := ws_le (ov F G (lo F G w k)) 12
      have hpt := pt_le (F := F) (w := lo F G w k) hGb
      have hsw := sm_w (hlb k)
      refine r_iload rfl rfl ?_
      refine n_bipush 12 rfl (by decide) ?_
      refine n_icmp_ge (tgt := 85) rfl rfl (by omega) (by omega) (fun hh => ?_) (fun hh => ?_)
      · have e9 : wf F G w = lo F G w k := by rw [show k = 12 by omega]; rfl
        have eo : ∀ i, i < 12 → ot F G w 12 i = ot F G w k i := fun i _ => by unfold ot; rw [← e9]; rfl
        refine r_aload_n rfl rfl ?_
        refine s_getI (x := nI (pt F G (lo F G w k))) rfl flX6_15 rfl rfl h1 ?_
        refine r_aload_n rfl rfl ?_
        refine s_getR (r := 32) rfl flX6_25 rfl rfl ?_
        refine r_aload_n rfl rfl ?_
        refine s_getR (r := 33) rfl flX6_28 rfl rfl ?_
        refine s_staNV [.int (nI (pt F G (lo F G w k))), .ref 32, .ref 33] [] rfl lkX6_54 (c_split_32_33 (by omega) hf2 (by omega)) rfl rfl (Nat.le_refl _) (Nat.le_refl _) ?_
        rintro _ ⟨f3, rfl, hf3⟩
        refine m_mz (L' := [(30, f1), (32, f2), (33, f3)]) (M' := []) rfl rfl ?_
        exact s_vret (st := []) rfl rfl (Nat.zero_le _) (Nat.zero_le _) (⟨rfl, f1, f2, f3, rfl, ⟨by rw [h0, mk_cg eo], by rw [h1, e9], by rw [h2, e9]⟩, fun i hi => by rw [hf2 i hi, e9], fun i hi => by rw [hf3 i hi, e9]⟩)
      · refine r_iload_n rfl rfl ?_
        cases hj : (ws (ov F G (lo F G w k)) 12).1 with
        | zero =>
          refine r_if_lt (tgt := 85) rfl rfl (fun _ => ?_) (fun hq => absurd hq (fun z => z (by decide)))
          have e9 : wf F G w = lo F G w k := ot_fix hk hj
          have eo : ∀ i, i < 12 → ot F G w 12 i = ot F G w k i := fun i _ => by unfold ot; rw [← e9]; rfl
          refine r_aload_n rfl rfl ?_
          refine s_getI (x := nI (pt F G (lo F G w k))) rfl flX6_15 rfl rfl h1 ?_
          refine r_aload_n rfl rfl ?_
          refine s_getR (r := 32) rfl flX6_25 rfl rfl ?_
          refine r_aload_n rfl rfl ?_
          refine s_getR (r := 33) rfl flX6_28 rfl rfl ?_
          refine s_staNV [.int (nI (pt F G (lo F G w k))), .ref 32, .ref 33] [] rfl lkX6_54 (c_split_32_33 (by omega) hf2 (by omega)) rfl rfl (Nat.le_refl _) (Nat.le_refl _) ?_
          rintro _ ⟨f3, rfl, hf3⟩
          refine m_mz (L' := [(30, f1), (32, f2), (33, f3)]) (M' := []) rfl rfl ?_
          exact s_vret (st := []) rfl rfl (Nat.zero_le _) (Nat.zero_le _) (⟨rfl, f1, f2, f3, rfl, ⟨by rw [h0, mk_cg eo], by rw [h1, e9], by rw [h2, e9]⟩, fun i hi => by rw [hf2 i hi, e9], fun i hi => by rw [hf3 i hi, e9]⟩)
        | succ j =>
          have hj9 := (ws_sp (ov F G (lo F G w k)) 12).2.2 j hj
          rw [oI_s]
          refine n_if_lt (tgt := 85) rfl rfl (by omega) (fun hq => hq.elim) (fun _ => ?_)
          refine r_iload_n rfl rfl ?_
          refine n_bipush 12 rfl (by decide) ?_
          refine n_icmp_ge (tgt := 85) rfl rfl (by omega) (by omega) (fun hq => absurd hq (by omega)) (fun _ => ?_)
          refine r_aload_n rfl rfl ?_
          refine r_dup rfl rfl ?_
          refine s_getI (x := nI (mk (ot F G w k) 12)) rfl flX6_9 rfl rfl h0 ?_
          refine n_iconst 1 rfl ?_
          refine r_iload_n rfl rfl ?_
          refine r_ishl rfl ?_
          refine r_ior rfl ?_
          refine r_top (y := nI (mk (ot F G w (k + 1)) 12)) (mk_ior (q := j) hj9.1 (ot_s hj)) ?_
          refine m_putI (L' := [(30, (aup f1 0 (nI (mk (ot F G w (k + 1)) 12)))), (32, f2)]) rfl flX6_9 rfl rfl (okv_i _) rfl ?_
          refine r_aload_n rfl rfl ?_
          refine s_getR (r := 32) rfl flX6_25 rfl rfl ?_
          refine r_iload_n rfl rfl ?_
          refine n_iconst 0 rfl ?_
          refine m_iast (L' := [(30, (aup f1 0 (nI (mk (ot F G w (k + 1)) 12)))), (32, (aup f2 j (nI 0)))]) rfl rfl (by omega) rfl ?_
          refine r_aload_n rfl rfl ?_
          refine r_iload_n rfl rfl ?_
          have e : lo F G w (k + 1) = aup (lo F G w k) j 0 := ls_st hj
          have hW1 : ∀ i, i < 12 → aup f2 j (nI 0) i = nI (lo F G w (k + 1) i) := by rw [e]; exact aup_all hf2 (by rw [aup_s]) (fun i _ z => by rw [aup_n _ _ z])
          refine s_virV [.int (nI F)] [] rfl lkX6_46 rfl rfl rfl (c_reckon_A (w := lo F G w (k + 1)) hW1 (hlb (k + 1)) hG hGb) rfl rfl (Nat.le_refl _) (Nat.le_refl _) rfl ?_
          rintro _ ⟨g1, rfl, g10, g11, g12⟩
          refine m_mz (L' := [(30, g1), (32, (aup f2 j (nI 0)))]) (M' := []) rfl rfl ?_
          refine r_aload_n rfl rfl ?_
          refine s_virI [] [] rfl lkX6_50 rfl rfl rfl (c_over_A hF hW1 (hlb (k + 1)) hG hGb g11 g12) rfl rfl (Nat.le_refl _) (Nat.le_refl _) rfl (rI (e1 := oI ((ws (ov F G (lo F G w (k + 1))) 12).1)) rfl ?_)
          refine r_istore_n (lv' := [(3, .int (oI ((ws (ov F G (lo F G w (k + 1))) 12).1))), (4, .int (nI k)), (0, .ref 30), (1, .int (nI F)), (2, .ref 26)]) rfl rfl (Nat.le_of_ble_eq_true rfl) rfl ?_
          refine n_iinc (lv' := [(4, .int (nI (k + 1))), (3, .int (oI ((ws (ov F G (lo F G w (k + 1))) 12).1))), (0, .ref 30), (1, .int (nI F)), (2, .ref 26)]) 1 rfl rfl (Nat.le_of_ble_eq_true rfl) rfl ?_
          refine r_goto (tgt := 33) rfl rfl ?_
          refine r_lv (lv' := [(4, .int (nI (k + 1))), (0, .ref 30), (1, .int (nI F)), (2, .ref 26), (3, .int (oI ((ws (ov F G (lo F G w (k + 1))) 12).1)))]) [0, 2, 3, 4, 1] rfl ?_
          exact ih (k + 1) _ _ (by omega) (by omega) g10 g11 g12 hW1
  exact loop 13 0 _ _ (by omega) (by omega) (g10.trans (by show nI 0 = _; rw [mk_cg (fun i _ => ot_0 i), mk_no])) g11 g12 hW0

theorem c_divide_BB {z : SZ} {sc : SC} {σ : SS} {F : Nat} {G w : Nat → Nat} (hF : F ≤ 79999992) (hW : ∀ i, i < 12 → σ.1 45 i = nI (w i)) (hwb : ∀ i, i < 12 → w i ≤ 4096) (hG : ∀ i, i < 12 → σ.1 47 i = nI (G i)) (hGb : ∀ i, i < 12 → G i ≤ 89999991) : Cs z sc mX6_divide 0 0 [.ref 46, .int (nI F), .ref 42] σ (RV fun σ' => ∃ f1 f2 f3, σ' = mz σ [(46, f1), (48, f2), (49, f3)] [] ∧ (f1 0 = nI (mk (ot F G w 12) 12) ∧ f1 1 = nI (pt F G (wf F G w)) ∧ f1 2 = nI (sm (wf F G w) 12)) ∧ (∀ i, i < 12 → f2 i = nI (wf F G w i)) ∧ ∀ i, i < 12 → f3 i = nI (sp (pt F G (wf F G w)) (sm (wf F G w) 12) (wf F G w) 12 i)) := by
  refine Cs.of gmX6_divide (Nat.le_of_ble_eq_true rfl) ?_
  show Ws z sc mX6_divide 0 0 0 0 0 [(0, .ref 46), (1, .int (nI F)), (2, .ref 42)] [] (mz σ [] []) (RV fun σ' => ∃ f1 f2 f3, σ' = mz σ [(46, f1), (48, f2), (49, f3)] [] ∧ (f1 0 = nI (mk (ot F G w 12) 12) ∧ f1 1 = nI (pt F G (wf F G w)) ∧ f1 2 = nI (sm (wf F G w) 12)) ∧ (∀ i, i < 12 → f2 i = nI (wf F G w i)) ∧ ∀ i, i < 12 → f3 i = nI (sp (pt F G (wf F G w)) (sm (wf F G w) 12) (wf F G w) 12 i))
  refine r_aload_n rfl rfl ?_
  refine n_iconst 0 rfl ?_
  refine m_putI (L' := [(46, (aup (σ.1 46) 0 (nI 0)))]) rfl flX6_9 rfl rfl (okv_i _) rfl ?_
  refine r_aload_n rfl rfl ?_
  refine s_getR (r := 45) rfl flX6_37 rfl rfl ?_
  refine n_iconst 0 rfl ?_
  refine r_aload_n rfl rfl ?_
  refine s_getR (r := 48) rfl flX6_25 rfl rfl ?_
  refine n_iconst 0 rfl ?_
  refine n_bipush 12 rfl (by decide) ?_
  refine m_cpyi (L' := [(46, (aup (σ.1 46) 0 (nI 0))), (48, (va_cpy (σ.1 45) (σ.1 48) 0 0 12))]) rfl syX6_40 rfl rfl (by omega) (by omega) rfl rfl rfl ?_
  refine r_aload_n rfl rfl ?_
  refine r_iload_n rfl rfl ?_
  have hW0 : ∀ i, i < 12 → va_cpy (σ.1 45) (σ.1 48) 0 0 12 i = nI (lo F G w 0 i) := fun i hi => by rw [cpy_0 _ _ hi]; exact hW i hi
  have hlb : ∀ k i, i < 12 → lo F G w k i ≤ 4096 := fun k i hi => Nat.le_trans lo_lw (hwb i hi)
  refine s_virV [.int (nI F)] [] rfl lkX6_46 rfl rfl rfl (c_reckon_B (w := lo F G w 0) hW0 (hlb 0) hG hGb) rfl rfl (Nat.le_refl _) (Nat.le_refl _) rfl ?_
  rintro _ ⟨g1, rfl, g10, g11, g12⟩
  refine m_mz (L' := [(46, g1), (48, (va_cpy (σ.1 45) (σ.1 48) 0 0 12))]) (M' := []) rfl rfl ?_
  refine r_aload_n rfl rfl ?_
  refine s_virI [] [] rfl lkX6_50 rfl rfl rfl (c_over_B hF hW0 (hlb 0) hG hGb g11 g12) rfl rfl (Nat.le_refl _) (Nat.le_refl _) rfl (rI (e1 := oI ((ws (ov F G (lo F G w 0)) 12).1)) rfl ?_)
  refine r_istore_n (lv' := [(3, .int (oI ((ws (ov F G (lo F G w 0)) 12).1))), (0, .ref 46), (1, .int (nI F)), (2, .ref 42)]) rfl rfl (Nat.le_of_ble_eq_true rfl) rfl ?_
  refine n_iconst 0 rfl ?_
  refine r_istore (lv' := [(4, .int (nI 0)), (3, .int (oI ((ws (ov F G (lo F G w 0)) 12).1))), (0, .ref 46), (1, .int (nI F)), (2, .ref 42)]) rfl (Nat.le_of_ble_eq_true rfl) rfl ?_
  refine r_lv (lv' := [(4, .int (nI 0)), (0, .ref 46), (1, .int (nI F)), (2, .ref 42), (3, .int (oI ((ws (ov F G (lo F G w 0)) 12).1)))]) [0, 2, 3, 4, 1] rfl ?_
  have loop : ∀ (m9 : Nat) (k : Nat) (f1 f2 : Nat → Int32), 12 - k < m9 → (k ≤ 12) → (f1 0 = nI (mk (ot F G w k) 12)) → (f1 1 = nI (pt F G (lo F G w k))) → (f1 2 = nI (sm (lo F G w k) 12)) → (∀ i, i < 12 → f2 i = nI (lo F G w k i)) → Ws z sc mX6_divide 0 0 0 0 33 [(4, .int (nI k)), (0, .ref 46), (1, .int (nI F)), (2, .ref 42), (3, .int (oI ((ws (ov F G (lo F G w k)) 12).1)))] [] (mz σ [(46, f1), (48, f2)] []) (RV fun σ' => ∃ f1 f2 f3, σ' = mz σ [(46, f1), (48, f2), (49, f3)] [] ∧ (f1 0 = nI (mk (ot F G w 12) 12) ∧ f1 1 = nI (pt F G (wf F G w)) ∧ f1 2 = nI (sm (wf F G w) 12)) ∧ (∀ i, i < 12 → f2 i = nI (wf F G w i)) ∧ ∀ i, i < 12 → f3 i = nI (sp (pt F G (wf F G w)) (sm (wf F G w) 12) (wf F G w) 12 i)) := by
    intro m9
    induction m9 with
    | zero => intro k f1 f2 hme; exact absurd hme (Nat.not_lt_zero _)
    | succ m9 ih =>
      intro k f1 f2 hme hk h0 h1 h2 hf2
      have hws := ws_le (ov F G (lo F G w k)) 12
      have hpt := pt_le (F := F) (w := lo F G w k) hGb
      have hsw := sm_w (hlb k)
      refine r_iload rfl rfl ?_
      refine n_bipush 12 rfl (by decide) ?_
      refine n_icmp_ge (tgt := 85) rfl rfl (by omega) (by omega) (fun hh => ?_) (fun hh => ?_)
      · have e9 : wf F G w = lo F G w k := by rw [show k = 12 by omega]; rfl
        have eo : ∀ i, i < 12 → ot F G w 12 i = ot F G w k i := fun i _ => by unfold ot; rw [← e9]; rfl
        refine r_aload_n rfl rfl ?_
        refine s_getI (x := nI (pt F G (lo F G w k))) rfl flX6_15 rfl rfl h1 ?_
        refine r_aload_n rfl rfl ?_
        refine s_getR (r := 48) rfl flX6_25 rfl rfl ?_
        refine r_aload_n rfl rfl ?_
        refine s_getR (r := 49) rfl flX6_28 rfl rfl ?_
        refine s_staNV [.int (nI (pt F G (lo F G w k))), .ref 48, .ref 49] [] rfl lkX6_54 (c_split_48_49 (by omega) hf2 (by omega)) rfl rfl (Nat.le_refl _) (Nat.le_refl _) ?_
        rintro _ ⟨f3, rfl, hf3⟩
        refine m_mz (L' := [(46, f1), (48, f2), (49, f3)]) (M' := []) rfl rfl ?_
        exact s_vret (st := []) rfl rfl (Nat.zero_le _) (Nat.zero_le _) (⟨rfl, f1, f2, f3, rfl, ⟨by rw [h0, mk_cg eo], by rw [h1, e9], by rw [h2, e9]⟩, fun i hi => by rw [hf2 i hi, e9], fun i hi => by rw [hf3 i hi, e9]⟩)
      · refine r_iload_n rfl rfl ?_
        cases hj : (ws (ov F G (lo F G w k)) 12).1 with
        | zero =>
          refine r_if_lt (tgt := 85) rfl rfl (fun _ => ?_) (fun hq => absurd hq (fun z => z (by decide)))
          have e9 : wf F G w = lo F G w k := ot_fix hk hj
          have eo : ∀ i, i < 12 → ot F G w 12 i = ot F G w k i := fun i _ => by unfold ot; rw [← e9]; rfl
          refine r_aload_n rfl rfl ?_
          refine s_getI (x := nI (pt F G (lo F G w k))) rfl flX6_15 rfl rfl h1 ?_
          refine r_aload_n rfl rfl ?_
          refine s_getR (r := 48) rfl flX6_25 rfl rfl ?_
          refine r_aload_n rfl rfl ?_
          refine s_getR (r := 49) rfl flX6_28 rfl rfl ?_
          refine s_staNV [.int (nI (pt F G (lo F G w k))), .ref 48, .ref 49] [] rfl lkX6_54 (c_split_48_49 (by omega) hf2 (by omega)) rfl rfl (Nat.le_refl _) (Nat.le_refl _) ?_
          rintro _ ⟨f3, rfl, hf3⟩
          refine m_mz (L' := [(46, f1), (48, f2), (49, f3)]) (M' := []) rfl rfl ?_
          exact s_vret (st := []) rfl rfl (Nat.zero_le _) (Nat.zero_le _) (⟨rfl, f1, f2, f3, rfl, ⟨by rw [h0, mk_cg eo], by rw [h1, e9], by rw [h2, e9]⟩, fun i hi => by rw [hf2 i hi, e9], fun i hi => by rw [hf3 i hi, e9]⟩)
        | succ j =>
          have hj9 := (ws_sp (ov F G (lo F G w k)) 12).2.2 j hj
          rw [oI_s]
          refine n_if_lt (tgt := 85) rfl rfl (by omega) (fun hq => hq.elim) (fun _ => ?_)
          refine r_iload_n rfl rfl ?_
          refine n_bipush 12 rfl (by decide) ?_
          refine n_icmp_ge (tgt := 85) rfl rfl (by omega) (by omega) (fun hq => absurd hq (by omega)) (fun _ => ?_)
          refine r_aload_n rfl rfl ?_
          refine r_dup rfl rfl ?_
          refine s_getI (x := nI (mk (ot F G w k) 12)) rfl flX6_9 rfl rfl h0 ?_
          refine n_iconst 1 rfl ?_
          refine r_iload_n rfl rfl ?_
          refine r_ishl rfl ?_
          refine r_ior rfl ?_
          refine r_top (y := nI (mk (ot F G w (k + 1)) 12)) (mk_ior (q := j) hj9.1 (ot_s hj)) ?_
          refine m_putI (L' := [(46, (aup f1 0 (nI (mk (ot F G w (k + 1)) 12)))), (48, f2)]) rfl flX6_9 rfl rfl (okv_i _) rfl ?_
          refine r_aload_n rfl rfl ?_
          refine s_getR (r := 48) rfl flX6_25 rfl rfl ?_
          refine r_iload_n rfl rfl ?_
          refine n_iconst 0 rfl ?_
          refine m_iast (L' := [(46, (aup f1 0 (nI (mk (ot F G w (k + 1)) 12)))), (48, (aup f2 j (nI 0)))]) rfl rfl (by omega) rfl ?_
          refine r_aload_n rfl rfl ?_
          refine r_iload_n rfl rfl ?_
          have e : lo F G w (k + 1) = aup (lo F G w k) j 0 := ls_st hj
          have hW1 : ∀ i, i < 12 → aup f2 j (nI 0) i = nI (lo F G w (k + 1) i) := by rw [e]; exact aup_all hf2 (by rw [aup_s]) (fun i _ z => by rw [aup_n _ _ z])
          refine s_virV [.int (nI F)] [] rfl lkX6_46 rfl rfl rfl (c_reckon_B (w := lo F G w (k + 1)) hW1 (hlb (k + 1)) hG hGb) rfl rfl (Nat.le_refl _) (Nat.le_refl _) rfl ?_
          rintro _ ⟨g1, rfl, g10, g11, g12⟩
          refine m_mz (L' := [(46, g1), (48, (aup f2 j (nI 0)))]) (M' := []) rfl rfl ?_
          refine r_aload_n rfl rfl ?_
          refine s_virI [] [] rfl lkX6_50 rfl rfl rfl (c_over_B hF hW1 (hlb (k + 1)) hG hGb g11 g12) rfl rfl (Nat.le_refl _) (Nat.le_refl _) rfl (rI (e1 := oI ((ws (ov F G (lo F G w (k + 1))) 12).1)) rfl ?_)
          refine r_istore_n (lv' := [(3, .int (oI ((ws (ov F G (lo F G w (k + 1))) 12).1))), (4, .int (nI k)), (0, .ref 46), (1, .int (nI F)), (2, .ref 42)]) rfl rfl (Nat.le_of_ble_eq_true rfl) rfl ?_
          refine n_iinc (lv' := [(4, .int (nI (k + 1))), (3, .int (oI ((ws (ov F G (lo F G w (k + 1))) 12).1))), (0, .ref 46), (1, .int (nI F)), (2, .ref 42)]) 1 rfl rfl (Nat.le_of_ble_eq_true rfl) rfl ?_
          refine r_goto (tgt := 33) rfl rfl ?_
          refine r_lv (lv' := [(4, .int (nI (k + 1))), (0, .ref 46), (1, .int (nI F)), (2, .ref 42), (3, .int (oI ((ws (ov F G (lo F G w (k + 1))) 12).1)))]) [0, 2, 3, 4, 1] rfl ?_
          exact ih (k + 1) _ _ (by omega) (by omega) g10 g11 g12 hW1
  exact loop 13 0 _ _ (by omega) (by omega) (g10.trans (by show nI 0 = _; rw [mk_cg (fun i _ => ot_0 i), mk_no])) g11 g12 hW0

theorem c_divide_BA {z : SZ} {sc : SC} {σ : SS} {F : Nat} {G w : Nat → Nat} (hF : F ≤ 79999992) (hW : ∀ i, i < 12 → σ.1 29 i = nI (w i)) (hwb : ∀ i, i < 12 → w i ≤ 4096) (hG : ∀ i, i < 12 → σ.1 47 i = nI (G i)) (hGb : ∀ i, i < 12 → G i ≤ 89999991) : Cs z sc mX6_divide 0 0 [.ref 46, .int (nI F), .ref 26] σ (RV fun σ' => ∃ f1 f2 f3, σ' = mz σ [(46, f1), (48, f2), (49, f3)] [] ∧ (f1 0 = nI (mk (ot F G w 12) 12) ∧ f1 1 = nI (pt F G (wf F G w)) ∧ f1 2 = nI (sm (wf F G w) 12)) ∧ (∀ i, i < 12 → f2 i = nI (wf F G w i)) ∧ ∀ i, i < 12 → f3 i = nI (sp (pt F G (wf F G w)) (sm (wf F G w) 12) (wf F G w) 12 i)) := by
  refine Cs.of gmX6_divide (Nat.le_of_ble_eq_true rfl) ?_
  show Ws z sc mX6_divide 0 0 0 0 0 [(0, .ref 46), (1, .int (nI F)), (2, .ref 26)] [] (mz σ [] []) (RV fun σ' => ∃ f1 f2 f3, σ' = mz σ [(46, f1), (48, f2), (49, f3)] [] ∧ (f1 0 = nI (mk (ot F G w 12) 12) ∧ f1 1 = nI (pt F G (wf F G w)) ∧ f1 2 = nI (sm (wf F G w) 12)) ∧ (∀ i, i < 12 → f2 i = nI (wf F G w i)) ∧ ∀ i, i < 12 → f3 i = nI (sp (pt F G (wf F G w)) (sm (wf F G w) 12) (wf F G w) 12 i))
  refine r_aload_n rfl rfl ?_
  refine n_iconst 0 rfl ?_
  refine m_putI (L' := [(46, (aup (σ.1 46) 0 (nI 0)))]) rfl flX6_9 rfl rfl (okv_i _) rfl ?_
  refine r_aload_n rfl rfl ?_
  refine s_getR (r := 29) rfl flX6_37 rfl rfl ?_
  refine n_iconst 0 rfl ?_
  refine r_aload_n rfl rfl ?_
  refine s_getR (r := 48) rfl flX6_25 rfl rfl ?_
  refine n_iconst 0 rfl ?_
  refine n_bipush 12 rfl (by decide) ?_
  refine m_cpyi (L' := [(46, (aup (σ.1 46) 0 (nI 0))), (48, (va_cpy (σ.1 29) (σ.1 48) 0 0 12))]) rfl syX6_40 rfl rfl (by omega) (by omega) rfl rfl rfl ?_
  refine r_aload_n rfl rfl ?_
  refine r_iload_n rfl rfl ?_
  have hW0 : ∀ i, i < 12 → va_cpy (σ.1 29) (σ.1 48) 0 0 12 i = nI (lo F G w 0 i) := fun i hi => by rw [cpy_0 _ _ hi]; exact hW i hi
  have hlb : ∀ k i, i < 12 → lo F G w k i ≤ 4096 := fun k i hi => Nat.le_trans lo_lw (hwb i hi)
  refine s_virV [.int (nI F)] [] rfl lkX6_46 rfl rfl rfl (c_reckon_B (w := lo F G w 0) hW0 (hlb 0) hG hGb) rfl rfl (Nat.le_refl _) (Nat.le_refl _) rfl ?_
  rintro _ ⟨g1, rfl, g10, g11, g12⟩
  refine m_mz (L' := [(46, g1), (48, (va_cpy (σ.1 29) (σ.1 48) 0 0 12))]) (M' := []) rfl rfl ?_
  refine r_aload_n rfl rfl ?_
  refine s_virI [] [] rfl lkX6_50 rfl rfl rfl (c_over_B hF hW0 (hlb 0) hG hGb g11 g12) rfl rfl (Nat.le_refl _) (Nat.le_refl _) rfl (rI (e1 := oI ((ws (ov F G (lo F G w 0)) 12).1)) rfl ?_)
  refine r_istore_n (lv' := [(3, .int (oI ((ws (ov F G (lo F G w 0)) 12).1))), (0, .ref 46), (1, .int (nI F)), (2, .ref 26)]) rfl rfl (Nat.le_of_ble_eq_true rfl) rfl ?_
  refine n_iconst 0 rfl ?_
  refine r_istore (lv' := [(4, .int (nI 0)), (3, .int (oI ((ws (ov F G (lo F G w 0)) 12).1))), (0, .ref 46), (1, .int (nI F)), (2, .ref 26)]) rfl (Nat.le_of_ble_eq_true rfl) rfl ?_
  refine r_lv (lv' := [(4, .int (nI 0)), (0, .ref 46), (1, .int (nI F)), (2, .ref 26), (3, .int (oI ((ws (ov F G (lo F G w 0)) 12).1)))]) [0, 2, 3, 4, 1] rfl ?_
  have loop : ∀ (m9 : Nat) (k : Nat) (f1 f2 : Nat → Int32), 12 - k < m9 → (k ≤ 12) → (f1 0 = nI (mk (ot F G w k) 12)) → (f1 1 = nI (pt F G (lo F G w k))) → (f1 2 = nI (sm (lo F G w k) 12)) → (∀ i, i < 12 → f2 i = nI (lo F G w k i)) → Ws z sc mX6_divide 0 0 0 0 33 [(4, .int (nI k)), (0, .ref 46), (1, .int (nI F)), (2, .ref 26), (3, .int (oI ((ws (ov F G (lo F G w k)) 12).1)))] [] (mz σ [(46, f1), (48, f2)] []) (RV fun σ' => ∃ f1 f2 f3, σ' = mz σ [(46, f1), (48, f2), (49, f3)] [] ∧ (f1 0 = nI (mk (ot F G w 12) 12) ∧ f1 1 = nI (pt F G (wf F G w)) ∧ f1 2 = nI (sm (wf F G w) 12)) ∧ (∀ i, i < 12 → f2 i = nI (wf F G w i)) ∧ ∀ i, i < 12 → f3 i = nI (sp (pt F G (wf F G w)) (sm (wf F G w) 12) (wf F G w) 12 i)) := by
    intro m9
    induction m9 with
    | zero => intro k f1 f2 hme; exact absurd hme (Nat.not_lt_zero _)
    | succ m9 ih =>
      intro k f1 f2 hme hk h0 h1 h2 hf2
      have hws := ws_le (ov F G (lo F G w k)) 12
      have hpt := pt_le (F := F) (w := lo F G w k) hGb
      have hsw := sm_w (hlb k)
      refine r_iload rfl rfl ?_
      refine n_bipush 12 rfl (by decide) ?_
      refine n_icmp_ge (tgt := 85) rfl rfl (by omega) (by omega) (fun hh => ?_) (fun hh => ?_)
      · have e9 : wf F G w = lo F G w k := by rw [show k = 12 by omega]; rfl
        have eo : ∀ i, i < 12 → ot F G w 12 i = ot F G w k i := fun i _ => by unfold ot; rw [← e9]; rfl
        refine r_aload_n rfl rfl ?_
        refine s_getI (x := nI (pt F G (lo F G w k))) rfl flX6_15 rfl rfl h1 ?_
        refine r_aload_n rfl rfl ?_
        refine s_getR (r := 48) rfl flX6_25 rfl rfl ?_
        refine r_aload_n rfl rfl ?_
        refine s_getR (r := 49) rfl flX6_28 rfl rfl ?_
        refine s_staNV [.int (nI (pt F G (lo F G w k))), .ref 48, .ref 49] [] rfl lkX6_54 (c_split_48_49 (by omega) hf2 (by omega)) rfl rfl (Nat.le_refl _) (Nat.le_refl _) ?_
        rintro _ ⟨f3, rfl, hf3⟩
        refine m_mz (L' := [(46, f1), (48, f2), (49, f3)]) (M' := []) rfl rfl ?_
        exact s_vret (st := []) rfl rfl (Nat.zero_le _) (Nat.zero_le _) (⟨rfl, f1, f2, f3, rfl, ⟨by rw [h0, mk_cg eo], by rw [h1, e9], by rw [h2, e9]⟩, fun i hi => by rw [hf2 i hi, e9], fun i hi => by rw [hf3 i hi, e9]⟩)
      · refine r_iload_n rfl rfl ?_
        cases hj : (ws (ov F G (lo F G w k)) 12).1 with
        | zero =>
          refine r_if_lt (tgt := 85) rfl rfl (fun _ => ?_) (fun hq => absurd hq (fun z => z (by decide)))
          have e9 : wf F G w = lo F G w k := ot_fix hk hj
          have eo : ∀ i, i < 12 → ot F G w 12 i = ot F G w k i := fun i _ => by unfold ot; rw [← e9]; rfl
          refine r_aload_n rfl rfl ?_
          refine s_getI (x := nI (pt F G (lo F G w k))) rfl flX6_15 rfl rfl h1 ?_
          refine r_aload_n rfl rfl ?_
          refine s_getR (r := 48) rfl flX6_25 rfl rfl ?_
          refine r_aload_n rfl rfl ?_
          refine s_getR (r := 49) rfl flX6_28 rfl rfl ?_
          refine s_staNV [.int (nI (pt F G (lo F G w k))), .ref 48, .ref 49] [] rfl lkX6_54 (c_split_48_49 (by omega) hf2 (by omega)) rfl rfl (Nat.le_refl _) (Nat.le_refl _) ?_
          rintro _ ⟨f3, rfl, hf3⟩
          refine m_mz (L' := [(46, f1), (48, f2), (49, f3)]) (M' := []) rfl rfl ?_
          exact s_vret (st := []) rfl rfl (Nat.zero_le _) (Nat.zero_le _) (⟨rfl, f1, f2, f3, rfl, ⟨by rw [h0, mk_cg eo], by rw [h1, e9], by rw [h2, e9]⟩, fun i hi => by rw [hf2 i hi, e9], fun i hi => by rw [hf3 i hi, e9]⟩)
        | succ j =>
          have hj9 := (ws_sp (ov F G (lo F G w k)) 12).2.2 j hj
          rw [oI_s]
          refine n_if_lt (tgt := 85) rfl rfl (by omega) (fun hq => hq.elim) (fun _ => ?_)
          refine r_iload_n rfl rfl ?_
          refine n_bipush 12 rfl (by decide) ?_
          refine n_icmp_ge (tgt := 85) rfl rfl (by omega) (by omega) (fun hq => absurd hq (by omega)) (fun _ => ?_)
          refine r_aload_n rfl rfl ?_
          refine r_dup rfl rfl ?_
          refine s_getI (x := nI (mk (ot F G w k) 12)) rfl flX6_9 rfl rfl h0 ?_
          refine n_iconst 1 rfl ?_
          refine r_iload_n rfl rfl ?_
          refine r_ishl rfl ?_
          refine r_ior rfl ?_
          refine r_top (y := nI (mk (ot F G w (k + 1)) 12)) (mk_ior (q := j) hj9.1 (ot_s hj)) ?_
          refine m_putI (L' := [(46, (aup f1 0 (nI (mk (ot F G w (k + 1)) 12)))), (48, f2)]) rfl flX6_9 rfl rfl (okv_i _) rfl ?_
          refine r_aload_n rfl rfl ?_
          refine s_getR (r := 48) rfl flX6_25 rfl rfl ?_
          refine r_iload_n rfl rfl ?_
          refine n_iconst 0 rfl ?_
          refine m_iast (L' := [(46, (aup f1 0 (nI (mk (ot F G w (k + 1)) 12)))), (48, (aup f2 j (nI 0)))]) rfl rfl (by omega) rfl ?_
          refine r_aload_n rfl rfl ?_
          refine r_iload_n rfl rfl ?_
          have e : lo F G w (k + 1) = aup (lo F G w k) j 0 := ls_st hj
          have hW1 : ∀ i, i < 12 → aup f2 j (nI 0) i = nI (lo F G w (k + 1) i) := by rw [e]; exact aup_all hf2 (by rw [aup_s]) (fun i _ z => by rw [aup_n _ _ z])
          refine s_virV [.int (nI F)] [] rfl lkX6_46 rfl rfl rfl (c_reckon_B (w := lo F G w (k + 1)) hW1 (hlb (k + 1)) hG hGb) rfl rfl (Nat.le_refl _) (Nat.le_refl _) rfl ?_
          rintro _ ⟨g1, rfl, g10, g11, g12⟩
          refine m_mz (L' := [(46, g1), (48, (aup f2 j (nI 0)))]) (M' := []) rfl rfl ?_
          refine r_aload_n rfl rfl ?_
          refine s_virI [] [] rfl lkX6_50 rfl rfl rfl (c_over_B hF hW1 (hlb (k + 1)) hG hGb g11 g12) rfl rfl (Nat.le_refl _) (Nat.le_refl _) rfl (rI (e1 := oI ((ws (ov F G (lo F G w (k + 1))) 12).1)) rfl ?_)
          refine r_istore_n (lv' := [(3, .int (oI ((ws (ov F G (lo F G w (k + 1))) 12).1))), (4, .int (nI k)), (0, .ref 46), (1, .int (nI F)), (2, .ref 26)]) rfl rfl (Nat.le_of_ble_eq_true rfl) rfl ?_
          refine n_iinc (lv' := [(4, .int (nI (k + 1))), (3, .int (oI ((ws (ov F G (lo F G w (k + 1))) 12).1))), (0, .ref 46), (1, .int (nI F)), (2, .ref 26)]) 1 rfl rfl (Nat.le_of_ble_eq_true rfl) rfl ?_
          refine r_goto (tgt := 33) rfl rfl ?_
          refine r_lv (lv' := [(4, .int (nI (k + 1))), (0, .ref 46), (1, .int (nI F)), (2, .ref 26), (3, .int (oI ((ws (ov F G (lo F G w (k + 1))) 12).1)))]) [0, 2, 3, 4, 1] rfl ?_
          exact ih (k + 1) _ _ (by omega) (by omega) g10 g11 g12 hW1
  exact loop 13 0 _ _ (by omega) (by omega) (g10.trans (by show nI 0 = _; rw [mk_cg (fun i _ => ot_0 i), mk_no])) g11 g12 hW0

theorem c_bring_A18 {z : SZ} {sc : SC} {σ : SS} {d : D} (hS : SR (σ.1 19) d) (hV : Vd d) : Cs z sc mX6_bring 0 0 [.ref 30, .ref 18] σ (RV fun σ' => ∃ f, σ' = mz σ [(31, f)] [] ∧ ∀ i, i < 12 → f i = nI (gf d i)) := by
  refine Cs.of gmX6_bring (Nat.le_of_ble_eq_true rfl) ?_
  show Ws z sc mX6_bring 0 0 0 0 0 [(0, .ref 30), (1, .ref 18)] [] (mz σ [] []) (RV fun σ' => ∃ f, σ' = mz σ [(31, f)] [] ∧ ∀ i, i < 12 → f i = nI (gf d i))
  refine n_iconst 0 rfl ?_
  refine r_istore_n (lv' := [(2, .int (nI 0)), (0, .ref 30), (1, .ref 18)]) rfl rfl (Nat.le_of_ble_eq_true rfl) rfl ?_
  refine r_lv (lv' := [(2, .int (nI 0)), (0, .ref 30), (1, .ref 18)]) [0, 1, 2] rfl ?_
  refine m_newI (L' := [(31, (σ.1 31))]) 31 rfl ?_
  have loop : ∀ (m9 : Nat) (i : Nat) (f : Nat → Int32), 12 - i < m9 → (i ≤ 12) → (∀ j, j < i → f j = nI (gf d j)) → Ws z sc mX6_bring 0 0 0 0 2 [(2, .int (nI i)), (0, .ref 30), (1, .ref 18)] [] (mz σ [(31, f)] []) (RV fun σ' => ∃ f, σ' = mz σ [(31, f)] [] ∧ ∀ i, i < 12 → f i = nI (gf d i)) := by
    intro m9
    induction m9 with
    | zero => intro i f hme; exact absurd hme (Nat.not_lt_zero _)
    | succ m9 ih =>
      intro i f hme hi hf
      refine r_iload_n rfl rfl ?_
      refine n_bipush 12 rfl (by decide) ?_
      refine n_icmp_ge (tgt := 25) rfl rfl (by omega) (by omega) (fun h1 => ?_) (fun h1 => ?_)
      · exact s_vret (st := []) rfl rfl (Nat.zero_le _) (Nat.zero_le _) (⟨rfl, f, rfl, fun j hj => hf j (by omega)⟩)
      · refine r_aload_n rfl rfl ?_
        refine s_getR (r := 31) rfl flX6_21 rfl rfl ?_
        refine r_iload_n rfl rfl ?_
        refine r_aload_n rfl rfl ?_
        refine r_iload_n rfl rfl ?_
        refine s_virI [.int (nI i)] [.int (nI i), .ref 31] rfl lkX6_31 rfl rfl rfl (c_giftsTo_18 hS hV (by omega)) rfl rfl (Nat.le_refl _) (Nat.le_refl _) rfl (rI (e1 := nI (gf d i)) rfl ?_)
        refine m_iast (L' := [(31, (aup f i (nI (gf d i))))]) rfl rfl (by omega) rfl ?_
        refine n_iinc (lv' := [(2, .int (nI (i + 1))), (0, .ref 30), (1, .ref 18)]) 1 rfl rfl (Nat.le_of_ble_eq_true rfl) rfl ?_
        refine r_goto (tgt := 2) rfl rfl ?_
        refine r_lv (lv' := [(2, .int (nI (i + 1))), (0, .ref 30), (1, .ref 18)]) [0, 1, 2] rfl ?_
        exact ih (i + 1) _ (by omega) (by omega) (aup_lt hf rfl)
  exact loop 13 0 _ (by omega) (by omega) (fun j hj => absurd hj (Nat.not_lt_zero _))

theorem c_bring_B34 {z : SZ} {sc : SC} {σ : SS} {d : D} (hS : SR (σ.1 35) d) (hV : Vd d) : Cs z sc mX6_bring 0 0 [.ref 46, .ref 34] σ (RV fun σ' => ∃ f, σ' = mz σ [(47, f)] [] ∧ ∀ i, i < 12 → f i = nI (gf d i)) := by
  refine Cs.of gmX6_bring (Nat.le_of_ble_eq_true rfl) ?_
  show Ws z sc mX6_bring 0 0 0 0 0 [(0, .ref 46), (1, .ref 34)] [] (mz σ [] []) (RV fun σ' => ∃ f, σ' = mz σ [(47, f)] [] ∧ ∀ i, i < 12 → f i = nI (gf d i))
  refine n_iconst 0 rfl ?_
  refine r_istore_n (lv' := [(2, .int (nI 0)), (0, .ref 46), (1, .ref 34)]) rfl rfl (Nat.le_of_ble_eq_true rfl) rfl ?_
  refine r_lv (lv' := [(2, .int (nI 0)), (0, .ref 46), (1, .ref 34)]) [0, 1, 2] rfl ?_
  refine m_newI (L' := [(47, (σ.1 47))]) 47 rfl ?_
  have loop : ∀ (m9 : Nat) (i : Nat) (f : Nat → Int32), 12 - i < m9 → (i ≤ 12) → (∀ j, j < i → f j = nI (gf d j)) → Ws z sc mX6_bring 0 0 0 0 2 [(2, .int (nI i)), (0, .ref 46), (1, .ref 34)] [] (mz σ [(47, f)] []) (RV fun σ' => ∃ f, σ' = mz σ [(47, f)] [] ∧ ∀ i, i < 12 → f i = nI (gf d i)) := by
    intro m9
    induction m9 with
    | zero => intro i f hme; exact absurd hme (Nat.not_lt_zero _)
    | succ m9 ih =>
      intro i f hme hi hf
      refine r_iload_n rfl rfl ?_
      refine n_bipush 12 rfl (by decide) ?_
      refine n_icmp_ge (tgt := 25) rfl rfl (by omega) (by omega) (fun h1 => ?_) (fun h1 => ?_)
      · exact s_vret (st := []) rfl rfl (Nat.zero_le _) (Nat.zero_le _) (⟨rfl, f, rfl, fun j hj => hf j (by omega)⟩)
      · refine r_aload_n rfl rfl ?_
        refine s_getR (r := 47) rfl flX6_21 rfl rfl ?_
        refine r_iload_n rfl rfl ?_
        refine r_aload_n rfl rfl ?_
        refine r_iload_n rfl rfl ?_
        refine s_virI [.int (nI i)] [.int (nI i), .ref 47] rfl lkX6_31 rfl rfl rfl (c_giftsTo_34 hS hV (by omega)) rfl rfl (Nat.le_refl _) (Nat.le_refl _) rfl (rI (e1 := nI (gf d i)) rfl ?_)
        refine m_iast (L' := [(47, (aup f i (nI (gf d i))))]) rfl rfl (by omega) rfl ?_
        refine n_iinc (lv' := [(2, .int (nI (i + 1))), (0, .ref 46), (1, .ref 34)]) 1 rfl rfl (Nat.le_of_ble_eq_true rfl) rfl ?_
        refine r_goto (tgt := 2) rfl rfl ?_
        refine r_lv (lv' := [(2, .int (nI (i + 1))), (0, .ref 46), (1, .ref 34)]) [0, 1, 2] rfl ?_
        exact ih (i + 1) _ (by omega) (by omega) (aup_lt hf rfl)
  exact loop 13 0 _ (by omega) (by omega) (fun j hj => absurd hj (Nat.not_lt_zero _))

theorem c_bring_B18 {z : SZ} {sc : SC} {σ : SS} {d : D} (hS : SR (σ.1 19) d) (hV : Vd d) : Cs z sc mX6_bring 0 0 [.ref 46, .ref 18] σ (RV fun σ' => ∃ f, σ' = mz σ [(47, f)] [] ∧ ∀ i, i < 12 → f i = nI (gf d i)) := by
  refine Cs.of gmX6_bring (Nat.le_of_ble_eq_true rfl) ?_
  show Ws z sc mX6_bring 0 0 0 0 0 [(0, .ref 46), (1, .ref 18)] [] (mz σ [] []) (RV fun σ' => ∃ f, σ' = mz σ [(47, f)] [] ∧ ∀ i, i < 12 → f i = nI (gf d i))
  refine n_iconst 0 rfl ?_
  refine r_istore_n (lv' := [(2, .int (nI 0)), (0, .ref 46), (1, .ref 18)]) rfl rfl (Nat.le_of_ble_eq_true rfl) rfl ?_
  refine r_lv (lv' := [(2, .int (nI 0)), (0, .ref 46), (1, .ref 18)]) [0, 1, 2] rfl ?_
  refine m_newI (L' := [(47, (σ.1 47))]) 47 rfl ?_
  have loop : ∀ (m9 : Nat) (i : Nat) (f : Nat → Int32), 12 - i < m9 → (i ≤ 12) → (∀ j, j < i → f j = nI (gf d j)) → Ws z sc mX6_bring 0 0 0 0 2 [(2, .int (nI i)), (0, .ref 46), (1, .ref 18)] [] (mz σ [(47, f)] []) (RV fun σ' => ∃ f, σ' = mz σ [(47, f)] [] ∧ ∀ i, i < 12 → f i = nI (gf d i)) := by
    intro m9
    induction m9 with
    | zero => intro i f hme; exact absurd hme (Nat.not_lt_zero _)
    | succ m9 ih =>
      intro i f hme hi hf
      refine r_iload_n rfl rfl ?_
      refine n_bipush 12 rfl (by decide) ?_
      refine n_icmp_ge (tgt := 25) rfl rfl (by omega) (by omega) (fun h1 => ?_) (fun h1 => ?_)
      · exact s_vret (st := []) rfl rfl (Nat.zero_le _) (Nat.zero_le _) (⟨rfl, f, rfl, fun j hj => hf j (by omega)⟩)
      · refine r_aload_n rfl rfl ?_
        refine s_getR (r := 47) rfl flX6_21 rfl rfl ?_
        refine r_iload_n rfl rfl ?_
        refine r_aload_n rfl rfl ?_
        refine r_iload_n rfl rfl ?_
        refine s_virI [.int (nI i)] [.int (nI i), .ref 47] rfl lkX6_31 rfl rfl rfl (c_giftsTo_18 hS hV (by omega)) rfl rfl (Nat.le_refl _) (Nat.le_refl _) rfl (rI (e1 := nI (gf d i)) rfl ?_)
        refine m_iast (L' := [(47, (aup f i (nI (gf d i))))]) rfl rfl (by omega) rfl ?_
        refine n_iinc (lv' := [(2, .int (nI (i + 1))), (0, .ref 46), (1, .ref 18)]) 1 rfl rfl (Nat.le_of_ble_eq_true rfl) rfl ?_
        refine r_goto (tgt := 2) rfl rfl ?_
        refine r_lv (lv' := [(2, .int (nI (i + 1))), (0, .ref 46), (1, .ref 18)]) [0, 1, 2] rfl ?_
        exact ih (i + 1) _ (by omega) (by omega) (aup_lt hf rfl)
  exact loop 13 0 _ (by omega) (by omega) (fun j hj => absurd hj (Nat.not_lt_zero _))

theorem c_further {z : SZ} {sc : SC} {σ : SS} {q v x : Nat} (hq : q < 12) (hx : σ.1 47 q = nI x) : Cs z sc mX6_bringFurther 0 0 [.ref 46, .int (nI q), .int (nI v)] σ (PV (mz σ [(47, aup (σ.1 47) q (nI (x + v)))] [])) := by
  refine Cs.of gmX6_bringFurther (Nat.le_of_ble_eq_true rfl) ?_
  show Ws z sc mX6_bringFurther 0 0 0 0 0 [(0, .ref 46), (1, .int (nI q)), (2, .int (nI v))] [] (mz σ [] []) (PV (mz σ [(47, aup (σ.1 47) q (nI (x + v)))] []))
  refine r_iload_n rfl rfl ?_
  refine n_if_lt (tgt := 20) rfl rfl (by omega) (fun hq => hq.elim) (fun _ => ?_)
  refine r_iload_n rfl rfl ?_
  refine n_bipush 12 rfl (by decide) ?_
  refine n_icmp_ge (tgt := 20) rfl rfl (by omega) (by omega) (fun hq => absurd hq (by omega)) (fun _ => ?_)
  refine r_aload_n rfl rfl ?_
  refine s_getR (r := 47) rfl flX6_21 rfl rfl ?_
  refine r_iload_n rfl rfl ?_
  refine r_dup2 rfl rfl rfl ?_
  refine s_iald (x := nI x) rfl rfl (by omega) hx ?_
  refine r_iload_n rfl rfl ?_
  refine n_iadd rfl ?_
  refine m_iast (L' := [(47, (aup (σ.1 47) q (nI (x + v))))]) rfl rfl (by omega) rfl ?_
  exact s_vret (st := []) rfl rfl (Nat.zero_le _) (Nat.zero_le _) (pV rfl)

theorem c_divRes_A {z : SZ} {sc : SC} {σ : SS} {d : D} (hS : SR (σ.1 19) d) (hE : EE σ d) (hV : Vd d) (hR : σ.1 21 4 = nI (rs d)) (hH : σ.1 26 0 = nI (mk (he d) 12)) : Cs z sc mX7_divideResidue 0 0 [.ref 20, .ref 12, .ref 18] σ (RV fun σ' => ∃ f, σ' = mz σ [(20, f)] [] ∧ (f 3 = nI (a5 d) ∧ f 4 = nI (a6 d) ∧ f 5 = nI (a7 d) ∧ f 6 = nI (a8 d) ∧ f 7 = nI (a9 d))) := by
  refine Cs.of gmX7_divideResidue (Nat.le_of_ble_eq_true rfl) ?_
  show Ws z sc mX7_divideResidue 0 0 0 0 0 [(0, .ref 20), (1, .ref 12), (2, .ref 18)] [] (mz σ [] []) (RV fun σ' => ∃ f, σ' = mz σ [(20, f)] [] ∧ (f 3 = nI (a5 d) ∧ f 4 = nI (a6 d) ∧ f 5 = nI (a7 d) ∧ f 6 = nI (a8 d) ∧ f 7 = nI (a9 d)))
  have hC := vC hV
  have hmk := mk_lt12 (he d) (Nat.le_refl 12)
  have hrs := rs_le hV
  have h5 := a5_le hV
  have h6 := a6_le hV
  have h7 := a7_le hV
  have hz := hm_z hV
  have hsb := tb_le (hs d)
  refine r_aload_n rfl rfl ?_
  refine s_getI (x := oI (d 0 5)) rfl flX7_107 rfl rfl hE.1.2.1 ?_
  refine n_m1 rfl ?_
  suffices K : Ws z sc mX7_divideResidue 0 0 0 0 24 [(0, .ref 20), (1, .ref 12), (2, .ref 18)] [.int (nI (tb (hs d)))] (mz σ [] []) (RV fun σ' => ∃ f, σ' = mz σ [(20, f)] [] ∧ (f 3 = nI (a5 d) ∧ f 4 = nI (a6 d) ∧ f 5 = nI (a7 d) ∧ f 6 = nI (a8 d) ∧ f 7 = nI (a9 d))) by
    refine r_icmp_eq (tgt := 23) rfl rfl (fun h1 => ?_) (fun h1 => ?_)
    · refine n_iconst 0 rfl ?_
      exact r_top (by rw [hs_no (noI hC.2.2.2.2.2.1 h1)]; rfl) K
    · obtain ⟨s, hs9⟩ : ∃ s, d 0 5 = s + 1 := ⟨d 0 5 - 1, by have := noI2 (d := d) h1; omega⟩
      have ht := tb_le (tk d s)
      refine r_aload_n rfl rfl ?_
      refine r_aload_n rfl rfl ?_
      refine s_getI (x := oI (d 0 5)) rfl flX7_107 rfl rfl hE.1.2.1 ?_
      refine r_top (y := nI s) (by rw [hs9]; exact oI_s s) ?_
      refine s_virI [.int (nI s)] [] rfl lkX7_110 rfl rfl rfl (c_takes_18 hS hV (by omega)) rfl rfl (Nat.le_refl _) (Nat.le_refl _) rfl (rI (e1 := nI (tb (tk d s))) rfl ?_)
      refine n_if_eq (tgt := 23) rfl rfl (by omega) (fun h2 => ?_) (fun h2 => ?_)
      · refine n_iconst 0 rfl ?_
        exact r_top (by rw [hs_s hs9, tb_z h2]; rfl) K
      · refine n_iconst 1 rfl ?_
        refine r_goto (tgt := 24) rfl rfl ?_
        exact r_top (by rw [hs_s hs9, tb_ne h2]; rfl) K
  refine r_istore_n (lv' := [(3, .int (nI (tb (hs d)))), (0, .ref 20), (1, .ref 12), (2, .ref 18)]) rfl rfl (Nat.le_of_ble_eq_true rfl) rfl ?_
  refine r_aload_n rfl rfl ?_
  refine s_getR (r := 21) rfl flX7_12 rfl rfl ?_
  refine s_getI (x := nI (rs d)) rfl flX7_116 rfl rfl hR ?_
  refine r_istore (lv' := [(4, .int (nI (rs d))), (3, .int (nI (tb (hs d)))), (0, .ref 20), (1, .ref 12), (2, .ref 18)]) rfl (Nat.le_of_ble_eq_true rfl) rfl ?_
  refine r_aload_n rfl rfl ?_
  refine n_iconst 0 rfl ?_
  refine m_putI (L' := [(20, (aup (σ.1 20) 3 (nI 0)))]) rfl flX7_32 rfl rfl (okv_i _) rfl ?_
  refine r_aload_n rfl rfl ?_
  refine n_iconst 0 rfl ?_
  refine m_putI (L' := [(20, (aup (aup (σ.1 20) 3 (nI 0)) 4 (nI 0)))]) rfl flX7_36 rfl rfl (okv_i _) rfl ?_
  refine r_aload_n rfl rfl ?_
  refine n_iconst 0 rfl ?_
  refine m_putI (L' := [(20, (aup (aup (aup (σ.1 20) 3 (nI 0)) 4 (nI 0)) 5 (nI 0)))]) rfl flX7_39 rfl rfl (okv_i _) rfl ?_
  refine r_aload_n rfl rfl ?_
  refine n_iconst 0 rfl ?_
  refine m_putI (L' := [(20, (aup (aup (aup (aup (σ.1 20) 3 (nI 0)) 4 (nI 0)) 5 (nI 0)) 6 (nI 0)))]) rfl flX7_42 rfl rfl (okv_i _) rfl ?_
  refine r_aload_n rfl rfl ?_
  refine n_iconst 0 rfl ?_
  refine m_putI (L' := [(20, (aup (aup (aup (aup (aup (σ.1 20) 3 (nI 0)) 4 (nI 0)) 5 (nI 0)) 6 (nI 0)) 7 (nI 0)))]) rfl flX7_45 rfl rfl (okv_i _) rfl ?_
  refine r_aload_n rfl rfl ?_
  refine s_getR (r := 26) rfl flX7_21 rfl rfl ?_
  refine s_getI (x := nI (mk (he d) 12)) rfl flX7_119 rfl rfl hH ?_
  refine n_if_ne (tgt := 95) rfl rfl (by omega) (fun h3 => ?_) (fun h3 => ?_)
  · have hmz : hm d ≠ 0 := fun z => h3 (hz.mpr z)
    refine r_iload_n rfl rfl ?_
    refine n_if_eq (tgt := 160) rfl rfl (by omega) (fun h4 => ?_) (fun h4 => ?_)
    · have hsf := tb_z h4
      have e5 : a5 d = 0 := by unfold a5; rw [hsf]; rfl
      have e6 : a6 d = 0 := by unfold a6; rw [if_neg (by rw [hsf]; intro z; exact absurd z.1 (by decide))]
      have e7 : a7 d = 0 := by omega
      have e8 : a8 d = rs d - 0 - 0 := by unfold a8; rw [if_neg hmz, e5, e7]
      have e9 : a9 d = 0 := by unfold a9; rw [if_neg (fun z => hmz z.2)]
      refine r_aload_n rfl rfl ?_
      refine r_iload rfl rfl ?_
      refine r_aload_n rfl rfl ?_
      refine s_getI (x := nI 0) rfl flX7_32 rfl rfl rfl ?_
      refine n_isub rfl (by omega) ?_
      refine r_aload_n rfl rfl ?_
      refine s_getI (x := nI 0) rfl flX7_39 rfl rfl rfl ?_
      refine n_isub rfl (by omega) ?_
      refine m_putI (L' := [(20, (aup (aup (aup (aup (aup (aup (σ.1 20) 3 (nI 0)) 4 (nI 0)) 5 (nI 0)) 6 (nI 0)) 7 (nI 0)) 6 (nI (((rs d) - 0) - 0))))]) rfl flX7_42 rfl rfl (okv_i _) rfl ?_
      exact s_vret (st := []) rfl rfl (Nat.zero_le _) (Nat.zero_le _) (⟨rfl, _, rfl, by rw [e5]; rfl, by rw [e6]; rfl, by rw [e7]; rfl, by rw [e8]; rfl, by rw [e9]; rfl⟩)
    · have hst := tb_ne h4
      obtain ⟨s, hs9⟩ : ∃ s, d 0 5 = s + 1 := hs_ex hst
      have hA := vA hV s
      have e5 : rs d * d 0 6 / d 0 7 = a5 d := by unfold a5; rw [if_pos hst, if_neg hmz]
      have e6 : (rs d - a5 d) * d 0 8 / 100 = a6 d := by unfold a6; rw [if_pos ⟨hst, hmz⟩]
      have e7 : a6 d * fa (d 2 s) / 100 = a7 d := by unfold a7; rw [hs9, Nat.add_sub_cancel]
      have e8 : a8 d = rs d - a5 d - a7 d := by unfold a8; rw [if_neg hmz]
      have e9 : a9 d = 0 := by unfold a9; rw [if_neg (fun z => hmz z.2)]
      have hfa := fa_le (d 2 s)
      refine r_aload_n rfl rfl ?_
      refine r_iload rfl rfl ?_
      refine r_aload_n rfl rfl ?_
      refine s_getI (x := nI (d 0 6)) rfl flX7_122 rfl rfl hE.1.2.2.2.2.2.1 ?_
      refine r_aload_n rfl rfl ?_
      refine s_getI (x := nI (d 0 7)) rfl flX7_125 rfl rfl hE.1.2.2.2.2.1 ?_
      refine s_staNI [.int (nI (rs d)), .int (nI (d 0 6)), .int (nI (d 0 7))] [.ref 20] rfl lkX7_128 (c_portion (by omega) (by omega) (by omega)) rfl rfl (Nat.le_refl _) (Nat.le_refl _) (rI (e1 := nI (a5 d)) (by rw [e5]) ?_)
      refine m_putI (L' := [(20, (aup (aup (aup (aup (aup (aup (σ.1 20) 3 (nI 0)) 4 (nI 0)) 5 (nI 0)) 6 (nI 0)) 7 (nI 0)) 3 (nI (a5 d))))]) rfl flX7_32 rfl rfl (okv_i _) rfl ?_
      refine r_aload_n rfl rfl ?_
      refine r_iload rfl rfl ?_
      refine r_aload_n rfl rfl ?_
      refine s_getI (x := nI (a5 d)) rfl flX7_32 rfl rfl rfl ?_
      refine n_isub rfl (by omega) ?_
      refine r_aload_n rfl rfl ?_
      refine s_getI (x := nI (d 0 8)) rfl flX7_132 rfl rfl hE.1.2.2.2.2.2.2 ?_
      refine n_bipush 100 rfl (by decide) ?_
      refine s_staNI [.int (nI ((rs d) - (a5 d))), .int (nI (d 0 8)), .int (nI 100)] [.ref 20] rfl lkX7_128 (c_portion (by omega) (by omega) (by omega)) rfl rfl (Nat.le_refl _) (Nat.le_refl _) (rI (e1 := nI (a6 d)) (by rw [e6]) ?_)
      refine m_putI (L' := [(20, (aup (aup (aup (aup (aup (aup (aup (σ.1 20) 3 (nI 0)) 4 (nI 0)) 5 (nI 0)) 6 (nI 0)) 7 (nI 0)) 3 (nI (a5 d))) 4 (nI (a6 d))))]) rfl flX7_36 rfl rfl (okv_i _) rfl ?_
      refine r_aload_n rfl rfl ?_
      refine r_aload_n rfl rfl ?_
      refine s_getI (x := nI (a6 d)) rfl flX7_36 rfl rfl rfl ?_
      refine r_aload_n rfl rfl ?_
      refine r_aload_n rfl rfl ?_
      refine s_getI (x := oI (d 0 5)) rfl flX7_107 rfl rfl hE.1.2.1 ?_
      refine r_top (y := nI s) (by rw [hs9]; exact oI_s s) ?_
      refine s_virI [.int (nI s)] [.int (nI (a6 d)), .ref 20] rfl lkX7_135 rfl rfl rfl (c_age_18 hS (by omega)) rfl rfl (Nat.le_refl _) (Nat.le_refl _) rfl (rI (e1 := nI (d 2 s)) rfl ?_)
      refine s_staI [.int (nI (d 2 s))] [.int (nI (a6 d)), .ref 20] rfl lkX7_138 (c_lifeFactor (by omega)) rfl rfl (Nat.le_refl _) (Nat.le_refl _) rfl (rI (e1 := nI (fa (d 2 s))) rfl ?_)
      refine n_bipush 100 rfl (by decide) ?_
      refine s_staNI [.int (nI (a6 d)), .int (nI (fa (d 2 s))), .int (nI 100)] [.ref 20] rfl lkX7_128 (c_portion (by omega) (by omega) (by omega)) rfl rfl (Nat.le_refl _) (Nat.le_refl _) (rI (e1 := nI (a7 d)) (by rw [e7]) ?_)
      refine m_putI (L' := [(20, (aup (aup (aup (aup (aup (aup (aup (aup (σ.1 20) 3 (nI 0)) 4 (nI 0)) 5 (nI 0)) 6 (nI 0)) 7 (nI 0)) 3 (nI (a5 d))) 4 (nI (a6 d))) 5 (nI (a7 d))))]) rfl flX7_39 rfl rfl (okv_i _) rfl ?_
      refine r_aload_n rfl rfl ?_
      refine r_iload rfl rfl ?_
      refine r_aload_n rfl rfl ?_
      refine s_getI (x := nI (a5 d)) rfl flX7_32 rfl rfl rfl ?_
      refine n_isub rfl (by omega) ?_
      refine r_aload_n rfl rfl ?_
      refine s_getI (x := nI (a7 d)) rfl flX7_39 rfl rfl rfl ?_
      refine n_isub rfl (by omega) ?_
      refine m_putI (L' := [(20, (aup (aup (aup (aup (aup (aup (aup (aup (aup (σ.1 20) 3 (nI 0)) 4 (nI 0)) 5 (nI 0)) 6 (nI 0)) 7 (nI 0)) 3 (nI (a5 d))) 4 (nI (a6 d))) 5 (nI (a7 d))) 6 (nI (((rs d) - (a5 d)) - (a7 d)))))]) rfl flX7_42 rfl rfl (okv_i _) rfl ?_
      exact s_vret (st := []) rfl rfl (Nat.zero_le _) (Nat.zero_le _) (⟨rfl, _, rfl, rfl, rfl, rfl, by rw [e8]; rfl, by rw [e9]; rfl⟩)
  · have hmz : hm d = 0 := hz.mp h3
    have e6 : a6 d = 0 := by unfold a6; rw [if_neg (fun z => z.2 hmz)]
    have e7 : a7 d = 0 := by omega
    have e8 : a8 d = 0 := by unfold a8; rw [if_pos hmz]
    have e9 : a9 d = rs d - a5 d := by unfold a9 a5; cases hs d <;> simp [hmz]
    refine r_aload_n rfl rfl ?_
    refine r_iload_n rfl rfl ?_
    suffices K : Ws z sc mX7_divideResidue 0 0 0 0 80 [(4, .int (nI (rs d))), (3, .int (nI (tb (hs d)))), (0, .ref 20), (1, .ref 12), (2, .ref 18)] [.int (nI (a5 d)), .ref 20] (mz σ [(20, (aup (aup (aup (aup (aup (σ.1 20) 3 (nI 0)) 4 (nI 0)) 5 (nI 0)) 6 (nI 0)) 7 (nI 0)))] []) (RV fun σ' => ∃ f, σ' = mz σ [(20, f)] [] ∧ (f 3 = nI (a5 d) ∧ f 4 = nI (a6 d) ∧ f 5 = nI (a7 d) ∧ f 6 = nI (a8 d) ∧ f 7 = nI (a9 d))) by
      refine n_if_eq (tgt := 79) rfl rfl (by omega) (fun h4 => ?_) (fun h4 => ?_)
      · refine n_iconst 0 rfl ?_
        exact r_top (by unfold a5; rw [tb_z h4]; rfl) K
      · refine r_iload rfl rfl ?_
        refine r_goto (tgt := 80) rfl rfl ?_
        exact r_top (by unfold a5; rw [if_pos (tb_ne h4), if_pos hmz]) K
    refine m_putI (L' := [(20, (aup (aup (aup (aup (aup (aup (σ.1 20) 3 (nI 0)) 4 (nI 0)) 5 (nI 0)) 6 (nI 0)) 7 (nI 0)) 3 (nI (a5 d))))]) rfl flX7_32 rfl rfl (okv_i _) rfl ?_
    refine r_aload_n rfl rfl ?_
    refine r_iload rfl rfl ?_
    refine r_aload_n rfl rfl ?_
    refine s_getI (x := nI (a5 d)) rfl flX7_32 rfl rfl rfl ?_
    refine n_isub rfl (by omega) ?_
    refine m_putI (L' := [(20, (aup (aup (aup (aup (aup (aup (aup (σ.1 20) 3 (nI 0)) 4 (nI 0)) 5 (nI 0)) 6 (nI 0)) 7 (nI 0)) 3 (nI (a5 d))) 7 (nI ((rs d) - (a5 d)))))]) rfl flX7_45 rfl rfl (okv_i _) rfl ?_
    exact s_vret (st := []) rfl rfl (Nat.zero_le _) (Nat.zero_le _) (⟨rfl, _, rfl, rfl, by rw [e6]; rfl, by rw [e7]; rfl, by rw [e8]; rfl, by rw [e9]; rfl⟩)

theorem c_settle_A {z : SZ} {sc : SC} {σ : SS} {d : D} (hS : SR (σ.1 19) d) (hE : EE σ d) (hV : Vd d) : Cs z sc mX7_settle 0 0 [.ref 20, .ref 12, .ref 18] σ (RV fun σ' => ∃ g0 g1 g2 g3 g4 g5 g6 g7 g8 g9 g10 g11 g12 g13, σ' = mz σ [(21, g0), (25, g1), (24, g2), (22, g3), (23, g4), (27, g5), (26, g6), (28, g7), (29, g8), (20, g9), (31, g10), (33, g11), (32, g12), (30, g13)] [] ∧ SEA (mz σ [(21, g0), (25, g1), (24, g2), (22, g3), (23, g4), (27, g5), (26, g6), (28, g7), (29, g8), (20, g9), (31, g10), (33, g11), (32, g12), (30, g13)] []) d) := by
  refine Cs.of gmX7_settle (Nat.le_of_ble_eq_true rfl) ?_
  show Ws z sc mX7_settle 0 0 0 0 0 [(0, .ref 20), (1, .ref 12), (2, .ref 18)] [] (mz σ [] []) (RV fun σ' => ∃ g0 g1 g2 g3 g4 g5 g6 g7 g8 g9 g10 g11 g12 g13, σ' = mz σ [(21, g0), (25, g1), (24, g2), (22, g3), (23, g4), (27, g5), (26, g6), (28, g7), (29, g8), (20, g9), (31, g10), (33, g11), (32, g12), (30, g13)] [] ∧ SEA (mz σ [(21, g0), (25, g1), (24, g2), (22, g3), (23, g4), (27, g5), (26, g6), (28, g7), (29, g8), (20, g9), (31, g10), (33, g11), (32, g12), (30, g13)] []) d)
  refine r_aload_n rfl rfl ?_
  refine s_getR (r := 21) rfl flX7_12 rfl rfl ?_
  refine r_aload_n rfl rfl ?_
  refine r_aload_n rfl rfl ?_
  refine s_virV [.ref 12, .ref 18] [] rfl lkX7_57 rfl rfl rfl (c_addUp_A hS hE hV) rfl rfl (Nat.le_refl _) (Nat.le_refl _) rfl ?_
  rintro _ ⟨f1, rfl, h1⟩
  refine m_mz (L' := [(21, f1)]) (M' := []) rfl rfl ?_
  refine r_aload_n rfl rfl ?_
  refine s_getR (r := 21) rfl flX7_12 rfl rfl ?_
  refine r_aload_n rfl rfl ?_
  refine s_virV [.ref 18] [] rfl lkX7_61 rfl rfl rfl (c_payDebts_A hS hV h1) rfl rfl (Nat.le_refl _) (Nat.le_refl _) rfl ?_
  rintro _ ⟨f2, f3, f4, f5, rfl, h2, h3⟩
  refine m_mz (L' := [(21, f3), (25, f5), (24, f4), (22, f2)]) (M' := []) rfl rfl ?_
  refine r_aload_n rfl rfl ?_
  refine s_getR (r := 21) rfl flX7_12 rfl rfl ?_
  refine r_aload_n rfl rfl ?_
  refine r_aload_n rfl rfl ?_
  refine s_virV [.ref 12, .ref 18] [] rfl lkX7_65 rfl rfl rfl (c_payLeg_A hS hE hV h2.1 h2.2.1) rfl rfl (Nat.le_refl _) (Nat.le_refl _) rfl ?_
  rintro _ ⟨f6, f7, f8, rfl, h4, h5⟩
  refine m_mz (L' := [(21, f6), (25, f5), (24, f7), (22, f2), (23, f8)]) (M' := []) rfl rfl ?_
  refine r_aload_n rfl rfl ?_
  refine s_getR (r := 26) rfl flX7_21 rfl rfl ?_
  refine r_aload_n rfl rfl ?_
  refine r_aload_n rfl rfl ?_
  refine s_virV [.ref 12, .ref 18] [] rfl lkX7_68 rfl rfl rfl (c_open_A hS hE hV) rfl rfl (Nat.le_refl _) (Nat.le_refl _) rfl ?_
  rintro _ ⟨f9, f10, rfl, h6, h7⟩
  refine m_mz (L' := [(21, f6), (25, f5), (24, f7), (22, f2), (23, f8), (27, f10), (26, f9)]) (M' := []) rfl rfl ?_
  refine r_aload_n rfl rfl ?_
  refine s_getR (r := 26) rfl flX7_21 rfl rfl ?_
  refine r_aload_n rfl rfl ?_
  refine r_aload_n rfl rfl ?_
  refine s_virV [.ref 12, .ref 18] [] rfl lkX7_71 rfl rfl rfl (c_findHeirs_A hS hE hV h7) rfl rfl (Nat.le_refl _) (Nat.le_refl _) rfl ?_
  rintro _ ⟨f11, f12, rfl, h8, h9⟩
  refine m_mz (L' := [(21, f6), (25, f5), (24, f7), (22, f2), (23, f8), (27, f10), (26, f11), (28, f12)]) (M' := []) rfl rfl ?_
  refine r_aload_n rfl rfl ?_
  refine s_getR (r := 26) rfl flX7_21 rfl rfl ?_
  refine s_virV [] [] rfl lkX7_74 rfl rfl rfl (c_findWeights_A hV h8.1 h9) rfl rfl (Nat.le_refl _) (Nat.le_refl _) rfl ?_
  rintro _ ⟨f13, rfl, h10⟩
  refine m_mz (L' := [(21, f6), (25, f5), (24, f7), (22, f2), (23, f8), (27, f10), (26, f11), (28, f12), (29, f13)]) (M' := []) rfl rfl ?_
  refine r_aload_n rfl rfl ?_
  refine r_aload_n rfl rfl ?_
  refine r_aload_n rfl rfl ?_
  refine s_virV [.ref 12, .ref 18] [] rfl lkX7_77 rfl rfl rfl (c_divRes_A hS hE hV h4.2.2.2.2 h8.1) rfl rfl (Nat.le_refl _) (Nat.le_refl _) rfl ?_
  rintro _ ⟨f14, rfl, h11⟩
  refine m_mz (L' := [(21, f6), (25, f5), (24, f7), (22, f2), (23, f8), (27, f10), (26, f11), (28, f12), (29, f13), (20, f14)]) (M' := []) rfl rfl ?_
  refine r_aload_n rfl rfl ?_
  refine s_getR (r := 30) rfl flX7_28 rfl rfl ?_
  refine r_aload_n rfl rfl ?_
  refine s_virV [.ref 18] [] rfl lkX7_80 rfl rfl rfl (c_bring_A18 hS hV) rfl rfl (Nat.le_refl _) (Nat.le_refl _) rfl ?_
  rintro _ ⟨f15, rfl, h12⟩
  refine m_mz (L' := [(21, f6), (25, f5), (24, f7), (22, f2), (23, f8), (27, f10), (26, f11), (28, f12), (29, f13), (20, f14), (31, f15)]) (M' := []) rfl rfl ?_
  refine r_aload_n rfl rfl ?_
  refine s_getR (r := 30) rfl flX7_28 rfl rfl ?_
  refine r_aload_n rfl rfl ?_
  refine s_getI (x := nI (a8 d)) rfl flX7_42 rfl rfl h11.2.2.2.1 ?_
  refine r_aload_n rfl rfl ?_
  refine s_getR (r := 26) rfl flX7_21 rfl rfl ?_
  refine s_virV [.int (nI (a8 d)), .ref 26] [] rfl lkX7_83 rfl rfl rfl (c_divide_AA (G := gf d) (a8_le hV) h10 (fun i _ => wt_le hV i) h12 (fun i _ => Nat.le_trans (gf_le hV i) (by decide))) rfl rfl (Nat.le_refl _) (Nat.le_refl _) rfl ?_
  rintro _ ⟨f16, f17, f18, rfl, h13, h14, h15⟩
  refine m_mz (L' := [(21, f6), (25, f5), (24, f7), (22, f2), (23, f8), (27, f10), (26, f11), (28, f12), (29, f13), (20, f14), (31, f15), (33, f18), (32, f17), (30, f16)]) (M' := []) rfl rfl ?_
  exact s_vret (st := []) rfl rfl (Nat.zero_le _) (Nat.zero_le _) (⟨rfl, f6, f5, f7, f2, f8, f10, f11, f12, f13, f14, f15, f18, f17, f16, rfl, ⟨h4.1, h4.2.1, h4.2.2.1.trans h2.2.2, h4.2.2.2⟩, h3, h5, ⟨h8.1, h8.2.trans h6⟩, h9, h10, h13, h12, h14, h15, h11⟩)

theorem c_givenTo_A {z : SZ} {sc : SC} {σ : SS} {d : D} {q : Nat} (hE : EE σ d) (hV : Vd d) (hX : SEA σ d) (hq : q < 12) : Cs z sc mX7_givenTo 0 0 [.ref 20, .ref 12, .int (nI q)] σ (PI (gv d q) σ) := by
  refine Cs.of gmX7_givenTo (Nat.le_of_ble_eq_true rfl) ?_
  show Ws z sc mX7_givenTo 0 0 0 0 0 [(0, .ref 20), (1, .ref 12), (2, .int (nI q))] [] (mz σ [] []) (PI (gv d q) σ)
  have hC := vC hV
  have hw9 : ∀ i, i < 12 → w9 d i ≤ 4096 := fun i _ => Nat.le_trans lo_lw (wt_le hV i)
  have hwq := hw9 q hq
  obtain ⟨x1, x2, x3, x4, x5, x6, x7, x8, x9, x10, x11⟩ := hX
  refine r_aload_n rfl rfl ?_
  refine s_getR (r := 30) rfl flX7_28 rfl rfl ?_
  refine r_iload_n rfl rfl ?_
  refine s_virI [.int (nI q)] [] rfl lkX7_87 rfl rfl rfl (c_fromFund_A hq (x9 q hq) (by omega) (x10 q hq) (x8 q hq)) rfl rfl (Nat.le_refl _) (Nat.le_refl _) rfl (rI (e1 := sv d q) rfl ?_)
  refine r_istore_n (lv' := [(3, .int (sv d q)), (0, .ref 20), (1, .ref 12), (2, .int (nI q))]) rfl rfl (Nat.le_of_ble_eq_true rfl) rfl ?_
  refine n_iconst 0 rfl ?_
  refine r_istore (lv' := [(4, .int (nI 0)), (3, .int (sv d q)), (0, .ref 20), (1, .ref 12), (2, .int (nI q))]) rfl (Nat.le_of_ble_eq_true rfl) rfl ?_
  have e0 : sv d q = sv d q + nI (sm (fun k => if d 11 k = q then lp d k else 0) 0) := (Int32.add_zero _).symm
  rw [e0]
  refine r_lv (lv' := [(4, .int (nI 0)), (0, .ref 20), (1, .ref 12), (2, .int (nI q)), (3, .int (sv d q + nI (sm (fun k => if d 11 k = q then lp d k else 0) 0)))]) [0, 2, 3, 4, 1] rfl ?_
  have loop : ∀ (m9 : Nat) (k : Nat) , d 0 4 - k < m9 → (k ≤ d 0 4) → Ws z sc mX7_givenTo 0 0 0 0 12 [(4, .int (nI k)), (0, .ref 20), (1, .ref 12), (2, .int (nI q)), (3, .int (sv d q + nI (sm (fun k => if d 11 k = q then lp d k else 0) k)))] [] (mz σ [] []) (PI (gv d q) σ) := by
    intro m9
    induction m9 with
    | zero => intro k  hme; exact absurd hme (Nat.not_lt_zero _)
    | succ m9 ih =>
      intro k  hme hk
      have hL := vL hV k
      refine r_iload rfl rfl ?_
      refine r_aload_n rfl rfl ?_
      refine s_getI (x := nI (d 0 4)) rfl flX7_91 rfl rfl hE.1.2.2.2.1 ?_
      refine n_icmp_ge (tgt := 55) rfl rfl (by omega) (by omega) (fun h1 => ?_) (fun h1 => ?_)
      · have hk9 : k = d 0 4 := by omega
        rw [hk9]
        refine r_iload_n rfl rfl ?_
        refine r_aload_n rfl rfl ?_
        refine s_getI (x := oI (d 0 5)) rfl flX7_107 rfl rfl hE.1.2.1 ?_
        refine r_icmp_ne (tgt := 77) rfl rfl (fun h2 => ?_) (fun h2 => ?_)
        · refine r_iload_n rfl rfl ?_
          exact s_ret (st := []) rfl rfl rfl (Nat.zero_le _) (Nat.zero_le _) (pI (by show _ = gv d q; unfold gv; rw [if_neg (fun z => h2 ((oI_q (by omega) (by omega)).mpr z))]; exact (Int32.add_zero _).symm) rfl)
        · refine r_iload_n rfl rfl ?_
          refine r_aload_n rfl rfl ?_
          refine s_getI (x := nI (a5 d)) rfl flX7_32 rfl rfl x11.1 ?_
          refine r_iadd rfl ?_
          refine r_aload_n rfl rfl ?_
          refine s_getI (x := nI (a7 d)) rfl flX7_39 rfl rfl x11.2.2.1 ?_
          refine r_iadd rfl ?_
          refine r_goto (tgt := 78) rfl rfl ?_
          exact s_ret (st := []) rfl rfl rfl (Nat.zero_le _) (Nat.zero_le _) (pI (by show _ = gv d q; unfold gv; rw [if_pos ((oI_q (by omega) (by omega)).mp h2), ← nI_add, ← Int32.add_assoc]; rfl) rfl)
      · refine r_aload_n rfl rfl ?_
        refine s_getR (r := 16) rfl flX7_96 rfl rfl ?_
        refine r_iload rfl rfl ?_
        refine s_staNI [.ref 16, .int (nI k)] [] rfl lkX7_100 (c_at_16 (by omega) (hE.2.2.2.1 k (by omega))) rfl rfl (Nat.le_refl _) (Nat.le_refl _) (rI (e1 := nI (d 11 k)) rfl ?_)
        refine r_iload_n rfl rfl ?_
        refine n_icmp_ne (tgt := 49) rfl rfl (by omega) (by omega) (fun h2 => ?_) (fun h2 => ?_)
        · refine n_iinc (lv' := [(4, .int (nI (k + 1))), (0, .ref 20), (1, .ref 12), (2, .int (nI q)), (3, .int (sv d q + nI (sm (fun k => if d 11 k = q then lp d k else 0) k)))]) 1 rfl rfl (Nat.le_of_ble_eq_true rfl) rfl ?_
          refine r_goto (tgt := 12) rfl rfl ?_
          have e : sm (fun k => if d 11 k = q then lp d k else 0) (k + 1) = sm (fun k => if d 11 k = q then lp d k else 0) k := by show sm (fun k => if d 11 k = q then lp d k else 0) k + (if d 11 k = q then lp d k else 0) = _; rw [if_neg h2, Nat.add_zero]
          rw [← e]
          refine r_lv (lv' := [(4, .int (nI (k + 1))), (0, .ref 20), (1, .ref 12), (2, .int (nI q)), (3, .int (sv d q + nI (sm (fun k => if d 11 k = q then lp d k else 0) (k + 1))))]) [0, 1, 2, 3, 4] rfl ?_
          exact ih (k + 1) (by omega) (by omega)
        · refine r_iload_n rfl rfl ?_
          refine r_aload_n rfl rfl ?_
          refine s_getR (r := 21) rfl flX7_12 rfl rfl ?_
          refine s_getR (r := 23) rfl flX7_104 rfl rfl ?_
          refine r_iload rfl rfl ?_
          refine s_staNI [.ref 23, .int (nI k)] [.int (sv d q + nI (sm (fun k => if d 11 k = q then lp d k else 0) k))] rfl lkX7_100 (c_at_23 (by omega) (x3 k (by omega))) rfl rfl (Nat.le_refl _) (Nat.le_refl _) (rI (e1 := nI (lp d k)) rfl ?_)
          refine r_iadd rfl ?_
          refine r_istore_n (lv' := [(3, .int ((sv d q + nI (sm (fun k => if d 11 k = q then lp d k else 0) k)) + (nI (lp d k)))), (4, .int (nI k)), (0, .ref 20), (1, .ref 12), (2, .int (nI q))]) rfl rfl (Nat.le_of_ble_eq_true rfl) rfl ?_
          refine n_iinc (lv' := [(4, .int (nI (k + 1))), (3, .int ((sv d q + nI (sm (fun k => if d 11 k = q then lp d k else 0) k)) + (nI (lp d k)))), (0, .ref 20), (1, .ref 12), (2, .int (nI q))]) 1 rfl rfl (Nat.le_of_ble_eq_true rfl) rfl ?_
          refine r_goto (tgt := 12) rfl rfl ?_
          have e : sv d q + nI (sm (fun k => if d 11 k = q then lp d k else 0) k) + nI (lp d k) = sv d q + nI (sm (fun k => if d 11 k = q then lp d k else 0) (k + 1)) := by show _ = sv d q + nI (sm (fun k => if d 11 k = q then lp d k else 0) k + (if d 11 k = q then lp d k else 0)); rw [if_pos h2, ← nI_add, Int32.add_assoc]
          rw [e]
          refine r_lv (lv' := [(4, .int (nI (k + 1))), (0, .ref 20), (1, .ref 12), (2, .int (nI q)), (3, .int (sv d q + nI (sm (fun k => if d 11 k = q then lp d k else 0) (k + 1))))]) [0, 2, 3, 4, 1] rfl ?_
          exact ih (k + 1) (by omega) (by omega)
  exact loop (d 0 4 + 1) 0 (by omega) (by omega)

theorem c_divRes_B {z : SZ} {sc : SC} {σ : SS} {d : D} (hS : SR (σ.1 35) d) (hE : EE σ d) (hV : Vd d) (hR : σ.1 37 4 = nI (rs d)) (hH : σ.1 42 0 = nI (mk (he d) 12)) : Cs z sc mX7_divideResidue 0 0 [.ref 36, .ref 12, .ref 34] σ (RV fun σ' => ∃ f, σ' = mz σ [(36, f)] [] ∧ (f 3 = nI (a5 d) ∧ f 4 = nI (a6 d) ∧ f 5 = nI (a7 d) ∧ f 6 = nI (a8 d) ∧ f 7 = nI (a9 d))) := by
  refine Cs.of gmX7_divideResidue (Nat.le_of_ble_eq_true rfl) ?_
  show Ws z sc mX7_divideResidue 0 0 0 0 0 [(0, .ref 36), (1, .ref 12), (2, .ref 34)] [] (mz σ [] []) (RV fun σ' => ∃ f, σ' = mz σ [(36, f)] [] ∧ (f 3 = nI (a5 d) ∧ f 4 = nI (a6 d) ∧ f 5 = nI (a7 d) ∧ f 6 = nI (a8 d) ∧ f 7 = nI (a9 d)))
  have hC := vC hV
  have hmk := mk_lt12 (he d) (Nat.le_refl 12)
  have hrs := rs_le hV
  have h5 := a5_le hV
  have h6 := a6_le hV
  have h7 := a7_le hV
  have hz := hm_z hV
  have hsb := tb_le (hs d)
  refine r_aload_n rfl rfl ?_
  refine s_getI (x := oI (d 0 5)) rfl flX7_107 rfl rfl hE.1.2.1 ?_
  refine n_m1 rfl ?_
  suffices K : Ws z sc mX7_divideResidue 0 0 0 0 24 [(0, .ref 36), (1, .ref 12), (2, .ref 34)] [.int (nI (tb (hs d)))] (mz σ [] []) (RV fun σ' => ∃ f, σ' = mz σ [(36, f)] [] ∧ (f 3 = nI (a5 d) ∧ f 4 = nI (a6 d) ∧ f 5 = nI (a7 d) ∧ f 6 = nI (a8 d) ∧ f 7 = nI (a9 d))) by
    refine r_icmp_eq (tgt := 23) rfl rfl (fun h1 => ?_) (fun h1 => ?_)
    · refine n_iconst 0 rfl ?_
      exact r_top (by rw [hs_no (noI hC.2.2.2.2.2.1 h1)]; rfl) K
    · obtain ⟨s, hs9⟩ : ∃ s, d 0 5 = s + 1 := ⟨d 0 5 - 1, by have := noI2 (d := d) h1; omega⟩
      have ht := tb_le (tk d s)
      refine r_aload_n rfl rfl ?_
      refine r_aload_n rfl rfl ?_
      refine s_getI (x := oI (d 0 5)) rfl flX7_107 rfl rfl hE.1.2.1 ?_
      refine r_top (y := nI s) (by rw [hs9]; exact oI_s s) ?_
      refine s_virI [.int (nI s)] [] rfl lkX7_110 rfl rfl rfl (c_takes_34 hS hV (by omega)) rfl rfl (Nat.le_refl _) (Nat.le_refl _) rfl (rI (e1 := nI (tb (tk d s))) rfl ?_)
      refine n_if_eq (tgt := 23) rfl rfl (by omega) (fun h2 => ?_) (fun h2 => ?_)
      · refine n_iconst 0 rfl ?_
        exact r_top (by rw [hs_s hs9, tb_z h2]; rfl) K
      · refine n_iconst 1 rfl ?_
        refine r_goto (tgt := 24) rfl rfl ?_
        exact r_top (by rw [hs_s hs9, tb_ne h2]; rfl) K
  refine r_istore_n (lv' := [(3, .int (nI (tb (hs d)))), (0, .ref 36), (1, .ref 12), (2, .ref 34)]) rfl rfl (Nat.le_of_ble_eq_true rfl) rfl ?_
  refine r_aload_n rfl rfl ?_
  refine s_getR (r := 37) rfl flX7_12 rfl rfl ?_
  refine s_getI (x := nI (rs d)) rfl flX7_116 rfl rfl hR ?_
  refine r_istore (lv' := [(4, .int (nI (rs d))), (3, .int (nI (tb (hs d)))), (0, .ref 36), (1, .ref 12), (2, .ref 34)]) rfl (Nat.le_of_ble_eq_true rfl) rfl ?_
  refine r_aload_n rfl rfl ?_
  refine n_iconst 0 rfl ?_
  refine m_putI (L' := [(36, (aup (σ.1 36) 3 (nI 0)))]) rfl flX7_32 rfl rfl (okv_i _) rfl ?_
  refine r_aload_n rfl rfl ?_
  refine n_iconst 0 rfl ?_
  refine m_putI (L' := [(36, (aup (aup (σ.1 36) 3 (nI 0)) 4 (nI 0)))]) rfl flX7_36 rfl rfl (okv_i _) rfl ?_
  refine r_aload_n rfl rfl ?_
  refine n_iconst 0 rfl ?_
  refine m_putI (L' := [(36, (aup (aup (aup (σ.1 36) 3 (nI 0)) 4 (nI 0)) 5 (nI 0)))]) rfl flX7_39 rfl rfl (okv_i _) rfl ?_
  refine r_aload_n rfl rfl ?_
  refine n_iconst 0 rfl ?_
  refine m_putI (L' := [(36, (aup (aup (aup (aup (σ.1 36) 3 (nI 0)) 4 (nI 0)) 5 (nI 0)) 6 (nI 0)))]) rfl flX7_42 rfl rfl (okv_i _) rfl ?_
  refine r_aload_n rfl rfl ?_
  refine n_iconst 0 rfl ?_
  refine m_putI (L' := [(36, (aup (aup (aup (aup (aup (σ.1 36) 3 (nI 0)) 4 (nI 0)) 5 (nI 0)) 6 (nI 0)) 7 (nI 0)))]) rfl flX7_45 rfl rfl (okv_i _) rfl ?_
  refine r_aload_n rfl rfl ?_
  refine s_getR (r := 42) rfl flX7_21 rfl rfl ?_
  refine s_getI (x := nI (mk (he d) 12)) rfl flX7_119 rfl rfl hH ?_
  refine n_if_ne (tgt := 95) rfl rfl (by omega) (fun h3 => ?_) (fun h3 => ?_)
  · have hmz : hm d ≠ 0 := fun z => h3 (hz.mpr z)
    refine r_iload_n rfl rfl ?_
    refine n_if_eq (tgt := 160) rfl rfl (by omega) (fun h4 => ?_) (fun h4 => ?_)
    · have hsf := tb_z h4
      have e5 : a5 d = 0 := by unfold a5; rw [hsf]; rfl
      have e6 : a6 d = 0 := by unfold a6; rw [if_neg (by rw [hsf]; intro z; exact absurd z.1 (by decide))]
      have e7 : a7 d = 0 := by omega
      have e8 : a8 d = rs d - 0 - 0 := by unfold a8; rw [if_neg hmz, e5, e7]
      have e9 : a9 d = 0 := by unfold a9; rw [if_neg (fun z => hmz z.2)]
      refine r_aload_n rfl rfl ?_
      refine r_iload rfl rfl ?_
      refine r_aload_n rfl rfl ?_
      refine s_getI (x := nI 0) rfl flX7_32 rfl rfl rfl ?_
      refine n_isub rfl (by omega) ?_
      refine r_aload_n rfl rfl ?_
      refine s_getI (x := nI 0) rfl flX7_39 rfl rfl rfl ?_
      refine n_isub rfl (by omega) ?_
      refine m_putI (L' := [(36, (aup (aup (aup (aup (aup (aup (σ.1 36) 3 (nI 0)) 4 (nI 0)) 5 (nI 0)) 6 (nI 0)) 7 (nI 0)) 6 (nI (((rs d) - 0) - 0))))]) rfl flX7_42 rfl rfl (okv_i _) rfl ?_
      exact s_vret (st := []) rfl rfl (Nat.zero_le _) (Nat.zero_le _) (⟨rfl, _, rfl, by rw [e5]; rfl, by rw [e6]; rfl, by rw [e7]; rfl, by rw [e8]; rfl, by rw [e9]; rfl⟩)
    · have hst := tb_ne h4
      obtain ⟨s, hs9⟩ : ∃ s, d 0 5 = s + 1 := hs_ex hst
      have hA := vA hV s
      have e5 : rs d * d 0 6 / d 0 7 = a5 d := by unfold a5; rw [if_pos hst, if_neg hmz]
      have e6 : (rs d - a5 d) * d 0 8 / 100 = a6 d := by unfold a6; rw [if_pos ⟨hst, hmz⟩]
      have e7 : a6 d * fa (d 2 s) / 100 = a7 d := by unfold a7; rw [hs9, Nat.add_sub_cancel]
      have e8 : a8 d = rs d - a5 d - a7 d := by unfold a8; rw [if_neg hmz]
      have e9 : a9 d = 0 := by unfold a9; rw [if_neg (fun z => hmz z.2)]
      have hfa := fa_le (d 2 s)
      refine r_aload_n rfl rfl ?_
      refine r_iload rfl rfl ?_
      refine r_aload_n rfl rfl ?_
      refine s_getI (x := nI (d 0 6)) rfl flX7_122 rfl rfl hE.1.2.2.2.2.2.1 ?_
      refine r_aload_n rfl rfl ?_
      refine s_getI (x := nI (d 0 7)) rfl flX7_125 rfl rfl hE.1.2.2.2.2.1 ?_
      refine s_staNI [.int (nI (rs d)), .int (nI (d 0 6)), .int (nI (d 0 7))] [.ref 36] rfl lkX7_128 (c_portion (by omega) (by omega) (by omega)) rfl rfl (Nat.le_refl _) (Nat.le_refl _) (rI (e1 := nI (a5 d)) (by rw [e5]) ?_)
      refine m_putI (L' := [(36, (aup (aup (aup (aup (aup (aup (σ.1 36) 3 (nI 0)) 4 (nI 0)) 5 (nI 0)) 6 (nI 0)) 7 (nI 0)) 3 (nI (a5 d))))]) rfl flX7_32 rfl rfl (okv_i _) rfl ?_
      refine r_aload_n rfl rfl ?_
      refine r_iload rfl rfl ?_
      refine r_aload_n rfl rfl ?_
      refine s_getI (x := nI (a5 d)) rfl flX7_32 rfl rfl rfl ?_
      refine n_isub rfl (by omega) ?_
      refine r_aload_n rfl rfl ?_
      refine s_getI (x := nI (d 0 8)) rfl flX7_132 rfl rfl hE.1.2.2.2.2.2.2 ?_
      refine n_bipush 100 rfl (by decide) ?_
      refine s_staNI [.int (nI ((rs d) - (a5 d))), .int (nI (d 0 8)), .int (nI 100)] [.ref 36] rfl lkX7_128 (c_portion (by omega) (by omega) (by omega)) rfl rfl (Nat.le_refl _) (Nat.le_refl _) (rI (e1 := nI (a6 d)) (by rw [e6]) ?_)
      refine m_putI (L' := [(36, (aup (aup (aup (aup (aup (aup (aup (σ.1 36) 3 (nI 0)) 4 (nI 0)) 5 (nI 0)) 6 (nI 0)) 7 (nI 0)) 3 (nI (a5 d))) 4 (nI (a6 d))))]) rfl flX7_36 rfl rfl (okv_i _) rfl ?_
      refine r_aload_n rfl rfl ?_
      refine r_aload_n rfl rfl ?_
      refine s_getI (x := nI (a6 d)) rfl flX7_36 rfl rfl rfl ?_
      refine r_aload_n rfl rfl ?_
      refine r_aload_n rfl rfl ?_
      refine s_getI (x := oI (d 0 5)) rfl flX7_107 rfl rfl hE.1.2.1 ?_
      refine r_top (y := nI s) (by rw [hs9]; exact oI_s s) ?_
      refine s_virI [.int (nI s)] [.int (nI (a6 d)), .ref 36] rfl lkX7_135 rfl rfl rfl (c_age_34 hS (by omega)) rfl rfl (Nat.le_refl _) (Nat.le_refl _) rfl (rI (e1 := nI (d 2 s)) rfl ?_)
      refine s_staI [.int (nI (d 2 s))] [.int (nI (a6 d)), .ref 36] rfl lkX7_138 (c_lifeFactor (by omega)) rfl rfl (Nat.le_refl _) (Nat.le_refl _) rfl (rI (e1 := nI (fa (d 2 s))) rfl ?_)
      refine n_bipush 100 rfl (by decide) ?_
      refine s_staNI [.int (nI (a6 d)), .int (nI (fa (d 2 s))), .int (nI 100)] [.ref 36] rfl lkX7_128 (c_portion (by omega) (by omega) (by omega)) rfl rfl (Nat.le_refl _) (Nat.le_refl _) (rI (e1 := nI (a7 d)) (by rw [e7]) ?_)
      refine m_putI (L' := [(36, (aup (aup (aup (aup (aup (aup (aup (aup (σ.1 36) 3 (nI 0)) 4 (nI 0)) 5 (nI 0)) 6 (nI 0)) 7 (nI 0)) 3 (nI (a5 d))) 4 (nI (a6 d))) 5 (nI (a7 d))))]) rfl flX7_39 rfl rfl (okv_i _) rfl ?_
      refine r_aload_n rfl rfl ?_
      refine r_iload rfl rfl ?_
      refine r_aload_n rfl rfl ?_
      refine s_getI (x := nI (a5 d)) rfl flX7_32 rfl rfl rfl ?_
      refine n_isub rfl (by omega) ?_
      refine r_aload_n rfl rfl ?_
      refine s_getI (x := nI (a7 d)) rfl flX7_39 rfl rfl rfl ?_
      refine n_isub rfl (by omega) ?_
      refine m_putI (L' := [(36, (aup (aup (aup (aup (aup (aup (aup (aup (aup (σ.1 36) 3 (nI 0)) 4 (nI 0)) 5 (nI 0)) 6 (nI 0)) 7 (nI 0)) 3 (nI (a5 d))) 4 (nI (a6 d))) 5 (nI (a7 d))) 6 (nI (((rs d) - (a5 d)) - (a7 d)))))]) rfl flX7_42 rfl rfl (okv_i _) rfl ?_
      exact s_vret (st := []) rfl rfl (Nat.zero_le _) (Nat.zero_le _) (⟨rfl, _, rfl, rfl, rfl, rfl, by rw [e8]; rfl, by rw [e9]; rfl⟩)
  · have hmz : hm d = 0 := hz.mp h3
    have e6 : a6 d = 0 := by unfold a6; rw [if_neg (fun z => z.2 hmz)]
    have e7 : a7 d = 0 := by omega
    have e8 : a8 d = 0 := by unfold a8; rw [if_pos hmz]
    have e9 : a9 d = rs d - a5 d := by unfold a9 a5; cases hs d <;> simp [hmz]
    refine r_aload_n rfl rfl ?_
    refine r_iload_n rfl rfl ?_
    suffices K : Ws z sc mX7_divideResidue 0 0 0 0 80 [(4, .int (nI (rs d))), (3, .int (nI (tb (hs d)))), (0, .ref 36), (1, .ref 12), (2, .ref 34)] [.int (nI (a5 d)), .ref 36] (mz σ [(36, (aup (aup (aup (aup (aup (σ.1 36) 3 (nI 0)) 4 (nI 0)) 5 (nI 0)) 6 (nI 0)) 7 (nI 0)))] []) (RV fun σ' => ∃ f, σ' = mz σ [(36, f)] [] ∧ (f 3 = nI (a5 d) ∧ f 4 = nI (a6 d) ∧ f 5 = nI (a7 d) ∧ f 6 = nI (a8 d) ∧ f 7 = nI (a9 d))) by
      refine n_if_eq (tgt := 79) rfl rfl (by omega) (fun h4 => ?_) (fun h4 => ?_)
      · refine n_iconst 0 rfl ?_
        exact r_top (by unfold a5; rw [tb_z h4]; rfl) K
      · refine r_iload rfl rfl ?_
        refine r_goto (tgt := 80) rfl rfl ?_
        exact r_top (by unfold a5; rw [if_pos (tb_ne h4), if_pos hmz]) K
    refine m_putI (L' := [(36, (aup (aup (aup (aup (aup (aup (σ.1 36) 3 (nI 0)) 4 (nI 0)) 5 (nI 0)) 6 (nI 0)) 7 (nI 0)) 3 (nI (a5 d))))]) rfl flX7_32 rfl rfl (okv_i _) rfl ?_
    refine r_aload_n rfl rfl ?_
    refine r_iload rfl rfl ?_
    refine r_aload_n rfl rfl ?_
    refine s_getI (x := nI (a5 d)) rfl flX7_32 rfl rfl rfl ?_
    refine n_isub rfl (by omega) ?_
    refine m_putI (L' := [(36, (aup (aup (aup (aup (aup (aup (aup (σ.1 36) 3 (nI 0)) 4 (nI 0)) 5 (nI 0)) 6 (nI 0)) 7 (nI 0)) 3 (nI (a5 d))) 7 (nI ((rs d) - (a5 d)))))]) rfl flX7_45 rfl rfl (okv_i _) rfl ?_
    exact s_vret (st := []) rfl rfl (Nat.zero_le _) (Nat.zero_le _) (⟨rfl, _, rfl, rfl, by rw [e6]; rfl, by rw [e7]; rfl, by rw [e8]; rfl, by rw [e9]; rfl⟩)

theorem c_settle_B {z : SZ} {sc : SC} {σ : SS} {d : D} (hS : SR (σ.1 35) d) (hE : EE σ d) (hV : Vd d) : Cs z sc mX7_settle 0 0 [.ref 36, .ref 12, .ref 34] σ (RV fun σ' => ∃ g0 g1 g2 g3 g4 g5 g6 g7 g8 g9 g10 g11 g12 g13, σ' = mz σ [(37, g0), (41, g1), (40, g2), (38, g3), (39, g4), (43, g5), (42, g6), (44, g7), (45, g8), (36, g9), (47, g10), (49, g11), (48, g12), (46, g13)] [] ∧ SEB (mz σ [(37, g0), (41, g1), (40, g2), (38, g3), (39, g4), (43, g5), (42, g6), (44, g7), (45, g8), (36, g9), (47, g10), (49, g11), (48, g12), (46, g13)] []) d) := by
  refine Cs.of gmX7_settle (Nat.le_of_ble_eq_true rfl) ?_
  show Ws z sc mX7_settle 0 0 0 0 0 [(0, .ref 36), (1, .ref 12), (2, .ref 34)] [] (mz σ [] []) (RV fun σ' => ∃ g0 g1 g2 g3 g4 g5 g6 g7 g8 g9 g10 g11 g12 g13, σ' = mz σ [(37, g0), (41, g1), (40, g2), (38, g3), (39, g4), (43, g5), (42, g6), (44, g7), (45, g8), (36, g9), (47, g10), (49, g11), (48, g12), (46, g13)] [] ∧ SEB (mz σ [(37, g0), (41, g1), (40, g2), (38, g3), (39, g4), (43, g5), (42, g6), (44, g7), (45, g8), (36, g9), (47, g10), (49, g11), (48, g12), (46, g13)] []) d)
  refine r_aload_n rfl rfl ?_
  refine s_getR (r := 37) rfl flX7_12 rfl rfl ?_
  refine r_aload_n rfl rfl ?_
  refine r_aload_n rfl rfl ?_
  refine s_virV [.ref 12, .ref 34] [] rfl lkX7_57 rfl rfl rfl (c_addUp_B hS hE hV) rfl rfl (Nat.le_refl _) (Nat.le_refl _) rfl ?_
  rintro _ ⟨f1, rfl, h1⟩
  refine m_mz (L' := [(37, f1)]) (M' := []) rfl rfl ?_
  refine r_aload_n rfl rfl ?_
  refine s_getR (r := 37) rfl flX7_12 rfl rfl ?_
  refine r_aload_n rfl rfl ?_
  refine s_virV [.ref 34] [] rfl lkX7_61 rfl rfl rfl (c_payDebts_B hS hV h1) rfl rfl (Nat.le_refl _) (Nat.le_refl _) rfl ?_
  rintro _ ⟨f2, f3, f4, f5, rfl, h2, h3⟩
  refine m_mz (L' := [(37, f3), (41, f5), (40, f4), (38, f2)]) (M' := []) rfl rfl ?_
  refine r_aload_n rfl rfl ?_
  refine s_getR (r := 37) rfl flX7_12 rfl rfl ?_
  refine r_aload_n rfl rfl ?_
  refine r_aload_n rfl rfl ?_
  refine s_virV [.ref 12, .ref 34] [] rfl lkX7_65 rfl rfl rfl (c_payLeg_B hS hE hV h2.1 h2.2.1) rfl rfl (Nat.le_refl _) (Nat.le_refl _) rfl ?_
  rintro _ ⟨f6, f7, f8, rfl, h4, h5⟩
  refine m_mz (L' := [(37, f6), (41, f5), (40, f7), (38, f2), (39, f8)]) (M' := []) rfl rfl ?_
  refine r_aload_n rfl rfl ?_
  refine s_getR (r := 42) rfl flX7_21 rfl rfl ?_
  refine r_aload_n rfl rfl ?_
  refine r_aload_n rfl rfl ?_
  refine s_virV [.ref 12, .ref 34] [] rfl lkX7_68 rfl rfl rfl (c_open_B hS hE hV) rfl rfl (Nat.le_refl _) (Nat.le_refl _) rfl ?_
  rintro _ ⟨f9, f10, rfl, h6, h7⟩
  refine m_mz (L' := [(37, f6), (41, f5), (40, f7), (38, f2), (39, f8), (43, f10), (42, f9)]) (M' := []) rfl rfl ?_
  refine r_aload_n rfl rfl ?_
  refine s_getR (r := 42) rfl flX7_21 rfl rfl ?_
  refine r_aload_n rfl rfl ?_
  refine r_aload_n rfl rfl ?_
  refine s_virV [.ref 12, .ref 34] [] rfl lkX7_71 rfl rfl rfl (c_findHeirs_B hS hE hV h7) rfl rfl (Nat.le_refl _) (Nat.le_refl _) rfl ?_
  rintro _ ⟨f11, f12, rfl, h8, h9⟩
  refine m_mz (L' := [(37, f6), (41, f5), (40, f7), (38, f2), (39, f8), (43, f10), (42, f11), (44, f12)]) (M' := []) rfl rfl ?_
  refine r_aload_n rfl rfl ?_
  refine s_getR (r := 42) rfl flX7_21 rfl rfl ?_
  refine s_virV [] [] rfl lkX7_74 rfl rfl rfl (c_findWeights_B hV h8.1 h9) rfl rfl (Nat.le_refl _) (Nat.le_refl _) rfl ?_
  rintro _ ⟨f13, rfl, h10⟩
  refine m_mz (L' := [(37, f6), (41, f5), (40, f7), (38, f2), (39, f8), (43, f10), (42, f11), (44, f12), (45, f13)]) (M' := []) rfl rfl ?_
  refine r_aload_n rfl rfl ?_
  refine r_aload_n rfl rfl ?_
  refine r_aload_n rfl rfl ?_
  refine s_virV [.ref 12, .ref 34] [] rfl lkX7_77 rfl rfl rfl (c_divRes_B hS hE hV h4.2.2.2.2 h8.1) rfl rfl (Nat.le_refl _) (Nat.le_refl _) rfl ?_
  rintro _ ⟨f14, rfl, h11⟩
  refine m_mz (L' := [(37, f6), (41, f5), (40, f7), (38, f2), (39, f8), (43, f10), (42, f11), (44, f12), (45, f13), (36, f14)]) (M' := []) rfl rfl ?_
  refine r_aload_n rfl rfl ?_
  refine s_getR (r := 46) rfl flX7_28 rfl rfl ?_
  refine r_aload_n rfl rfl ?_
  refine s_virV [.ref 34] [] rfl lkX7_80 rfl rfl rfl (c_bring_B34 hS hV) rfl rfl (Nat.le_refl _) (Nat.le_refl _) rfl ?_
  rintro _ ⟨f15, rfl, h12⟩
  refine m_mz (L' := [(37, f6), (41, f5), (40, f7), (38, f2), (39, f8), (43, f10), (42, f11), (44, f12), (45, f13), (36, f14), (47, f15)]) (M' := []) rfl rfl ?_
  refine r_aload_n rfl rfl ?_
  refine s_getR (r := 46) rfl flX7_28 rfl rfl ?_
  refine r_aload_n rfl rfl ?_
  refine s_getI (x := nI (a8 d)) rfl flX7_42 rfl rfl h11.2.2.2.1 ?_
  refine r_aload_n rfl rfl ?_
  refine s_getR (r := 42) rfl flX7_21 rfl rfl ?_
  refine s_virV [.int (nI (a8 d)), .ref 42] [] rfl lkX7_83 rfl rfl rfl (c_divide_BB (G := gf d) (a8_le hV) h10 (fun i _ => wt_le hV i) h12 (fun i _ => Nat.le_trans (gf_le hV i) (by decide))) rfl rfl (Nat.le_refl _) (Nat.le_refl _) rfl ?_
  rintro _ ⟨f16, f17, f18, rfl, h13, h14, h15⟩
  refine m_mz (L' := [(37, f6), (41, f5), (40, f7), (38, f2), (39, f8), (43, f10), (42, f11), (44, f12), (45, f13), (36, f14), (47, f15), (49, f18), (48, f17), (46, f16)]) (M' := []) rfl rfl ?_
  exact s_vret (st := []) rfl rfl (Nat.zero_le _) (Nat.zero_le _) (⟨rfl, f6, f5, f7, f2, f8, f10, f11, f12, f13, f14, f15, f18, f17, f16, rfl, ⟨h4.1, h4.2.1, h4.2.2.1.trans h2.2.2, h4.2.2.2⟩, h3, h5, ⟨h8.1, h8.2.trans h6⟩, h9, h10, h13, h12, h14, h15, h11⟩)

theorem c_givenTo_B {z : SZ} {sc : SC} {σ : SS} {d : D} {q : Nat} (hE : EE σ d) (hV : Vd d) (hX : SEB σ d) (hq : q < 12) : Cs z sc mX7_givenTo 0 0 [.ref 36, .ref 12, .int (nI q)] σ (PI (gv d q) σ) := by
  refine Cs.of gmX7_givenTo (Nat.le_of_ble_eq_true rfl) ?_
  show Ws z sc mX7_givenTo 0 0 0 0 0 [(0, .ref 36), (1, .ref 12), (2, .int (nI q))] [] (mz σ [] []) (PI (gv d q) σ)
  have hC := vC hV
  have hw9 : ∀ i, i < 12 → w9 d i ≤ 4096 := fun i _ => Nat.le_trans lo_lw (wt_le hV i)
  have hwq := hw9 q hq
  obtain ⟨x1, x2, x3, x4, x5, x6, x7, x8, x9, x10, x11⟩ := hX
  refine r_aload_n rfl rfl ?_
  refine s_getR (r := 46) rfl flX7_28 rfl rfl ?_
  refine r_iload_n rfl rfl ?_
  refine s_virI [.int (nI q)] [] rfl lkX7_87 rfl rfl rfl (c_fromFund_B hq (x9 q hq) (by omega) (x10 q hq) (x8 q hq)) rfl rfl (Nat.le_refl _) (Nat.le_refl _) rfl (rI (e1 := sv d q) rfl ?_)
  refine r_istore_n (lv' := [(3, .int (sv d q)), (0, .ref 36), (1, .ref 12), (2, .int (nI q))]) rfl rfl (Nat.le_of_ble_eq_true rfl) rfl ?_
  refine n_iconst 0 rfl ?_
  refine r_istore (lv' := [(4, .int (nI 0)), (3, .int (sv d q)), (0, .ref 36), (1, .ref 12), (2, .int (nI q))]) rfl (Nat.le_of_ble_eq_true rfl) rfl ?_
  have e0 : sv d q = sv d q + nI (sm (fun k => if d 11 k = q then lp d k else 0) 0) := (Int32.add_zero _).symm
  rw [e0]
  refine r_lv (lv' := [(4, .int (nI 0)), (0, .ref 36), (1, .ref 12), (2, .int (nI q)), (3, .int (sv d q + nI (sm (fun k => if d 11 k = q then lp d k else 0) 0)))]) [0, 2, 3, 4, 1] rfl ?_
  have loop : ∀ (m9 : Nat) (k : Nat) , d 0 4 - k < m9 → (k ≤ d 0 4) → Ws z sc mX7_givenTo 0 0 0 0 12 [(4, .int (nI k)), (0, .ref 36), (1, .ref 12), (2, .int (nI q)), (3, .int (sv d q + nI (sm (fun k => if d 11 k = q then lp d k else 0) k)))] [] (mz σ [] []) (PI (gv d q) σ) := by
    intro m9
    induction m9 with
    | zero => intro k  hme; exact absurd hme (Nat.not_lt_zero _)
    | succ m9 ih =>
      intro k  hme hk
      have hL := vL hV k
      refine r_iload rfl rfl ?_
      refine r_aload_n rfl rfl ?_
      refine s_getI (x := nI (d 0 4)) rfl flX7_91 rfl rfl hE.1.2.2.2.1 ?_
      refine n_icmp_ge (tgt := 55) rfl rfl (by omega) (by omega) (fun h1 => ?_) (fun h1 => ?_)
      · have hk9 : k = d 0 4 := by omega
        rw [hk9]
        refine r_iload_n rfl rfl ?_
        refine r_aload_n rfl rfl ?_
        refine s_getI (x := oI (d 0 5)) rfl flX7_107 rfl rfl hE.1.2.1 ?_
        refine r_icmp_ne (tgt := 77) rfl rfl (fun h2 => ?_) (fun h2 => ?_)
        · refine r_iload_n rfl rfl ?_
          exact s_ret (st := []) rfl rfl rfl (Nat.zero_le _) (Nat.zero_le _) (pI (by show _ = gv d q; unfold gv; rw [if_neg (fun z => h2 ((oI_q (by omega) (by omega)).mpr z))]; exact (Int32.add_zero _).symm) rfl)
        · refine r_iload_n rfl rfl ?_
          refine r_aload_n rfl rfl ?_
          refine s_getI (x := nI (a5 d)) rfl flX7_32 rfl rfl x11.1 ?_
          refine r_iadd rfl ?_
          refine r_aload_n rfl rfl ?_
          refine s_getI (x := nI (a7 d)) rfl flX7_39 rfl rfl x11.2.2.1 ?_
          refine r_iadd rfl ?_
          refine r_goto (tgt := 78) rfl rfl ?_
          exact s_ret (st := []) rfl rfl rfl (Nat.zero_le _) (Nat.zero_le _) (pI (by show _ = gv d q; unfold gv; rw [if_pos ((oI_q (by omega) (by omega)).mp h2), ← nI_add, ← Int32.add_assoc]; rfl) rfl)
      · refine r_aload_n rfl rfl ?_
        refine s_getR (r := 16) rfl flX7_96 rfl rfl ?_
        refine r_iload rfl rfl ?_
        refine s_staNI [.ref 16, .int (nI k)] [] rfl lkX7_100 (c_at_16 (by omega) (hE.2.2.2.1 k (by omega))) rfl rfl (Nat.le_refl _) (Nat.le_refl _) (rI (e1 := nI (d 11 k)) rfl ?_)
        refine r_iload_n rfl rfl ?_
        refine n_icmp_ne (tgt := 49) rfl rfl (by omega) (by omega) (fun h2 => ?_) (fun h2 => ?_)
        · refine n_iinc (lv' := [(4, .int (nI (k + 1))), (0, .ref 36), (1, .ref 12), (2, .int (nI q)), (3, .int (sv d q + nI (sm (fun k => if d 11 k = q then lp d k else 0) k)))]) 1 rfl rfl (Nat.le_of_ble_eq_true rfl) rfl ?_
          refine r_goto (tgt := 12) rfl rfl ?_
          have e : sm (fun k => if d 11 k = q then lp d k else 0) (k + 1) = sm (fun k => if d 11 k = q then lp d k else 0) k := by show sm (fun k => if d 11 k = q then lp d k else 0) k + (if d 11 k = q then lp d k else 0) = _; rw [if_neg h2, Nat.add_zero]
          rw [← e]
          refine r_lv (lv' := [(4, .int (nI (k + 1))), (0, .ref 36), (1, .ref 12), (2, .int (nI q)), (3, .int (sv d q + nI (sm (fun k => if d 11 k = q then lp d k else 0) (k + 1))))]) [0, 1, 2, 3, 4] rfl ?_
          exact ih (k + 1) (by omega) (by omega)
        · refine r_iload_n rfl rfl ?_
          refine r_aload_n rfl rfl ?_
          refine s_getR (r := 37) rfl flX7_12 rfl rfl ?_
          refine s_getR (r := 39) rfl flX7_104 rfl rfl ?_
          refine r_iload rfl rfl ?_
          refine s_staNI [.ref 39, .int (nI k)] [.int (sv d q + nI (sm (fun k => if d 11 k = q then lp d k else 0) k))] rfl lkX7_100 (c_at_39 (by omega) (x3 k (by omega))) rfl rfl (Nat.le_refl _) (Nat.le_refl _) (rI (e1 := nI (lp d k)) rfl ?_)
          refine r_iadd rfl ?_
          refine r_istore_n (lv' := [(3, .int ((sv d q + nI (sm (fun k => if d 11 k = q then lp d k else 0) k)) + (nI (lp d k)))), (4, .int (nI k)), (0, .ref 36), (1, .ref 12), (2, .int (nI q))]) rfl rfl (Nat.le_of_ble_eq_true rfl) rfl ?_
          refine n_iinc (lv' := [(4, .int (nI (k + 1))), (3, .int ((sv d q + nI (sm (fun k => if d 11 k = q then lp d k else 0) k)) + (nI (lp d k)))), (0, .ref 36), (1, .ref 12), (2, .int (nI q))]) 1 rfl rfl (Nat.le_of_ble_eq_true rfl) rfl ?_
          refine r_goto (tgt := 12) rfl rfl ?_
          have e : sv d q + nI (sm (fun k => if d 11 k = q then lp d k else 0) k) + nI (lp d k) = sv d q + nI (sm (fun k => if d 11 k = q then lp d k else 0) (k + 1)) := by show _ = sv d q + nI (sm (fun k => if d 11 k = q then lp d k else 0) k + (if d 11 k = q then lp d k else 0)); rw [if_pos h2, ← nI_add, Int32.add_assoc]
          rw [e]
          refine r_lv (lv' := [(4, .int (nI (k + 1))), (0, .ref 36), (1, .ref 12), (2, .int (nI q)), (3, .int (sv d q + nI (sm (fun k => if d 11 k = q then lp d k else 0) (k + 1))))]) [0, 2, 3, 4, 1] rfl ?_
          exact ih (k + 1) (by omega) (by omega)
  exact loop (d 0 4 + 1) 0 (by omega) (by omega)

