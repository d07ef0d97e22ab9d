theorem nle_s {m : Nat} {x : Int32} (hm : m < 1000) (h : nI (m + 1) ≤ x) : ¬ x ≤ nI m := by
  intro q
  have h2 := Int32.le_trans h q
  have := (nI_leI (by omega) (by omega)).mp h2
  omega
theorem nle_s2 {m : Nat} {x : Int32} (hm : m < 1000000000) (h : nI (m + 1) ≤ x) : ¬ x ≤ nI m := by
  intro q
  have h2 := Int32.le_trans h q
  have := (nI_leI (by omega) (by omega)).mp h2
  omega
theorem row_put {f19 f51 : Nat → Int32} {d : D} {u : Nat} {s : Nat → D} (h51 : ∀ i, i < u → ∀ j, j < 79 → f51 (i * 79 + j) = sR (s i) j) (hS : SR f19 d) : ∀ i, i < u + 1 → ∀ j, j < 79 → va_cpy f19 f51 0 (u * 79) 79 (i * 79 + j) = sR (aup s u d i) j := by
  intro i hi j hj
  by_cases e : i = u
  · subst e
    rw [aup_s, cpy_at _ _ hj, Nat.zero_add]
    exact hS j hj
  · rw [aup_n _ _ e, cpy_no _ _ (by omega)]
    exact h51 i (by omega) j hj
theorem row_sh {f51 : Nat → Int32} {s : Nat → D} (h51 : ∀ i, i < 10 → ∀ j, j < 79 → f51 (i * 79 + j) = sR (s i) j) : ∀ i, i < 9 → ∀ j, j < 79 → va_cpy f51 f51 79 0 711 (i * 79 + j) = sR (s (i + 1)) j := by
  intro i hi j hj
  have h := cpy_at f51 f51 (sp := 79) (dp := 0) (w := 711) (k := i * 79 + j) (by omega)
  rw [Nat.zero_add] at h
  rw [h, ← h51 (i + 1) (by omega) j hj]
  congr 1
  omega
theorem row_get {f19 fr : Nat → Int32} {d : D} {u : Nat} (h : ∀ j, j < 79 → fr (u * 79 + j) = sR d j) : SR (va_cpy fr f19 (u * 79) 0 79) d := by
  intro j hj
  have h2 := cpy_at fr f19 (sp := u * 79) (dp := 0) hj
  rw [Nat.zero_add] at h2
  rw [h2]
  exact h j hj
theorem slot_put {f19 f52 : Nat → Int32} {d : D} {q : Nat} {b : Nat → Bool} {s : Nat → D} (h52 : ∀ i, i < 2 → b i = true → ∀ j, j < 79 → f52 (i * 79 + j) = sR (s i) j) (hS : SR f19 d) : ∀ i, i < 2 → aup b q true i = true → ∀ j, j < 79 → va_cpy f19 f52 0 (q * 79) 79 (i * 79 + j) = sR (aup s q d i) j := by
  intro i hi hb j hj
  by_cases e : i = q
  · subst e
    rw [aup_s, cpy_at _ _ hj, Nat.zero_add]
    exact hS j hj
  · rw [aup_n _ _ e] at hb
    rw [aup_n _ _ e, cpy_no _ _ (by omega)]
    exact h52 i hi hb j hj
theorem mk_ior2 {b : Nat → Bool} {q : Nat} (hq : q < 2) : nI (mk b 2) ||| (nI 1 <<< (nI q &&& 31)) = nI (mk (aup b q true) 2) := by
  rw [bt_one (by omega), nI_or, mk_set (c := aup b q true) hq ?_]
  intro i _
  by_cases e : i = q
  · subst e; rw [aup_s, beq_self_eq_true, Bool.or_true]
  · rw [aup_n _ _ e, beq_false_of_ne e, Bool.or_false]
theorem c_reqPerson {z : SZ} {sc : SC} {σ : SS} {d : D} {q : Nat} (hE : EE σ d) (hV : Vd d) (hq : q < d 0 0) : Cs z sc mX9_requirePerson 0 0 [.ref 0, .int (nI q)] σ (PV σ) := by
  refine Cs.of gmX9_requirePerson (Nat.le_of_ble_eq_true rfl) ?_
  show Ws z sc mX9_requirePerson 0 0 0 0 0 [(0, .ref 0), (1, .int (nI q))] [] (mz σ [] []) (PV σ)
  have hC := vC hV
  refine r_iload_n rfl rfl ?_
  refine n_if_lt (tgt := 15) rfl rfl (by omega) (fun hq => hq.elim) (fun _ => ?_)
  refine r_iload_n rfl rfl ?_
  refine r_aload_n rfl rfl ?_
  refine s_getR (r := 12) rfl flX9_19 rfl rfl ?_
  refine s_getI (x := nI (d 0 0)) rfl flX9_110 rfl rfl hE.1.1 ?_
  refine n_icmp_lt (tgt := 26) rfl rfl (by omega) (by omega) (fun _ => ?_) (fun hq => absurd hq (by omega))
  exact s_vret (st := []) rfl rfl (Nat.zero_le _) (Nat.zero_le _) (pV rfl)

theorem x_reqPerson {z : SZ} {sc : SC} {σ : SS} {d : D} {x : Int32} (hE : EE σ d) (hV : Vd d) (hx : x < 0 ∨ (¬ x < 0 ∧ nI (d 0 0) ≤ x)) : Cs z sc mX9_requirePerson 1 6 [.ref 0, .int x] σ (RX 0 fun σ' => σ' = σ) := by
  refine Cs.of gmX9_requirePerson (Nat.le_of_ble_eq_true rfl) ?_
  show Ws z sc mX9_requirePerson 1 6 0 0 0 [(0, .ref 0), (1, .int x)] [] (mz σ [] []) (RX 0 fun σ' => σ' = σ)
  rcases hx with hx | hx
  · refine r_iload_n rfl rfl ?_
    refine r_if_lt (tgt := 15) rfl rfl (fun _ => ?_) (fun hq => absurd hq (fun z => z hx))
    exact s_throwW (i := 17) rfl rfl rfl rfl rfl (by decide) thX9_192_196 rfl rfl rfl rfl (by decide) (by decide) (⟨rfl, rfl⟩)
  · refine r_iload_n rfl rfl ?_
    refine r_if_lt (tgt := 15) rfl rfl (fun hq => absurd hq hx.1) (fun _ => ?_)
    refine r_iload_n rfl rfl ?_
    refine r_aload_n rfl rfl ?_
    refine s_getR (r := 12) rfl flX9_19 rfl rfl ?_
    refine s_getI (x := nI (d 0 0)) rfl flX9_110 rfl rfl hE.1.1 ?_
    refine r_icmp_lt (tgt := 26) rfl rfl (fun hq => absurd hq (Int32.not_lt.mpr hx.2)) (fun _ => ?_)
    exact s_throwW (i := 17) rfl rfl rfl rfl rfl (by decide) thX9_192_196 rfl rfl rfl rfl (by decide) (by decide) (⟨rfl, rfl⟩)

theorem c_reqAsset {z : SZ} {sc : SC} {σ : SS} {d : D} {q : Nat} (hE : EE σ d) (hV : Vd d) (hq : q < d 0 1) : Cs z sc mX9_requireAsset 0 0 [.ref 0, .int (nI q)] σ (PV σ) := by
  refine Cs.of gmX9_requireAsset (Nat.le_of_ble_eq_true rfl) ?_
  show Ws z sc mX9_requireAsset 0 0 0 0 0 [(0, .ref 0), (1, .int (nI q))] [] (mz σ [] []) (PV σ)
  have hC := vC hV
  refine r_iload_n rfl rfl ?_
  refine n_if_lt (tgt := 15) rfl rfl (by omega) (fun hq => hq.elim) (fun _ => ?_)
  refine r_iload_n rfl rfl ?_
  refine r_aload_n rfl rfl ?_
  refine s_getR (r := 12) rfl flX9_19 rfl rfl ?_
  refine s_getI (x := nI (d 0 1)) rfl flX9_113 rfl rfl hE.1.2.2.1 ?_
  refine n_icmp_lt (tgt := 26) rfl rfl (by omega) (by omega) (fun _ => ?_) (fun hq => absurd hq (by omega))
  exact s_vret (st := []) rfl rfl (Nat.zero_le _) (Nat.zero_le _) (pV rfl)

theorem x_reqAsset {z : SZ} {sc : SC} {σ : SS} {d : D} {x : Int32} (hE : EE σ d) (hV : Vd d) (hx : x < 0 ∨ (¬ x < 0 ∧ nI (d 0 1) ≤ x)) : Cs z sc mX9_requireAsset 1 6 [.ref 0, .int x] σ (RX 0 fun σ' => σ' = σ) := by
  refine Cs.of gmX9_requireAsset (Nat.le_of_ble_eq_true rfl) ?_
  show Ws z sc mX9_requireAsset 1 6 0 0 0 [(0, .ref 0), (1, .int x)] [] (mz σ [] []) (RX 0 fun σ' => σ' = σ)
  rcases hx with hx | hx
  · refine r_iload_n rfl rfl ?_
    refine r_if_lt (tgt := 15) rfl rfl (fun _ => ?_) (fun hq => absurd hq (fun z => z hx))
    exact s_throwW (i := 18) rfl rfl rfl rfl rfl (by decide) thX9_192_196 rfl rfl rfl rfl (by decide) (by decide) (⟨rfl, rfl⟩)
  · refine r_iload_n rfl rfl ?_
    refine r_if_lt (tgt := 15) rfl rfl (fun hq => absurd hq hx.1) (fun _ => ?_)
    refine r_iload_n rfl rfl ?_
    refine r_aload_n rfl rfl ?_
    refine s_getR (r := 12) rfl flX9_19 rfl rfl ?_
    refine s_getI (x := nI (d 0 1)) rfl flX9_113 rfl rfl hE.1.2.2.1 ?_
    refine r_icmp_lt (tgt := 26) rfl rfl (fun hq => absurd hq (Int32.not_lt.mpr hx.2)) (fun _ => ?_)
    exact s_throwW (i := 18) rfl rfl rfl rfl rfl (by decide) thX9_192_196 rfl rfl rfl rfl (by decide) (by decide) (⟨rfl, rfl⟩)

theorem c_reqWhat {z : SZ} {sc : SC} {σ : SS} {q m : Nat} (hq : q ≤ m) (hm : m < 1000) : Cs z sc mX9_requireWhat 0 0 [.int (nI q), .int (nI m)] σ (PV σ) := by
  refine Cs.of gmX9_requireWhat (Nat.le_of_ble_eq_true rfl) ?_
  show Ws z sc mX9_requireWhat 0 0 0 0 0 [(0, .int (nI q)), (1, .int (nI m))] [] (mz σ [] []) (PV σ)
  refine r_iload_n rfl rfl ?_
  refine n_if_lt (tgt := 9) rfl rfl (by omega) (fun hq => hq.elim) (fun _ => ?_)
  refine r_iload_n rfl rfl ?_
  refine r_iload_n rfl rfl ?_
  refine n_icmp_le (tgt := 20) rfl rfl (by omega) (by omega) (fun _ => ?_) (fun hq => absurd hq (by omega))
  exact s_vret (st := []) rfl rfl (Nat.zero_le _) (Nat.zero_le _) (pV rfl)

theorem x_reqWhat {z : SZ} {sc : SC} {σ : SS} {x : Int32} {m : Nat} (hm : m < 1000) (hx : x < 0 ∨ (¬ x < 0 ∧ nI (m + 1) ≤ x)) : Cs z sc mX9_requireWhat 1 6 [.int x, .int (nI m)] σ (RX 1 fun σ' => σ' = σ) := by
  refine Cs.of gmX9_requireWhat (Nat.le_of_ble_eq_true rfl) ?_
  show Ws z sc mX9_requireWhat 1 6 0 0 0 [(0, .int x), (1, .int (nI m))] [] (mz σ [] []) (RX 1 fun σ' => σ' = σ)
  rcases hx with hx | hx
  · refine r_iload_n rfl rfl ?_
    refine r_if_lt (tgt := 9) rfl rfl (fun _ => ?_) (fun hq => absurd hq (fun z => z hx))
    exact s_throwW (i := 16) rfl rfl rfl rfl rfl (by decide) thX9_75_78 rfl rfl rfl rfl (by decide) (by decide) (⟨rfl, rfl⟩)
  · refine r_iload_n rfl rfl ?_
    refine r_if_lt (tgt := 9) rfl rfl (fun hq => absurd hq hx.1) (fun _ => ?_)
    refine r_iload_n rfl rfl ?_
    refine r_iload_n rfl rfl ?_
    refine r_icmp_le (tgt := 20) rfl rfl (fun hq => absurd hq (nle_s hm hx.2)) (fun _ => ?_)
    exact s_throwW (i := 16) rfl rfl rfl rfl rfl (by decide) thX9_75_78 rfl rfl rfl rfl (by decide) (by decide) (⟨rfl, rfl⟩)

theorem c_reqRange {z : SZ} {sc : SC} {σ : SS} {q l m : Nat} (hl : l ≤ q) (hq : q ≤ m) (hm : m < 1000000000) : Cs z sc mX9_requireRange 0 0 [.int (nI q), .int (nI l), .int (nI m)] σ (PV σ) := by
  refine Cs.of gmX9_requireRange (Nat.le_of_ble_eq_true rfl) ?_
  show Ws z sc mX9_requireRange 0 0 0 0 0 [(0, .int (nI q)), (1, .int (nI l)), (2, .int (nI m))] [] (mz σ [] []) (PV σ)
  refine r_iload_n rfl rfl ?_
  refine r_iload_n rfl rfl ?_
  refine n_icmp_lt (tgt := 10) rfl rfl (by omega) (by omega) (fun hq => absurd hq (by omega)) (fun _ => ?_)
  refine r_iload_n rfl rfl ?_
  refine r_iload_n rfl rfl ?_
  refine n_icmp_le (tgt := 21) rfl rfl (by omega) (by omega) (fun _ => ?_) (fun hq => absurd hq (by omega))
  exact s_vret (st := []) rfl rfl (Nat.zero_le _) (Nat.zero_le _) (pV rfl)

theorem x_reqRange {z : SZ} {sc : SC} {σ : SS} {x : Int32} {l m : Nat} (hm : m < 1000000000) (hx : x < nI l ∨ (¬ x < nI l ∧ nI (m + 1) ≤ x)) : Cs z sc mX9_requireRange 1 6 [.int x, .int (nI l), .int (nI m)] σ (RX 1 fun σ' => σ' = σ) := by
  refine Cs.of gmX9_requireRange (Nat.le_of_ble_eq_true rfl) ?_
  show Ws z sc mX9_requireRange 1 6 0 0 0 [(0, .int x), (1, .int (nI l)), (2, .int (nI m))] [] (mz σ [] []) (RX 1 fun σ' => σ' = σ)
  rcases hx with hx | hx
  · refine r_iload_n rfl rfl ?_
    refine r_iload_n rfl rfl ?_
    refine r_icmp_lt (tgt := 10) rfl rfl (fun _ => ?_) (fun hq => absurd hq (fun z => z hx))
    exact s_throwW (i := 21) rfl rfl rfl rfl rfl (by decide) thX9_75_78 rfl rfl rfl rfl (by decide) (by decide) (⟨rfl, rfl⟩)
  · refine r_iload_n rfl rfl ?_
    refine r_iload_n rfl rfl ?_
    refine r_icmp_lt (tgt := 10) rfl rfl (fun hq => absurd hq hx.1) (fun _ => ?_)
    refine r_iload_n rfl rfl ?_
    refine r_iload_n rfl rfl ?_
    refine r_icmp_le (tgt := 21) rfl rfl (fun hq => absurd hq (nle_s2 hm hx.2)) (fun _ => ?_)
    exact s_throwW (i := 21) rfl rfl rfl rfl rfl (by decide) thX9_75_78 rfl rfl rfl rfl (by decide) (by decide) (⟨rfl, rfl⟩)

theorem c_children {z : SZ} {sc : SC} {σ : SS} {d : D} {q : Nat} (hE : EE σ d) (hV : Vd d) (hq : q < 12) : Cs z sc mX0_childrenOf 0 0 [.ref 12, .int (nI q)] σ (PI (nI (ch d q)) σ) := by
  refine Cs.of gmX0_childrenOf (Nat.le_of_ble_eq_true rfl) ?_
  show Ws z sc mX0_childrenOf 0 0 0 0 0 [(0, .ref 12), (1, .int (nI q))] [] (mz σ [] []) (PI (nI (ch d q)) σ)
  have hC := vC hV
  refine n_iconst 0 rfl ?_
  refine r_istore_n (lv' := [(2, .int (nI 0)), (0, .ref 12), (1, .int (nI q))]) rfl rfl (Nat.le_of_ble_eq_true rfl) rfl ?_
  refine n_iconst 0 rfl ?_
  refine r_istore_n (lv' := [(3, .int (nI 0)), (2, .int (nI 0)), (0, .ref 12), (1, .int (nI q))]) rfl rfl (Nat.le_of_ble_eq_true rfl) rfl ?_
  refine r_lv (lv' := [(3, .int (nI 0)), (2, .int (nI 0)), (0, .ref 12), (1, .int (nI q))]) [0, 1, 2, 3] rfl ?_
  have loop : ∀ (m9 : Nat) (k : Nat) , d 0 0 - k < m9 → (k ≤ d 0 0) → Ws z sc mX0_childrenOf 0 0 0 0 4 [(3, .int (nI k)), (2, .int (nI (sm (fun k => tb (d 1 k == q + 1)) k))), (0, .ref 12), (1, .int (nI q))] [] (mz σ [] []) (PI (nI (ch d q)) σ) := by
    intro m9
    induction m9 with
    | zero => intro k  hme; exact absurd hme (Nat.not_lt_zero _)
    | succ m9 ih =>
      intro k  hme hk
      have hP := vP hV k
      refine r_iload_n rfl rfl ?_
      refine r_aload_n rfl rfl ?_
      refine s_getI (x := nI (d 0 0)) rfl flX0_9 rfl rfl hE.1.1 ?_
      refine n_icmp_ge (tgt := 37) rfl rfl (by omega) (by omega) (fun h1 => ?_) (fun h1 => ?_)
      · refine r_iload_n rfl rfl ?_
        exact s_ret (st := []) rfl rfl rfl (Nat.zero_le _) (Nat.zero_le _) (pI (by rw [show k = d 0 0 by omega]; rfl) rfl)
      · refine r_iload_n rfl rfl ?_
        refine n_bipush 12 rfl (by decide) ?_
        refine n_icmp_ge (tgt := 37) rfl rfl (by omega) (by omega) (fun hq => absurd hq (by omega)) (fun _ => ?_)
        refine r_aload_n rfl rfl ?_
        refine s_getR (r := 14) rfl flX0_19 rfl rfl ?_
        refine r_iload_n rfl rfl ?_
        refine s_iald (x := oI (d 1 k)) rfl rfl (by omega) (hE.2.1 k (by omega)) ?_
        refine r_iload_n rfl rfl ?_
        refine r_icmp_ne (tgt := 31) rfl rfl (fun h2 => ?_) (fun h2 => ?_)
        · have e : sm (fun k => tb (d 1 k == q + 1)) (k + 1) = sm (fun k => tb (d 1 k == q + 1)) k := by show sm (fun k => tb (d 1 k == q + 1)) k + tb (d 1 k == q + 1) = _; rw [beq_false_of_ne (fun z => h2 (by rw [z, oI_s]))]; rfl
          refine n_iinc (lv' := [(3, .int (nI (k + 1))), (2, .int (nI (sm (fun k => tb (d 1 k == q + 1)) k))), (0, .ref 12), (1, .int (nI q))]) 1 rfl rfl (Nat.le_of_ble_eq_true rfl) rfl ?_
          refine r_goto (tgt := 4) rfl rfl ?_
          rw [← e]
          refine r_lv (lv' := [(3, .int (nI (k + 1))), (2, .int (nI (sm (fun k => tb (d 1 k == q + 1)) (k + 1)))), (0, .ref 12), (1, .int (nI q))]) [0, 1, 2, 3] rfl ?_
          exact ih (k + 1) (by omega) (by omega)
        · have e : sm (fun k => tb (d 1 k == q + 1)) (k + 1) = sm (fun k => tb (d 1 k == q + 1)) k + 1 := by show sm (fun k => tb (d 1 k == q + 1)) k + tb (d 1 k == q + 1) = _; rw [(oI_q (q := q) (by omega) (by omega)).mp h2.symm, beq_self_eq_true]; rfl
          refine n_iinc (lv' := [(2, .int (nI ((sm (fun k => tb (d 1 k == q + 1)) k) + 1))), (3, .int (nI k)), (0, .ref 12), (1, .int (nI q))]) 1 rfl rfl (Nat.le_of_ble_eq_true rfl) rfl ?_
          refine n_iinc (lv' := [(3, .int (nI (k + 1))), (2, .int (nI ((sm (fun k => tb (d 1 k == q + 1)) k) + 1))), (0, .ref 12), (1, .int (nI q))]) 1 rfl rfl (Nat.le_of_ble_eq_true rfl) rfl ?_
          refine r_goto (tgt := 4) rfl rfl ?_
          rw [← e]
          refine r_lv (lv' := [(3, .int (nI (k + 1))), (2, .int (nI (sm (fun k => tb (d 1 k == q + 1)) (k + 1)))), (0, .ref 12), (1, .int (nI q))]) [0, 1, 2, 3] rfl ?_
          exact ih (k + 1) (by omega) (by omega)
  exact loop (d 0 0 + 1) 0 (by omega) (by omega)

theorem c_remember {z : SZ} {sc : SC} {σ : SS} {d : D} {u : Nat} {s : Nat → D} (hu : u ≤ 10) (h50 : σ.1 50 2 = nI u) (h51 : ∀ i, i < u → ∀ j, j < 79 → σ.1 51 (i * 79 + j) = sR (s i) j) (hS : SR (σ.1 19) d) : Cs z sc mX4_remember 0 0 [.ref 50, .ref 18] σ (RV fun σ' => ∃ f51 f50, σ' = mz σ [(51, f51), (50, f50)] [] ∧ (f50 2 = nI (pu u s d).1 ∧ f50 3 = σ.1 50 3) ∧ ∀ i, i < (pu u s d).1 → ∀ j, j < 79 → f51 (i * 79 + j) = sR ((pu u s d).2 i) j) := by
  refine Cs.of gmX4_remember (Nat.le_of_ble_eq_true rfl) ?_
  show Ws z sc mX4_remember 0 0 0 0 0 [(0, .ref 50), (1, .ref 18)] [] (mz σ [] []) (RV fun σ' => ∃ f51 f50, σ' = mz σ [(51, f51), (50, f50)] [] ∧ (f50 2 = nI (pu u s d).1 ∧ f50 3 = σ.1 50 3) ∧ ∀ i, i < (pu u s d).1 → ∀ j, j < 79 → f51 (i * 79 + j) = sR ((pu u s d).2 i) j)
  refine r_aload_n rfl rfl ?_
  refine s_getI (x := nI u) rfl flX4_20 rfl rfl h50 ?_
  refine n_bipush 10 rfl (by decide) ?_
  refine n_icmp_lt (tgt := 32) rfl rfl (by omega) (by omega) (fun h1 => ?_) (fun h1 => ?_)
  · have e9 : pu u s d = (u + 1, aup s u d) := if_pos h1
    rw [e9]
    refine r_aload_n rfl rfl ?_
    refine r_aload_n rfl rfl ?_
    refine s_getR (r := 51) rfl flX4_11 rfl rfl ?_
    refine r_aload_n rfl rfl ?_
    refine s_getI (x := nI u) rfl flX4_20 rfl rfl h50 ?_
    refine s_virV [.ref 51, .int (nI u)] [] rfl lkX4_33 rfl rfl rfl (c_writeTo_51 h1) rfl rfl (Nat.le_refl _) (Nat.le_refl _) rfl (rV ?_)
    refine m_mz (L' := [(51, (va_cpy (σ.1 19) (σ.1 51) 0 (u * 79) 79))]) (M' := []) rfl rfl ?_
    refine r_aload_n rfl rfl ?_
    refine r_dup rfl rfl ?_
    refine s_getI (x := nI u) rfl flX4_20 rfl rfl h50 ?_
    refine n_iconst 1 rfl ?_
    refine n_iadd rfl ?_
    refine m_putI (L' := [(51, (va_cpy (σ.1 19) (σ.1 51) 0 (u * 79) 79)), (50, (aup (σ.1 50) 2 (nI (u + 1))))]) rfl flX4_20 rfl rfl (okv_i _) rfl ?_
    exact s_vret (st := []) rfl rfl (Nat.zero_le _) (Nat.zero_le _) (⟨rfl, _, _, rfl, ⟨rfl, rfl⟩, row_put h51 hS⟩)
  · have hu10 : u = 10 := by omega
    subst hu10
    have e9 : pu 10 s d = (10, aup (fun i => s (i + 1)) 9 d) := rfl
    rw [e9]
    refine r_aload_n rfl rfl ?_
    refine s_getR (r := 51) rfl flX4_11 rfl rfl ?_
    refine n_bipush 79 rfl (by decide) ?_
    refine r_aload_n rfl rfl ?_
    refine s_getR (r := 51) rfl flX4_11 rfl rfl ?_
    refine n_iconst 0 rfl ?_
    refine n_sipush 711 rfl (by decide) ?_
    refine m_cpyi (L' := [(51, (va_cpy (σ.1 51) (σ.1 51) 79 0 711))]) rfl syX4_27 rfl rfl (by omega) (by omega) rfl rfl rfl ?_
    refine r_aload_n rfl rfl ?_
    refine n_bipush 9 rfl (by decide) ?_
    refine m_putI (L' := [(51, (va_cpy (σ.1 51) (σ.1 51) 79 0 711)), (50, (aup (σ.1 50) 2 (nI 9)))]) rfl flX4_20 rfl rfl (okv_i _) rfl ?_
    refine r_aload_n rfl rfl ?_
    refine r_aload_n rfl rfl ?_
    refine s_getR (r := 51) rfl flX4_11 rfl rfl ?_
    refine r_aload_n rfl rfl ?_
    refine s_getI (x := nI 9) rfl flX4_20 rfl rfl rfl ?_
    refine s_virV [.ref 51, .int (nI 9)] [] rfl lkX4_33 rfl rfl rfl (c_writeTo_51 (by decide)) rfl rfl (Nat.le_refl _) (Nat.le_refl _) rfl (rV ?_)
    refine m_mz (L' := [(51, (va_cpy (σ.1 19) (va_cpy (σ.1 51) (σ.1 51) 79 0 711) 0 (9 * 79) 79)), (50, (aup (σ.1 50) 2 (nI 9)))]) (M' := []) rfl rfl ?_
    refine r_aload_n rfl rfl ?_
    refine r_dup rfl rfl ?_
    refine s_getI (x := nI 9) rfl flX4_20 rfl rfl rfl ?_
    refine n_iconst 1 rfl ?_
    refine n_iadd rfl ?_
    refine m_putI (L' := [(51, (va_cpy (σ.1 19) (va_cpy (σ.1 51) (σ.1 51) 79 0 711) 0 (9 * 79) 79)), (50, (aup (aup (σ.1 50) 2 (nI 9)) 2 (nI 10)))]) rfl flX4_20 rfl rfl (okv_i _) rfl ?_
    exact s_vret (st := []) rfl rfl (Nat.zero_le _) (Nat.zero_le _) (⟨rfl, _, _, rfl, ⟨rfl, rfl⟩, row_put (u := 9) (s := fun i => s (i + 1)) (row_sh h51) hS⟩)

theorem c_clearUndo {z : SZ} {sc : SC} {σ : SS}  : Cs z sc mX4_clearUndo 0 0 [.ref 50] σ (PV (mz σ [(50, aup (σ.1 50) 2 (nI 0))] [])) := by
  refine Cs.of gmX4_clearUndo (Nat.le_of_ble_eq_true rfl) ?_
  show Ws z sc mX4_clearUndo 0 0 0 0 0 [(0, .ref 50)] [] (mz σ [] []) (PV (mz σ [(50, aup (σ.1 50) 2 (nI 0))] []))
  refine r_aload_n rfl rfl ?_
  refine n_iconst 0 rfl ?_
  refine m_putI (L' := [(50, (aup (σ.1 50) 2 (nI 0)))]) rfl flX4_20 rfl rfl (okv_i _) rfl ?_
  exact s_vret (st := []) rfl rfl (Nat.zero_le _) (Nat.zero_le _) (pV rfl)

theorem c_clearSlots {z : SZ} {sc : SC} {σ : SS}  : Cs z sc mX4_clearSlots 0 0 [.ref 50] σ (PV (mz σ [(50, aup (σ.1 50) 3 (nI 0))] [])) := by
  refine Cs.of gmX4_clearSlots (Nat.le_of_ble_eq_true rfl) ?_
  show Ws z sc mX4_clearSlots 0 0 0 0 0 [(0, .ref 50)] [] (mz σ [] []) (PV (mz σ [(50, aup (σ.1 50) 3 (nI 0))] []))
  refine r_aload_n rfl rfl ?_
  refine n_iconst 0 rfl ?_
  refine m_putI (L' := [(50, (aup (σ.1 50) 3 (nI 0)))]) rfl flX4_24 rfl rfl (okv_i _) rfl ?_
  exact s_vret (st := []) rfl rfl (Nat.zero_le _) (Nat.zero_le _) (pV rfl)

