/-- the class's answer and state -/
def CF (σ : SS) (a : AB) (e : Int32) : Out → SS → Prop := RI fun v σ' => v = e ∧ FrM σ σ' ∧ CI9 σ' a
theorem PI_CF {sc : SC} {μ : MI} {as : List Value} {σ : SS} {a : AB} {e : Int32} (hI : CI9 σ a) (h : Cs (true, true) sc μ 0 0 as σ (PI e σ)) : Cs (true, true) sc μ 0 0 as σ (CF σ a e) := Cs.mono h (fun o σ' ⟨v, h1, h2, h3⟩ => ⟨v, h1, h2, by rw [h3]; exact FrM.rf σ, by rw [h3]; exact hI⟩)
/-- a call's code, what the law's row holds then, the state -/
def PC (σ : SS) (c : Nat) (a : AB) (v : Int64) : Out → SS → Prop := RI fun r σ' => r = nI c ∧ (c = 0 → σ'.2 76 0 = v) ∧ FrM σ σ' ∧ CI9 σ' a
def PM (σ : SS) (c : Nat) (a : AB) (v : Int32) : Out → SS → Prop := RI fun r σ' => (c = 0 → r = v) ∧ σ'.1 53 0 = nI c ∧ FrC σ σ' ∧ MI9 σ' a
theorem QM_PM {sc : SC} {μ : MI} {as : List Value} {σ : SS} {a : AB} {e v : Int32} {c : Nat} (h : Cs (true, true) sc μ 0 0 as σ (QM σ a e c)) (hv : c = 0 → e = v) : Cs (true, true) sc μ 0 0 as σ (PM σ c a v) := Cs.mono h (fun o σ' ⟨r, h1, h2, h3⟩ => ⟨r, h1, fun z => h2.trans (hv z), h3⟩)
def bJ (v : Int32) : Int64 := if v = 0 then lN 0 else lN 1
theorem undo_ok {a : AB} {u : Nat} (h : AV a) (h0 : aU a = u + 1) : AV (aS a u, (u, aS a), a.2.2) := by
  obtain ⟨h1, h2, h3, h4, h5, h6⟩ := h
  have s := h3 u (by omega)
  have e := s.2.1.1
  exact ⟨s.1, by show u ≤ 10; omega, fun i hi => ⟨(h3 i (by have : i < u := hi; omega)).1, s.2.sy.tr (h3 i (by have : i < u := hi; omega)).2⟩, fun i hi hb => ⟨(h4 i hi hb).1, s.2.sy.tr (h4 i hi hb).2⟩, h5, fun p hp => h6 p (by have hp2 : p < aS a u 0 0 := hp; omega)⟩
theorem save_ok {a : AB} {q : Nat} (h : AV a) : AV (aD a, a.2.1, (aup (bS a) q true, aup (bR a) q (aD a)), a.2.2.2) := by
  obtain ⟨h1, h2, h3, h4, h5, h6⟩ := h
  refine ⟨h1, h2, h3, fun i hi hb => ?_, h5, h6⟩
  show Vd (aup (bR a) q (aD a) i) ∧ Sm (aD a) (aup (bR a) q (aD a) i)
  by_cases e : i = q
  · rw [e, aup_s]; exact ⟨h1, Sm.rf _⟩
  · rw [aup_n _ _ e]
    have hb2 : aup (bS a) q true i = true := hb
    rw [aup_n _ _ e] at hb2
    exact h4 i hi hb2
theorem restore_ok {a : AB} {q : Nat} (h : AV a) (hq : q < 2) (hb : bS a q = true) : AV (bR a q, (0, aS a), a.2.2) := by
  obtain ⟨h1, h2, h3, h4, h5, h6⟩ := h
  have s := h4 q hq hb
  have e := s.2.1.1
  exact ⟨s.1, Nat.zero_le _, fun i hi => absurd hi (Nat.not_lt_zero _), fun i hi hb => ⟨(h4 i hi hb).1, s.2.sy.tr (h4 i hi hb).2⟩, h5, fun p hp => h6 p (by have hp2 : p < bR a q 0 0 := hp; omega)⟩
theorem x_parse {z : SZ} {sc : SC} {σ : SS} {a : AB} {x : Int32} (hA : AV a) (hI : CI9 σ a) (hx : (x < 0 ∨ (¬ x < 0 ∧ nI (aL a + 1) ≤ x))) : Cs z sc mX9_parse 1 6 [.ref 0, .int x] σ (RX 1 fun σ' => σ' = σ) := by
  refine Cs.of gmX9_parse (Nat.le_of_ble_eq_true rfl) ?_
  show Ws z sc mX9_parse 1 6 0 0 0 [(0, .ref 0), (1, .int x)] [] (mz σ [] []) (RX 1 fun σ' => σ' = σ)
  have hL := hA.2.2.2.2.1.1
  have c6 : σ.1 2 1 = nI (aL a) := hI.1.2.2.2.2.1.1
  rcases hx with hx | hx
  · refine r_iload_n rfl rfl ?_
    refine r_if_lt (tgt := 18) rfl rfl (fun _ => ?_) (fun hq => absurd hq (fun z => z hx))
    exact s_throw (i := 0) rfl rfl rfl rfl rfl (by decide) thX9_75_78 rfl rfl rfl rfl (by decide) (by decide) (⟨rfl, rfl⟩)
  · refine r_iload_n rfl rfl ?_
    refine r_if_lt (tgt := 18) rfl rfl (fun hq => absurd hq hx.1) (fun _ => ?_)
    refine r_iload_n rfl rfl ?_
    refine r_aload_n rfl rfl ?_
    refine s_getR (r := 1) rfl flX9_10 rfl rfl ?_
    refine s_getR (r := 2) rfl flX9_58 rfl rfl ?_
    refine s_getI (x := nI (aL a)) rfl flX9_72 rfl rfl c6 ?_
    refine r_icmp_le (tgt := 28) rfl rfl (fun hq => absurd hq (nle_s (by omega) hx.2)) (fun _ => ?_)
    exact s_throw (i := 0) rfl rfl rfl rfl rfl (by decide) thX9_75_78 rfl rfl rfl rfl (by decide) (by decide) (⟨rfl, rfl⟩)

theorem y_parse {l9 : Bool} {sc : SC} {σ : SS} {a : AB} {x : Int32} (hA : AV a) (hI : MI9 σ a) (hx : (x < 0 ∨ (¬ x < 0 ∧ nI (aL a + 1) ≤ x))) : Cs (true, l9) sc mX10_parse 0 0 [.ref 53, .int x] σ (QM σ a (nI 0) 1) := by
  refine Cs.of gmX10_parse (Nat.le_of_ble_eq_true rfl) ?_
  show Ws (true, l9) sc mX10_parse 0 0 0 0 0 [(0, .ref 53), (1, .int x)] [] (mz σ [] []) (QM σ a (nI 0) 1)
  have hL := hA.2.2.2.2.1.1
  refine r_aload_n rfl rfl ?_
  refine n_iconst 0 rfl ?_
  refine m_putI (L' := [(53, (aup (σ.1 53) 0 (nI 0)))]) rfl flX10_89 rfl rfl (okv_i _) rfl ?_
  refine r_aload_n rfl rfl ?_
  refine r_iload_n rfl rfl ?_
  refine n_iconst 0 rfl ?_
  refine r_aload_n rfl rfl ?_
  refine s_getI (x := nI (aL a)) rfl flX10_92 rfl rfl hI.2.1.2.1 ?_
  refine s_staI [.int x, .int (nI 0), .int (nI (aL a))] [.ref 53] rfl lkX10_113 (k_within_out (by omega) hx) rfl rfl (Nat.le_refl _) (Nat.le_refl _) rfl (rI (e1 := nI 0) rfl ?_)
  refine n_if_ne (tgt := 22) rfl rfl (by decide) (fun hq => absurd hq (by decide)) (fun _ => ?_)
  refine n_iconst 1 rfl ?_
  refine r_goto (tgt := 23) rfl rfl ?_
  refine n_iconst 1 rfl ?_
  refine s_virI [.int (nI 1), .int (nI 1)] [] rfl lkX10_235 rfl rfl rfl (k_tI_yes rfl (by decide) (by decide)) rfl rfl (Nat.le_refl _) (Nat.le_refl _) rfl (rI (e1 := nI 1) rfl ?_)
  refine m_mz (L' := [(53, (aup (aup (σ.1 53) 0 (nI 0)) 0 (nI 1)))]) (M' := []) rfl rfl ?_
  refine n_if_eq (tgt := 32) rfl rfl (by decide) (fun hq => absurd hq (by decide)) (fun _ => ?_)
  refine n_iconst 0 rfl ?_
  exact s_ret (st := []) rfl rfl rfl (Nat.zero_le _) (Nat.zero_le _) (⟨_, rfl, rfl, rfl, FrC_mz rfl rfl, ⟨hI.1, ⟨hI.2.1.1, hI.2.1.2.1, hI.2.1.2.2⟩, hI.2.2.1, hI.2.2.2.1, hI.2.2.2.2.1, hI.2.2.2.2.2.1, hI.2.2.2.2.2.2⟩⟩)

theorem wL13 : Cond.classLink RL 13 (exN 1) ∈ lw_gd := lw_gd_of (List.mem_of_getElem? (i := 720) (by decide +kernel)) rfl
theorem wL22 : Cond.classLink RL 22 (exN 0) ∈ lw_gd := lw_gd_of (List.mem_of_getElem? (i := 1014) (by decide +kernel)) rfl
theorem wL71 : Cond.classLink RL 71 (exN 2) ∈ lw_gd := lw_gd_of (List.mem_of_getElem? (i := 1200) (by decide +kernel)) rfl
theorem l_parse {sc : SC} {σ : SS} {a : AB} {x e : Int32} (h : Cs (true, true) sc mX9_parse 0 0 [.ref 0, .int x] σ (CF σ a e)) : Cs (true, true) sc mL_parse 1 6 [.ref 0, .int x, .ref 76] σ (PC σ 0 a (e.toInt64)) := by
  refine Cs.of gmL_parse (Nat.le_of_ble_eq_true rfl) ?_
  show Ws (true, true) sc mL_parse 1 6 0 0 0 [(0, .ref 0), (1, .int x), (2, .ref 76)] [] (mz σ [] []) (PC σ 0 a (e.toInt64))
  refine r_aload_n rfl rfl ?_
  refine n_iconst 0 rfl ?_
  refine r_aload_n rfl rfl ?_
  refine r_iload_n rfl rfl ?_
  refine s_virIH [.int x] [.int (nI 0), .ref 76] rfl lkL_7 rfl rfl rfl h rfl rfl (by decide) (by decide) ?_
  rintro v9 σ9 ⟨hv9, hF, hI⟩
  rw [hv9]
  show Ws (true, true) sc mL_parse 1 6 0 0 7 [(0, .ref 0), (1, .int x), (2, .ref 76)] [.int e, .int (nI 0), .ref 76] (mz σ9 [] []) (PC σ 0 a (e.toInt64))
  refine r_i2l rfl rfl ?_
  refine m_last (M' := [(76, (aup (σ9.2 76) 0 ((e).toInt64)))]) rfl rfl (by decide) rfl ?_
  refine r_goto (tgt := 15) rfl rfl ?_
  refine n_iconst 0 rfl ?_
  exact s_ret (st := []) rfl rfl rfl (Nat.zero_le _) (Nat.zero_le _) (⟨_, rfl, rfl, fun _ => rfl, FrM.tr hF (FrM_mz rfl rfl), CI9_fr (FrD_mz rfl rfl) hI⟩)

theorem ca_parse_1 : CA mL_parse 4 1 (nI 1) := ⟨[], [], 0, 9, 12, 13, 1, 1, rfl, ⟨by decide, by decide⟩, by decide, wL13, ex_cst 1 (by decide), (by intro q hq; cases hq), (Or.inl ⟨⟨3, by decide⟩, by decide, rfl, rfl⟩), rfl, by decide, rfl, rfl⟩
theorem l_parse_1 {sc : SC} {σ : SS} {a : AB} {x : Int32} {v : Int64} (hI : CI9 σ a) (h : Cs (true, true) sc mX9_parse 1 6 [.ref 0, .int x] σ (RX 1 fun σ' => σ' = σ)) : Cs (true, true) sc mL_parse 1 6 [.ref 0, .int x, .ref 76] σ (PC σ 1 a v) := by
  refine Cs.of gmL_parse (Nat.le_of_ble_eq_true rfl) ?_
  show Ws (true, true) sc mL_parse 1 6 0 0 0 [(0, .ref 0), (1, .int x), (2, .ref 76)] [] (mz σ [] []) (PC σ 1 a v)
  refine r_aload_n rfl rfl ?_
  refine n_iconst 0 rfl ?_
  refine r_aload_n rfl rfl ?_
  refine r_iload_n rfl rfl ?_
  exact s_virXH [.int x] [.int (nI 0), .ref 76] rfl lkL_7 rfl rfl rfl h rfl rfl (by decide) (by decide) ca_parse_1 (fun σ2 e2 => ⟨_, rfl, rfl, fun z => absurd z (by decide), by rw [e2]; exact FrM.rf σ, by rw [e2]; exact hI⟩)

theorem l_size {sc : SC} {σ : SS} {a : AB} {x e : Int32} (h : Cs (true, true) sc mX9_size 0 0 [.ref 0, .int x] σ (CF σ a e)) : Cs (true, true) sc mL_size 1 6 [.ref 0, .int x, .ref 76] σ (PC σ 0 a (e.toInt64)) := by
  refine Cs.of gmL_size (Nat.le_of_ble_eq_true rfl) ?_
  show Ws (true, true) sc mL_size 1 6 0 0 0 [(0, .ref 0), (1, .int x), (2, .ref 76)] [] (mz σ [] []) (PC σ 0 a (e.toInt64))
  refine r_aload_n rfl rfl ?_
  refine n_iconst 0 rfl ?_
  refine r_aload_n rfl rfl ?_
  refine r_iload_n rfl rfl ?_
  refine s_virIH [.int x] [.int (nI 0), .ref 76] rfl lkL_15 rfl rfl rfl h rfl rfl (by decide) (by decide) ?_
  rintro v9 σ9 ⟨hv9, hF, hI⟩
  rw [hv9]
  show Ws (true, true) sc mL_size 1 6 0 0 7 [(0, .ref 0), (1, .int x), (2, .ref 76)] [.int e, .int (nI 0), .ref 76] (mz σ9 [] []) (PC σ 0 a (e.toInt64))
  refine r_i2l rfl rfl ?_
  refine m_last (M' := [(76, (aup (σ9.2 76) 0 ((e).toInt64)))]) rfl rfl (by decide) rfl ?_
  refine r_goto (tgt := 15) rfl rfl ?_
  refine n_iconst 0 rfl ?_
  exact s_ret (st := []) rfl rfl rfl (Nat.zero_le _) (Nat.zero_le _) (⟨_, rfl, rfl, fun _ => rfl, FrM.tr hF (FrM_mz rfl rfl), CI9_fr (FrD_mz rfl rfl) hI⟩)

theorem ca_size_1 : CA mL_size 4 1 (nI 1) := ⟨[], [], 0, 9, 12, 13, 1, 1, rfl, ⟨by decide, by decide⟩, by decide, wL13, ex_cst 1 (by decide), (by intro q hq; cases hq), (Or.inl ⟨⟨3, by decide⟩, by decide, rfl, rfl⟩), rfl, by decide, rfl, rfl⟩
theorem l_size_1 {sc : SC} {σ : SS} {a : AB} {x : Int32} {v : Int64} (hI : CI9 σ a) (h : Cs (true, true) sc mX9_size 1 6 [.ref 0, .int x] σ (RX 1 fun σ' => σ' = σ)) : Cs (true, true) sc mL_size 1 6 [.ref 0, .int x, .ref 76] σ (PC σ 1 a v) := by
  refine Cs.of gmL_size (Nat.le_of_ble_eq_true rfl) ?_
  show Ws (true, true) sc mL_size 1 6 0 0 0 [(0, .ref 0), (1, .int x), (2, .ref 76)] [] (mz σ [] []) (PC σ 1 a v)
  refine r_aload_n rfl rfl ?_
  refine n_iconst 0 rfl ?_
  refine r_aload_n rfl rfl ?_
  refine r_iload_n rfl rfl ?_
  exact s_virXH [.int x] [.int (nI 0), .ref 76] rfl lkL_15 rfl rfl rfl h rfl rfl (by decide) (by decide) ca_size_1 (fun σ2 e2 => ⟨_, rfl, rfl, fun z => absurd z (by decide), by rw [e2]; exact FrM.rf σ, by rw [e2]; exact hI⟩)

theorem l_person {sc : SC} {σ : SS} {a : AB} {x y e : Int32} (h : Cs (true, true) sc mX9_person 0 0 [.ref 0, .int x, .int y] σ (CF σ a e)) : Cs (true, true) sc mL_person 1 6 [.ref 0, .int x, .int y, .ref 76] σ (PC σ 0 a (e.toInt64)) := by
  refine Cs.of gmL_person (Nat.le_of_ble_eq_true rfl) ?_
  show Ws (true, true) sc mL_person 1 6 0 0 0 [(0, .ref 0), (1, .int x), (2, .int y), (3, .ref 76)] [] (mz σ [] []) (PC σ 0 a (e.toInt64))
  refine r_aload_n rfl rfl ?_
  refine n_iconst 0 rfl ?_
  refine r_aload_n rfl rfl ?_
  refine r_iload_n rfl rfl ?_
  refine r_iload_n rfl rfl ?_
  refine s_virIH [.int x, .int y] [.int (nI 0), .ref 76] rfl lkL_18 rfl rfl rfl h rfl rfl (by decide) (by decide) ?_
  rintro v9 σ9 ⟨hv9, hF, hI⟩
  rw [hv9]
  show Ws (true, true) sc mL_person 1 6 0 0 8 [(0, .ref 0), (1, .int x), (2, .int y), (3, .ref 76)] [.int e, .int (nI 0), .ref 76] (mz σ9 [] []) (PC σ 0 a (e.toInt64))
  refine r_i2l rfl rfl ?_
  refine m_last (M' := [(76, (aup (σ9.2 76) 0 ((e).toInt64)))]) rfl rfl (by decide) rfl ?_
  refine r_goto (tgt := 21) rfl rfl ?_
  refine n_iconst 0 rfl ?_
  exact s_ret (st := []) rfl rfl rfl (Nat.zero_le _) (Nat.zero_le _) (⟨_, rfl, rfl, fun _ => rfl, FrM.tr hF (FrM_mz rfl rfl), CI9_fr (FrD_mz rfl rfl) hI⟩)

theorem ca_person_0 : CA mL_person 5 0 (nI 1) := ⟨[], [(0, 10, 17, 13)], 0, 10, 13, 22, 1, 2, rfl, ⟨by decide, by decide⟩, by decide, wL22, ex_cst 0 (by decide), (by intro q hq; cases hq), (Or.inr ⟨4, by decide, rfl, rfl⟩), rfl, by decide, rfl, rfl⟩
theorem l_person_0 {sc : SC} {σ : SS} {a : AB} {x y : Int32} {v : Int64} (hI : CI9 σ a) (h : Cs (true, true) sc mX9_person 1 6 [.ref 0, .int x, .int y] σ (RX 0 fun σ' => σ' = σ)) : Cs (true, true) sc mL_person 1 6 [.ref 0, .int x, .int y, .ref 76] σ (PC σ 1 a v) := by
  refine Cs.of gmL_person (Nat.le_of_ble_eq_true rfl) ?_
  show Ws (true, true) sc mL_person 1 6 0 0 0 [(0, .ref 0), (1, .int x), (2, .int y), (3, .ref 76)] [] (mz σ [] []) (PC σ 1 a v)
  refine r_aload_n rfl rfl ?_
  refine n_iconst 0 rfl ?_
  refine r_aload_n rfl rfl ?_
  refine r_iload_n rfl rfl ?_
  refine r_iload_n rfl rfl ?_
  exact s_virXH [.int x, .int y] [.int (nI 0), .ref 76] rfl lkL_18 rfl rfl rfl h rfl rfl (by decide) (by decide) ca_person_0 (fun σ2 e2 => ⟨_, rfl, rfl, fun z => absurd z (by decide), by rw [e2]; exact FrM.rf σ, by rw [e2]; exact hI⟩)

theorem ca_person_1 : CA mL_person 5 1 (nI 2) := ⟨[(0, 10, 13, 22)], [], 0, 10, 17, 13, 2, 2, rfl, ⟨by decide, by decide⟩, by decide, wL13, ex_cst 1 (by decide), (List.forall_mem_cons.mpr ⟨⟨by decide, _, wL22, by decide⟩, (by intro q hq; cases hq)⟩), (Or.inr ⟨4, by decide, rfl, rfl⟩), rfl, by decide, rfl, rfl⟩
theorem l_person_1 {sc : SC} {σ : SS} {a : AB} {x y : Int32} {v : Int64} (hI : CI9 σ a) (h : Cs (true, true) sc mX9_person 1 6 [.ref 0, .int x, .int y] σ (RX 1 fun σ' => σ' = σ)) : Cs (true, true) sc mL_person 1 6 [.ref 0, .int x, .int y, .ref 76] σ (PC σ 2 a v) := by
  refine Cs.of gmL_person (Nat.le_of_ble_eq_true rfl) ?_
  show Ws (true, true) sc mL_person 1 6 0 0 0 [(0, .ref 0), (1, .int x), (2, .int y), (3, .ref 76)] [] (mz σ [] []) (PC σ 2 a v)
  refine r_aload_n rfl rfl ?_
  refine n_iconst 0 rfl ?_
  refine r_aload_n rfl rfl ?_
  refine r_iload_n rfl rfl ?_
  refine r_iload_n rfl rfl ?_
  exact s_virXH [.int x, .int y] [.int (nI 0), .ref 76] rfl lkL_18 rfl rfl rfl h rfl rfl (by decide) (by decide) ca_person_1 (fun σ2 e2 => ⟨_, rfl, rfl, fun z => absurd z (by decide), by rw [e2]; exact FrM.rf σ, by rw [e2]; exact hI⟩)

theorem l_asset {sc : SC} {σ : SS} {a : AB} {x y e : Int32} (h : Cs (true, true) sc mX9_asset 0 0 [.ref 0, .int x, .int y] σ (CF σ a e)) : Cs (true, true) sc mL_asset 1 6 [.ref 0, .int x, .int y, .ref 76] σ (PC σ 0 a (e.toInt64)) := by
  refine Cs.of gmL_asset (Nat.le_of_ble_eq_true rfl) ?_
  show Ws (true, true) sc mL_asset 1 6 0 0 0 [(0, .ref 0), (1, .int x), (2, .int y), (3, .ref 76)] [] (mz σ [] []) (PC σ 0 a (e.toInt64))
  refine r_aload_n rfl rfl ?_
  refine n_iconst 0 rfl ?_
  refine r_aload_n rfl rfl ?_
  refine r_iload_n rfl rfl ?_
  refine r_iload_n rfl rfl ?_
  refine s_virIH [.int x, .int y] [.int (nI 0), .ref 76] rfl lkL_24 rfl rfl rfl h rfl rfl (by decide) (by decide) ?_
  rintro v9 σ9 ⟨hv9, hF, hI⟩
  rw [hv9]
  show Ws (true, true) sc mL_asset 1 6 0 0 8 [(0, .ref 0), (1, .int x), (2, .int y), (3, .ref 76)] [.int e, .int (nI 0), .ref 76] (mz σ9 [] []) (PC σ 0 a (e.toInt64))
  refine r_i2l rfl rfl ?_
  refine m_last (M' := [(76, (aup (σ9.2 76) 0 ((e).toInt64)))]) rfl rfl (by decide) rfl ?_
  refine r_goto (tgt := 21) rfl rfl ?_
  refine n_iconst 0 rfl ?_
  exact s_ret (st := []) rfl rfl rfl (Nat.zero_le _) (Nat.zero_le _) (⟨_, rfl, rfl, fun _ => rfl, FrM.tr hF (FrM_mz rfl rfl), CI9_fr (FrD_mz rfl rfl) hI⟩)

theorem ca_asset_0 : CA mL_asset 5 0 (nI 1) := ⟨[], [(0, 10, 17, 13)], 0, 10, 13, 22, 1, 2, rfl, ⟨by decide, by decide⟩, by decide, wL22, ex_cst 0 (by decide), (by intro q hq; cases hq), (Or.inr ⟨4, by decide, rfl, rfl⟩), rfl, by decide, rfl, rfl⟩
theorem l_asset_0 {sc : SC} {σ : SS} {a : AB} {x y : Int32} {v : Int64} (hI : CI9 σ a) (h : Cs (true, true) sc mX9_asset 1 6 [.ref 0, .int x, .int y] σ (RX 0 fun σ' => σ' = σ)) : Cs (true, true) sc mL_asset 1 6 [.ref 0, .int x, .int y, .ref 76] σ (PC σ 1 a v) := by
  refine Cs.of gmL_asset (Nat.le_of_ble_eq_true rfl) ?_
  show Ws (true, true) sc mL_asset 1 6 0 0 0 [(0, .ref 0), (1, .int x), (2, .int y), (3, .ref 76)] [] (mz σ [] []) (PC σ 1 a v)
  refine r_aload_n rfl rfl ?_
  refine n_iconst 0 rfl ?_
  refine r_aload_n rfl rfl ?_
  refine r_iload_n rfl rfl ?_
  refine r_iload_n rfl rfl ?_
  exact s_virXH [.int x, .int y] [.int (nI 0), .ref 76] rfl lkL_24 rfl rfl rfl h rfl rfl (by decide) (by decide) ca_asset_0 (fun σ2 e2 => ⟨_, rfl, rfl, fun z => absurd z (by decide), by rw [e2]; exact FrM.rf σ, by rw [e2]; exact hI⟩)

theorem ca_asset_1 : CA mL_asset 5 1 (nI 2) := ⟨[(0, 10, 13, 22)], [], 0, 10, 17, 13, 2, 2, rfl, ⟨by decide, by decide⟩, by decide, wL13, ex_cst 1 (by decide), (List.forall_mem_cons.mpr ⟨⟨by decide, _, wL22, by decide⟩, (by intro q hq; cases hq)⟩), (Or.inr ⟨4, by decide, rfl, rfl⟩), rfl, by decide, rfl, rfl⟩
theorem l_asset_1 {sc : SC} {σ : SS} {a : AB} {x y : Int32} {v : Int64} (hI : CI9 σ a) (h : Cs (true, true) sc mX9_asset 1 6 [.ref 0, .int x, .int y] σ (RX 1 fun σ' => σ' = σ)) : Cs (true, true) sc mL_asset 1 6 [.ref 0, .int x, .int y, .ref 76] σ (PC σ 2 a v) := by
  refine Cs.of gmL_asset (Nat.le_of_ble_eq_true rfl) ?_
  show Ws (true, true) sc mL_asset 1 6 0 0 0 [(0, .ref 0), (1, .int x), (2, .int y), (3, .ref 76)] [] (mz σ [] []) (PC σ 2 a v)
  refine r_aload_n rfl rfl ?_
  refine n_iconst 0 rfl ?_
  refine r_aload_n rfl rfl ?_
  refine r_iload_n rfl rfl ?_
  refine r_iload_n rfl rfl ?_
  exact s_virXH [.int x, .int y] [.int (nI 0), .ref 76] rfl lkL_24 rfl rfl rfl h rfl rfl (by decide) (by decide) ca_asset_1 (fun σ2 e2 => ⟨_, rfl, rfl, fun z => absurd z (by decide), by rw [e2]; exact FrM.rf σ, by rw [e2]; exact hI⟩)

theorem l_debt {sc : SC} {σ : SS} {a : AB} {x y e : Int32} (h : Cs (true, true) sc mX9_debt 0 0 [.ref 0, .int x, .int y] σ (CF σ a e)) : Cs (true, true) sc mL_debt 1 6 [.ref 0, .int x, .int y, .ref 76] σ (PC σ 0 a (e.toInt64)) := by
  refine Cs.of gmL_debt (Nat.le_of_ble_eq_true rfl) ?_
  show Ws (true, true) sc mL_debt 1 6 0 0 0 [(0, .ref 0), (1, .int x), (2, .int y), (3, .ref 76)] [] (mz σ [] []) (PC σ 0 a (e.toInt64))
  refine r_aload_n rfl rfl ?_
  refine n_iconst 0 rfl ?_
  refine r_aload_n rfl rfl ?_
  refine r_iload_n rfl rfl ?_
  refine r_iload_n rfl rfl ?_
  refine s_virIH [.int x, .int y] [.int (nI 0), .ref 76] rfl lkL_27 rfl rfl rfl h rfl rfl (by decide) (by decide) ?_
  rintro v9 σ9 ⟨hv9, hF, hI⟩
  rw [hv9]
  show Ws (true, true) sc mL_debt 1 6 0 0 8 [(0, .ref 0), (1, .int x), (2, .int y), (3, .ref 76)] [.int e, .int (nI 0), .ref 76] (mz σ9 [] []) (PC σ 0 a (e.toInt64))
  refine r_i2l rfl rfl ?_
  refine m_last (M' := [(76, (aup (σ9.2 76) 0 ((e).toInt64)))]) rfl rfl (by decide) rfl ?_
  refine r_goto (tgt := 21) rfl rfl ?_
  refine n_iconst 0 rfl ?_
  exact s_ret (st := []) rfl rfl rfl (Nat.zero_le _) (Nat.zero_le _) (⟨_, rfl, rfl, fun _ => rfl, FrM.tr hF (FrM_mz rfl rfl), CI9_fr (FrD_mz rfl rfl) hI⟩)

theorem ca_debt_0 : CA mL_debt 5 0 (nI 1) := ⟨[], [(0, 10, 17, 13)], 0, 10, 13, 22, 1, 2, rfl, ⟨by decide, by decide⟩, by decide, wL22, ex_cst 0 (by decide), (by intro q hq; cases hq), (Or.inr ⟨4, by decide, rfl, rfl⟩), rfl, by decide, rfl, rfl⟩
theorem l_debt_0 {sc : SC} {σ : SS} {a : AB} {x y : Int32} {v : Int64} (hI : CI9 σ a) (h : Cs (true, true) sc mX9_debt 1 6 [.ref 0, .int x, .int y] σ (RX 0 fun σ' => σ' = σ)) : Cs (true, true) sc mL_debt 1 6 [.ref 0, .int x, .int y, .ref 76] σ (PC σ 1 a v) := by
  refine Cs.of gmL_debt (Nat.le_of_ble_eq_true rfl) ?_
  show Ws (true, true) sc mL_debt 1 6 0 0 0 [(0, .ref 0), (1, .int x), (2, .int y), (3, .ref 76)] [] (mz σ [] []) (PC σ 1 a v)
  refine r_aload_n rfl rfl ?_
  refine n_iconst 0 rfl ?_
  refine r_aload_n rfl rfl ?_
  refine r_iload_n rfl rfl ?_
  refine r_iload_n rfl rfl ?_
  exact s_virXH [.int x, .int y] [.int (nI 0), .ref 76] rfl lkL_27 rfl rfl rfl h rfl rfl (by decide) (by decide) ca_debt_0 (fun σ2 e2 => ⟨_, rfl, rfl, fun z => absurd z (by decide), by rw [e2]; exact FrM.rf σ, by rw [e2]; exact hI⟩)

theorem ca_debt_1 : CA mL_debt 5 1 (nI 2) := ⟨[(0, 10, 13, 22)], [], 0, 10, 17, 13, 2, 2, rfl, ⟨by decide, by decide⟩, by decide, wL13, ex_cst 1 (by decide), (List.forall_mem_cons.mpr ⟨⟨by decide, _, wL22, by decide⟩, (by intro q hq; cases hq)⟩), (Or.inr ⟨4, by decide, rfl, rfl⟩), rfl, by decide, rfl, rfl⟩
theorem l_debt_1 {sc : SC} {σ : SS} {a : AB} {x y : Int32} {v : Int64} (hI : CI9 σ a) (h : Cs (true, true) sc mX9_debt 1 6 [.ref 0, .int x, .int y] σ (RX 1 fun σ' => σ' = σ)) : Cs (true, true) sc mL_debt 1 6 [.ref 0, .int x, .int y, .ref 76] σ (PC σ 2 a v) := by
  refine Cs.of gmL_debt (Nat.le_of_ble_eq_true rfl) ?_
  show Ws (true, true) sc mL_debt 1 6 0 0 0 [(0, .ref 0), (1, .int x), (2, .int y), (3, .ref 76)] [] (mz σ [] []) (PC σ 2 a v)
  refine r_aload_n rfl rfl ?_
  refine n_iconst 0 rfl ?_
  refine r_aload_n rfl rfl ?_
  refine r_iload_n rfl rfl ?_
  refine r_iload_n rfl rfl ?_
  exact s_virXH [.int x, .int y] [.int (nI 0), .ref 76] rfl lkL_27 rfl rfl rfl h rfl rfl (by decide) (by decide) ca_debt_1 (fun σ2 e2 => ⟨_, rfl, rfl, fun z => absurd z (by decide), by rw [e2]; exact FrM.rf σ, by rw [e2]; exact hI⟩)

theorem l_legacy {sc : SC} {σ : SS} {a : AB} {x y e : Int32} (h : Cs (true, true) sc mX9_legacy 0 0 [.ref 0, .int x, .int y] σ (CF σ a e)) : Cs (true, true) sc mL_legacy 1 6 [.ref 0, .int x, .int y, .ref 76] σ (PC σ 0 a (e.toInt64)) := by
  refine Cs.of gmL_legacy (Nat.le_of_ble_eq_true rfl) ?_
  show Ws (true, true) sc mL_legacy 1 6 0 0 0 [(0, .ref 0), (1, .int x), (2, .int y), (3, .ref 76)] [] (mz σ [] []) (PC σ 0 a (e.toInt64))
  refine r_aload_n rfl rfl ?_
  refine n_iconst 0 rfl ?_
  refine r_aload_n rfl rfl ?_
  refine r_iload_n rfl rfl ?_
  refine r_iload_n rfl rfl ?_
  refine s_virIH [.int x, .int y] [.int (nI 0), .ref 76] rfl lkL_30 rfl rfl rfl h rfl rfl (by decide) (by decide) ?_
  rintro v9 σ9 ⟨hv9, hF, hI⟩
  rw [hv9]
  show Ws (true, true) sc mL_legacy 1 6 0 0 8 [(0, .ref 0), (1, .int x), (2, .int y), (3, .ref 76)] [.int e, .int (nI 0), .ref 76] (mz σ9 [] []) (PC σ 0 a (e.toInt64))
  refine r_i2l rfl rfl ?_
  refine m_last (M' := [(76, (aup (σ9.2 76) 0 ((e).toInt64)))]) rfl rfl (by decide) rfl ?_
  refine r_goto (tgt := 21) rfl rfl ?_
  refine n_iconst 0 rfl ?_
  exact s_ret (st := []) rfl rfl rfl (Nat.zero_le _) (Nat.zero_le _) (⟨_, rfl, rfl, fun _ => rfl, FrM.tr hF (FrM_mz rfl rfl), CI9_fr (FrD_mz rfl rfl) hI⟩)

theorem ca_legacy_0 : CA mL_legacy 5 0 (nI 1) := ⟨[], [(0, 10, 17, 13)], 0, 10, 13, 22, 1, 2, rfl, ⟨by decide, by decide⟩, by decide, wL22, ex_cst 0 (by decide), (by intro q hq; cases hq), (Or.inr ⟨4, by decide, rfl, rfl⟩), rfl, by decide, rfl, rfl⟩
theorem l_legacy_0 {sc : SC} {σ : SS} {a : AB} {x y : Int32} {v : Int64} (hI : CI9 σ a) (h : Cs (true, true) sc mX9_legacy 1 6 [.ref 0, .int x, .int y] σ (RX 0 fun σ' => σ' = σ)) : Cs (true, true) sc mL_legacy 1 6 [.ref 0, .int x, .int y, .ref 76] σ (PC σ 1 a v) := by
  refine Cs.of gmL_legacy (Nat.le_of_ble_eq_true rfl) ?_
  show Ws (true, true) sc mL_legacy 1 6 0 0 0 [(0, .ref 0), (1, .int x), (2, .int y), (3, .ref 76)] [] (mz σ [] []) (PC σ 1 a v)
  refine r_aload_n rfl rfl ?_
  refine n_iconst 0 rfl ?_
  refine r_aload_n rfl rfl ?_
  refine r_iload_n rfl rfl ?_
  refine r_iload_n rfl rfl ?_
  exact s_virXH [.int x, .int y] [.int (nI 0), .ref 76] rfl lkL_30 rfl rfl rfl h rfl rfl (by decide) (by decide) ca_legacy_0 (fun σ2 e2 => ⟨_, rfl, rfl, fun z => absurd z (by decide), by rw [e2]; exact FrM.rf σ, by rw [e2]; exact hI⟩)

theorem ca_legacy_1 : CA mL_legacy 5 1 (nI 2) := ⟨[(0, 10, 13, 22)], [], 0, 10, 17, 13, 2, 2, rfl, ⟨by decide, by decide⟩, by decide, wL13, ex_cst 1 (by decide), (List.forall_mem_cons.mpr ⟨⟨by decide, _, wL22, by decide⟩, (by intro q hq; cases hq)⟩), (Or.inr ⟨4, by decide, rfl, rfl⟩), rfl, by decide, rfl, rfl⟩
theorem l_legacy_1 {sc : SC} {σ : SS} {a : AB} {x y : Int32} {v : Int64} (hI : CI9 σ a) (h : Cs (true, true) sc mX9_legacy 1 6 [.ref 0, .int x, .int y] σ (RX 1 fun σ' => σ' = σ)) : Cs (true, true) sc mL_legacy 1 6 [.ref 0, .int x, .int y, .ref 76] σ (PC σ 2 a v) := by
  refine Cs.of gmL_legacy (Nat.le_of_ble_eq_true rfl) ?_
  show Ws (true, true) sc mL_legacy 1 6 0 0 0 [(0, .ref 0), (1, .int x), (2, .int y), (3, .ref 76)] [] (mz σ [] []) (PC σ 2 a v)
  refine r_aload_n rfl rfl ?_
  refine n_iconst 0 rfl ?_
  refine r_aload_n rfl rfl ?_
  refine r_iload_n rfl rfl ?_
  refine r_iload_n rfl rfl ?_
  exact s_virXH [.int x, .int y] [.int (nI 0), .ref 76] rfl lkL_30 rfl rfl rfl h rfl rfl (by decide) (by decide) ca_legacy_1 (fun σ2 e2 => ⟨_, rfl, rfl, fun z => absurd z (by decide), by rw [e2]; exact FrM.rf σ, by rw [e2]; exact hI⟩)

theorem l_account {sc : SC} {σ : SS} {a : AB} {x e : Int32} (h : Cs (true, true) sc mX9_account 0 0 [.ref 0, .int x] σ (CF σ a e)) : Cs (true, true) sc mL_account 1 6 [.ref 0, .int x, .ref 76] σ (PC σ 0 a (e.toInt64)) := by
  refine Cs.of gmL_account (Nat.le_of_ble_eq_true rfl) ?_
  show Ws (true, true) sc mL_account 1 6 0 0 0 [(0, .ref 0), (1, .int x), (2, .ref 76)] [] (mz σ [] []) (PC σ 0 a (e.toInt64))
  refine r_aload_n rfl rfl ?_
  refine n_iconst 0 rfl ?_
  refine r_aload_n rfl rfl ?_
  refine r_iload_n rfl rfl ?_
  refine s_virIH [.int x] [.int (nI 0), .ref 76] rfl lkL_33 rfl rfl rfl h rfl rfl (by decide) (by decide) ?_
  rintro v9 σ9 ⟨hv9, hF, hI⟩
  rw [hv9]
  show Ws (true, true) sc mL_account 1 6 0 0 7 [(0, .ref 0), (1, .int x), (2, .ref 76)] [.int e, .int (nI 0), .ref 76] (mz σ9 [] []) (PC σ 0 a (e.toInt64))
  refine r_i2l rfl rfl ?_
  refine m_last (M' := [(76, (aup (σ9.2 76) 0 ((e).toInt64)))]) rfl rfl (by decide) rfl ?_
  refine r_goto (tgt := 15) rfl rfl ?_
  refine n_iconst 0 rfl ?_
  exact s_ret (st := []) rfl rfl rfl (Nat.zero_le _) (Nat.zero_le _) (⟨_, rfl, rfl, fun _ => rfl, FrM.tr hF (FrM_mz rfl rfl), CI9_fr (FrD_mz rfl rfl) hI⟩)

theorem ca_account_1 : CA mL_account 4 1 (nI 1) := ⟨[], [], 0, 9, 12, 13, 1, 1, rfl, ⟨by decide, by decide⟩, by decide, wL13, ex_cst 1 (by decide), (by intro q hq; cases hq), (Or.inl ⟨⟨3, by decide⟩, by decide, rfl, rfl⟩), rfl, by decide, rfl, rfl⟩
theorem l_account_1 {sc : SC} {σ : SS} {a : AB} {x : Int32} {v : Int64} (hI : CI9 σ a) (h : Cs (true, true) sc mX9_account 1 6 [.ref 0, .int x] σ (RX 1 fun σ' => σ' = σ)) : Cs (true, true) sc mL_account 1 6 [.ref 0, .int x, .ref 76] σ (PC σ 1 a v) := by
  refine Cs.of gmL_account (Nat.le_of_ble_eq_true rfl) ?_
  show Ws (true, true) sc mL_account 1 6 0 0 0 [(0, .ref 0), (1, .int x), (2, .ref 76)] [] (mz σ [] []) (PC σ 1 a v)
  refine r_aload_n rfl rfl ?_
  refine n_iconst 0 rfl ?_
  refine r_aload_n rfl rfl ?_
  refine r_iload_n rfl rfl ?_
  exact s_virXH [.int x] [.int (nI 0), .ref 76] rfl lkL_33 rfl rfl rfl h rfl rfl (by decide) (by decide) ca_account_1 (fun σ2 e2 => ⟨_, rfl, rfl, fun z => absurd z (by decide), by rw [e2]; exact FrM.rf σ, by rw [e2]; exact hI⟩)

theorem l_factor {sc : SC} {σ : SS} {a : AB} {x e : Int32} (h : Cs (true, true) sc mX9_factor 0 0 [.ref 0, .int x] σ (CF σ a e)) : Cs (true, true) sc mL_factor 1 6 [.ref 0, .int x, .ref 76] σ (PC σ 0 a (e.toInt64)) := by
  refine Cs.of gmL_factor (Nat.le_of_ble_eq_true rfl) ?_
  show Ws (true, true) sc mL_factor 1 6 0 0 0 [(0, .ref 0), (1, .int x), (2, .ref 76)] [] (mz σ [] []) (PC σ 0 a (e.toInt64))
  refine r_aload_n rfl rfl ?_
  refine n_iconst 0 rfl ?_
  refine r_aload_n rfl rfl ?_
  refine r_iload_n rfl rfl ?_
  refine s_virIH [.int x] [.int (nI 0), .ref 76] rfl lkL_36 rfl rfl rfl h rfl rfl (by decide) (by decide) ?_
  rintro v9 σ9 ⟨hv9, hF, hI⟩
  rw [hv9]
  show Ws (true, true) sc mL_factor 1 6 0 0 7 [(0, .ref 0), (1, .int x), (2, .ref 76)] [.int e, .int (nI 0), .ref 76] (mz σ9 [] []) (PC σ 0 a (e.toInt64))
  refine r_i2l rfl rfl ?_
  refine m_last (M' := [(76, (aup (σ9.2 76) 0 ((e).toInt64)))]) rfl rfl (by decide) rfl ?_
  refine r_goto (tgt := 15) rfl rfl ?_
  refine n_iconst 0 rfl ?_
  exact s_ret (st := []) rfl rfl rfl (Nat.zero_le _) (Nat.zero_le _) (⟨_, rfl, rfl, fun _ => rfl, FrM.tr hF (FrM_mz rfl rfl), CI9_fr (FrD_mz rfl rfl) hI⟩)

theorem ca_factor_1 : CA mL_factor 4 1 (nI 1) := ⟨[], [], 0, 9, 12, 13, 1, 1, rfl, ⟨by decide, by decide⟩, by decide, wL13, ex_cst 1 (by decide), (by intro q hq; cases hq), (Or.inl ⟨⟨3, by decide⟩, by decide, rfl, rfl⟩), rfl, by decide, rfl, rfl⟩
theorem l_factor_1 {sc : SC} {σ : SS} {a : AB} {x : Int32} {v : Int64} (hI : CI9 σ a) (h : Cs (true, true) sc mX9_factor 1 6 [.ref 0, .int x] σ (RX 1 fun σ' => σ' = σ)) : Cs (true, true) sc mL_factor 1 6 [.ref 0, .int x, .ref 76] σ (PC σ 1 a v) := by
  refine Cs.of gmL_factor (Nat.le_of_ble_eq_true rfl) ?_
  show Ws (true, true) sc mL_factor 1 6 0 0 0 [(0, .ref 0), (1, .int x), (2, .ref 76)] [] (mz σ [] []) (PC σ 1 a v)
  refine r_aload_n rfl rfl ?_
  refine n_iconst 0 rfl ?_
  refine r_aload_n rfl rfl ?_
  refine r_iload_n rfl rfl ?_
  exact s_virXH [.int x] [.int (nI 0), .ref 76] rfl lkL_36 rfl rfl rfl h rfl rfl (by decide) (by decide) ca_factor_1 (fun σ2 e2 => ⟨_, rfl, rfl, fun z => absurd z (by decide), by rw [e2]; exact FrM.rf σ, by rw [e2]; exact hI⟩)

theorem l_isEmpty {sc : SC} {σ : SS} {a : AB} {x e : Int32} (h : Cs (true, true) sc mX9_isEmpty 0 0 [.ref 0, .int x] σ (CF σ a e)) : Cs (true, true) sc mL_isEmpty 1 6 [.ref 0, .int x, .ref 76] σ (PC σ 0 a (bJ e)) := by
  refine Cs.of gmL_isEmpty (Nat.le_of_ble_eq_true rfl) ?_
  show Ws (true, true) sc mL_isEmpty 1 6 0 0 0 [(0, .ref 0), (1, .int x), (2, .ref 76)] [] (mz σ [] []) (PC σ 0 a (bJ e))
  refine r_aload_n rfl rfl ?_
  refine n_iconst 0 rfl ?_
  refine r_aload_n rfl rfl ?_
  refine r_iload_n rfl rfl ?_
  refine s_virIH [.int x] [.int (nI 0), .ref 76] rfl lkL_39 rfl rfl rfl h rfl rfl (by decide) (by decide) ?_
  rintro v9 σ9 ⟨hv9, hF, hI⟩
  rw [hv9]
  show Ws (true, true) sc mL_isEmpty 1 6 0 0 7 [(0, .ref 0), (1, .int x), (2, .ref 76)] [.int e, .int (nI 0), .ref 76] (mz σ9 [] []) (PC σ 0 a (bJ e))
  refine r_if_eq (tgt := 14) rfl rfl (fun h1 => ?_) (fun h1 => ?_)
  · refine n_lconst0 rfl ?_
    refine m_last (M' := [(76, (aup (σ9.2 76) 0 (lN 0)))]) rfl rfl (by decide) rfl ?_
    refine r_goto (tgt := 22) rfl rfl ?_
    refine n_iconst 0 rfl ?_
    exact s_ret (st := []) rfl rfl rfl (Nat.zero_le _) (Nat.zero_le _) (⟨_, rfl, rfl, fun _ => by unfold bJ; rw [if_pos h1]; rfl, FrM.tr hF (FrM_mz rfl rfl), CI9_fr (FrD_mz rfl rfl) hI⟩)
  · refine n_lconst1 rfl ?_
    refine r_goto (tgt := 15) rfl rfl ?_
    refine m_last (M' := [(76, (aup (σ9.2 76) 0 (lN 1)))]) rfl rfl (by decide) rfl ?_
    refine r_goto (tgt := 22) rfl rfl ?_
    refine n_iconst 0 rfl ?_
    exact s_ret (st := []) rfl rfl rfl (Nat.zero_le _) (Nat.zero_le _) (⟨_, rfl, rfl, fun _ => by unfold bJ; rw [if_neg h1]; rfl, FrM.tr hF (FrM_mz rfl rfl), CI9_fr (FrD_mz rfl rfl) hI⟩)

theorem ca_isEmpty_0 : CA mL_isEmpty 4 0 (nI 1) := ⟨[], [], 0, 16, 19, 22, 1, 1, rfl, ⟨by decide, by decide⟩, by decide, wL22, ex_cst 0 (by decide), (by intro q hq; cases hq), (Or.inl ⟨⟨3, by decide⟩, by decide, rfl, rfl⟩), rfl, by decide, rfl, rfl⟩
theorem l_isEmpty_0 {sc : SC} {σ : SS} {a : AB} {x : Int32} {v : Int64} (hI : CI9 σ a) (h : Cs (true, true) sc mX9_isEmpty 1 6 [.ref 0, .int x] σ (RX 0 fun σ' => σ' = σ)) : Cs (true, true) sc mL_isEmpty 1 6 [.ref 0, .int x, .ref 76] σ (PC σ 1 a v) := by
  refine Cs.of gmL_isEmpty (Nat.le_of_ble_eq_true rfl) ?_
  show Ws (true, true) sc mL_isEmpty 1 6 0 0 0 [(0, .ref 0), (1, .int x), (2, .ref 76)] [] (mz σ [] []) (PC σ 1 a v)
  refine r_aload_n rfl rfl ?_
  refine n_iconst 0 rfl ?_
  refine r_aload_n rfl rfl ?_
  refine r_iload_n rfl rfl ?_
  exact s_virXH [.int x] [.int (nI 0), .ref 76] rfl lkL_39 rfl rfl rfl h rfl rfl (by decide) (by decide) ca_isEmpty_0 (fun σ2 e2 => ⟨_, rfl, rfl, fun z => absurd z (by decide), by rw [e2]; exact FrM.rf σ, by rw [e2]; exact hI⟩)

theorem l_step {sc : SC} {σ : SS} {a : AB} {x y e : Int32} (h : Cs (true, true) sc mX9_step 0 0 [.ref 0, .int x, .int y] σ (CF σ a e)) : Cs (true, true) sc mL_step 1 6 [.ref 0, .int x, .int y, .ref 76] σ (PC σ 0 a (e.toInt64)) := by
  refine Cs.of gmL_step (Nat.le_of_ble_eq_true rfl) ?_
  show Ws (true, true) sc mL_step 1 6 0 0 0 [(0, .ref 0), (1, .int x), (2, .int y), (3, .ref 76)] [] (mz σ [] []) (PC σ 0 a (e.toInt64))
  refine r_aload_n rfl rfl ?_
  refine n_iconst 0 rfl ?_
  refine r_aload_n rfl rfl ?_
  refine r_iload_n rfl rfl ?_
  refine r_iload_n rfl rfl ?_
  refine s_virIH [.int x, .int y] [.int (nI 0), .ref 76] rfl lkL_43 rfl rfl rfl h rfl rfl (by decide) (by decide) ?_
  rintro v9 σ9 ⟨hv9, hF, hI⟩
  rw [hv9]
  show Ws (true, true) sc mL_step 1 6 0 0 8 [(0, .ref 0), (1, .int x), (2, .int y), (3, .ref 76)] [.int e, .int (nI 0), .ref 76] (mz σ9 [] []) (PC σ 0 a (e.toInt64))
  refine r_i2l rfl rfl ?_
  refine m_last (M' := [(76, (aup (σ9.2 76) 0 ((e).toInt64)))]) rfl rfl (by decide) rfl ?_
  refine r_goto (tgt := 21) rfl rfl ?_
  refine n_iconst 0 rfl ?_
  exact s_ret (st := []) rfl rfl rfl (Nat.zero_le _) (Nat.zero_le _) (⟨_, rfl, rfl, fun _ => rfl, FrM.tr hF (FrM_mz rfl rfl), CI9_fr (FrD_mz rfl rfl) hI⟩)

theorem ca_step_0 : CA mL_step 5 0 (nI 1) := ⟨[], [(0, 10, 17, 13)], 0, 10, 13, 22, 1, 2, rfl, ⟨by decide, by decide⟩, by decide, wL22, ex_cst 0 (by decide), (by intro q hq; cases hq), (Or.inr ⟨4, by decide, rfl, rfl⟩), rfl, by decide, rfl, rfl⟩
theorem l_step_0 {sc : SC} {σ : SS} {a : AB} {x y : Int32} {v : Int64} (hI : CI9 σ a) (h : Cs (true, true) sc mX9_step 1 6 [.ref 0, .int x, .int y] σ (RX 0 fun σ' => σ' = σ)) : Cs (true, true) sc mL_step 1 6 [.ref 0, .int x, .int y, .ref 76] σ (PC σ 1 a v) := by
  refine Cs.of gmL_step (Nat.le_of_ble_eq_true rfl) ?_
  show Ws (true, true) sc mL_step 1 6 0 0 0 [(0, .ref 0), (1, .int x), (2, .int y), (3, .ref 76)] [] (mz σ [] []) (PC σ 1 a v)
  refine r_aload_n rfl rfl ?_
  refine n_iconst 0 rfl ?_
  refine r_aload_n rfl rfl ?_
  refine r_iload_n rfl rfl ?_
  refine r_iload_n rfl rfl ?_
  exact s_virXH [.int x, .int y] [.int (nI 0), .ref 76] rfl lkL_43 rfl rfl rfl h rfl rfl (by decide) (by decide) ca_step_0 (fun σ2 e2 => ⟨_, rfl, rfl, fun z => absurd z (by decide), by rw [e2]; exact FrM.rf σ, by rw [e2]; exact hI⟩)

theorem ca_step_1 : CA mL_step 5 1 (nI 2) := ⟨[(0, 10, 13, 22)], [], 0, 10, 17, 13, 2, 2, rfl, ⟨by decide, by decide⟩, by decide, wL13, ex_cst 1 (by decide), (List.forall_mem_cons.mpr ⟨⟨by decide, _, wL22, by decide⟩, (by intro q hq; cases hq)⟩), (Or.inr ⟨4, by decide, rfl, rfl⟩), rfl, by decide, rfl, rfl⟩
theorem l_step_1 {sc : SC} {σ : SS} {a : AB} {x y : Int32} {v : Int64} (hI : CI9 σ a) (h : Cs (true, true) sc mX9_step 1 6 [.ref 0, .int x, .int y] σ (RX 1 fun σ' => σ' = σ)) : Cs (true, true) sc mL_step 1 6 [.ref 0, .int x, .int y, .ref 76] σ (PC σ 2 a v) := by
  refine Cs.of gmL_step (Nat.le_of_ble_eq_true rfl) ?_
  show Ws (true, true) sc mL_step 1 6 0 0 0 [(0, .ref 0), (1, .int x), (2, .int y), (3, .ref 76)] [] (mz σ [] []) (PC σ 2 a v)
  refine r_aload_n rfl rfl ?_
  refine n_iconst 0 rfl ?_
  refine r_aload_n rfl rfl ?_
  refine r_iload_n rfl rfl ?_
  refine r_iload_n rfl rfl ?_
  exact s_virXH [.int x, .int y] [.int (nI 0), .ref 76] rfl lkL_43 rfl rfl rfl h rfl rfl (by decide) (by decide) ca_step_1 (fun σ2 e2 => ⟨_, rfl, rfl, fun z => absurd z (by decide), by rw [e2]; exact FrM.rf σ, by rw [e2]; exact hI⟩)

theorem l_given {sc : SC} {σ : SS} {a : AB} {x e : Int32} (h : Cs (true, true) sc mX9_given 0 0 [.ref 0, .int x] σ (CF σ a e)) : Cs (true, true) sc mL_given 1 6 [.ref 0, .int x, .ref 76] σ (PC σ 0 a (e.toInt64)) := by
  refine Cs.of gmL_given (Nat.le_of_ble_eq_true rfl) ?_
  show Ws (true, true) sc mL_given 1 6 0 0 0 [(0, .ref 0), (1, .int x), (2, .ref 76)] [] (mz σ [] []) (PC σ 0 a (e.toInt64))
  refine r_aload_n rfl rfl ?_
  refine n_iconst 0 rfl ?_
  refine r_aload_n rfl rfl ?_
  refine r_iload_n rfl rfl ?_
  refine s_virIH [.int x] [.int (nI 0), .ref 76] rfl lkL_46 rfl rfl rfl h rfl rfl (by decide) (by decide) ?_
  rintro v9 σ9 ⟨hv9, hF, hI⟩
  rw [hv9]
  show Ws (true, true) sc mL_given 1 6 0 0 7 [(0, .ref 0), (1, .int x), (2, .ref 76)] [.int e, .int (nI 0), .ref 76] (mz σ9 [] []) (PC σ 0 a (e.toInt64))
  refine r_i2l rfl rfl ?_
  refine m_last (M' := [(76, (aup (σ9.2 76) 0 ((e).toInt64)))]) rfl rfl (by decide) rfl ?_
  refine r_goto (tgt := 15) rfl rfl ?_
  refine n_iconst 0 rfl ?_
  exact s_ret (st := []) rfl rfl rfl (Nat.zero_le _) (Nat.zero_le _) (⟨_, rfl, rfl, fun _ => rfl, FrM.tr hF (FrM_mz rfl rfl), CI9_fr (FrD_mz rfl rfl) hI⟩)

theorem ca_given_0 : CA mL_given 4 0 (nI 1) := ⟨[], [], 0, 9, 12, 22, 1, 1, rfl, ⟨by decide, by decide⟩, by decide, wL22, ex_cst 0 (by decide), (by intro q hq; cases hq), (Or.inl ⟨⟨3, by decide⟩, by decide, rfl, rfl⟩), rfl, by decide, rfl, rfl⟩
theorem l_given_0 {sc : SC} {σ : SS} {a : AB} {x : Int32} {v : Int64} (hI : CI9 σ a) (h : Cs (true, true) sc mX9_given 1 6 [.ref 0, .int x] σ (RX 0 fun σ' => σ' = σ)) : Cs (true, true) sc mL_given 1 6 [.ref 0, .int x, .ref 76] σ (PC σ 1 a v) := by
  refine Cs.of gmL_given (Nat.le_of_ble_eq_true rfl) ?_
  show Ws (true, true) sc mL_given 1 6 0 0 0 [(0, .ref 0), (1, .int x), (2, .ref 76)] [] (mz σ [] []) (PC σ 1 a v)
  refine r_aload_n rfl rfl ?_
  refine n_iconst 0 rfl ?_
  refine r_aload_n rfl rfl ?_
  refine r_iload_n rfl rfl ?_
  exact s_virXH [.int x] [.int (nI 0), .ref 76] rfl lkL_46 rfl rfl rfl h rfl rfl (by decide) (by decide) ca_given_0 (fun σ2 e2 => ⟨_, rfl, rfl, fun z => absurd z (by decide), by rw [e2]; exact FrM.rf σ, by rw [e2]; exact hI⟩)

theorem l_givenIf {sc : SC} {σ : SS} {a : AB} {x y e : Int32} (h : Cs (true, true) sc mX9_givenIf 0 0 [.ref 0, .int x, .int y] σ (CF σ a e)) : Cs (true, true) sc mL_givenIf 1 6 [.ref 0, .int x, .int y, .ref 76] σ (PC σ 0 a (e.toInt64)) := by
  refine Cs.of gmL_givenIf (Nat.le_of_ble_eq_true rfl) ?_
  show Ws (true, true) sc mL_givenIf 1 6 0 0 0 [(0, .ref 0), (1, .int x), (2, .int y), (3, .ref 76)] [] (mz σ [] []) (PC σ 0 a (e.toInt64))
  refine r_aload_n rfl rfl ?_
  refine n_iconst 0 rfl ?_
  refine r_aload_n rfl rfl ?_
  refine r_iload_n rfl rfl ?_
  refine r_iload_n rfl rfl ?_
  refine s_virIH [.int x, .int y] [.int (nI 0), .ref 76] rfl lkL_49 rfl rfl rfl h rfl rfl (by decide) (by decide) ?_
  rintro v9 σ9 ⟨hv9, hF, hI⟩
  rw [hv9]
  show Ws (true, true) sc mL_givenIf 1 6 0 0 8 [(0, .ref 0), (1, .int x), (2, .int y), (3, .ref 76)] [.int e, .int (nI 0), .ref 76] (mz σ9 [] []) (PC σ 0 a (e.toInt64))
  refine r_i2l rfl rfl ?_
  refine m_last (M' := [(76, (aup (σ9.2 76) 0 ((e).toInt64)))]) rfl rfl (by decide) rfl ?_
  refine r_goto (tgt := 17) rfl rfl ?_
  refine n_iconst 0 rfl ?_
  exact s_ret (st := []) rfl rfl rfl (Nat.zero_le _) (Nat.zero_le _) (⟨_, rfl, rfl, fun _ => rfl, FrM.tr hF (FrM_mz rfl rfl), CI9_fr (FrD_mz rfl rfl) hI⟩)

theorem ca_givenIf_0 : CA mL_givenIf 5 0 (nI 1) := ⟨[], [], 0, 10, 13, 22, 1, 2, rfl, ⟨by decide, by decide⟩, by decide, wL22, ex_cst 0 (by decide), (by intro q hq; cases hq), (Or.inr ⟨4, by decide, rfl, rfl⟩), rfl, by decide, rfl, rfl⟩
theorem l_givenIf_0 {sc : SC} {σ : SS} {a : AB} {x y : Int32} {v : Int64} (hI : CI9 σ a) (h : Cs (true, true) sc mX9_givenIf 1 6 [.ref 0, .int x, .int y] σ (RX 0 fun σ' => σ' = σ)) : Cs (true, true) sc mL_givenIf 1 6 [.ref 0, .int x, .int y, .ref 76] σ (PC σ 1 a v) := by
  refine Cs.of gmL_givenIf (Nat.le_of_ble_eq_true rfl) ?_
  show Ws (true, true) sc mL_givenIf 1 6 0 0 0 [(0, .ref 0), (1, .int x), (2, .int y), (3, .ref 76)] [] (mz σ [] []) (PC σ 1 a v)
  refine r_aload_n rfl rfl ?_
  refine n_iconst 0 rfl ?_
  refine r_aload_n rfl rfl ?_
  refine r_iload_n rfl rfl ?_
  refine r_iload_n rfl rfl ?_
  exact s_virXH [.int x, .int y] [.int (nI 0), .ref 76] rfl lkL_49 rfl rfl rfl h rfl rfl (by decide) (by decide) ca_givenIf_0 (fun σ2 e2 => ⟨_, rfl, rfl, fun z => absurd z (by decide), by rw [e2]; exact FrM.rf σ, by rw [e2]; exact hI⟩)

theorem l_helper {sc : SC} {σ : SS} {a : AB} {x e : Int32} (h : Cs (true, true) sc mX9_helper 0 0 [.ref 0, .int x] σ (CF σ a e)) : Cs (true, true) sc mL_helper 1 6 [.ref 0, .int x, .ref 76] σ (PC σ 0 a (e.toInt64)) := by
  refine Cs.of gmL_helper (Nat.le_of_ble_eq_true rfl) ?_
  show Ws (true, true) sc mL_helper 1 6 0 0 0 [(0, .ref 0), (1, .int x), (2, .ref 76)] [] (mz σ [] []) (PC σ 0 a (e.toInt64))
  refine r_aload_n rfl rfl ?_
  refine n_iconst 0 rfl ?_
  refine r_aload_n rfl rfl ?_
  refine r_iload_n rfl rfl ?_
  refine s_virIH [.int x] [.int (nI 0), .ref 76] rfl lkL_52 rfl rfl rfl h rfl rfl (by decide) (by decide) ?_
  rintro v9 σ9 ⟨hv9, hF, hI⟩
  rw [hv9]
  show Ws (true, true) sc mL_helper 1 6 0 0 7 [(0, .ref 0), (1, .int x), (2, .ref 76)] [.int e, .int (nI 0), .ref 76] (mz σ9 [] []) (PC σ 0 a (e.toInt64))
  refine r_i2l rfl rfl ?_
  refine m_last (M' := [(76, (aup (σ9.2 76) 0 ((e).toInt64)))]) rfl rfl (by decide) rfl ?_
  refine r_goto (tgt := 15) rfl rfl ?_
  refine n_iconst 0 rfl ?_
  exact s_ret (st := []) rfl rfl rfl (Nat.zero_le _) (Nat.zero_le _) (⟨_, rfl, rfl, fun _ => rfl, FrM.tr hF (FrM_mz rfl rfl), CI9_fr (FrD_mz rfl rfl) hI⟩)

theorem ca_helper_0 : CA mL_helper 4 0 (nI 1) := ⟨[], [], 0, 9, 12, 22, 1, 1, rfl, ⟨by decide, by decide⟩, by decide, wL22, ex_cst 0 (by decide), (by intro q hq; cases hq), (Or.inl ⟨⟨3, by decide⟩, by decide, rfl, rfl⟩), rfl, by decide, rfl, rfl⟩
theorem l_helper_0 {sc : SC} {σ : SS} {a : AB} {x : Int32} {v : Int64} (hI : CI9 σ a) (h : Cs (true, true) sc mX9_helper 1 6 [.ref 0, .int x] σ (RX 0 fun σ' => σ' = σ)) : Cs (true, true) sc mL_helper 1 6 [.ref 0, .int x, .ref 76] σ (PC σ 1 a v) := by
  refine Cs.of gmL_helper (Nat.le_of_ble_eq_true rfl) ?_
  show Ws (true, true) sc mL_helper 1 6 0 0 0 [(0, .ref 0), (1, .int x), (2, .ref 76)] [] (mz σ [] []) (PC σ 1 a v)
  refine r_aload_n rfl rfl ?_
  refine n_iconst 0 rfl ?_
  refine r_aload_n rfl rfl ?_
  refine r_iload_n rfl rfl ?_
  exact s_virXH [.int x] [.int (nI 0), .ref 76] rfl lkL_52 rfl rfl rfl h rfl rfl (by decide) (by decide) ca_helper_0 (fun σ2 e2 => ⟨_, rfl, rfl, fun z => absurd z (by decide), by rw [e2]; exact FrM.rf σ, by rw [e2]; exact hI⟩)

theorem l_tooMuch {sc : SC} {σ : SS} {a : AB} {x e : Int32} (h : Cs (true, true) sc mX9_tooMuch 0 0 [.ref 0, .int x] σ (CF σ a e)) : Cs (true, true) sc mL_tooMuch 1 6 [.ref 0, .int x, .ref 76] σ (PC σ 0 a (e.toInt64)) := by
  refine Cs.of gmL_tooMuch (Nat.le_of_ble_eq_true rfl) ?_
  show Ws (true, true) sc mL_tooMuch 1 6 0 0 0 [(0, .ref 0), (1, .int x), (2, .ref 76)] [] (mz σ [] []) (PC σ 0 a (e.toInt64))
  refine r_aload_n rfl rfl ?_
  refine n_iconst 0 rfl ?_
  refine r_aload_n rfl rfl ?_
  refine r_iload_n rfl rfl ?_
  refine s_virIH [.int x] [.int (nI 0), .ref 76] rfl lkL_55 rfl rfl rfl h rfl rfl (by decide) (by decide) ?_
  rintro v9 σ9 ⟨hv9, hF, hI⟩
  rw [hv9]
  show Ws (true, true) sc mL_tooMuch 1 6 0 0 7 [(0, .ref 0), (1, .int x), (2, .ref 76)] [.int e, .int (nI 0), .ref 76] (mz σ9 [] []) (PC σ 0 a (e.toInt64))
  refine r_i2l rfl rfl ?_
  refine m_last (M' := [(76, (aup (σ9.2 76) 0 ((e).toInt64)))]) rfl rfl (by decide) rfl ?_
  refine r_goto (tgt := 15) rfl rfl ?_
  refine n_iconst 0 rfl ?_
  exact s_ret (st := []) rfl rfl rfl (Nat.zero_le _) (Nat.zero_le _) (⟨_, rfl, rfl, fun _ => rfl, FrM.tr hF (FrM_mz rfl rfl), CI9_fr (FrD_mz rfl rfl) hI⟩)

theorem ca_tooMuch_0 : CA mL_tooMuch 4 0 (nI 1) := ⟨[], [], 0, 9, 12, 22, 1, 1, rfl, ⟨by decide, by decide⟩, by decide, wL22, ex_cst 0 (by decide), (by intro q hq; cases hq), (Or.inl ⟨⟨3, by decide⟩, by decide, rfl, rfl⟩), rfl, by decide, rfl, rfl⟩
theorem l_tooMuch_0 {sc : SC} {σ : SS} {a : AB} {x : Int32} {v : Int64} (hI : CI9 σ a) (h : Cs (true, true) sc mX9_tooMuch 1 6 [.ref 0, .int x] σ (RX 0 fun σ' => σ' = σ)) : Cs (true, true) sc mL_tooMuch 1 6 [.ref 0, .int x, .ref 76] σ (PC σ 1 a v) := by
  refine Cs.of gmL_tooMuch (Nat.le_of_ble_eq_true rfl) ?_
  show Ws (true, true) sc mL_tooMuch 1 6 0 0 0 [(0, .ref 0), (1, .int x), (2, .ref 76)] [] (mz σ [] []) (PC σ 1 a v)
  refine r_aload_n rfl rfl ?_
  refine n_iconst 0 rfl ?_
  refine r_aload_n rfl rfl ?_
  refine r_iload_n rfl rfl ?_
  exact s_virXH [.int x] [.int (nI 0), .ref 76] rfl lkL_55 rfl rfl rfl h rfl rfl (by decide) (by decide) ca_tooMuch_0 (fun σ2 e2 => ⟨_, rfl, rfl, fun z => absurd z (by decide), by rw [e2]; exact FrM.rf σ, by rw [e2]; exact hI⟩)

theorem l_refuse {sc : SC} {σ : SS} {a : AB} {x y e : Int32} (h : Cs (true, true) sc mX9_refuse 0 0 [.ref 0, .int x, .int y] σ (CF σ a e)) : Cs (true, true) sc mL_refuse 1 6 [.ref 0, .int x, .int y, .ref 76] σ (PC σ 0 a (bJ e)) := by
  refine Cs.of gmL_refuse (Nat.le_of_ble_eq_true rfl) ?_
  show Ws (true, true) sc mL_refuse 1 6 0 0 0 [(0, .ref 0), (1, .int x), (2, .int y), (3, .ref 76)] [] (mz σ [] []) (PC σ 0 a (bJ e))
  refine r_aload_n rfl rfl ?_
  refine n_iconst 0 rfl ?_
  refine r_aload_n rfl rfl ?_
  refine r_iload_n rfl rfl ?_
  refine r_iload_n rfl rfl ?_
  refine s_virIH [.int x, .int y] [.int (nI 0), .ref 76] rfl lkL_58 rfl rfl rfl h rfl rfl (by decide) (by decide) ?_
  rintro v9 σ9 ⟨hv9, hF, hI⟩
  rw [hv9]
  show Ws (true, true) sc mL_refuse 1 6 0 0 8 [(0, .ref 0), (1, .int x), (2, .int y), (3, .ref 76)] [.int e, .int (nI 0), .ref 76] (mz σ9 [] []) (PC σ 0 a (bJ e))
  refine r_if_eq (tgt := 15) rfl rfl (fun h1 => ?_) (fun h1 => ?_)
  · refine n_lconst0 rfl ?_
    refine m_last (M' := [(76, (aup (σ9.2 76) 0 (lN 0)))]) rfl rfl (by decide) rfl ?_
    refine r_goto (tgt := 24) rfl rfl ?_
    refine n_iconst 0 rfl ?_
    exact s_ret (st := []) rfl rfl rfl (Nat.zero_le _) (Nat.zero_le _) (⟨_, rfl, rfl, fun _ => by unfold bJ; rw [if_pos h1]; rfl, FrM.tr hF (FrM_mz rfl rfl), CI9_fr (FrD_mz rfl rfl) hI⟩)
  · refine n_lconst1 rfl ?_
    refine r_goto (tgt := 16) rfl rfl ?_
    refine m_last (M' := [(76, (aup (σ9.2 76) 0 (lN 1)))]) rfl rfl (by decide) rfl ?_
    refine r_goto (tgt := 24) rfl rfl ?_
    refine n_iconst 0 rfl ?_
    exact s_ret (st := []) rfl rfl rfl (Nat.zero_le _) (Nat.zero_le _) (⟨_, rfl, rfl, fun _ => by unfold bJ; rw [if_neg h1]; rfl, FrM.tr hF (FrM_mz rfl rfl), CI9_fr (FrD_mz rfl rfl) hI⟩)

theorem ca_refuse_0 : CA mL_refuse 5 0 (nI 1) := ⟨[], [], 0, 17, 20, 22, 1, 2, rfl, ⟨by decide, by decide⟩, by decide, wL22, ex_cst 0 (by decide), (by intro q hq; cases hq), (Or.inr ⟨4, by decide, rfl, rfl⟩), rfl, by decide, rfl, rfl⟩
theorem l_refuse_0 {sc : SC} {σ : SS} {a : AB} {x y : Int32} {v : Int64} (hI : CI9 σ a) (h : Cs (true, true) sc mX9_refuse 1 6 [.ref 0, .int x, .int y] σ (RX 0 fun σ' => σ' = σ)) : Cs (true, true) sc mL_refuse 1 6 [.ref 0, .int x, .int y, .ref 76] σ (PC σ 1 a v) := by
  refine Cs.of gmL_refuse (Nat.le_of_ble_eq_true rfl) ?_
  show Ws (true, true) sc mL_refuse 1 6 0 0 0 [(0, .ref 0), (1, .int x), (2, .int y), (3, .ref 76)] [] (mz σ [] []) (PC σ 1 a v)
  refine r_aload_n rfl rfl ?_
  refine n_iconst 0 rfl ?_
  refine r_aload_n rfl rfl ?_
  refine r_iload_n rfl rfl ?_
  refine r_iload_n rfl rfl ?_
  exact s_virXH [.int x, .int y] [.int (nI 0), .ref 76] rfl lkL_58 rfl rfl rfl h rfl rfl (by decide) (by decide) ca_refuse_0 (fun σ2 e2 => ⟨_, rfl, rfl, fun z => absurd z (by decide), by rw [e2]; exact FrM.rf σ, by rw [e2]; exact hI⟩)

theorem l_die {sc : SC} {σ : SS} {a : AB} {x e : Int32} (h : Cs (true, true) sc mX9_die 0 0 [.ref 0, .int x] σ (CF σ a e)) : Cs (true, true) sc mL_die 1 6 [.ref 0, .int x, .ref 76] σ (PC σ 0 a (e.toInt64)) := by
  refine Cs.of gmL_die (Nat.le_of_ble_eq_true rfl) ?_
  show Ws (true, true) sc mL_die 1 6 0 0 0 [(0, .ref 0), (1, .int x), (2, .ref 76)] [] (mz σ [] []) (PC σ 0 a (e.toInt64))
  refine r_aload_n rfl rfl ?_
  refine n_iconst 0 rfl ?_
  refine r_aload_n rfl rfl ?_
  refine r_iload_n rfl rfl ?_
  refine s_virIH [.int x] [.int (nI 0), .ref 76] rfl lkL_62 rfl rfl rfl h rfl rfl (by decide) (by decide) ?_
  rintro v9 σ9 ⟨hv9, hF, hI⟩
  rw [hv9]
  show Ws (true, true) sc mL_die 1 6 0 0 7 [(0, .ref 0), (1, .int x), (2, .ref 76)] [.int e, .int (nI 0), .ref 76] (mz σ9 [] []) (PC σ 0 a (e.toInt64))
  refine r_i2l rfl rfl ?_
  refine m_last (M' := [(76, (aup (σ9.2 76) 0 ((e).toInt64)))]) rfl rfl (by decide) rfl ?_
  refine r_goto (tgt := 15) rfl rfl ?_
  refine n_iconst 0 rfl ?_
  exact s_ret (st := []) rfl rfl rfl (Nat.zero_le _) (Nat.zero_le _) (⟨_, rfl, rfl, fun _ => rfl, FrM.tr hF (FrM_mz rfl rfl), CI9_fr (FrD_mz rfl rfl) hI⟩)

theorem ca_die_0 : CA mL_die 4 0 (nI 1) := ⟨[], [], 0, 9, 12, 22, 1, 1, rfl, ⟨by decide, by decide⟩, by decide, wL22, ex_cst 0 (by decide), (by intro q hq; cases hq), (Or.inl ⟨⟨3, by decide⟩, by decide, rfl, rfl⟩), rfl, by decide, rfl, rfl⟩
theorem l_die_0 {sc : SC} {σ : SS} {a : AB} {x : Int32} {v : Int64} (hI : CI9 σ a) (h : Cs (true, true) sc mX9_die 1 6 [.ref 0, .int x] σ (RX 0 fun σ' => σ' = σ)) : Cs (true, true) sc mL_die 1 6 [.ref 0, .int x, .ref 76] σ (PC σ 1 a v) := by
  refine Cs.of gmL_die (Nat.le_of_ble_eq_true rfl) ?_
  show Ws (true, true) sc mL_die 1 6 0 0 0 [(0, .ref 0), (1, .int x), (2, .ref 76)] [] (mz σ [] []) (PC σ 1 a v)
  refine r_aload_n rfl rfl ?_
  refine n_iconst 0 rfl ?_
  refine r_aload_n rfl rfl ?_
  refine r_iload_n rfl rfl ?_
  exact s_virXH [.int x] [.int (nI 0), .ref 76] rfl lkL_62 rfl rfl rfl h rfl rfl (by decide) (by decide) ca_die_0 (fun σ2 e2 => ⟨_, rfl, rfl, fun z => absurd z (by decide), by rw [e2]; exact FrM.rf σ, by rw [e2]; exact hI⟩)

theorem l_setAge {sc : SC} {σ : SS} {a : AB} {x y e : Int32} (h : Cs (true, true) sc mX9_setAge 0 0 [.ref 0, .int x, .int y] σ (CF σ a e)) : Cs (true, true) sc mL_setAge 1 6 [.ref 0, .int x, .int y, .ref 76] σ (PC σ 0 a (e.toInt64)) := by
  refine Cs.of gmL_setAge (Nat.le_of_ble_eq_true rfl) ?_
  show Ws (true, true) sc mL_setAge 1 6 0 0 0 [(0, .ref 0), (1, .int x), (2, .int y), (3, .ref 76)] [] (mz σ [] []) (PC σ 0 a (e.toInt64))
  refine r_aload_n rfl rfl ?_
  refine n_iconst 0 rfl ?_
  refine r_aload_n rfl rfl ?_
  refine r_iload_n rfl rfl ?_
  refine r_iload_n rfl rfl ?_
  refine s_virIH [.int x, .int y] [.int (nI 0), .ref 76] rfl lkL_65 rfl rfl rfl h rfl rfl (by decide) (by decide) ?_
  rintro v9 σ9 ⟨hv9, hF, hI⟩
  rw [hv9]
  show Ws (true, true) sc mL_setAge 1 6 0 0 8 [(0, .ref 0), (1, .int x), (2, .int y), (3, .ref 76)] [.int e, .int (nI 0), .ref 76] (mz σ9 [] []) (PC σ 0 a (e.toInt64))
  refine r_i2l rfl rfl ?_
  refine m_last (M' := [(76, (aup (σ9.2 76) 0 ((e).toInt64)))]) rfl rfl (by decide) rfl ?_
  refine r_goto (tgt := 21) rfl rfl ?_
  refine n_iconst 0 rfl ?_
  exact s_ret (st := []) rfl rfl rfl (Nat.zero_le _) (Nat.zero_le _) (⟨_, rfl, rfl, fun _ => rfl, FrM.tr hF (FrM_mz rfl rfl), CI9_fr (FrD_mz rfl rfl) hI⟩)

theorem ca_setAge_0 : CA mL_setAge 5 0 (nI 1) := ⟨[], [(0, 10, 17, 13)], 0, 10, 13, 22, 1, 2, rfl, ⟨by decide, by decide⟩, by decide, wL22, ex_cst 0 (by decide), (by intro q hq; cases hq), (Or.inr ⟨4, by decide, rfl, rfl⟩), rfl, by decide, rfl, rfl⟩
theorem l_setAge_0 {sc : SC} {σ : SS} {a : AB} {x y : Int32} {v : Int64} (hI : CI9 σ a) (h : Cs (true, true) sc mX9_setAge 1 6 [.ref 0, .int x, .int y] σ (RX 0 fun σ' => σ' = σ)) : Cs (true, true) sc mL_setAge 1 6 [.ref 0, .int x, .int y, .ref 76] σ (PC σ 1 a v) := by
  refine Cs.of gmL_setAge (Nat.le_of_ble_eq_true rfl) ?_
  show Ws (true, true) sc mL_setAge 1 6 0 0 0 [(0, .ref 0), (1, .int x), (2, .int y), (3, .ref 76)] [] (mz σ [] []) (PC σ 1 a v)
  refine r_aload_n rfl rfl ?_
  refine n_iconst 0 rfl ?_
  refine r_aload_n rfl rfl ?_
  refine r_iload_n rfl rfl ?_
  refine r_iload_n rfl rfl ?_
  exact s_virXH [.int x, .int y] [.int (nI 0), .ref 76] rfl lkL_65 rfl rfl rfl h rfl rfl (by decide) (by decide) ca_setAge_0 (fun σ2 e2 => ⟨_, rfl, rfl, fun z => absurd z (by decide), by rw [e2]; exact FrM.rf σ, by rw [e2]; exact hI⟩)

theorem ca_setAge_1 : CA mL_setAge 5 1 (nI 2) := ⟨[(0, 10, 13, 22)], [], 0, 10, 17, 13, 2, 2, rfl, ⟨by decide, by decide⟩, by decide, wL13, ex_cst 1 (by decide), (List.forall_mem_cons.mpr ⟨⟨by decide, _, wL22, by decide⟩, (by intro q hq; cases hq)⟩), (Or.inr ⟨4, by decide, rfl, rfl⟩), rfl, by decide, rfl, rfl⟩
theorem l_setAge_1 {sc : SC} {σ : SS} {a : AB} {x y : Int32} {v : Int64} (hI : CI9 σ a) (h : Cs (true, true) sc mX9_setAge 1 6 [.ref 0, .int x, .int y] σ (RX 1 fun σ' => σ' = σ)) : Cs (true, true) sc mL_setAge 1 6 [.ref 0, .int x, .int y, .ref 76] σ (PC σ 2 a v) := by
  refine Cs.of gmL_setAge (Nat.le_of_ble_eq_true rfl) ?_
  show Ws (true, true) sc mL_setAge 1 6 0 0 0 [(0, .ref 0), (1, .int x), (2, .int y), (3, .ref 76)] [] (mz σ [] []) (PC σ 2 a v)
  refine r_aload_n rfl rfl ?_
  refine n_iconst 0 rfl ?_
  refine r_aload_n rfl rfl ?_
  refine r_iload_n rfl rfl ?_
  refine r_iload_n rfl rfl ?_
  exact s_virXH [.int x, .int y] [.int (nI 0), .ref 76] rfl lkL_65 rfl rfl rfl h rfl rfl (by decide) (by decide) ca_setAge_1 (fun σ2 e2 => ⟨_, rfl, rfl, fun z => absurd z (by decide), by rw [e2]; exact FrM.rf σ, by rw [e2]; exact hI⟩)

theorem l_addGift {sc : SC} {σ : SS} {a : AB} {x y e : Int32} (h : Cs (true, true) sc mX9_addGift 0 0 [.ref 0, .int x, .int y] σ (CF σ a e)) : Cs (true, true) sc mL_addGift 1 6 [.ref 0, .int x, .int y, .ref 76] σ (PC σ 0 a (e.toInt64)) := by
  refine Cs.of gmL_addGift (Nat.le_of_ble_eq_true rfl) ?_
  show Ws (true, true) sc mL_addGift 1 6 0 0 0 [(0, .ref 0), (1, .int x), (2, .int y), (3, .ref 76)] [] (mz σ [] []) (PC σ 0 a (e.toInt64))
  refine r_aload_n rfl rfl ?_
  refine n_iconst 0 rfl ?_
  refine r_aload_n rfl rfl ?_
  refine r_iload_n rfl rfl ?_
  refine r_iload_n rfl rfl ?_
  refine s_virIH [.int x, .int y] [.int (nI 0), .ref 76] rfl lkL_68 rfl rfl rfl h rfl rfl (by decide) (by decide) ?_
  rintro v9 σ9 ⟨hv9, hF, hI⟩
  rw [hv9]
  show Ws (true, true) sc mL_addGift 1 6 0 0 8 [(0, .ref 0), (1, .int x), (2, .int y), (3, .ref 76)] [.int e, .int (nI 0), .ref 76] (mz σ9 [] []) (PC σ 0 a (e.toInt64))
  refine r_i2l rfl rfl ?_
  refine m_last (M' := [(76, (aup (σ9.2 76) 0 ((e).toInt64)))]) rfl rfl (by decide) rfl ?_
  refine r_goto (tgt := 25) rfl rfl ?_
  refine n_iconst 0 rfl ?_
  exact s_ret (st := []) rfl rfl rfl (Nat.zero_le _) (Nat.zero_le _) (⟨_, rfl, rfl, fun _ => rfl, FrM.tr hF (FrM_mz rfl rfl), CI9_fr (FrD_mz rfl rfl) hI⟩)

theorem ca_addGift_0 : CA mL_addGift 5 0 (nI 1) := ⟨[], [(0, 10, 17, 13), (0, 10, 21, 71)], 0, 10, 13, 22, 1, 2, rfl, ⟨by decide, by decide⟩, by decide, wL22, ex_cst 0 (by decide), (by intro q hq; cases hq), (Or.inr ⟨4, by decide, rfl, rfl⟩), rfl, by decide, rfl, rfl⟩
theorem l_addGift_0 {sc : SC} {σ : SS} {a : AB} {x y : Int32} {v : Int64} (hI : CI9 σ a) (h : Cs (true, true) sc mX9_addGift 1 6 [.ref 0, .int x, .int y] σ (RX 0 fun σ' => σ' = σ)) : Cs (true, true) sc mL_addGift 1 6 [.ref 0, .int x, .int y, .ref 76] σ (PC σ 1 a v) := by
  refine Cs.of gmL_addGift (Nat.le_of_ble_eq_true rfl) ?_
  show Ws (true, true) sc mL_addGift 1 6 0 0 0 [(0, .ref 0), (1, .int x), (2, .int y), (3, .ref 76)] [] (mz σ [] []) (PC σ 1 a v)
  refine r_aload_n rfl rfl ?_
  refine n_iconst 0 rfl ?_
  refine r_aload_n rfl rfl ?_
  refine r_iload_n rfl rfl ?_
  refine r_iload_n rfl rfl ?_
  exact s_virXH [.int x, .int y] [.int (nI 0), .ref 76] rfl lkL_68 rfl rfl rfl h rfl rfl (by decide) (by decide) ca_addGift_0 (fun σ2 e2 => ⟨_, rfl, rfl, fun z => absurd z (by decide), by rw [e2]; exact FrM.rf σ, by rw [e2]; exact hI⟩)

theorem ca_addGift_1 : CA mL_addGift 5 1 (nI 2) := ⟨[(0, 10, 13, 22)], [(0, 10, 21, 71)], 0, 10, 17, 13, 2, 2, rfl, ⟨by decide, by decide⟩, by decide, wL13, ex_cst 1 (by decide), (List.forall_mem_cons.mpr ⟨⟨by decide, _, wL22, by decide⟩, (by intro q hq; cases hq)⟩), (Or.inr ⟨4, by decide, rfl, rfl⟩), rfl, by decide, rfl, rfl⟩
theorem l_addGift_1 {sc : SC} {σ : SS} {a : AB} {x y : Int32} {v : Int64} (hI : CI9 σ a) (h : Cs (true, true) sc mX9_addGift 1 6 [.ref 0, .int x, .int y] σ (RX 1 fun σ' => σ' = σ)) : Cs (true, true) sc mL_addGift 1 6 [.ref 0, .int x, .int y, .ref 76] σ (PC σ 2 a v) := by
  refine Cs.of gmL_addGift (Nat.le_of_ble_eq_true rfl) ?_
  show Ws (true, true) sc mL_addGift 1 6 0 0 0 [(0, .ref 0), (1, .int x), (2, .int y), (3, .ref 76)] [] (mz σ [] []) (PC σ 2 a v)
  refine r_aload_n rfl rfl ?_
  refine n_iconst 0 rfl ?_
  refine r_aload_n rfl rfl ?_
  refine r_iload_n rfl rfl ?_
  refine r_iload_n rfl rfl ?_
  exact s_virXH [.int x, .int y] [.int (nI 0), .ref 76] rfl lkL_68 rfl rfl rfl h rfl rfl (by decide) (by decide) ca_addGift_1 (fun σ2 e2 => ⟨_, rfl, rfl, fun z => absurd z (by decide), by rw [e2]; exact FrM.rf σ, by rw [e2]; exact hI⟩)

theorem ca_addGift_2 : CA mL_addGift 5 2 (nI 3) := ⟨[(0, 10, 13, 22), (0, 10, 17, 13)], [], 0, 10, 21, 71, 3, 2, rfl, ⟨by decide, by decide⟩, by decide, wL71, ex_cst 2 (by decide), (List.forall_mem_cons.mpr ⟨⟨by decide, _, wL22, by decide⟩, (List.forall_mem_cons.mpr ⟨⟨by decide, _, wL13, by decide⟩, (by intro q hq; cases hq)⟩)⟩), (Or.inr ⟨4, by decide, rfl, rfl⟩), rfl, by decide, rfl, rfl⟩
theorem l_addGift_2 {sc : SC} {σ : SS} {a : AB} {x y : Int32} {v : Int64} (hI : CI9 σ a) (h : Cs (true, true) sc mX9_addGift 1 6 [.ref 0, .int x, .int y] σ (RX 2 fun σ' => σ' = σ)) : Cs (true, true) sc mL_addGift 1 6 [.ref 0, .int x, .int y, .ref 76] σ (PC σ 3 a v) := by
  refine Cs.of gmL_addGift (Nat.le_of_ble_eq_true rfl) ?_
  show Ws (true, true) sc mL_addGift 1 6 0 0 0 [(0, .ref 0), (1, .int x), (2, .int y), (3, .ref 76)] [] (mz σ [] []) (PC σ 3 a v)
  refine r_aload_n rfl rfl ?_
  refine n_iconst 0 rfl ?_
  refine r_aload_n rfl rfl ?_
  refine r_iload_n rfl rfl ?_
  refine r_iload_n rfl rfl ?_
  exact s_virXH [.int x, .int y] [.int (nI 0), .ref 76] rfl lkL_68 rfl rfl rfl h rfl rfl (by decide) (by decide) ca_addGift_2 (fun σ2 e2 => ⟨_, rfl, rfl, fun z => absurd z (by decide), by rw [e2]; exact FrM.rf σ, by rw [e2]; exact hI⟩)

theorem l_addDebt {sc : SC} {σ : SS} {a : AB} {x y e : Int32} (h : Cs (true, true) sc mX9_addDebt 0 0 [.ref 0, .int x, .int y] σ (CF σ a e)) : Cs (true, true) sc mL_addDebt 1 6 [.ref 0, .int x, .int y, .ref 76] σ (PC σ 0 a (e.toInt64)) := by
  refine Cs.of gmL_addDebt (Nat.le_of_ble_eq_true rfl) ?_
  show Ws (true, true) sc mL_addDebt 1 6 0 0 0 [(0, .ref 0), (1, .int x), (2, .int y), (3, .ref 76)] [] (mz σ [] []) (PC σ 0 a (e.toInt64))
  refine r_aload_n rfl rfl ?_
  refine n_iconst 0 rfl ?_
  refine r_aload_n rfl rfl ?_
  refine r_iload_n rfl rfl ?_
  refine r_iload_n rfl rfl ?_
  refine s_virIH [.int x, .int y] [.int (nI 0), .ref 76] rfl lkL_73 rfl rfl rfl h rfl rfl (by decide) (by decide) ?_
  rintro v9 σ9 ⟨hv9, hF, hI⟩
  rw [hv9]
  show Ws (true, true) sc mL_addDebt 1 6 0 0 8 [(0, .ref 0), (1, .int x), (2, .int y), (3, .ref 76)] [.int e, .int (nI 0), .ref 76] (mz σ9 [] []) (PC σ 0 a (e.toInt64))
  refine r_i2l rfl rfl ?_
  refine m_last (M' := [(76, (aup (σ9.2 76) 0 ((e).toInt64)))]) rfl rfl (by decide) rfl ?_
  refine r_goto (tgt := 21) rfl rfl ?_
  refine n_iconst 0 rfl ?_
  exact s_ret (st := []) rfl rfl rfl (Nat.zero_le _) (Nat.zero_le _) (⟨_, rfl, rfl, fun _ => rfl, FrM.tr hF (FrM_mz rfl rfl), CI9_fr (FrD_mz rfl rfl) hI⟩)

theorem ca_addDebt_1 : CA mL_addDebt 5 1 (nI 1) := ⟨[], [(0, 10, 17, 71)], 0, 10, 13, 13, 1, 2, rfl, ⟨by decide, by decide⟩, by decide, wL13, ex_cst 1 (by decide), (by intro q hq; cases hq), (Or.inr ⟨4, by decide, rfl, rfl⟩), rfl, by decide, rfl, rfl⟩
theorem l_addDebt_1 {sc : SC} {σ : SS} {a : AB} {x y : Int32} {v : Int64} (hI : CI9 σ a) (h : Cs (true, true) sc mX9_addDebt 1 6 [.ref 0, .int x, .int y] σ (RX 1 fun σ' => σ' = σ)) : Cs (true, true) sc mL_addDebt 1 6 [.ref 0, .int x, .int y, .ref 76] σ (PC σ 1 a v) := by
  refine Cs.of gmL_addDebt (Nat.le_of_ble_eq_true rfl) ?_
  show Ws (true, true) sc mL_addDebt 1 6 0 0 0 [(0, .ref 0), (1, .int x), (2, .int y), (3, .ref 76)] [] (mz σ [] []) (PC σ 1 a v)
  refine r_aload_n rfl rfl ?_
  refine n_iconst 0 rfl ?_
  refine r_aload_n rfl rfl ?_
  refine r_iload_n rfl rfl ?_
  refine r_iload_n rfl rfl ?_
  exact s_virXH [.int x, .int y] [.int (nI 0), .ref 76] rfl lkL_73 rfl rfl rfl h rfl rfl (by decide) (by decide) ca_addDebt_1 (fun σ2 e2 => ⟨_, rfl, rfl, fun z => absurd z (by decide), by rw [e2]; exact FrM.rf σ, by rw [e2]; exact hI⟩)

theorem ca_addDebt_2 : CA mL_addDebt 5 2 (nI 2) := ⟨[(0, 10, 13, 13)], [], 0, 10, 17, 71, 2, 2, rfl, ⟨by decide, by decide⟩, by decide, wL71, ex_cst 2 (by decide), (List.forall_mem_cons.mpr ⟨⟨by decide, _, wL13, by decide⟩, (by intro q hq; cases hq)⟩), (Or.inr ⟨4, by decide, rfl, rfl⟩), rfl, by decide, rfl, rfl⟩
theorem l_addDebt_2 {sc : SC} {σ : SS} {a : AB} {x y : Int32} {v : Int64} (hI : CI9 σ a) (h : Cs (true, true) sc mX9_addDebt 1 6 [.ref 0, .int x, .int y] σ (RX 2 fun σ' => σ' = σ)) : Cs (true, true) sc mL_addDebt 1 6 [.ref 0, .int x, .int y, .ref 76] σ (PC σ 2 a v) := by
  refine Cs.of gmL_addDebt (Nat.le_of_ble_eq_true rfl) ?_
  show Ws (true, true) sc mL_addDebt 1 6 0 0 0 [(0, .ref 0), (1, .int x), (2, .int y), (3, .ref 76)] [] (mz σ [] []) (PC σ 2 a v)
  refine r_aload_n rfl rfl ?_
  refine n_iconst 0 rfl ?_
  refine r_aload_n rfl rfl ?_
  refine r_iload_n rfl rfl ?_
  refine r_iload_n rfl rfl ?_
  exact s_virXH [.int x, .int y] [.int (nI 0), .ref 76] rfl lkL_73 rfl rfl rfl h rfl rfl (by decide) (by decide) ca_addDebt_2 (fun σ2 e2 => ⟨_, rfl, rfl, fun z => absurd z (by decide), by rw [e2]; exact FrM.rf σ, by rw [e2]; exact hI⟩)

theorem l_setValue {sc : SC} {σ : SS} {a : AB} {x y e : Int32} (h : Cs (true, true) sc mX9_setValue 0 0 [.ref 0, .int x, .int y] σ (CF σ a e)) : Cs (true, true) sc mL_setValue 1 6 [.ref 0, .int x, .int y, .ref 76] σ (PC σ 0 a (e.toInt64)) := by
  refine Cs.of gmL_setValue (Nat.le_of_ble_eq_true rfl) ?_
  show Ws (true, true) sc mL_setValue 1 6 0 0 0 [(0, .ref 0), (1, .int x), (2, .int y), (3, .ref 76)] [] (mz σ [] []) (PC σ 0 a (e.toInt64))
  refine r_aload_n rfl rfl ?_
  refine n_iconst 0 rfl ?_
  refine r_aload_n rfl rfl ?_
  refine r_iload_n rfl rfl ?_
  refine r_iload_n rfl rfl ?_
  refine s_virIH [.int x, .int y] [.int (nI 0), .ref 76] rfl lkL_76 rfl rfl rfl h rfl rfl (by decide) (by decide) ?_
  rintro v9 σ9 ⟨hv9, hF, hI⟩
  rw [hv9]
  show Ws (true, true) sc mL_setValue 1 6 0 0 8 [(0, .ref 0), (1, .int x), (2, .int y), (3, .ref 76)] [.int e, .int (nI 0), .ref 76] (mz σ9 [] []) (PC σ 0 a (e.toInt64))
  refine r_i2l rfl rfl ?_
  refine m_last (M' := [(76, (aup (σ9.2 76) 0 ((e).toInt64)))]) rfl rfl (by decide) rfl ?_
  refine r_goto (tgt := 21) rfl rfl ?_
  refine n_iconst 0 rfl ?_
  exact s_ret (st := []) rfl rfl rfl (Nat.zero_le _) (Nat.zero_le _) (⟨_, rfl, rfl, fun _ => rfl, FrM.tr hF (FrM_mz rfl rfl), CI9_fr (FrD_mz rfl rfl) hI⟩)

theorem ca_setValue_0 : CA mL_setValue 5 0 (nI 1) := ⟨[], [(0, 10, 17, 13)], 0, 10, 13, 22, 1, 2, rfl, ⟨by decide, by decide⟩, by decide, wL22, ex_cst 0 (by decide), (by intro q hq; cases hq), (Or.inr ⟨4, by decide, rfl, rfl⟩), rfl, by decide, rfl, rfl⟩
theorem l_setValue_0 {sc : SC} {σ : SS} {a : AB} {x y : Int32} {v : Int64} (hI : CI9 σ a) (h : Cs (true, true) sc mX9_setValue 1 6 [.ref 0, .int x, .int y] σ (RX 0 fun σ' => σ' = σ)) : Cs (true, true) sc mL_setValue 1 6 [.ref 0, .int x, .int y, .ref 76] σ (PC σ 1 a v) := by
  refine Cs.of gmL_setValue (Nat.le_of_ble_eq_true rfl) ?_
  show Ws (true, true) sc mL_setValue 1 6 0 0 0 [(0, .ref 0), (1, .int x), (2, .int y), (3, .ref 76)] [] (mz σ [] []) (PC σ 1 a v)
  refine r_aload_n rfl rfl ?_
  refine n_iconst 0 rfl ?_
  refine r_aload_n rfl rfl ?_
  refine r_iload_n rfl rfl ?_
  refine r_iload_n rfl rfl ?_
  exact s_virXH [.int x, .int y] [.int (nI 0), .ref 76] rfl lkL_76 rfl rfl rfl h rfl rfl (by decide) (by decide) ca_setValue_0 (fun σ2 e2 => ⟨_, rfl, rfl, fun z => absurd z (by decide), by rw [e2]; exact FrM.rf σ, by rw [e2]; exact hI⟩)

theorem ca_setValue_1 : CA mL_setValue 5 1 (nI 2) := ⟨[(0, 10, 13, 22)], [], 0, 10, 17, 13, 2, 2, rfl, ⟨by decide, by decide⟩, by decide, wL13, ex_cst 1 (by decide), (List.forall_mem_cons.mpr ⟨⟨by decide, _, wL22, by decide⟩, (by intro q hq; cases hq)⟩), (Or.inr ⟨4, by decide, rfl, rfl⟩), rfl, by decide, rfl, rfl⟩
theorem l_setValue_1 {sc : SC} {σ : SS} {a : AB} {x y : Int32} {v : Int64} (hI : CI9 σ a) (h : Cs (true, true) sc mX9_setValue 1 6 [.ref 0, .int x, .int y] σ (RX 1 fun σ' => σ' = σ)) : Cs (true, true) sc mL_setValue 1 6 [.ref 0, .int x, .int y, .ref 76] σ (PC σ 2 a v) := by
  refine Cs.of gmL_setValue (Nat.le_of_ble_eq_true rfl) ?_
  show Ws (true, true) sc mL_setValue 1 6 0 0 0 [(0, .ref 0), (1, .int x), (2, .int y), (3, .ref 76)] [] (mz σ [] []) (PC σ 2 a v)
  refine r_aload_n rfl rfl ?_
  refine n_iconst 0 rfl ?_
  refine r_aload_n rfl rfl ?_
  refine r_iload_n rfl rfl ?_
  refine r_iload_n rfl rfl ?_
  exact s_virXH [.int x, .int y] [.int (nI 0), .ref 76] rfl lkL_76 rfl rfl rfl h rfl rfl (by decide) (by decide) ca_setValue_1 (fun σ2 e2 => ⟨_, rfl, rfl, fun z => absurd z (by decide), by rw [e2]; exact FrM.rf σ, by rw [e2]; exact hI⟩)

theorem l_saveSnapshot {sc : SC} {σ : SS} {a : AB} {x e : Int32} (h : Cs (true, true) sc mX9_saveSnapshot 0 0 [.ref 0, .int x] σ (CF σ a e)) : Cs (true, true) sc mL_saveSnapshot 1 6 [.ref 0, .int x, .ref 76] σ (PC σ 0 a (bJ e)) := by
  refine Cs.of gmL_saveSnapshot (Nat.le_of_ble_eq_true rfl) ?_
  show Ws (true, true) sc mL_saveSnapshot 1 6 0 0 0 [(0, .ref 0), (1, .int x), (2, .ref 76)] [] (mz σ [] []) (PC σ 0 a (bJ e))
  refine r_aload_n rfl rfl ?_
  refine n_iconst 0 rfl ?_
  refine r_aload_n rfl rfl ?_
  refine r_iload_n rfl rfl ?_
  refine s_virIH [.int x] [.int (nI 0), .ref 76] rfl lkL_79 rfl rfl rfl h rfl rfl (by decide) (by decide) ?_
  rintro v9 σ9 ⟨hv9, hF, hI⟩
  rw [hv9]
  show Ws (true, true) sc mL_saveSnapshot 1 6 0 0 7 [(0, .ref 0), (1, .int x), (2, .ref 76)] [.int e, .int (nI 0), .ref 76] (mz σ9 [] []) (PC σ 0 a (bJ e))
  refine r_if_eq (tgt := 14) rfl rfl (fun h1 => ?_) (fun h1 => ?_)
  · refine n_lconst0 rfl ?_
    refine m_last (M' := [(76, (aup (σ9.2 76) 0 (lN 0)))]) rfl rfl (by decide) rfl ?_
    refine r_goto (tgt := 22) rfl rfl ?_
    refine n_iconst 0 rfl ?_
    exact s_ret (st := []) rfl rfl rfl (Nat.zero_le _) (Nat.zero_le _) (⟨_, rfl, rfl, fun _ => by unfold bJ; rw [if_pos h1]; rfl, FrM.tr hF (FrM_mz rfl rfl), CI9_fr (FrD_mz rfl rfl) hI⟩)
  · refine n_lconst1 rfl ?_
    refine r_goto (tgt := 15) rfl rfl ?_
    refine m_last (M' := [(76, (aup (σ9.2 76) 0 (lN 1)))]) rfl rfl (by decide) rfl ?_
    refine r_goto (tgt := 22) rfl rfl ?_
    refine n_iconst 0 rfl ?_
    exact s_ret (st := []) rfl rfl rfl (Nat.zero_le _) (Nat.zero_le _) (⟨_, rfl, rfl, fun _ => by unfold bJ; rw [if_neg h1]; rfl, FrM.tr hF (FrM_mz rfl rfl), CI9_fr (FrD_mz rfl rfl) hI⟩)

theorem ca_saveSnapshot_0 : CA mL_saveSnapshot 4 0 (nI 1) := ⟨[], [], 0, 16, 19, 22, 1, 1, rfl, ⟨by decide, by decide⟩, by decide, wL22, ex_cst 0 (by decide), (by intro q hq; cases hq), (Or.inl ⟨⟨3, by decide⟩, by decide, rfl, rfl⟩), rfl, by decide, rfl, rfl⟩
theorem l_saveSnapshot_0 {sc : SC} {σ : SS} {a : AB} {x : Int32} {v : Int64} (hI : CI9 σ a) (h : Cs (true, true) sc mX9_saveSnapshot 1 6 [.ref 0, .int x] σ (RX 0 fun σ' => σ' = σ)) : Cs (true, true) sc mL_saveSnapshot 1 6 [.ref 0, .int x, .ref 76] σ (PC σ 1 a v) := by
  refine Cs.of gmL_saveSnapshot (Nat.le_of_ble_eq_true rfl) ?_
  show Ws (true, true) sc mL_saveSnapshot 1 6 0 0 0 [(0, .ref 0), (1, .int x), (2, .ref 76)] [] (mz σ [] []) (PC σ 1 a v)
  refine r_aload_n rfl rfl ?_
  refine n_iconst 0 rfl ?_
  refine r_aload_n rfl rfl ?_
  refine r_iload_n rfl rfl ?_
  exact s_virXH [.int x] [.int (nI 0), .ref 76] rfl lkL_79 rfl rfl rfl h rfl rfl (by decide) (by decide) ca_saveSnapshot_0 (fun σ2 e2 => ⟨_, rfl, rfl, fun z => absurd z (by decide), by rw [e2]; exact FrM.rf σ, by rw [e2]; exact hI⟩)

theorem l_restoreSnapshot {sc : SC} {σ : SS} {a : AB} {x e : Int32} (h : Cs (true, true) sc mX9_restoreSnapshot 0 0 [.ref 0, .int x] σ (CF σ a e)) : Cs (true, true) sc mL_restoreSnapshot 1 6 [.ref 0, .int x, .ref 76] σ (PC σ 0 a (e.toInt64)) := by
  refine Cs.of gmL_restoreSnapshot (Nat.le_of_ble_eq_true rfl) ?_
  show Ws (true, true) sc mL_restoreSnapshot 1 6 0 0 0 [(0, .ref 0), (1, .int x), (2, .ref 76)] [] (mz σ [] []) (PC σ 0 a (e.toInt64))
  refine r_aload_n rfl rfl ?_
  refine n_iconst 0 rfl ?_
  refine r_aload_n rfl rfl ?_
  refine r_iload_n rfl rfl ?_
  refine s_virIH [.int x] [.int (nI 0), .ref 76] rfl lkL_82 rfl rfl rfl h rfl rfl (by decide) (by decide) ?_
  rintro v9 σ9 ⟨hv9, hF, hI⟩
  rw [hv9]
  show Ws (true, true) sc mL_restoreSnapshot 1 6 0 0 7 [(0, .ref 0), (1, .int x), (2, .ref 76)] [.int e, .int (nI 0), .ref 76] (mz σ9 [] []) (PC σ 0 a (e.toInt64))
  refine r_i2l rfl rfl ?_
  refine m_last (M' := [(76, (aup (σ9.2 76) 0 ((e).toInt64)))]) rfl rfl (by decide) rfl ?_
  refine r_goto (tgt := 18) rfl rfl ?_
  refine n_iconst 0 rfl ?_
  exact s_ret (st := []) rfl rfl rfl (Nat.zero_le _) (Nat.zero_le _) (⟨_, rfl, rfl, fun _ => rfl, FrM.tr hF (FrM_mz rfl rfl), CI9_fr (FrD_mz rfl rfl) hI⟩)

theorem ca_restoreSnapshot_0 : CA mL_restoreSnapshot 4 0 (nI 1) := ⟨[], [(0, 9, 15, 71)], 0, 9, 12, 22, 1, 1, rfl, ⟨by decide, by decide⟩, by decide, wL22, ex_cst 0 (by decide), (by intro q hq; cases hq), (Or.inl ⟨⟨3, by decide⟩, by decide, rfl, rfl⟩), rfl, by decide, rfl, rfl⟩
theorem l_restoreSnapshot_0 {sc : SC} {σ : SS} {a : AB} {x : Int32} {v : Int64} (hI : CI9 σ a) (h : Cs (true, true) sc mX9_restoreSnapshot 1 6 [.ref 0, .int x] σ (RX 0 fun σ' => σ' = σ)) : Cs (true, true) sc mL_restoreSnapshot 1 6 [.ref 0, .int x, .ref 76] σ (PC σ 1 a v) := by
  refine Cs.of gmL_restoreSnapshot (Nat.le_of_ble_eq_true rfl) ?_
  show Ws (true, true) sc mL_restoreSnapshot 1 6 0 0 0 [(0, .ref 0), (1, .int x), (2, .ref 76)] [] (mz σ [] []) (PC σ 1 a v)
  refine r_aload_n rfl rfl ?_
  refine n_iconst 0 rfl ?_
  refine r_aload_n rfl rfl ?_
  refine r_iload_n rfl rfl ?_
  exact s_virXH [.int x] [.int (nI 0), .ref 76] rfl lkL_82 rfl rfl rfl h rfl rfl (by decide) (by decide) ca_restoreSnapshot_0 (fun σ2 e2 => ⟨_, rfl, rfl, fun z => absurd z (by decide), by rw [e2]; exact FrM.rf σ, by rw [e2]; exact hI⟩)

theorem ca_restoreSnapshot_2 : CA mL_restoreSnapshot 4 2 (nI 2) := ⟨[(0, 9, 12, 22)], [], 0, 9, 15, 71, 2, 1, rfl, ⟨by decide, by decide⟩, by decide, wL71, ex_cst 2 (by decide), (List.forall_mem_cons.mpr ⟨⟨by decide, _, wL22, by decide⟩, (by intro q hq; cases hq)⟩), (Or.inl ⟨⟨3, by decide⟩, by decide, rfl, rfl⟩), rfl, by decide, rfl, rfl⟩
theorem l_restoreSnapshot_2 {sc : SC} {σ : SS} {a : AB} {x : Int32} {v : Int64} (hI : CI9 σ a) (h : Cs (true, true) sc mX9_restoreSnapshot 1 6 [.ref 0, .int x] σ (RX 2 fun σ' => σ' = σ)) : Cs (true, true) sc mL_restoreSnapshot 1 6 [.ref 0, .int x, .ref 76] σ (PC σ 2 a v) := by
  refine Cs.of gmL_restoreSnapshot (Nat.le_of_ble_eq_true rfl) ?_
  show Ws (true, true) sc mL_restoreSnapshot 1 6 0 0 0 [(0, .ref 0), (1, .int x), (2, .ref 76)] [] (mz σ [] []) (PC σ 2 a v)
  refine r_aload_n rfl rfl ?_
  refine n_iconst 0 rfl ?_
  refine r_aload_n rfl rfl ?_
  refine r_iload_n rfl rfl ?_
  exact s_virXH [.int x] [.int (nI 0), .ref 76] rfl lkL_82 rfl rfl rfl h rfl rfl (by decide) (by decide) ca_restoreSnapshot_2 (fun σ2 e2 => ⟨_, rfl, rfl, fun z => absurd z (by decide), by rw [e2]; exact FrM.rf σ, by rw [e2]; exact hI⟩)

