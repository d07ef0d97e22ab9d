theorem gf_up {d : D} (hV : Vd d) {q v : Nat} (hv : v ≤ 9999999) : ∀ i, i < 12 → aup (gf d) q (gf d q + v) i ≤ 89999991 := by
  intro i _
  by_cases e : i = q
  · subst e; rw [aup_s]; have := gf_le hV i; omega
  · rw [aup_n _ _ e]; have := gf_le hV i; omega
theorem CM_nx {σ σ' : SS} {a : AB} {e : D} (hI : CM σ a) (hSm : Sm (aD a) e) (hS : SR (σ'.1 19) e) (hE : EE σ' (aD a)) (h50 : σ'.1 50 2 = nI (pu (aU a) (aS a) (aD a)).1 ∧ σ'.1 50 3 = nI (mk (bS a) 2)) (h51 : ∀ i, i < (pu (aU a) (aS a) (aD a)).1 → ∀ j, j < 79 → σ'.1 51 (i * 79 + j) = sR ((pu (aU a) (aS a) (aD a)).2 i) j) (hf : σ'.1 52 = σ.1 52 ∧ σ'.1 2 = σ.1 2 ∧ σ'.1 3 = σ.1 3 ∧ σ'.1 0 = σ.1 0 ∧ σ'.2 13 = σ.2 13) : CM σ' (nx a e) := by
  obtain ⟨_, _, _, c4, c5, c6, c7⟩ := hI
  obtain ⟨f1, f2, f3, f4, f5⟩ := hf
  refine ⟨⟨hS, SmEE hSm hE⟩, h50, h51, ?_, ?_, ?_, ?_⟩
  · rw [f1]; exact c4
  · rw [f2, f3]; exact c5
  · rw [f4]; exact c6
  · rw [f5]
    intro p hp
    have hp2 : p < e 0 0 := hp
    rw [hSm.1.1] at hp2
    exact c7 p hp2
theorem c_size {z : SZ} {sc : SC} {σ : SS} {k : Nat} {a : AB} (hA : AV a) (hI : CI9 σ a) (hk : k ≤ 9) : Cs z sc mX9_size 0 0 [.ref 0, .int (nI k)] σ (PI (szv (aD a) k) σ) := by
  refine Cs.of gmX9_size (Nat.le_of_ble_eq_true rfl) ?_
  show Ws z sc mX9_size 0 0 0 0 0 [(0, .ref 0), (1, .int (nI k))] [] (mz σ [] []) (PI (szv (aD a) k) σ)
  have hV := hA.1
  have hC := vC hV
  have hS := hI.1.1.1
  have hE := hI.1.1.2
  refine r_iload_n rfl rfl ?_
  refine n_bipush 9 rfl (by decide) ?_
  refine s_staV [.int (nI k), .int (nI 9)] [] rfl lkX9_106 (c_reqWhat (by omega) (by decide)) rfl rfl (Nat.le_refl _) (Nat.le_refl _) rfl (rV ?_)
  refine r_iload_n rfl rfl ?_
  rcases (show k = 0 ∨ k = 1 ∨ k = 2 ∨ k = 3 ∨ k = 4 ∨ k = 5 ∨ k = 6 ∨ k = 7 ∨ k = 8 ∨ k = 9 by omega) with e9 | e9 | e9 | e9 | e9 | e9 | e9 | e9 | e9 | e9
  · subst e9
    refine r_tblIn (off := 49) (tgt := 56) rfl (by decide) (by decide) (by decide) rfl ?_
    refine r_aload_n rfl rfl ?_
    refine s_getR (r := 12) rfl flX9_19 rfl rfl ?_
    refine s_getI (x := nI (aD a 0 0)) rfl flX9_110 rfl rfl hE.1.1 ?_
    exact s_ret (st := []) rfl rfl rfl (Nat.zero_le _) (Nat.zero_le _) (pI rfl rfl)
  · subst e9
    refine r_tblIn (off := 57) (tgt := 64) rfl (by decide) (by decide) (by decide) rfl ?_
    refine r_aload_n rfl rfl ?_
    refine s_getR (r := 12) rfl flX9_19 rfl rfl ?_
    refine s_getI (x := nI (aD a 0 1)) rfl flX9_113 rfl rfl hE.1.2.2.1 ?_
    exact s_ret (st := []) rfl rfl rfl (Nat.zero_le _) (Nat.zero_le _) (pI rfl rfl)
  · subst e9
    refine r_tblIn (off := 65) (tgt := 72) rfl (by decide) (by decide) (by decide) rfl ?_
    refine r_aload_n rfl rfl ?_
    refine s_getR (r := 18) rfl flX9_26 rfl rfl ?_
    refine s_virI [] [] rfl lkX9_116 rfl rfl rfl (c_debtCount_18 hS) rfl rfl (Nat.le_refl _) (Nat.le_refl _) rfl (rI (e1 := nI (aD a 0 2)) rfl ?_)
    exact s_ret (st := []) rfl rfl rfl (Nat.zero_le _) (Nat.zero_le _) (pI rfl rfl)
  · subst e9
    refine r_tblIn (off := 73) (tgt := 80) rfl (by decide) (by decide) (by decide) rfl ?_
    refine r_aload_n rfl rfl ?_
    refine s_getR (r := 18) rfl flX9_26 rfl rfl ?_
    refine s_virI [] [] rfl lkX9_120 rfl rfl rfl (c_giftCount_18 hS) rfl rfl (Nat.le_refl _) (Nat.le_refl _) rfl (rI (e1 := nI (aD a 0 3)) rfl ?_)
    exact s_ret (st := []) rfl rfl rfl (Nat.zero_le _) (Nat.zero_le _) (pI rfl rfl)
  · subst e9
    refine r_tblIn (off := 81) (tgt := 88) rfl (by decide) (by decide) (by decide) rfl ?_
    refine r_aload_n rfl rfl ?_
    refine s_getR (r := 12) rfl flX9_19 rfl rfl ?_
    refine s_getI (x := nI (aD a 0 4)) rfl flX9_123 rfl rfl hE.1.2.2.2.1 ?_
    exact s_ret (st := []) rfl rfl rfl (Nat.zero_le _) (Nat.zero_le _) (pI rfl rfl)
  · subst e9
    refine r_tblIn (off := 89) (tgt := 96) rfl (by decide) (by decide) (by decide) rfl ?_
    refine r_aload_n rfl rfl ?_
    refine s_getR (r := 12) rfl flX9_19 rfl rfl ?_
    refine s_getI (x := oI (aD a 0 5)) rfl flX9_126 rfl rfl hE.1.2.1 ?_
    exact s_ret (st := []) rfl rfl rfl (Nat.zero_le _) (Nat.zero_le _) (pI rfl rfl)
  · subst e9
    refine r_tblIn (off := 97) (tgt := 104) rfl (by decide) (by decide) (by decide) rfl ?_
    refine r_aload_n rfl rfl ?_
    refine s_getR (r := 12) rfl flX9_19 rfl rfl ?_
    refine s_getI (x := nI (aD a 0 6)) rfl flX9_129 rfl rfl hE.1.2.2.2.2.2.1 ?_
    exact s_ret (st := []) rfl rfl rfl (Nat.zero_le _) (Nat.zero_le _) (pI rfl rfl)
  · subst e9
    refine r_tblIn (off := 105) (tgt := 112) rfl (by decide) (by decide) (by decide) rfl ?_
    refine r_aload_n rfl rfl ?_
    refine s_getR (r := 12) rfl flX9_19 rfl rfl ?_
    refine s_getI (x := nI (aD a 0 7)) rfl flX9_132 rfl rfl hE.1.2.2.2.2.1 ?_
    exact s_ret (st := []) rfl rfl rfl (Nat.zero_le _) (Nat.zero_le _) (pI rfl rfl)
  · subst e9
    refine r_tblIn (off := 113) (tgt := 120) rfl (by decide) (by decide) (by decide) rfl ?_
    refine r_aload_n rfl rfl ?_
    refine s_getR (r := 12) rfl flX9_19 rfl rfl ?_
    refine s_getI (x := nI (aD a 0 8)) rfl flX9_135 rfl rfl hE.1.2.2.2.2.2.2 ?_
    exact s_ret (st := []) rfl rfl rfl (Nat.zero_le _) (Nat.zero_le _) (pI rfl rfl)
  · subst e9
    refine r_tblOut (tgt := 128) rfl (by decide) rfl ?_
    refine r_aload_n rfl rfl ?_
    refine s_getR (r := 18) rfl flX9_26 rfl rfl ?_
    refine s_virI [] [] rfl lkX9_138 rfl rfl rfl (c_accruesInLine_18 hS hV) rfl rfl (Nat.le_refl _) (Nat.le_refl _) rfl (rI (e1 := nI (aD a 0 9)) rfl ?_)
    refine r_top (y := nI (tb (!(aD a 0 9 == 0)))) (by rw [tbz1 (by omega)]) ?_
    refine s_staI [.int (nI (tb (!(aD a 0 9 == 0))))] [] rfl lkX9_141 c_asInt rfl rfl (Nat.le_refl _) (Nat.le_refl _) rfl (rI (e1 := nI (aD a 0 9)) (by rw [tbz1 (by omega)]) ?_)
    exact s_ret (st := []) rfl rfl rfl (Nat.zero_le _) (Nat.zero_le _) (pI rfl rfl)

theorem c_person {z : SZ} {sc : SC} {σ : SS} {q k : Nat} {a : AB} (hA : AV a) (hI : CI9 σ a) (hq : q < aD a 0 0) (hk : k ≤ 5) : Cs z sc mX9_person 0 0 [.ref 0, .int (nI q), .int (nI k)] σ (PI (pev (aD a) q k) σ) := by
  refine Cs.of gmX9_person (Nat.le_of_ble_eq_true rfl) ?_
  show Ws z sc mX9_person 0 0 0 0 0 [(0, .ref 0), (1, .int (nI q)), (2, .int (nI k))] [] (mz σ [] []) (PI (pev (aD a) q k) σ)
  have hV := hA.1
  have hC := vC hV
  have hS := hI.1.1.1
  have hE := hI.1.1.2
  have hQ := vA hV q
  refine r_aload_n rfl rfl ?_
  refine r_iload_n rfl rfl ?_
  refine s_virV [.int (nI q)] [] rfl lkX9_153 rfl rfl rfl (c_reqPerson hE hV hq) rfl rfl (Nat.le_refl _) (Nat.le_refl _) rfl (rV ?_)
  refine r_iload_n rfl rfl ?_
  refine n_iconst 5 rfl ?_
  refine s_staV [.int (nI k), .int (nI 5)] [] rfl lkX9_106 (c_reqWhat (by omega) (by decide)) rfl rfl (Nat.le_refl _) (Nat.le_refl _) rfl (rV ?_)
  refine r_iload_n rfl rfl ?_
  rcases (show k = 0 ∨ k = 1 ∨ k = 2 ∨ k = 3 ∨ k = 4 ∨ k = 5 by omega) with e9 | e9 | e9 | e9 | e9 | e9
  · subst e9
    refine r_tblIn (off := 33) (tgt := 44) rfl (by decide) (by decide) (by decide) rfl ?_
    refine r_aload_n rfl rfl ?_
    refine s_getR (r := 12) rfl flX9_19 rfl rfl ?_
    refine s_getR (r := 14) rfl flX9_156 rfl rfl ?_
    refine r_iload_n rfl rfl ?_
    refine s_staI [.ref 14, .int (nI q)] [] rfl lkX9_160 (c_at_14 (by omega) (hE.2.1 q hq)) rfl rfl (Nat.le_refl _) (Nat.le_refl _) rfl (rI (e1 := oI (aD a 1 q)) rfl ?_)
    exact s_ret (st := []) rfl rfl rfl (Nat.zero_le _) (Nat.zero_le _) (pI rfl rfl)
  · subst e9
    refine r_tblIn (off := 45) (tgt := 56) rfl (by decide) (by decide) (by decide) rfl ?_
    refine r_aload_n rfl rfl ?_
    refine s_getR (r := 18) rfl flX9_26 rfl rfl ?_
    refine r_iload_n rfl rfl ?_
    refine s_virI [.int (nI q)] [] rfl lkX9_164 rfl rfl rfl (c_age_18 hS (by omega)) rfl rfl (Nat.le_refl _) (Nat.le_refl _) rfl (rI (e1 := nI (aD a 2 q)) rfl ?_)
    exact s_ret (st := []) rfl rfl rfl (Nat.zero_le _) (Nat.zero_le _) (pI rfl rfl)
  · subst e9
    refine r_tblIn (off := 54) (tgt := 65) rfl (by decide) (by decide) (by decide) rfl ?_
    refine r_aload_n rfl rfl ?_
    refine s_getR (r := 18) rfl flX9_26 rfl rfl ?_
    refine r_iload_n rfl rfl ?_
    refine s_virI [.int (nI q)] [] rfl lkX9_167 rfl rfl rfl (c_isDead_18 hS hV (by omega)) rfl rfl (Nat.le_refl _) (Nat.le_refl _) rfl (rI (e1 := nI (aD a 3 q)) rfl ?_)
    refine r_top (y := nI (tb (!(aD a 3 q == 0)))) (by rw [tbz1 (by omega)]) ?_
    refine s_staI [.int (nI (tb (!(aD a 3 q == 0))))] [] rfl lkX9_141 c_asInt rfl rfl (Nat.le_refl _) (Nat.le_refl _) rfl (rI (e1 := nI (aD a 3 q)) (by rw [tbz1 (by omega)]) ?_)
    exact s_ret (st := []) rfl rfl rfl (Nat.zero_le _) (Nat.zero_le _) (pI rfl rfl)
  · subst e9
    refine r_tblIn (off := 66) (tgt := 77) rfl (by decide) (by decide) (by decide) rfl ?_
    refine r_aload_n rfl rfl ?_
    refine s_getR (r := 18) rfl flX9_26 rfl rfl ?_
    refine r_iload_n rfl rfl ?_
    refine s_virI [.int (nI q)] [] rfl lkX9_171 rfl rfl rfl (c_isRefusing_18 hS hV (by omega)) rfl rfl (Nat.le_refl _) (Nat.le_refl _) rfl (rI (e1 := nI (aD a 4 q)) rfl ?_)
    refine r_top (y := nI (tb (!(aD a 4 q == 0)))) (by rw [tbz1 (by omega)]) ?_
    refine s_staI [.int (nI (tb (!(aD a 4 q == 0))))] [] rfl lkX9_141 c_asInt rfl rfl (Nat.le_refl _) (Nat.le_refl _) rfl (rI (e1 := nI (aD a 4 q)) (by rw [tbz1 (by omega)]) ?_)
    exact s_ret (st := []) rfl rfl rfl (Nat.zero_le _) (Nat.zero_le _) (pI rfl rfl)
  · subst e9
    refine r_tblIn (off := 78) (tgt := 89) rfl (by decide) (by decide) (by decide) rfl ?_
    refine r_aload_n rfl rfl ?_
    refine s_getR (r := 12) rfl flX9_19 rfl rfl ?_
    refine r_iload_n rfl rfl ?_
    refine s_virI [.int (nI q)] [] rfl lkX9_174 rfl rfl rfl (c_children hE hV (by omega)) rfl rfl (Nat.le_refl _) (Nat.le_refl _) rfl (rI (e1 := nI (ch (aD a) q)) rfl ?_)
    exact s_ret (st := []) rfl rfl rfl (Nat.zero_le _) (Nat.zero_le _) (pI rfl rfl)
  · subst e9
    refine r_tblOut (tgt := 98) rfl (by decide) rfl ?_
    refine r_aload_n rfl rfl ?_
    refine s_getR (r := 18) rfl flX9_26 rfl rfl ?_
    refine r_iload_n rfl rfl ?_
    refine s_virI [.int (nI q)] [] rfl lkX9_177 rfl rfl rfl (c_giftsTo_18 hS hV (by omega)) rfl rfl (Nat.le_refl _) (Nat.le_refl _) rfl (rI (e1 := nI (gf (aD a) q)) rfl ?_)
    exact s_ret (st := []) rfl rfl rfl (Nat.zero_le _) (Nat.zero_le _) (pI rfl rfl)

theorem c_debt {z : SZ} {sc : SC} {σ : SS} {q k : Nat} {a : AB} (hA : AV a) (hI : CI9 σ a) (hq : q < aD a 0 2) (hk : k ≤ 2) : Cs z sc mX9_debt 0 0 [.ref 0, .int (nI q), .int (nI k)] σ (PI (dbv (aD a) q k) σ) := by
  refine Cs.of gmX9_debt (Nat.le_of_ble_eq_true rfl) ?_
  show Ws z sc mX9_debt 0 0 0 0 0 [(0, .ref 0), (1, .int (nI q)), (2, .int (nI k))] [] (mz σ [] []) (PI (dbv (aD a) q k) σ)
  have hV := hA.1
  have hC := vC hV
  have hS := hI.1.1.1
  have hE := hI.1.1.2
  obtain ⟨x1, x2, x3, x4, x5, x6, x7, x8, x9, x10, x11⟩ := id hI.2
  refine r_iload_n rfl rfl ?_
  refine n_if_lt (tgt := 15) rfl rfl (by omega) (fun hq => hq.elim) (fun _ => ?_)
  refine r_iload_n rfl rfl ?_
  refine r_aload_n rfl rfl ?_
  refine s_getR (r := 18) rfl flX9_26 rfl rfl ?_
  refine s_virI [] [.int (nI q)] rfl lkX9_116 rfl rfl rfl (c_debtCount_18 hS) rfl rfl (Nat.le_refl _) (Nat.le_refl _) rfl (rI (e1 := nI (aD a 0 2)) rfl ?_)
  refine n_icmp_lt (tgt := 25) rfl rfl (by omega) (by omega) (fun _ => ?_) (fun hq => absurd hq (by omega))
  refine r_iload_n rfl rfl ?_
  refine n_iconst 2 rfl ?_
  refine s_staV [.int (nI k), .int (nI 2)] [] rfl lkX9_106 (c_reqWhat (by omega) (by decide)) rfl rfl (Nat.le_refl _) (Nat.le_refl _) rfl (rV ?_)
  refine r_iload_n rfl rfl ?_
  rcases (show k = 0 ∨ k = 1 ∨ k = 2 by omega) with e9 | e9 | e9
  · subst e9
    refine r_lookup (off := 25) (tgt := 56) rfl (by decide) (by decide) rfl ?_
    refine r_aload_n rfl rfl ?_
    refine s_getR (r := 18) rfl flX9_26 rfl rfl ?_
    refine r_iload_n rfl rfl ?_
    refine s_virI [.int (nI q)] [] rfl lkX9_197 rfl rfl rfl (c_debtRank_18 hS (by omega)) rfl rfl (Nat.le_refl _) (Nat.le_refl _) rfl (rI (e1 := nI (aD a 7 q)) rfl ?_)
    exact s_ret (st := []) rfl rfl rfl (Nat.zero_le _) (Nat.zero_le _) (pI rfl rfl)
  · subst e9
    refine r_lookup (off := 34) (tgt := 65) rfl (by decide) (by decide) rfl ?_
    refine r_aload_n rfl rfl ?_
    refine s_getR (r := 18) rfl flX9_26 rfl rfl ?_
    refine r_iload_n rfl rfl ?_
    refine s_virI [.int (nI q)] [] rfl lkX9_200 rfl rfl rfl (c_debtAmount_18 hS (by omega)) rfl rfl (Nat.le_refl _) (Nat.le_refl _) rfl (rI (e1 := nI (aD a 8 q)) rfl ?_)
    exact s_ret (st := []) rfl rfl rfl (Nat.zero_le _) (Nat.zero_le _) (pI rfl rfl)
  · subst e9
    refine r_lookup (off := 43) (tgt := 74) rfl (by decide) (by decide) rfl ?_
    refine r_aload_n rfl rfl ?_
    refine s_getR (r := 20) rfl flX9_33 rfl rfl ?_
    refine s_getR (r := 21) rfl flX9_203 rfl rfl ?_
    refine s_getR (r := 22) rfl flX9_207 rfl rfl ?_
    refine r_iload_n rfl rfl ?_
    refine s_staI [.ref 22, .int (nI q)] [] rfl lkX9_160 (c_at_22 (by omega) (x2 q (by omega))) rfl rfl (Nat.le_refl _) (Nat.le_refl _) rfl (rI (e1 := nI (pd (aD a) q)) rfl ?_)
    exact s_ret (st := []) rfl rfl rfl (Nat.zero_le _) (Nat.zero_le _) (pI rfl rfl)

theorem c_legacy {z : SZ} {sc : SC} {σ : SS} {q k : Nat} {a : AB} (hA : AV a) (hI : CI9 σ a) (hq : q < aD a 0 4) (hk : k ≤ 3) : Cs z sc mX9_legacy 0 0 [.ref 0, .int (nI q), .int (nI k)] σ (PI (lgv (aD a) q k) σ) := by
  refine Cs.of gmX9_legacy (Nat.le_of_ble_eq_true rfl) ?_
  show Ws z sc mX9_legacy 0 0 0 0 0 [(0, .ref 0), (1, .int (nI q)), (2, .int (nI k))] [] (mz σ [] []) (PI (lgv (aD a) q k) σ)
  have hV := hA.1
  have hC := vC hV
  have hS := hI.1.1.1
  have hE := hI.1.1.2
  obtain ⟨x1, x2, x3, x4, x5, x6, x7, x8, x9, x10, x11⟩ := id hI.2
  have hL := vL hV q
  refine r_iload_n rfl rfl ?_
  refine n_if_lt (tgt := 15) rfl rfl (by omega) (fun hq => hq.elim) (fun _ => ?_)
  refine r_iload_n rfl rfl ?_
  refine r_aload_n rfl rfl ?_
  refine s_getR (r := 12) rfl flX9_19 rfl rfl ?_
  refine s_getI (x := nI (aD a 0 4)) rfl flX9_123 rfl rfl hE.1.2.2.2.1 ?_
  refine n_icmp_lt (tgt := 25) rfl rfl (by omega) (by omega) (fun _ => ?_) (fun hq => absurd hq (by omega))
  refine r_iload_n rfl rfl ?_
  refine n_iconst 3 rfl ?_
  refine s_staV [.int (nI k), .int (nI 3)] [] rfl lkX9_106 (c_reqWhat (by omega) (by decide)) rfl rfl (Nat.le_refl _) (Nat.le_refl _) rfl (rV ?_)
  refine r_iload_n rfl rfl ?_
  rcases (show k = 0 ∨ k = 1 ∨ k = 2 ∨ k = 3 by omega) with e9 | e9 | e9 | e9
  · subst e9
    refine r_tblIn (off := 25) (tgt := 56) rfl (by decide) (by decide) (by decide) rfl ?_
    refine r_aload_n rfl rfl ?_
    refine s_getR (r := 12) rfl flX9_19 rfl rfl ?_
    refine s_getR (r := 16) rfl flX9_212 rfl rfl ?_
    refine r_iload_n rfl rfl ?_
    refine s_staI [.ref 16, .int (nI q)] [] rfl lkX9_160 (c_at_16 (by omega) (hE.2.2.2.1 q hq)) rfl rfl (Nat.le_refl _) (Nat.le_refl _) rfl (rI (e1 := nI (aD a 11 q)) rfl ?_)
    exact s_ret (st := []) rfl rfl rfl (Nat.zero_le _) (Nat.zero_le _) (pI rfl rfl)
  · subst e9
    refine r_tblIn (off := 37) (tgt := 68) rfl (by decide) (by decide) (by decide) rfl ?_
    refine r_aload_n rfl rfl ?_
    refine s_getR (r := 12) rfl flX9_19 rfl rfl ?_
    refine s_getR (r := 17) rfl flX9_215 rfl rfl ?_
    refine r_iload_n rfl rfl ?_
    refine s_staI [.ref 17, .int (nI q)] [] rfl lkX9_160 (c_at_17 (by omega) (hE.2.2.2.2 q hq)) rfl rfl (Nat.le_refl _) (Nat.le_refl _) rfl (rI (e1 := nI (aD a 12 q)) rfl ?_)
    exact s_ret (st := []) rfl rfl rfl (Nat.zero_le _) (Nat.zero_le _) (pI rfl rfl)
  · subst e9
    refine r_tblIn (off := 49) (tgt := 80) rfl (by decide) (by decide) (by decide) rfl ?_
    refine r_aload_n rfl rfl ?_
    refine s_getR (r := 20) rfl flX9_33 rfl rfl ?_
    refine s_getR (r := 21) rfl flX9_203 rfl rfl ?_
    refine s_getR (r := 23) rfl flX9_218 rfl rfl ?_
    refine r_iload_n rfl rfl ?_
    refine s_staI [.ref 23, .int (nI q)] [] rfl lkX9_160 (c_at_23 (by omega) (x3 q (by omega))) rfl rfl (Nat.le_refl _) (Nat.le_refl _) rfl (rI (e1 := nI (lp (aD a) q)) rfl ?_)
    exact s_ret (st := []) rfl rfl rfl (Nat.zero_le _) (Nat.zero_le _) (pI rfl rfl)
  · subst e9
    refine r_tblOut (tgt := 95) rfl (by decide) rfl ?_
    refine r_aload_n rfl rfl ?_
    refine s_getR (r := 18) rfl flX9_26 rfl rfl ?_
    refine r_aload_n rfl rfl ?_
    refine s_getR (r := 12) rfl flX9_19 rfl rfl ?_
    refine s_getR (r := 16) rfl flX9_212 rfl rfl ?_
    refine r_iload_n rfl rfl ?_
    refine s_staI [.ref 16, .int (nI q)] [.ref 18] rfl lkX9_160 (c_at_16 (by omega) (hE.2.2.2.1 q hq)) rfl rfl (Nat.le_refl _) (Nat.le_refl _) rfl (rI (e1 := nI (aD a 11 q)) rfl ?_)
    refine s_virI [.int (nI (aD a 11 q))] [] rfl lkX9_221 rfl rfl rfl (c_takes_18 hS hV (by omega)) rfl rfl (Nat.le_refl _) (Nat.le_refl _) rfl (rI (e1 := nI (tb (tk (aD a) (aD a 11 q)))) rfl ?_)
    have ht := tb_le (tk (aD a) (aD a 11 q))
    suffices K : Ws z sc mX9_legacy 0 0 0 0 121 [(0, .ref 0), (1, .int (nI q)), (2, .int (nI 3))] [.int (nI (tb (!(tk (aD a) (aD a 11 q)))))] (mz σ [] []) (PI (lgv (aD a) q 3) σ) by
      refine n_if_ne (tgt := 120) rfl rfl (by omega) (fun h => ?_) (fun h => ?_)
      · refine n_iconst 0 rfl ?_
        exact r_top (by rw [tb_ne h]; rfl) K
      · refine n_iconst 1 rfl ?_
        refine r_goto (tgt := 121) rfl rfl ?_
        exact r_top (by rw [tb_z h]; rfl) K
    refine s_staI [.int (nI (tb (!(tk (aD a) (aD a 11 q)))))] [] rfl lkX9_141 c_asInt rfl rfl (Nat.le_refl _) (Nat.le_refl _) rfl (rI (e1 := nI (tb (!(tk (aD a) (aD a 11 q))))) rfl ?_)
    exact s_ret (st := []) rfl rfl rfl (Nat.zero_le _) (Nat.zero_le _) (pI rfl rfl)

theorem c_account {z : SZ} {sc : SC} {σ : SS} {k : Nat} {a : AB} (hA : AV a) (hI : CI9 σ a) (hk : k ≤ 9) : Cs z sc mX9_account 0 0 [.ref 0, .int (nI k)] σ (PI (acv (aD a) k) σ) := by
  refine Cs.of gmX9_account (Nat.le_of_ble_eq_true rfl) ?_
  show Ws z sc mX9_account 0 0 0 0 0 [(0, .ref 0), (1, .int (nI k))] [] (mz σ [] []) (PI (acv (aD a) k) σ)
  have hV := hA.1
  have hC := vC hV
  have hS := hI.1.1.1
  have hE := hI.1.1.2
  obtain ⟨x1, x2, x3, x4, x5, x6, x7, x8, x9, x10, x11⟩ := id hI.2
  have hmh := mk_lt12 (he (aD a)) (Nat.le_refl 12)
  have hml := mk_lt12 (isL (aD a)) (Nat.le_refl 12)
  have hmo := mk_lt12 (ou (aD a)) (Nat.le_refl 12)
  refine r_iload_n rfl rfl ?_
  refine n_bipush 9 rfl (by decide) ?_
  refine s_staV [.int (nI k), .int (nI 9)] [] rfl lkX9_106 (c_reqWhat (by omega) (by decide)) rfl rfl (Nat.le_refl _) (Nat.le_refl _) rfl (rV ?_)
  refine r_iload_n rfl rfl ?_
  rcases (show k = 0 ∨ k = 1 ∨ k = 2 ∨ k = 3 ∨ k = 4 ∨ k = 5 ∨ k = 6 ∨ k = 7 ∨ k = 8 ∨ k = 9 by omega) with e9 | e9 | e9 | e9 | e9 | e9 | e9 | e9 | e9 | e9
  · subst e9
    refine r_tblIn (off := 49) (tgt := 56) rfl (by decide) (by decide) (by decide) rfl ?_
    refine r_aload_n rfl rfl ?_
    refine s_getR (r := 20) rfl flX9_33 rfl rfl ?_
    refine s_getR (r := 21) rfl flX9_203 rfl rfl ?_
    refine s_getI (x := nI (nts (aD a))) rfl flX9_224 rfl rfl x1.1 ?_
    exact s_ret (st := []) rfl rfl rfl (Nat.zero_le _) (Nat.zero_le _) (pI rfl rfl)
  · subst e9
    refine r_tblIn (off := 60) (tgt := 67) rfl (by decide) (by decide) (by decide) rfl ?_
    refine r_aload_n rfl rfl ?_
    refine s_getR (r := 20) rfl flX9_33 rfl rfl ?_
    refine s_getR (r := 21) rfl flX9_203 rfl rfl ?_
    refine s_getI (x := nI (nts (aD a) - lf (aD a) 5)) rfl flX9_227 rfl rfl x1.2.1 ?_
    exact s_ret (st := []) rfl rfl rfl (Nat.zero_le _) (Nat.zero_le _) (pI rfl rfl)
  · subst e9
    refine r_tblIn (off := 71) (tgt := 78) rfl (by decide) (by decide) (by decide) rfl ?_
    refine r_aload_n rfl rfl ?_
    refine s_getR (r := 20) rfl flX9_33 rfl rfl ?_
    refine s_getR (r := 21) rfl flX9_203 rfl rfl ?_
    refine s_getI (x := nI (du (aD a) 5 - (nts (aD a) - lf (aD a) 5))) rfl flX9_230 rfl rfl x1.2.2.1 ?_
    exact s_ret (st := []) rfl rfl rfl (Nat.zero_le _) (Nat.zero_le _) (pI rfl rfl)
  · subst e9
    refine r_tblIn (off := 82) (tgt := 89) rfl (by decide) (by decide) (by decide) rfl ?_
    refine r_aload_n rfl rfl ?_
    refine s_getR (r := 20) rfl flX9_33 rfl rfl ?_
    refine s_getR (r := 21) rfl flX9_203 rfl rfl ?_
    refine s_getI (x := nI (lu9 (aD a))) rfl flX9_233 rfl rfl x1.2.2.2.1 ?_
    exact s_ret (st := []) rfl rfl rfl (Nat.zero_le _) (Nat.zero_le _) (pI rfl rfl)
  · subst e9
    refine r_tblIn (off := 93) (tgt := 100) rfl (by decide) (by decide) (by decide) rfl ?_
    refine r_aload_n rfl rfl ?_
    refine s_getR (r := 20) rfl flX9_33 rfl rfl ?_
    refine s_getR (r := 21) rfl flX9_203 rfl rfl ?_
    refine s_getI (x := nI (rs (aD a))) rfl flX9_236 rfl rfl x1.2.2.2.2 ?_
    exact s_ret (st := []) rfl rfl rfl (Nat.zero_le _) (Nat.zero_le _) (pI rfl rfl)
  · subst e9
    refine r_tblIn (off := 104) (tgt := 111) rfl (by decide) (by decide) (by decide) rfl ?_
    refine r_aload_n rfl rfl ?_
    refine s_getR (r := 20) rfl flX9_33 rfl rfl ?_
    refine s_getI (x := nI (a5 (aD a))) rfl flX9_239 rfl rfl x11.1 ?_
    exact s_ret (st := []) rfl rfl rfl (Nat.zero_le _) (Nat.zero_le _) (pI rfl rfl)
  · subst e9
    refine r_tblIn (off := 112) (tgt := 119) rfl (by decide) (by decide) (by decide) rfl ?_
    refine r_aload_n rfl rfl ?_
    refine s_getR (r := 20) rfl flX9_33 rfl rfl ?_
    refine s_getI (x := nI (a6 (aD a))) rfl flX9_242 rfl rfl x11.2.1 ?_
    exact s_ret (st := []) rfl rfl rfl (Nat.zero_le _) (Nat.zero_le _) (pI rfl rfl)
  · subst e9
    refine r_tblIn (off := 120) (tgt := 127) rfl (by decide) (by decide) (by decide) rfl ?_
    refine r_aload_n rfl rfl ?_
    refine s_getR (r := 20) rfl flX9_33 rfl rfl ?_
    refine s_getI (x := nI (a7 (aD a))) rfl flX9_245 rfl rfl x11.2.2.1 ?_
    exact s_ret (st := []) rfl rfl rfl (Nat.zero_le _) (Nat.zero_le _) (pI rfl rfl)
  · subst e9
    refine r_tblIn (off := 128) (tgt := 135) rfl (by decide) (by decide) (by decide) rfl ?_
    refine r_aload_n rfl rfl ?_
    refine s_getR (r := 20) rfl flX9_33 rfl rfl ?_
    refine s_getI (x := nI (a8 (aD a))) rfl flX9_248 rfl rfl x11.2.2.2.1 ?_
    exact s_ret (st := []) rfl rfl rfl (Nat.zero_le _) (Nat.zero_le _) (pI rfl rfl)
  · subst e9
    refine r_tblOut (tgt := 143) rfl (by decide) rfl ?_
    refine r_aload_n rfl rfl ?_
    refine s_getR (r := 20) rfl flX9_33 rfl rfl ?_
    refine s_getI (x := nI (a9 (aD a))) rfl flX9_251 rfl rfl x11.2.2.2.2 ?_
    exact s_ret (st := []) rfl rfl rfl (Nat.zero_le _) (Nat.zero_le _) (pI rfl rfl)

theorem c_heirs {z : SZ} {sc : SC} {σ : SS} {a : AB} (hA : AV a) (hI : CI9 σ a) : Cs z sc mX9_heirs 0 0 [.ref 0] σ (PI (nI (mk (he (aD a)) 12)) σ) := by
  refine Cs.of gmX9_heirs (Nat.le_of_ble_eq_true rfl) ?_
  show Ws z sc mX9_heirs 0 0 0 0 0 [(0, .ref 0)] [] (mz σ [] []) (PI (nI (mk (he (aD a)) 12)) σ)
  have hV := hA.1
  have hC := vC hV
  have hS := hI.1.1.1
  have hE := hI.1.1.2
  obtain ⟨x1, x2, x3, x4, x5, x6, x7, x8, x9, x10, x11⟩ := id hI.2
  have hmh := mk_lt12 (he (aD a)) (Nat.le_refl 12)
  have hml := mk_lt12 (isL (aD a)) (Nat.le_refl 12)
  have hmo := mk_lt12 (ou (aD a)) (Nat.le_refl 12)
  refine r_aload_n rfl rfl ?_
  refine s_getR (r := 20) rfl flX9_33 rfl rfl ?_
  refine s_getR (r := 26) rfl flX9_261 rfl rfl ?_
  refine s_getI (x := nI (mk (he (aD a)) 12)) rfl flX9_265 rfl rfl x4.1 ?_
  exact s_ret (st := []) rfl rfl rfl (Nat.zero_le _) (Nat.zero_le _) (pI rfl rfl)

theorem c_leftOut {z : SZ} {sc : SC} {σ : SS} {a : AB} (hA : AV a) (hI : CI9 σ a) : Cs z sc mX9_leftOut 0 0 [.ref 0] σ (PI (nI (mk (ou (aD a)) 12)) σ) := by
  refine Cs.of gmX9_leftOut (Nat.le_of_ble_eq_true rfl) ?_
  show Ws z sc mX9_leftOut 0 0 0 0 0 [(0, .ref 0)] [] (mz σ [] []) (PI (nI (mk (ou (aD a)) 12)) σ)
  have hV := hA.1
  have hC := vC hV
  have hS := hI.1.1.1
  have hE := hI.1.1.2
  obtain ⟨x1, x2, x3, x4, x5, x6, x7, x8, x9, x10, x11⟩ := id hI.2
  have hmh := mk_lt12 (he (aD a)) (Nat.le_refl 12)
  have hml := mk_lt12 (isL (aD a)) (Nat.le_refl 12)
  have hmo := mk_lt12 (ou (aD a)) (Nat.le_refl 12)
  refine r_aload_n rfl rfl ?_
  refine s_getR (r := 20) rfl flX9_33 rfl rfl ?_
  refine s_getR (r := 30) rfl flX9_270 rfl rfl ?_
  refine s_getI (x := nI (mk (ou (aD a)) 12)) rfl flX9_274 rfl rfl x7.1 ?_
  exact s_ret (st := []) rfl rfl rfl (Nat.zero_le _) (Nat.zero_le _) (pI rfl rfl)

theorem c_isEmpty {z : SZ} {sc : SC} {σ : SS} {q : Nat} {a : AB} (hA : AV a) (hI : CI9 σ a) (hq : q < aD a 0 0) : Cs z sc mX9_isEmpty 0 0 [.ref 0, .int (nI q)] σ (PI (nI (tb (!(isL (aD a) q)))) σ) := by
  refine Cs.of gmX9_isEmpty (Nat.le_of_ble_eq_true rfl) ?_
  show Ws z sc mX9_isEmpty 0 0 0 0 0 [(0, .ref 0), (1, .int (nI q))] [] (mz σ [] []) (PI (nI (tb (!(isL (aD a) q)))) σ)
  have hV := hA.1
  have hC := vC hV
  have hS := hI.1.1.1
  have hE := hI.1.1.2
  obtain ⟨x1, x2, x3, x4, x5, x6, x7, x8, x9, x10, x11⟩ := id hI.2
  have hmh := mk_lt12 (he (aD a)) (Nat.le_refl 12)
  have hml := mk_lt12 (isL (aD a)) (Nat.le_refl 12)
  have hmo := mk_lt12 (ou (aD a)) (Nat.le_refl 12)
  have ht := tb_le (isL (aD a) q)
  refine r_aload_n rfl rfl ?_
  refine r_iload_n rfl rfl ?_
  refine s_virV [.int (nI q)] [] rfl lkX9_153 rfl rfl rfl (c_reqPerson hE hV hq) rfl rfl (Nat.le_refl _) (Nat.le_refl _) rfl (rV ?_)
  refine r_aload_n rfl rfl ?_
  refine s_getR (r := 20) rfl flX9_33 rfl rfl ?_
  refine s_getR (r := 26) rfl flX9_261 rfl rfl ?_
  refine s_getI (x := nI (mk (isL (aD a)) 12)) rfl flX9_279 rfl rfl x4.2 ?_
  refine r_iload_n rfl rfl ?_
  refine s_staI [.int (nI (mk (isL (aD a)) 12)), .int (nI q)] [] rfl lkX9_282 (c_hasBit hml (by omega)) rfl rfl (Nat.le_refl _) (Nat.le_refl _) rfl (rI (e1 := nI (tb (isL (aD a) q))) (by rw [mk_bit, decide_eq_true (by omega : q < 12), Bool.true_and]) ?_)
  suffices K : Ws z sc mX9_isEmpty 0 0 0 0 27 [(0, .ref 0), (1, .int (nI q))] [.int (nI (tb (!(isL (aD a) q))))] (mz σ [] []) (PI (nI (tb (!(isL (aD a) q)))) σ) by
    refine n_if_ne (tgt := 26) rfl rfl (by omega) (fun h => ?_) (fun h => ?_)
    · refine n_iconst 0 rfl ?_
      exact r_top (by rw [tb_ne h]; rfl) K
    · refine n_iconst 1 rfl ?_
      refine r_goto (tgt := 27) rfl rfl ?_
      exact r_top (by rw [tb_z h]; rfl) K
  exact s_ret (st := []) rfl rfl (nar_tb _) (Nat.zero_le _) (Nat.zero_le _) (pI rfl rfl)

theorem c_step {z : SZ} {sc : SC} {σ : SS} {q k : Nat} {a : AB} (hA : AV a) (hI : CI9 σ a) (hq : q < aD a 0 0) (hk : k ≤ 6) : Cs z sc mX9_step 0 0 [.ref 0, .int (nI q), .int (nI k)] σ (PI (stw (aD a) q k) σ) := by
  refine Cs.of gmX9_step (Nat.le_of_ble_eq_true rfl) ?_
  show Ws z sc mX9_step 0 0 0 0 0 [(0, .ref 0), (1, .int (nI q)), (2, .int (nI k))] [] (mz σ [] []) (PI (stw (aD a) q k) σ)
  have hV := hA.1
  have hC := vC hV
  have hS := hI.1.1.1
  have hE := hI.1.1.2
  obtain ⟨x1, x2, x3, x4, x5, x6, x7, x8, x9, x10, x11⟩ := id hI.2
  have hmh := mk_lt12 (he (aD a)) (Nat.le_refl 12)
  have hml := mk_lt12 (isL (aD a)) (Nat.le_refl 12)
  have hmo := mk_lt12 (ou (aD a)) (Nat.le_refl 12)
  have ht := tb_le (he (aD a) q)
  have ht2 := tb_le (ou (aD a) q)
  have hwq : w9 (aD a) q ≤ 4096 := Nat.le_trans lo_lw (wt_le hV q)
  have hpo : po (aD a) ≤ 79999992 + 12 * 79999992 := Nat.le_trans (pt_le (b := 79999992) (fun i _ => gf_le hV i)) (by have := a8_le hV; omega)
  have hsw : sm (w9 (aD a)) 12 ≤ 12 * 4096 := sm_w (fun i _ => Nat.le_trans lo_lw (wt_le hV i))
  refine r_aload_n rfl rfl ?_
  refine r_iload_n rfl rfl ?_
  refine s_virV [.int (nI q)] [] rfl lkX9_153 rfl rfl rfl (c_reqPerson hE hV hq) rfl rfl (Nat.le_refl _) (Nat.le_refl _) rfl (rV ?_)
  refine r_iload_n rfl rfl ?_
  refine n_bipush 6 rfl (by decide) ?_
  refine s_staV [.int (nI k), .int (nI 6)] [] rfl lkX9_106 (c_reqWhat (by omega) (by decide)) rfl rfl (Nat.le_refl _) (Nat.le_refl _) rfl (rV ?_)
  refine r_aload_n rfl rfl ?_
  refine s_getR (r := 20) rfl flX9_33 rfl rfl ?_
  refine s_getR (r := 26) rfl flX9_261 rfl rfl ?_
  refine s_getI (x := nI (mk (he (aD a)) 12)) rfl flX9_265 rfl rfl x4.1 ?_
  refine r_iload_n rfl rfl ?_
  refine s_staI [.int (nI (mk (he (aD a)) 12)), .int (nI q)] [] rfl lkX9_282 (c_hasBit hmh (by omega)) rfl rfl (Nat.le_refl _) (Nat.le_refl _) rfl (rI (e1 := nI (tb (he (aD a) q))) (by rw [mk_bit, decide_eq_true (by omega : q < 12), Bool.true_and]) ?_)
  refine n_if_ne (tgt := 30) rfl rfl (by omega) (fun h1 => ?_) (fun h1 => ?_)
  · have hst : stw (aD a) q k = stv (aD a) q k := if_pos (tb_ne h1)
    rw [hst]
    have hdd : dc (aD a) q = dv (aD a) q := (he_L hV (tb_ne h1)).2.2
    refine r_aload_n rfl rfl ?_
    refine s_getR (r := 20) rfl flX9_33 rfl rfl ?_
    refine s_getR (r := 30) rfl flX9_270 rfl rfl ?_
    refine s_getI (x := nI (mk (ou (aD a)) 12)) rfl flX9_274 rfl rfl x7.1 ?_
    refine r_iload_n rfl rfl ?_
    refine s_staI [.int (nI (mk (ou (aD a)) 12)), .int (nI q)] [] rfl lkX9_282 (c_hasBit hmo (by omega)) rfl rfl (Nat.le_refl _) (Nat.le_refl _) rfl (rI (e1 := nI (tb (ou (aD a) q))) (by rw [mk_bit, decide_eq_true (by omega : q < 12), Bool.true_and]) ?_)
    refine r_istore_n (lv' := [(3, .int (nI (tb (ou (aD a) q)))), (0, .ref 0), (1, .int (nI q)), (2, .int (nI k))]) rfl rfl (Nat.le_of_ble_eq_true rfl) rfl ?_
    refine r_iload_n rfl rfl ?_
    rcases (show k = 0 ∨ k = 1 ∨ k = 2 ∨ k = 3 ∨ k = 4 ∨ k = 5 ∨ k = 6 by omega) with e9 | e9 | e9 | e9 | e9 | e9 | e9
    · subst e9
      refine r_tblIn (off := 38) (tgt := 84) rfl (by decide) (by decide) (by decide) rfl ?_
      refine r_aload_n rfl rfl ?_
      refine s_getR (r := 20) rfl flX9_33 rfl rfl ?_
      refine s_getR (r := 26) rfl flX9_261 rfl rfl ?_
      refine s_getR (r := 28) rfl flX9_286 rfl rfl ?_
      refine r_iload_n rfl rfl ?_
      refine s_staI [.ref 28, .int (nI q)] [] rfl lkX9_160 (c_at_28 (by omega) (x5 q (by omega))) rfl rfl (Nat.le_refl _) (Nat.le_refl _) rfl (rI (e1 := nI (dv (aD a) q)) (by rw [hdd]) ?_)
      exact s_ret (st := []) rfl rfl rfl (Nat.zero_le _) (Nat.zero_le _) (pI rfl rfl)
    · subst e9
      refine r_tblIn (off := 53) (tgt := 99) rfl (by decide) (by decide) (by decide) rfl ?_
      refine r_aload_n rfl rfl ?_
      refine s_getR (r := 20) rfl flX9_33 rfl rfl ?_
      refine s_getR (r := 26) rfl flX9_261 rfl rfl ?_
      refine s_getR (r := 29) rfl flX9_289 rfl rfl ?_
      refine r_iload_n rfl rfl ?_
      refine s_staI [.ref 29, .int (nI q)] [] rfl lkX9_160 (c_at_29 (by omega) (x6 q (by omega))) rfl rfl (Nat.le_refl _) (Nat.le_refl _) rfl (rI (e1 := nI (wt (aD a) q)) rfl ?_)
      exact s_ret (st := []) rfl rfl rfl (Nat.zero_le _) (Nat.zero_le _) (pI rfl rfl)
    · subst e9
      refine r_tblIn (off := 68) (tgt := 114) rfl (by decide) (by decide) (by decide) rfl ?_
      refine r_aload_n rfl rfl ?_
      refine s_getR (r := 20) rfl flX9_33 rfl rfl ?_
      refine s_getR (r := 30) rfl flX9_270 rfl rfl ?_
      refine s_getR (r := 31) rfl flX9_292 rfl rfl ?_
      refine r_iload_n rfl rfl ?_
      refine s_staI [.ref 31, .int (nI q)] [] rfl lkX9_160 (c_at_31 (by omega) (x8 q (by omega))) rfl rfl (Nat.le_refl _) (Nat.le_refl _) rfl (rI (e1 := nI (gf (aD a) q)) rfl ?_)
      exact s_ret (st := []) rfl rfl rfl (Nat.zero_le _) (Nat.zero_le _) (pI rfl rfl)
    · subst e9
      refine r_tblIn (off := 83) (tgt := 129) rfl (by decide) (by decide) (by decide) rfl ?_
      refine r_iload_n rfl rfl ?_
      suffices K : Ws z sc mX9_step 0 0 0 0 147 [(3, .int (nI (tb (ou (aD a) q)))), (0, .ref 0), (1, .int (nI q)), (2, .int (nI 3))] [.int (if ou (aD a) q = true then -1 else nI (po (aD a)))] (mz σ [] []) (PI (stv (aD a) q 3) σ) by
        refine n_if_eq (tgt := 137) rfl rfl (by omega) (fun h2 => ?_) (fun h2 => ?_)
        · refine r_aload_n rfl rfl ?_
          refine s_getR (r := 20) rfl flX9_33 rfl rfl ?_
          refine s_getR (r := 30) rfl flX9_270 rfl rfl ?_
          refine s_getI (x := nI (po (aD a))) rfl flX9_295 rfl rfl x7.2.1 ?_
          exact r_top (by rw [if_neg (by rw [tb_z h2]; decide)]) K
        · refine n_m1 rfl ?_
          refine r_goto (tgt := 147) rfl rfl ?_
          exact r_top (by rw [if_pos (tb_ne h2)]) K
      exact s_ret (st := []) rfl rfl rfl (Nat.zero_le _) (Nat.zero_le _) (pI rfl rfl)
    · subst e9
      refine r_tblIn (off := 102) (tgt := 148) rfl (by decide) (by decide) (by decide) rfl ?_
      refine r_iload_n rfl rfl ?_
      suffices K : Ws z sc mX9_step 0 0 0 0 167 [(3, .int (nI (tb (ou (aD a) q)))), (0, .ref 0), (1, .int (nI q)), (2, .int (nI 4))] [.int (if ou (aD a) q = true then -1 else nI (bs (po (aD a)) (sm (w9 (aD a)) 12) (w9 (aD a)) q))] (mz σ [] []) (PI (stv (aD a) q 4) σ) by
        refine n_if_eq (tgt := 156) rfl rfl (by omega) (fun h2 => ?_) (fun h2 => ?_)
        · refine r_aload_n rfl rfl ?_
          refine s_getR (r := 20) rfl flX9_33 rfl rfl ?_
          refine s_getR (r := 30) rfl flX9_270 rfl rfl ?_
          refine r_iload_n rfl rfl ?_
          refine s_virI [.int (nI q)] [] rfl lkX9_298 rfl rfl rfl (c_due_A (by omega) (x9 q (by omega)) (by omega) x7.2.1 (by omega) x7.2.2 (by omega)) rfl rfl (Nat.le_refl _) (Nat.le_refl _) rfl (rI (e1 := nI (bs (po (aD a)) (sm (w9 (aD a)) 12) (w9 (aD a)) q)) rfl ?_)
          exact r_top (by rw [if_neg (by rw [tb_z h2]; decide)]) K
        · refine n_m1 rfl ?_
          refine r_goto (tgt := 167) rfl rfl ?_
          exact r_top (by rw [if_pos (tb_ne h2)]) K
      exact s_ret (st := []) rfl rfl rfl (Nat.zero_le _) (Nat.zero_le _) (pI rfl rfl)
    · subst e9
      refine r_tblIn (off := 122) (tgt := 168) rfl (by decide) (by decide) (by decide) rfl ?_
      refine r_iload_n rfl rfl ?_
      suffices K : Ws z sc mX9_step 0 0 0 0 187 [(3, .int (nI (tb (ou (aD a) q)))), (0, .ref 0), (1, .int (nI q)), (2, .int (nI 5))] [.int (if ou (aD a) q = true then -1 else nI (tb (ce (po (aD a)) (sm (w9 (aD a)) 12) (w9 (aD a)) 12 q)))] (mz σ [] []) (PI (stv (aD a) q 5) σ) by
        refine n_if_eq (tgt := 176) rfl rfl (by omega) (fun h2 => ?_) (fun h2 => ?_)
        · refine r_aload_n rfl rfl ?_
          refine s_getR (r := 20) rfl flX9_33 rfl rfl ?_
          refine s_getR (r := 30) rfl flX9_270 rfl rfl ?_
          refine r_iload_n rfl rfl ?_
          refine s_virI [.int (nI q)] [] rfl lkX9_301 rfl rfl rfl (c_cent_A (c := ce (po (aD a)) (sm (w9 (aD a)) 12) (w9 (aD a)) 12 q) (by omega) (x9 q (by omega)) (by omega) x7.2.1 (by omega) x7.2.2 (by omega) (x10 q (by omega)) (fun z => decide_eq_false (by omega))) rfl rfl (Nat.le_refl _) (Nat.le_refl _) rfl (rI (e1 := nI (tb (ce (po (aD a)) (sm (w9 (aD a)) 12) (w9 (aD a)) 12 q))) rfl ?_)
          exact r_top (by rw [if_neg (by rw [tb_z h2]; decide)]) K
        · refine n_m1 rfl ?_
          refine r_goto (tgt := 187) rfl rfl ?_
          exact r_top (by rw [if_pos (tb_ne h2)]) K
      exact s_ret (st := []) rfl rfl rfl (Nat.zero_le _) (Nat.zero_le _) (pI rfl rfl)
    · subst e9
      refine r_tblOut (tgt := 188) rfl (by decide) rfl ?_
      refine r_aload_n rfl rfl ?_
      refine s_getR (r := 20) rfl flX9_33 rfl rfl ?_
      refine s_getR (r := 30) rfl flX9_270 rfl rfl ?_
      refine r_iload_n rfl rfl ?_
      refine s_virI [.int (nI q)] [] rfl lkX9_304 rfl rfl rfl (c_fromFund_A (by omega) (x9 q (by omega)) (by omega) (x10 q (by omega)) (x8 q (by omega))) rfl rfl (Nat.le_refl _) (Nat.le_refl _) rfl (rI (e1 := sv (aD a) q) rfl ?_)
      exact s_ret (st := []) rfl rfl rfl (Nat.zero_le _) (Nat.zero_le _) (pI rfl rfl)
  · refine n_m1 rfl ?_
    exact s_ret (st := []) rfl rfl rfl (Nat.zero_le _) (Nat.zero_le _) (pI (by unfold stw; rw [if_neg (by rw [tb_z h1]; decide)]) rfl)

theorem c_given {z : SZ} {sc : SC} {σ : SS} {q : Nat} {a : AB} (hA : AV a) (hI : CI9 σ a) (hq : q < aD a 0 0) : Cs z sc mX9_given 0 0 [.ref 0, .int (nI q)] σ (PI (gv (aD a) q) σ) := by
  refine Cs.of gmX9_given (Nat.le_of_ble_eq_true rfl) ?_
  show Ws z sc mX9_given 0 0 0 0 0 [(0, .ref 0), (1, .int (nI q))] [] (mz σ [] []) (PI (gv (aD a) q) σ)
  have hV := hA.1
  have hC := vC hV
  have hS := hI.1.1.1
  have hE := hI.1.1.2
  refine r_aload_n rfl rfl ?_
  refine r_iload_n rfl rfl ?_
  refine s_virV [.int (nI q)] [] rfl lkX9_153 rfl rfl rfl (c_reqPerson hE hV hq) rfl rfl (Nat.le_refl _) (Nat.le_refl _) rfl (rV ?_)
  refine r_aload_n rfl rfl ?_
  refine s_getR (r := 20) rfl flX9_33 rfl rfl ?_
  refine r_aload_n rfl rfl ?_
  refine s_getR (r := 12) rfl flX9_19 rfl rfl ?_
  refine r_iload_n rfl rfl ?_
  refine s_virI [.ref 12, .int (nI q)] [] rfl lkX9_307 rfl rfl rfl (c_givenTo_A hE hV hI.2 (by omega)) rfl rfl (Nat.le_refl _) (Nat.le_refl _) rfl (rI (e1 := gv (aD a) q) rfl ?_)
  exact s_ret (st := []) rfl rfl rfl (Nat.zero_le _) (Nat.zero_le _) (pI rfl rfl)

theorem c_isBalanced {z : SZ} {sc : SC} {σ : SS} {a : AB} (hA : AV a) (hI : CI9 σ a) : Cs z sc mX9_isBalanced 0 0 [.ref 0] σ (PI (nI (tb (bal (aD a)))) σ) := by
  refine Cs.of gmX9_isBalanced (Nat.le_of_ble_eq_true rfl) ?_
  show Ws z sc mX9_isBalanced 0 0 0 0 0 [(0, .ref 0)] [] (mz σ [] []) (PI (nI (tb (bal (aD a)))) σ)
  have hV := hA.1
  have hC := vC hV
  have hS := hI.1.1.1
  have hE := hI.1.1.2
  obtain ⟨x1, x2, x3, x4, x5, x6, x7, x8, x9, x10, x11⟩ := id hI.2
  have hmh := mk_lt12 (he (aD a)) (Nat.le_refl 12)
  have hml := mk_lt12 (isL (aD a)) (Nat.le_refl 12)
  have hmo := mk_lt12 (ou (aD a)) (Nat.le_refl 12)
  refine r_aload_n rfl rfl ?_
  refine s_getR (r := 20) rfl flX9_33 rfl rfl ?_
  refine s_getR (r := 21) rfl flX9_203 rfl rfl ?_
  refine s_getI (x := nI (nts (aD a) - lf (aD a) 5)) rfl flX9_227 rfl rfl x1.2.1 ?_
  refine r_aload_n rfl rfl ?_
  refine s_getR (r := 20) rfl flX9_33 rfl rfl ?_
  refine s_getI (x := nI (a9 (aD a))) rfl flX9_251 rfl rfl x11.2.2.2.2 ?_
  refine r_iadd rfl ?_
  refine r_istore_n (lv' := [(1, .int ((nI (nts (aD a) - lf (aD a) 5)) + (nI (a9 (aD a))))), (0, .ref 0)]) rfl rfl (Nat.le_of_ble_eq_true rfl) rfl ?_
  refine n_iconst 0 rfl ?_
  refine r_istore_n (lv' := [(2, .int (nI 0)), (1, .int ((nI (nts (aD a) - lf (aD a) 5)) + (nI (a9 (aD a))))), (0, .ref 0)]) rfl rfl (Nat.le_of_ble_eq_true rfl) rfl ?_
  refine r_lv (lv' := [(2, .int (nI 0)), (0, .ref 0), (1, .int (gvs (aD a) 0))]) [0, 2, 1] rfl ?_
  have loop : ∀ (m9 : Nat) (k : Nat) , aD a 0 0 - k < m9 → (k ≤ aD a 0 0) → Ws z sc mX9_isBalanced 0 0 0 0 21 [(2, .int (nI k)), (0, .ref 0), (1, .int (gvs (aD a) k))] [] (mz σ [] []) (PI (nI (tb (bal (aD a)))) σ) := by
    intro m9
    induction m9 with
    | zero => intro k  hme; exact absurd hme (Nat.not_lt_zero _)
    | succ m9 ih =>
      intro k  hme hk
      refine r_iload_n rfl rfl ?_
      refine r_aload_n rfl rfl ?_
      refine s_getR (r := 12) rfl flX9_19 rfl rfl ?_
      refine s_getI (x := nI (aD a 0 0)) rfl flX9_110 rfl rfl hE.1.1 ?_
      refine n_icmp_ge (tgt := 53) rfl rfl (by omega) (by omega) (fun h1 => ?_) (fun h1 => ?_)
      · have hke : k = aD a 0 0 := by omega
        rw [hke]
        refine r_iload_n rfl rfl ?_
        refine r_aload_n rfl rfl ?_
        refine s_getR (r := 20) rfl flX9_33 rfl rfl ?_
        refine s_getR (r := 21) rfl flX9_203 rfl rfl ?_
        refine s_getI (x := nI (nts (aD a))) rfl flX9_224 rfl rfl x1.1 ?_
        suffices K : Ws z sc mX9_isBalanced 0 0 0 0 72 [(2, .int (nI (aD a 0 0))), (0, .ref 0), (1, .int (gvs (aD a) (aD a 0 0)))] [.int (nI (tb (bal (aD a))))] (mz σ [] []) (PI (nI (tb (bal (aD a)))) σ) by
          refine r_icmp_ne (tgt := 71) rfl rfl (fun h2 => ?_) (fun h2 => ?_)
          · refine n_iconst 0 rfl ?_
            exact r_top (by unfold bal; rw [beq_false_of_ne h2]; rfl) K
          · refine n_iconst 1 rfl ?_
            refine r_goto (tgt := 72) rfl rfl ?_
            exact r_top (by unfold bal; rw [h2, beq_self_eq_true]; rfl) K
        exact s_ret (st := []) rfl rfl (nar_tb _) (Nat.zero_le _) (Nat.zero_le _) (pI rfl rfl)
      · refine r_iload_n rfl rfl ?_
        refine r_aload_n rfl rfl ?_
        refine s_getR (r := 20) rfl flX9_33 rfl rfl ?_
        refine r_aload_n rfl rfl ?_
        refine s_getR (r := 12) rfl flX9_19 rfl rfl ?_
        refine r_iload_n rfl rfl ?_
        refine s_virI [.ref 12, .int (nI k)] [.int (gvs (aD a) k)] rfl lkX9_307 rfl rfl rfl (c_givenTo_A hE hV hI.2 (by omega)) rfl rfl (Nat.le_refl _) (Nat.le_refl _) rfl (rI (e1 := gv (aD a) k) rfl ?_)
        refine r_iadd rfl ?_
        refine r_istore_n (lv' := [(1, .int ((gvs (aD a) k) + (gv (aD a) k))), (2, .int (nI k)), (0, .ref 0)]) rfl rfl (Nat.le_of_ble_eq_true rfl) rfl ?_
        refine n_iinc (lv' := [(2, .int (nI (k + 1))), (1, .int ((gvs (aD a) k) + (gv (aD a) k))), (0, .ref 0)]) 1 rfl rfl (Nat.le_of_ble_eq_true rfl) rfl ?_
        refine r_goto (tgt := 21) rfl rfl ?_
        refine r_lv (lv' := [(2, .int (nI (k + 1))), (0, .ref 0), (1, .int (gvs (aD a) (k + 1)))]) [0, 2, 1] rfl ?_
        exact ih (k + 1) (by omega) (by omega)
  exact loop (aD a 0 0 + 1) 0 (by omega) (by omega)

