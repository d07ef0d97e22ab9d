theorem s_virKI {z : SZ} {sc : SC} {μ : MI} {mc ms k n pc : Nat} {lv : List (Nat × Value)} {st : List Value} {σ : SS} {Q : Out → SS → Prop} {ν : MI} {mc1 ms1 idx : Nat} {P : Int32 → SS → Prop} {i : Nat} {x : String × Nat × String × List Int32} (as rest : List Value) (h : cf (mCd μ) pc = some (.invokevirtual idx, 3)) (hL : LV (mNm μ).cls idx ν as.length) (hs : strJ[i]? = some x) (hc : "java/lang/String" = (mNm ν).cls) (hcal : Cs z sc ν mc1 ms1 (.retAddr i :: as) σ (RI P)) (hst : st = as.reverse ++ .retAddr i :: rest) (hrm : rmB μ ν rest = true) (hmc : k + mc1 ≤ mc) (hms : n + ms1 ≤ ms) (kk : ∀ v σ', P v σ' → Ws z sc μ mc ms (k + mc1) (n + ms1) (pc + 3) lv (.int v :: rest) σ' Q) : Ws z sc μ mc ms k n pc lv st σ Q := by
  refine r_virK as rest h hL hs hc hcal RI_no hst hrm hmc hms ?_
  rintro r0 S' ⟨σ', rfl, v, q9, hp⟩
  cases q9
  exact kk v σ' hp
theorem nI_and255 : ∀ b, b < 128 → nI b &&& nI 255 = nI b := by decide +kernel
theorem nI_i2c : ∀ b, b < 128 → ((nI b).toUInt32 % 65536).toInt32 = nI b := by decide +kernel
theorem nI_nch : ∀ b, b < 128 → narrow .char (.int (nI b)) = .int (nI b) := by
  have h : ∀ b, b < 128 → vp_nar .char (nI b) = nI b := by decide +kernel
  intro b hb
  have h1 := h b hb
  unfold vp_nar at h1
  exact congrArg Value.int h1
theorem nI_shr0 {a : Nat} (h : a < 1000) : nI a >>> (nI 0 &&& 31) = nI a := by
  rw [pk_shrN (by omega) _ 0 (by decide), Nat.pow_zero, Nat.div_one]
theorem strJ_len : ∀ x ∈ strJ, x.2.2.2.length < 1000 := by decide +kernel
theorem str_len {i : Nat} {x : String × Nat × String × List Int32} (h : strJ[i]? = some x) : x.2.2.2.length < 1000 := strJ_len x (List.mem_of_getElem? h)
/-- a token held by the class: where it starts, ends, of what kind -/
def CT (f : Nat → Int32) (x : TX) (j : Nat) : Prop := f 2 = nI x.1 ∧ f 3 = nI (tK x j) ∧ f 4 = nI (tS x j) ∧ f 5 = nI (tE x j)
/-- a string constant is this word -/
def isS (s : String × Nat × String × List Int32) (w : List Nat) : Prop := s.2.2.2.length = w.length ∧ w.length ≤ 8 ∧ ∀ k, k < w.length → s.2.2.2.getD k 0 = nI (w.getD k 0 + 96) ∧ w.getD k 0 ≤ 26
theorem wl_eq {x : TX} {j : Nat} {w : List Nat} (h1 : tE x j - tS x j = w.length) (h : ∀ k, k < w.length → x.2 (tS x j + k) - 96 = w.getD k 0) : wl x j = w := by
  apply List.ext_getElem?
  intro k
  unfold wl
  by_cases hk : k < w.length
  · rw [ltr_get _ _ _ k (by omega), h k hk, List.getD_eq_getElem?_getD, List.getElem?_eq_getElem hk]
    rfl
  · rw [List.getElem?_eq_none (by rw [ltr_len]; omega), List.getElem?_eq_none (by omega)]
theorem lt_snoc {P : Nat → Prop} {q : Nat} (h : ∀ k, k < q → P k) (hq : P q) : ∀ k, k < q + 1 → P k := by
  intro k hk
  by_cases e : k = q
  · rw [e]; exact hq
  · exact h k (by omega)
theorem wl_ne {x : TX} {j k : Nat} {w : List Nat} (hk : k < tE x j - tS x j) (h : x.2 (tS x j + k) - 96 ≠ w.getD k 0) : wl x j ≠ w := by
  intro e
  apply h
  rw [← e, List.getD_eq_getElem?_getD]
  unfold wl
  rw [ltr_get _ _ _ k hk]
  rfl
theorem c_coder {z : SZ} {sc : SC} {σ : SS} {i : Nat} {x : String × Nat × String × List Int32} (hs : strJ[i]? = some x) : Cs z sc mJ_coder 0 0 [.retAddr i] σ (PI (nI 0) σ) := by
  refine Cs.of gmJ_coder (Nat.le_of_ble_eq_true rfl) ?_
  show Ws z sc mJ_coder 0 0 0 0 0 [(0, .retAddr i)] [] (mz σ [] []) (PI (nI 0) σ)
  refine r_getsC rfl fjJ0_38 ?_
  refine n_if_eq (tgt := 13) rfl rfl (by decide) (fun hq => absurd hq (by decide)) (fun _ => ?_)
  refine r_aload_nK rfl rfl (by have := str_lt hs; omega) ?_
  refine r_getC rfl hs fjJ0_15 ?_
  refine r_goto (tgt := 14) rfl rfl ?_
  exact s_ret (st := []) rfl rfl rfl (Nat.zero_le _) (Nat.zero_le _) (pI rfl rfl)

theorem c_slen {z : SZ} {sc : SC} {σ : SS} {i : Nat} {x : String × Nat × String × List Int32} (hs : strJ[i]? = some x) : Cs z sc mJ_length 0 0 [.retAddr i] σ (PI (nI x.2.2.2.length) σ) := by
  refine Cs.of gmJ_length (Nat.le_of_ble_eq_true rfl) ?_
  show Ws z sc mJ_length 0 0 0 0 0 [(0, .retAddr i)] [] (mz σ [] []) (PI (nI x.2.2.2.length) σ)
  refine r_aload_nK rfl rfl (by have := str_lt hs; omega) ?_
  refine r_getV rfl hs fjJ0_9 ?_
  refine r_alenK rfl hs ?_
  refine r_aload_nK rfl rfl (by have := str_lt hs; omega) ?_
  refine s_virKI [] [.int (nI x.2.2.2.length)] rfl lkJ0_335 hs rfl (c_coder hs) rfl rfl (Nat.le_refl _) (Nat.le_refl _) (rI (e1 := nI 0) rfl ?_)
  refine r_ishr rfl ?_
  refine r_top (y := nI x.2.2.2.length) (nI_shr0 (str_len hs)) ?_
  exact s_ret (st := []) rfl rfl rfl (Nat.zero_le _) (Nat.zero_le _) (pI rfl rfl)

theorem c_isLatin1 {z : SZ} {sc : SC} {σ : SS} {i : Nat} {x : String × Nat × String × List Int32} (hs : strJ[i]? = some x) : Cs z sc mJ_isLatin1 0 0 [.retAddr i] σ (PI (nI 1) σ) := by
  refine Cs.of gmJ_isLatin1 (Nat.le_of_ble_eq_true rfl) ?_
  show Ws z sc mJ_isLatin1 0 0 0 0 0 [(0, .retAddr i)] [] (mz σ [] []) (PI (nI 1) σ)
  refine r_getsC rfl fjJ0_38 ?_
  refine n_if_eq (tgt := 17) rfl rfl (by decide) (fun hq => absurd hq (by decide)) (fun _ => ?_)
  refine r_aload_nK rfl rfl (by have := str_lt hs; omega) ?_
  refine r_getC rfl hs fjJ0_15 ?_
  refine n_if_ne (tgt := 17) rfl rfl (by decide) (fun hq => absurd hq (by decide)) (fun _ => ?_)
  refine n_iconst 1 rfl ?_
  refine r_goto (tgt := 18) rfl rfl ?_
  exact s_ret (st := []) rfl rfl rfl (Nat.zero_le _) (Nat.zero_le _) (pI rfl rfl)

theorem c_chkP {z : SZ} {sc : SC} {σ : SS} {j m : Nat} (hj : j < m) (hm : m < 1000) : Cs z sc mJ_checkIndexP 0 0 [.int (nI j), .int (nI m), .retAddr 99] σ (PI (nI j) σ) := by
  refine Cs.of gmJ_checkIndexP (Nat.le_of_ble_eq_true rfl) ?_
  show Ws z sc mJ_checkIndexP 0 0 0 0 0 [(0, .int (nI j)), (1, .int (nI m)), (2, .retAddr 99)] [] (mz σ [] []) (PI (nI j) σ)
  refine r_iload_n rfl rfl ?_
  refine n_if_lt (tgt := 9) rfl rfl (by omega) (fun hq => hq.elim) (fun _ => ?_)
  refine r_iload_n rfl rfl ?_
  refine r_iload_n rfl rfl ?_
  refine n_icmp_lt (tgt := 16) rfl rfl (by omega) (by omega) (fun _ => ?_) (fun hq => absurd hq (by omega))
  refine r_iload_n rfl rfl ?_
  exact s_ret (st := []) rfl rfl rfl (Nat.zero_le _) (Nat.zero_le _) (pI rfl rfl)

theorem c_chkS {z : SZ} {sc : SC} {σ : SS} {j m : Nat} (hj : j < m) (hm : m < 1000) : Cs z sc mJ_checkIndexS 0 0 [.int (nI j), .int (nI m)] σ (PV σ) := by
  refine Cs.of gmJ_checkIndexS (Nat.le_of_ble_eq_true rfl) ?_
  show Ws z sc mJ_checkIndexS 0 0 0 0 0 [(0, .int (nI j)), (1, .int (nI m))] [] (mz σ [] []) (PV σ)
  refine r_iload_n rfl rfl ?_
  refine r_iload_n rfl rfl ?_
  refine r_getsF rfl fjJ0_1053 ?_
  refine s_staI [.int (nI j), .int (nI m), .retAddr 99] [] rfl lkJ0_1059 (c_chkP hj hm) rfl rfl (Nat.le_refl _) (Nat.le_refl _) rfl (rI (e1 := nI j) rfl ?_)
  refine r_pop rfl rfl ?_
  exact s_vret (st := []) rfl rfl (Nat.zero_le _) (Nat.zero_le _) (pV rfl)

theorem c_chAtL {z : SZ} {sc : SC} {σ : SS} {i : Nat} {x : String × Nat × String × List Int32} (hs : strJ[i]? = some x) {j b : Nat} (hj : j < x.2.2.2.length) (hm : x.2.2.2.length < 1000) (hv : x.2.2.2.getD j 0 = nI b) (hb : b < 128) : Cs z sc mJ_charAtL 0 0 [.retAddr ((50 + i)), .int (nI j)] σ (PI (nI b) σ) := by
  refine Cs.of gmJ_charAtL (Nat.le_of_ble_eq_true rfl) ?_
  show Ws z sc mJ_charAtL 0 0 0 0 0 [(0, .retAddr ((50 + i))), (1, .int (nI j))] [] (mz σ [] []) (PI (nI b) σ)
  refine r_iload_n rfl rfl ?_
  refine r_aload_nK rfl rfl (by have := str_lt hs; omega) ?_
  refine r_alenK rfl hs ?_
  refine s_staV [.int (nI j), .int (nI x.2.2.2.length)] [] rfl lkJ1_9 (c_chkS hj hm) rfl rfl (Nat.le_refl _) (Nat.le_refl _) rfl (rV ?_)
  refine r_aload_nK rfl rfl (by have := str_lt hs; omega) ?_
  refine r_iload_n rfl rfl ?_
  refine r_baldK rfl hs hj (by omega) ?_
  rw [hv]
  refine n_sipush 255 rfl (by decide) ?_
  refine r_iand rfl ?_
  refine r_top (y := nI b) (nI_and255 b hb) ?_
  refine r_i2c rfl (nI_i2c b hb) ?_
  exact s_ret (st := []) rfl rfl (nI_nch b hb) (Nat.zero_le _) (Nat.zero_le _) (pI rfl rfl)

theorem c_chAt {z : SZ} {sc : SC} {σ : SS} {i : Nat} {x : String × Nat × String × List Int32} (hs : strJ[i]? = some x) {j b : Nat} (hj : j < x.2.2.2.length) (hm : x.2.2.2.length < 1000) (hv : x.2.2.2.getD j 0 = nI b) (hb : b < 128) : Cs z sc mJ_charAt 0 0 [.retAddr i, .int (nI j)] σ (PI (nI b) σ) := by
  refine Cs.of gmJ_charAt (Nat.le_of_ble_eq_true rfl) ?_
  show Ws z sc mJ_charAt 0 0 0 0 0 [(0, .retAddr i), (1, .int (nI j))] [] (mz σ [] []) (PI (nI b) σ)
  refine r_aload_nK rfl rfl (by have := str_lt hs; omega) ?_
  refine s_virKI [] [] rfl lkJ0_492 hs rfl (c_isLatin1 hs) rfl rfl (Nat.le_refl _) (Nat.le_refl _) (rI (e1 := nI 1) rfl ?_)
  refine n_if_eq (tgt := 16) rfl rfl (by decide) (fun hq => absurd hq (by decide)) (fun _ => ?_)
  refine r_aload_nK rfl rfl (by have := str_lt hs; omega) ?_
  refine r_getV rfl hs fjJ0_9 ?_
  refine r_iload_n rfl rfl ?_
  refine s_staI [.retAddr ((50 + i)), .int (nI j)] [] rfl lkJ0_495 (c_chAtL hs hj hm hv hb) rfl rfl (Nat.le_refl _) (Nat.le_refl _) rfl (rI (e1 := nI b) rfl ?_)
  exact s_ret (st := []) rfl rfl (nI_nch b hb) (Nat.zero_le _) (Nat.zero_le _) (pI rfl rfl)

theorem c_byteAt {z : SZ} {sc : SC} {σ : SS} {i : Nat} {v : Int32} (hi : i < 700) (hv : σ.1 3 i = v) : Cs z sc mX1_byteAt 0 0 [.ref 2, .int (nI i)] σ (PI v σ) := by
  refine Cs.of gmX1_byteAt (Nat.le_of_ble_eq_true rfl) ?_
  show Ws z sc mX1_byteAt 0 0 0 0 0 [(0, .ref 2), (1, .int (nI i))] [] (mz σ [] []) (PI v σ)
  refine r_iload_n rfl rfl ?_
  refine n_if_lt (tgt := 22) rfl rfl (by omega) (fun hq => hq.elim) (fun _ => ?_)
  refine r_iload_n rfl rfl ?_
  refine r_aload_n rfl rfl ?_
  refine s_getR (r := 3) rfl flX1_9 rfl rfl ?_
  refine s_alenB rfl rfl ?_
  refine n_icmp_ge (tgt := 22) rfl rfl (by omega) (by omega) (fun hq => absurd hq (by omega)) (fun _ => ?_)
  refine r_aload_n rfl rfl ?_
  refine s_getR (r := 3) rfl flX1_9 rfl rfl ?_
  refine r_iload_n rfl rfl ?_
  refine s_bald (x := v) rfl rfl (by omega) hv ?_
  refine r_goto (tgt := 23) rfl rfl ?_
  exact s_ret (st := []) rfl rfl rfl (Nat.zero_le _) (Nat.zero_le _) (pI rfl rfl)

theorem c_kindAt {z : SZ} {sc : SC} {σ : SS} {i : Nat} {x : TX} (hx : x.1 ≤ 700) (hb : ∀ i, x.2 i < 256) (hT : ∀ i, i < x.1 → σ.1 3 i = bI (x.2 i)) (h2 : σ.1 2 2 = nI x.1) (hi : i < 100000) : Cs z sc mX1_kindAt 0 0 [.ref 2, .int (nI i)] σ (PI (nI (kd x i)) σ) := by
  refine Cs.of gmX1_kindAt (Nat.le_of_ble_eq_true rfl) ?_
  show Ws z sc mX1_kindAt 0 0 0 0 0 [(0, .ref 2), (1, .int (nI i))] [] (mz σ [] []) (PI (nI (kd x i)) σ)
  refine r_iload_n rfl rfl ?_
  refine n_if_lt (tgt := 21) rfl rfl (by omega) (fun hq => hq.elim) (fun _ => ?_)
  refine r_iload_n rfl rfl ?_
  refine r_aload_n rfl rfl ?_
  refine s_getI (x := nI x.1) rfl flX1_19 rfl rfl h2 ?_
  refine n_icmp_ge (tgt := 21) rfl rfl (by omega) (by omega) (fun h1 => ?_) (fun h1 => ?_)
  · refine n_iconst 0 rfl ?_
    exact s_ret (st := []) rfl rfl rfl (Nat.zero_le _) (Nat.zero_le _) (pI (by rw [kd_end h1]) rfl)
  · refine r_iload_n rfl rfl ?_
    refine r_aload_n rfl rfl ?_
    refine s_getR (r := 3) rfl flX1_9 rfl rfl ?_
    refine s_alenB rfl rfl ?_
    refine n_icmp_lt (tgt := 23) rfl rfl (by omega) (by omega) (fun _ => ?_) (fun hq => absurd hq (by omega))
    have hT1 := hT i h1
    have hkn : ¬ x.1 ≤ i := by omega
    by_cases h3 : x.2 i < 128
    · rw [bI_p h3] at hT1
      refine r_aload_n rfl rfl ?_
      refine s_getR (r := 3) rfl flX1_9 rfl rfl ?_
      refine r_iload_n rfl rfl ?_
      refine s_bald (x := nI (x.2 i)) rfl rfl (by omega) hT1 ?_
      refine r_istore_n (lv' := [(2, .int (nI (x.2 i))), (0, .ref 2), (1, .int (nI i))]) rfl rfl (Nat.le_of_ble_eq_true rfl) rfl ?_
      refine r_iload_n rfl rfl ?_
      refine n_bipush 97 rfl (by decide) ?_
      refine n_icmp_lt (tgt := 44) rfl rfl (by omega) (by omega) (fun h4 => ?_) (fun h4 => ?_)
      · refine r_iload_n rfl rfl ?_
        refine n_bipush 48 rfl (by decide) ?_
        refine n_icmp_lt (tgt := 58) rfl rfl (by omega) (by omega) (fun h5 => ?_) (fun h5 => ?_)
        · refine r_iload_n rfl rfl ?_
          refine n_bipush 32 rfl (by decide) ?_
          refine n_icmp_eq (tgt := 70) rfl rfl (by omega) (by omega) (fun h7 => ?_) (fun h7 => ?_)
          · refine n_iconst 4 rfl ?_
            exact s_ret (st := []) rfl rfl rfl (Nat.zero_le _) (Nat.zero_le _) (pI (by unfold kd; rw [if_neg hkn]; rw [if_neg (by omega), if_neg (by omega), if_pos (by omega)]) rfl)
          · refine r_iload_n rfl rfl ?_
            refine n_bipush 10 rfl (by decide) ?_
            refine n_icmp_ne (tgt := 72) rfl rfl (by omega) (by omega) (fun h8 => ?_) (fun h8 => ?_)
            · refine r_iload_n rfl rfl ?_
              refine n_bipush 59 rfl (by decide) ?_
              refine n_icmp_ne (tgt := 82) rfl rfl (by omega) (by omega) (fun h9 => ?_) (fun h9 => ?_)
              · refine n_iconst 5 rfl ?_
                exact s_ret (st := []) rfl rfl rfl (Nat.zero_le _) (Nat.zero_le _) (pI (by unfold kd; rw [if_neg hkn]; rw [if_neg (by omega), if_neg (by omega), if_neg (by omega), if_neg (by omega)]) rfl)
              · refine n_iconst 3 rfl ?_
                refine r_goto (tgt := 83) rfl rfl ?_
                exact s_ret (st := []) rfl rfl rfl (Nat.zero_le _) (Nat.zero_le _) (pI (by unfold kd; rw [if_neg hkn]; rw [if_neg (by omega), if_neg (by omega), if_neg (by omega), if_pos (by omega)]) rfl)
            · refine n_iconst 4 rfl ?_
              exact s_ret (st := []) rfl rfl rfl (Nat.zero_le _) (Nat.zero_le _) (pI (by unfold kd; rw [if_neg hkn]; rw [if_neg (by omega), if_neg (by omega), if_pos (by omega)]) rfl)
        · refine r_iload_n rfl rfl ?_
          refine n_bipush 57 rfl (by decide) ?_
          refine n_icmp_gt (tgt := 58) rfl rfl (by omega) (by omega) (fun h6 => ?_) (fun h6 => ?_)
          · refine r_iload_n rfl rfl ?_
            refine n_bipush 32 rfl (by decide) ?_
            refine n_icmp_eq (tgt := 70) rfl rfl (by omega) (by omega) (fun h7 => ?_) (fun h7 => ?_)
            · refine n_iconst 4 rfl ?_
              exact s_ret (st := []) rfl rfl rfl (Nat.zero_le _) (Nat.zero_le _) (pI (by unfold kd; rw [if_neg hkn]; rw [if_neg (by omega), if_neg (by omega), if_pos (by omega)]) rfl)
            · refine r_iload_n rfl rfl ?_
              refine n_bipush 10 rfl (by decide) ?_
              refine n_icmp_ne (tgt := 72) rfl rfl (by omega) (by omega) (fun h8 => ?_) (fun h8 => ?_)
              · refine r_iload_n rfl rfl ?_
                refine n_bipush 59 rfl (by decide) ?_
                refine n_icmp_ne (tgt := 82) rfl rfl (by omega) (by omega) (fun h9 => ?_) (fun h9 => ?_)
                · refine n_iconst 5 rfl ?_
                  exact s_ret (st := []) rfl rfl rfl (Nat.zero_le _) (Nat.zero_le _) (pI (by unfold kd; rw [if_neg hkn]; rw [if_neg (by omega), if_neg (by omega), if_neg (by omega), if_neg (by omega)]) rfl)
                · refine n_iconst 3 rfl ?_
                  refine r_goto (tgt := 83) rfl rfl ?_
                  exact s_ret (st := []) rfl rfl rfl (Nat.zero_le _) (Nat.zero_le _) (pI (by unfold kd; rw [if_neg hkn]; rw [if_neg (by omega), if_neg (by omega), if_neg (by omega), if_pos (by omega)]) rfl)
              · refine n_iconst 4 rfl ?_
                exact s_ret (st := []) rfl rfl rfl (Nat.zero_le _) (Nat.zero_le _) (pI (by unfold kd; rw [if_neg hkn]; rw [if_neg (by omega), if_neg (by omega), if_pos (by omega)]) rfl)
          · refine n_iconst 2 rfl ?_
            exact s_ret (st := []) rfl rfl rfl (Nat.zero_le _) (Nat.zero_le _) (pI (by unfold kd; rw [if_neg hkn]; rw [if_neg (by omega), if_pos (by omega)]) rfl)
      · refine r_iload_n rfl rfl ?_
        refine n_bipush 122 rfl (by decide) ?_
        refine n_icmp_gt (tgt := 44) rfl rfl (by omega) (by omega) (fun h5 => ?_) (fun h5 => ?_)
        · refine r_iload_n rfl rfl ?_
          refine n_bipush 48 rfl (by decide) ?_
          refine n_icmp_lt (tgt := 58) rfl rfl (by omega) (by omega) (fun h6 => ?_) (fun h6 => ?_)
          · refine r_iload_n rfl rfl ?_
            refine n_bipush 32 rfl (by decide) ?_
            refine n_icmp_eq (tgt := 70) rfl rfl (by omega) (by omega) (fun h7 => ?_) (fun h7 => ?_)
            · refine n_iconst 4 rfl ?_
              exact s_ret (st := []) rfl rfl rfl (Nat.zero_le _) (Nat.zero_le _) (pI (by unfold kd; rw [if_neg hkn]; rw [if_neg (by omega), if_neg (by omega), if_pos (by omega)]) rfl)
            · refine r_iload_n rfl rfl ?_
              refine n_bipush 10 rfl (by decide) ?_
              refine n_icmp_ne (tgt := 72) rfl rfl (by omega) (by omega) (fun h8 => ?_) (fun h8 => ?_)
              · refine r_iload_n rfl rfl ?_
                refine n_bipush 59 rfl (by decide) ?_
                refine n_icmp_ne (tgt := 82) rfl rfl (by omega) (by omega) (fun h9 => ?_) (fun h9 => ?_)
                · refine n_iconst 5 rfl ?_
                  exact s_ret (st := []) rfl rfl rfl (Nat.zero_le _) (Nat.zero_le _) (pI (by unfold kd; rw [if_neg hkn]; rw [if_neg (by omega), if_neg (by omega), if_neg (by omega), if_neg (by omega)]) rfl)
                · refine n_iconst 3 rfl ?_
                  refine r_goto (tgt := 83) rfl rfl ?_
                  exact s_ret (st := []) rfl rfl rfl (Nat.zero_le _) (Nat.zero_le _) (pI (by unfold kd; rw [if_neg hkn]; rw [if_neg (by omega), if_neg (by omega), if_neg (by omega), if_pos (by omega)]) rfl)
              · refine n_iconst 4 rfl ?_
                exact s_ret (st := []) rfl rfl rfl (Nat.zero_le _) (Nat.zero_le _) (pI (by unfold kd; rw [if_neg hkn]; rw [if_neg (by omega), if_neg (by omega), if_pos (by omega)]) rfl)
          · refine r_iload_n rfl rfl ?_
            refine n_bipush 57 rfl (by decide) ?_
            refine n_icmp_gt (tgt := 58) rfl rfl (by omega) (by omega) (fun h66 => ?_) (fun h66 => ?_)
            · refine r_iload_n rfl rfl ?_
              refine n_bipush 32 rfl (by decide) ?_
              refine n_icmp_eq (tgt := 70) rfl rfl (by omega) (by omega) (fun h7 => ?_) (fun h7 => ?_)
              · refine n_iconst 4 rfl ?_
                exact s_ret (st := []) rfl rfl rfl (Nat.zero_le _) (Nat.zero_le _) (pI (by unfold kd; rw [if_neg hkn]; rw [if_neg (by omega), if_neg (by omega), if_pos (by omega)]) rfl)
              · refine r_iload_n rfl rfl ?_
                refine n_bipush 10 rfl (by decide) ?_
                refine n_icmp_ne (tgt := 72) rfl rfl (by omega) (by omega) (fun h8 => ?_) (fun h8 => ?_)
                · refine r_iload_n rfl rfl ?_
                  refine n_bipush 59 rfl (by decide) ?_
                  refine n_icmp_ne (tgt := 82) rfl rfl (by omega) (by omega) (fun h9 => ?_) (fun h9 => ?_)
                  · refine n_iconst 5 rfl ?_
                    exact s_ret (st := []) rfl rfl rfl (Nat.zero_le _) (Nat.zero_le _) (pI (by unfold kd; rw [if_neg hkn]; rw [if_neg (by omega), if_neg (by omega), if_neg (by omega), if_neg (by omega)]) rfl)
                  · refine n_iconst 3 rfl ?_
                    refine r_goto (tgt := 83) rfl rfl ?_
                    exact s_ret (st := []) rfl rfl rfl (Nat.zero_le _) (Nat.zero_le _) (pI (by unfold kd; rw [if_neg hkn]; rw [if_neg (by omega), if_neg (by omega), if_neg (by omega), if_pos (by omega)]) rfl)
                · refine n_iconst 4 rfl ?_
                  exact s_ret (st := []) rfl rfl rfl (Nat.zero_le _) (Nat.zero_le _) (pI (by unfold kd; rw [if_neg hkn]; rw [if_neg (by omega), if_neg (by omega), if_pos (by omega)]) rfl)
            · refine n_iconst 2 rfl ?_
              exact s_ret (st := []) rfl rfl rfl (Nat.zero_le _) (Nat.zero_le _) (pI (by unfold kd; rw [if_neg hkn]; omega) rfl)
        · refine n_iconst 1 rfl ?_
          exact s_ret (st := []) rfl rfl rfl (Nat.zero_le _) (Nat.zero_le _) (pI (by unfold kd; rw [if_neg hkn]; rw [if_pos (by omega)]) rfl)
    · obtain ⟨g1, g2, g3, g4, g5⟩ := bI_hi (x.2 i) (hb i) h3
      refine r_aload_n rfl rfl ?_
      refine s_getR (r := 3) rfl flX1_9 rfl rfl ?_
      refine r_iload_n rfl rfl ?_
      refine s_bald (x := bI (x.2 i)) rfl rfl (by omega) hT1 ?_
      refine r_istore_n (lv' := [(2, .int (bI (x.2 i))), (0, .ref 2), (1, .int (nI i))]) rfl rfl (Nat.le_of_ble_eq_true rfl) rfl ?_
      refine r_iload_n rfl rfl ?_
      refine n_bipush 97 rfl (by decide) ?_
      refine r_icmp_lt (tgt := 44) rfl rfl (fun _ => ?_) (fun hq => absurd hq (fun z => z g2))
      refine r_iload_n rfl rfl ?_
      refine n_bipush 48 rfl (by decide) ?_
      refine r_icmp_lt (tgt := 58) rfl rfl (fun _ => ?_) (fun hq => absurd hq (fun z => z g1))
      refine r_iload_n rfl rfl ?_
      refine n_bipush 32 rfl (by decide) ?_
      refine r_icmp_eq (tgt := 70) rfl rfl (fun hq => absurd hq g3) (fun _ => ?_)
      refine r_iload_n rfl rfl ?_
      refine n_bipush 10 rfl (by decide) ?_
      refine r_icmp_ne (tgt := 72) rfl rfl (fun _ => ?_) (fun hq => absurd hq g4)
      refine r_iload_n rfl rfl ?_
      refine n_bipush 59 rfl (by decide) ?_
      refine r_icmp_ne (tgt := 82) rfl rfl (fun _ => ?_) (fun hq => absurd hq g5)
      refine n_iconst 5 rfl ?_
      exact s_ret (st := []) rfl rfl rfl (Nat.zero_le _) (Nat.zero_le _) (pI (by unfold kd; rw [if_neg hkn, if_neg (by omega), if_neg (by omega), if_neg (by omega), if_neg (by omega)]) rfl)

theorem c_adv {z : SZ} {sc : SC} {σ : SS} {j : Nat} {x : TX} (hx : x.1 ≤ 700) (hb : ∀ i, x.2 i < 256) (hT : ∀ i, i < x.1 → σ.1 3 i = bI (x.2 i)) (h2 : σ.1 2 2 = nI x.1) (h5 : σ.1 2 5 = nI j) (hj : j ≤ x.1 + 1) : Cs z sc mX1_advance 0 0 [.ref 2] σ (RV fun σ' => ∃ f, σ' = mz σ [(2, f)] [] ∧ f 1 = σ.1 2 1 ∧ CT f x j) := by
  refine Cs.of gmX1_advance (Nat.le_of_ble_eq_true rfl) ?_
  show Ws z sc mX1_advance 0 0 0 0 0 [(0, .ref 2)] [] (mz σ [] []) (RV fun σ' => ∃ f, σ' = mz σ [(2, f)] [] ∧ f 1 = σ.1 2 1 ∧ CT f x j)
  refine r_aload_n rfl rfl ?_
  refine r_aload_n rfl rfl ?_
  refine s_getI (x := nI j) rfl flX1_28 rfl rfl h5 ?_
  refine m_putI (L' := [(2, (aup (σ.1 2) 4 (nI j)))]) rfl flX1_25 rfl rfl (okv_i _) rfl ?_
  refine r_lv (lv' := [(0, .ref 2)]) [0] rfl ?_
  have loop : ∀ (m9 : Nat) (i : Nat) (f : Nat → Int32), x.1 + 2 - i < m9 → (i ≤ x.1 + 1) → (run x 4 i = run x 4 j) → (f 1 = σ.1 2 1) → (f 2 = nI x.1) → (f 4 = nI i) → Ws z sc mX1_advance 0 0 0 0 8 [(0, .ref 2)] [] (mz σ [(2, f)] []) (RV fun σ' => ∃ f, σ' = mz σ [(2, f)] [] ∧ f 1 = σ.1 2 1 ∧ CT f x j) := by
    intro m9
    induction m9 with
    | zero => intro i f hme; exact absurd hme (Nat.not_lt_zero _)
    | succ m9 ih =>
      intro i f hme hi hr f1 f2 f4
      refine r_aload_n rfl rfl ?_
      refine s_getI (x := nI i) rfl flX1_25 rfl rfl f4 ?_
      refine r_aload_n rfl rfl ?_
      refine s_getI (x := nI x.1) rfl flX1_19 rfl rfl f2 ?_
      refine n_icmp_ge (tgt := 44) rfl rfl (by omega) (by omega) (fun h1 => ?_) (fun h1 => ?_)
      · have hS : tS x j = i := by unfold tS; rw [← hr]; exact run_n (by rw [kd_end h1]; decide)
        refine r_aload_n rfl rfl ?_
        refine r_aload_n rfl rfl ?_
        refine r_aload_n rfl rfl ?_
        refine s_getI (x := nI i) rfl flX1_25 rfl rfl f4 ?_
        refine s_virI [.int (nI i)] [.ref 2] rfl lkX1_34 rfl rfl rfl (c_kindAt hx hb hT f2 (by omega)) rfl rfl (Nat.le_refl _) (Nat.le_refl _) rfl (rI (e1 := nI (kd x i)) rfl ?_)
        refine m_putI (L' := [(2, (aup f 3 (nI (kd x i))))]) rfl flX1_22 rfl rfl (okv_i _) rfl ?_
        refine r_aload_n rfl rfl ?_
        refine r_aload_n rfl rfl ?_
        refine s_getI (x := nI i) rfl flX1_25 rfl rfl f4 ?_
        refine n_iconst 1 rfl ?_
        refine n_iadd rfl ?_
        refine m_putI (L' := [(2, (aup (aup f 3 (nI (kd x i))) 5 (nI (i + 1))))]) rfl flX1_28 rfl rfl (okv_i _) rfl ?_
        refine r_aload_n rfl rfl ?_
        refine s_getI (x := nI (kd x i)) rfl flX1_22 rfl rfl rfl ?_
        refine n_iconst 1 rfl ?_
        have hkl := kd_le x i
        refine n_icmp_eq (tgt := 82) rfl rfl (by omega) (by omega) (fun h4 => ?_) (fun h4 => ?_)
        · have hin : i < x.1 := kd_in (by omega)
          have hE : tE x j = run x (kd x i) (i + 1) := by unfold tE; rw [hS, if_pos (by omega)]
          refine r_lv (lv' := [(0, .ref 2)]) [0] rfl ?_
          have loop2 : ∀ (m9_2 : Nat) (e : Nat) (g : Nat → Int32), x.1 + 1 - e < m9_2 → (e ≤ x.1) → (i + 1 ≤ e) → (run x (kd x i) e = run x (kd x i) (i + 1)) → (g 1 = σ.1 2 1) → (g 2 = nI x.1) → (g 3 = nI (kd x i)) → (g 4 = nI i) → (g 5 = nI e) → Ws z sc mX1_advance 0 0 0 0 82 [(0, .ref 2)] [] (mz σ [(2, g)] []) (RV fun σ' => ∃ f, σ' = mz σ [(2, f)] [] ∧ f 1 = σ.1 2 1 ∧ CT f x j) := by
            intro m9_2
            induction m9_2 with
            | zero => intro e g hme; exact absurd hme (Nat.not_lt_zero _)
            | succ m9_2 ih2 =>
              intro e g hme he hie hr2 g1 g2 g3 g4 g5
              have hke := kd_le x e
              refine r_aload_n rfl rfl ?_
              refine s_getI (x := nI e) rfl flX1_28 rfl rfl g5 ?_
              refine r_aload_n rfl rfl ?_
              refine s_getI (x := nI x.1) rfl flX1_19 rfl rfl g2 ?_
              refine n_icmp_ge (tgt := 121) rfl rfl (by omega) (by omega) (fun h6 => ?_) (fun h6 => ?_)
              · have hEe : tE x j = e := by rw [hE, ← hr2]; exact run_n (by rw [kd_end h6]; omega)
                refine r_aload_n rfl rfl ?_
                refine s_getI (x := nI e) rfl flX1_28 rfl rfl g5 ?_
                refine r_aload_n rfl rfl ?_
                refine s_getI (x := nI i) rfl flX1_25 rfl rfl g4 ?_
                refine n_isub rfl (by omega) ?_
                refine r_aload_n rfl rfl ?_
                refine s_getI (x := nI (kd x i)) rfl flX1_22 rfl rfl g3 ?_
                refine n_iconst 1 rfl ?_
                refine n_icmp_ne (tgt := 143) rfl rfl (by omega) (by omega) (fun h8 => ?_) (fun h8 => ?_)
                · refine n_bipush 7 rfl (by decide) ?_
                  refine n_icmp_le (tgt := 153) rfl rfl (by omega) (by omega) (fun h9 => ?_) (fun h9 => ?_)
                  · have hK : tK x j = kd x i := by unfold tK; rw [hEe, hS, if_neg (by omega)]
                    exact s_vret (st := []) rfl rfl (Nat.zero_le _) (Nat.zero_le _) (⟨rfl, _, rfl, g1, g2, g3.trans (congrArg nI hK.symm), g4.trans (congrArg nI hS.symm), g5.trans (congrArg nI hEe.symm)⟩)
                  · have hK : tK x j = 5 := by unfold tK; rw [hEe, hS, if_pos (by omega)]
                    refine r_aload_n rfl rfl ?_
                    refine n_iconst 5 rfl ?_
                    refine m_putI (L' := [(2, (aup g 3 (nI 5)))]) rfl flX1_22 rfl rfl (okv_i _) rfl ?_
                    exact s_vret (st := []) rfl rfl (Nat.zero_le _) (Nat.zero_le _) (⟨rfl, _, rfl, g1, g2, congrArg nI hK.symm, g4.trans (congrArg nI hS.symm), g5.trans (congrArg nI hEe.symm)⟩)
                · refine n_bipush 8 rfl (by decide) ?_
                  refine r_goto (tgt := 145) rfl rfl ?_
                  refine n_icmp_le (tgt := 153) rfl rfl (by omega) (by omega) (fun h9 => ?_) (fun h9 => ?_)
                  · have hK : tK x j = kd x i := by unfold tK; rw [hEe, hS, if_neg (by omega)]
                    exact s_vret (st := []) rfl rfl (Nat.zero_le _) (Nat.zero_le _) (⟨rfl, _, rfl, g1, g2, g3.trans (congrArg nI hK.symm), g4.trans (congrArg nI hS.symm), g5.trans (congrArg nI hEe.symm)⟩)
                  · have hK : tK x j = 5 := by unfold tK; rw [hEe, hS, if_pos (by omega)]
                    refine r_aload_n rfl rfl ?_
                    refine n_iconst 5 rfl ?_
                    refine m_putI (L' := [(2, (aup g 3 (nI 5)))]) rfl flX1_22 rfl rfl (okv_i _) rfl ?_
                    exact s_vret (st := []) rfl rfl (Nat.zero_le _) (Nat.zero_le _) (⟨rfl, _, rfl, g1, g2, congrArg nI hK.symm, g4.trans (congrArg nI hS.symm), g5.trans (congrArg nI hEe.symm)⟩)
              · refine r_aload_n rfl rfl ?_
                refine r_aload_n rfl rfl ?_
                refine s_getI (x := nI e) rfl flX1_28 rfl rfl g5 ?_
                refine s_virI [.int (nI e)] [] rfl lkX1_34 rfl rfl rfl (c_kindAt hx hb hT g2 (by omega)) rfl rfl (Nat.le_refl _) (Nat.le_refl _) rfl (rI (e1 := nI (kd x e)) rfl ?_)
                refine r_aload_n rfl rfl ?_
                refine s_getI (x := nI (kd x i)) rfl flX1_22 rfl rfl g3 ?_
                refine n_icmp_ne (tgt := 121) rfl rfl (by omega) (by omega) (fun h7 => ?_) (fun h7 => ?_)
                · have hEe : tE x j = e := by rw [hE, ← hr2]; exact run_n h7
                  refine r_aload_n rfl rfl ?_
                  refine s_getI (x := nI e) rfl flX1_28 rfl rfl g5 ?_
                  refine r_aload_n rfl rfl ?_
                  refine s_getI (x := nI i) rfl flX1_25 rfl rfl g4 ?_
                  refine n_isub rfl (by omega) ?_
                  refine r_aload_n rfl rfl ?_
                  refine s_getI (x := nI (kd x i)) rfl flX1_22 rfl rfl g3 ?_
                  refine n_iconst 1 rfl ?_
                  refine n_icmp_ne (tgt := 143) rfl rfl (by omega) (by omega) (fun h8 => ?_) (fun h8 => ?_)
                  · refine n_bipush 7 rfl (by decide) ?_
                    refine n_icmp_le (tgt := 153) rfl rfl (by omega) (by omega) (fun h9 => ?_) (fun h9 => ?_)
                    · have hK : tK x j = kd x i := by unfold tK; rw [hEe, hS, if_neg (by omega)]
                      exact s_vret (st := []) rfl rfl (Nat.zero_le _) (Nat.zero_le _) (⟨rfl, _, rfl, g1, g2, g3.trans (congrArg nI hK.symm), g4.trans (congrArg nI hS.symm), g5.trans (congrArg nI hEe.symm)⟩)
                    · have hK : tK x j = 5 := by unfold tK; rw [hEe, hS, if_pos (by omega)]
                      refine r_aload_n rfl rfl ?_
                      refine n_iconst 5 rfl ?_
                      refine m_putI (L' := [(2, (aup g 3 (nI 5)))]) rfl flX1_22 rfl rfl (okv_i _) rfl ?_
                      exact s_vret (st := []) rfl rfl (Nat.zero_le _) (Nat.zero_le _) (⟨rfl, _, rfl, g1, g2, congrArg nI hK.symm, g4.trans (congrArg nI hS.symm), g5.trans (congrArg nI hEe.symm)⟩)
                  · refine n_bipush 8 rfl (by decide) ?_
                    refine r_goto (tgt := 145) rfl rfl ?_
                    refine n_icmp_le (tgt := 153) rfl rfl (by omega) (by omega) (fun h9 => ?_) (fun h9 => ?_)
                    · have hK : tK x j = kd x i := by unfold tK; rw [hEe, hS, if_neg (by omega)]
                      exact s_vret (st := []) rfl rfl (Nat.zero_le _) (Nat.zero_le _) (⟨rfl, _, rfl, g1, g2, g3.trans (congrArg nI hK.symm), g4.trans (congrArg nI hS.symm), g5.trans (congrArg nI hEe.symm)⟩)
                    · have hK : tK x j = 5 := by unfold tK; rw [hEe, hS, if_pos (by omega)]
                      refine r_aload_n rfl rfl ?_
                      refine n_iconst 5 rfl ?_
                      refine m_putI (L' := [(2, (aup g 3 (nI 5)))]) rfl flX1_22 rfl rfl (okv_i _) rfl ?_
                      exact s_vret (st := []) rfl rfl (Nat.zero_le _) (Nat.zero_le _) (⟨rfl, _, rfl, g1, g2, congrArg nI hK.symm, g4.trans (congrArg nI hS.symm), g5.trans (congrArg nI hEe.symm)⟩)
                · refine r_aload_n rfl rfl ?_
                  refine r_dup rfl rfl ?_
                  refine s_getI (x := nI e) rfl flX1_28 rfl rfl g5 ?_
                  refine n_iconst 1 rfl ?_
                  refine n_iadd rfl ?_
                  refine m_putI (L' := [(2, (aup g 5 (nI (e + 1))))]) rfl flX1_28 rfl rfl (okv_i _) rfl ?_
                  refine r_goto (tgt := 82) rfl rfl ?_
                  refine r_lv (lv' := [(0, .ref 2)]) [0] rfl ?_
                  exact ih2 (e + 1) _ (by omega) (by omega) (by omega) (by rw [← run_y (by omega) h7]; exact hr2) g1 g2 g3 g4 rfl
          exact loop2 (x.1 + 2) (i + 1) _ (by omega) (by omega) (Nat.le_refl _) rfl f1 f2 rfl f4 rfl
        · refine r_aload_n rfl rfl ?_
          refine s_getI (x := nI (kd x i)) rfl flX1_22 rfl rfl rfl ?_
          refine n_iconst 2 rfl ?_
          refine n_icmp_ne (tgt := 153) rfl rfl (by omega) (by omega) (fun h5 => ?_) (fun h5 => ?_)
          · have hE : tE x j = i + 1 := by unfold tE; rw [hS, if_neg (by omega)]
            have hK : tK x j = kd x i := by unfold tK; rw [hS, if_neg (by omega)]
            exact s_vret (st := []) rfl rfl (Nat.zero_le _) (Nat.zero_le _) (⟨rfl, _, rfl, f1, f2, congrArg nI hK.symm, f4.trans (congrArg nI hS.symm), congrArg nI hE.symm⟩)
          · have hin : i < x.1 := kd_in (by omega)
            have hE : tE x j = run x (kd x i) (i + 1) := by unfold tE; rw [hS, if_pos (by omega)]
            refine r_lv (lv' := [(0, .ref 2)]) [0] rfl ?_
            have loop2 : ∀ (m9_2 : Nat) (e : Nat) (g : Nat → Int32), x.1 + 1 - e < m9_2 → (e ≤ x.1) → (i + 1 ≤ e) → (run x (kd x i) e = run x (kd x i) (i + 1)) → (g 1 = σ.1 2 1) → (g 2 = nI x.1) → (g 3 = nI (kd x i)) → (g 4 = nI i) → (g 5 = nI e) → Ws z sc mX1_advance 0 0 0 0 82 [(0, .ref 2)] [] (mz σ [(2, g)] []) (RV fun σ' => ∃ f, σ' = mz σ [(2, f)] [] ∧ f 1 = σ.1 2 1 ∧ CT f x j) := by
              intro m9_2
              induction m9_2 with
              | zero => intro e g hme; exact absurd hme (Nat.not_lt_zero _)
              | succ m9_2 ih2 =>
                intro e g hme he hie hr2 g1 g2 g3 g4 g5
                have hke := kd_le x e
                refine r_aload_n rfl rfl ?_
                refine s_getI (x := nI e) rfl flX1_28 rfl rfl g5 ?_
                refine r_aload_n rfl rfl ?_
                refine s_getI (x := nI x.1) rfl flX1_19 rfl rfl g2 ?_
                refine n_icmp_ge (tgt := 121) rfl rfl (by omega) (by omega) (fun h6 => ?_) (fun h6 => ?_)
                · have hEe : tE x j = e := by rw [hE, ← hr2]; exact run_n (by rw [kd_end h6]; omega)
                  refine r_aload_n rfl rfl ?_
                  refine s_getI (x := nI e) rfl flX1_28 rfl rfl g5 ?_
                  refine r_aload_n rfl rfl ?_
                  refine s_getI (x := nI i) rfl flX1_25 rfl rfl g4 ?_
                  refine n_isub rfl (by omega) ?_
                  refine r_aload_n rfl rfl ?_
                  refine s_getI (x := nI (kd x i)) rfl flX1_22 rfl rfl g3 ?_
                  refine n_iconst 1 rfl ?_
                  refine n_icmp_ne (tgt := 143) rfl rfl (by omega) (by omega) (fun h8 => ?_) (fun h8 => ?_)
                  · refine n_bipush 7 rfl (by decide) ?_
                    refine n_icmp_le (tgt := 153) rfl rfl (by omega) (by omega) (fun h9 => ?_) (fun h9 => ?_)
                    · have hK : tK x j = kd x i := by unfold tK; rw [hEe, hS, if_neg (by omega)]
                      exact s_vret (st := []) rfl rfl (Nat.zero_le _) (Nat.zero_le _) (⟨rfl, _, rfl, g1, g2, g3.trans (congrArg nI hK.symm), g4.trans (congrArg nI hS.symm), g5.trans (congrArg nI hEe.symm)⟩)
                    · have hK : tK x j = 5 := by unfold tK; rw [hEe, hS, if_pos (by omega)]
                      refine r_aload_n rfl rfl ?_
                      refine n_iconst 5 rfl ?_
                      refine m_putI (L' := [(2, (aup g 3 (nI 5)))]) rfl flX1_22 rfl rfl (okv_i _) rfl ?_
                      exact s_vret (st := []) rfl rfl (Nat.zero_le _) (Nat.zero_le _) (⟨rfl, _, rfl, g1, g2, congrArg nI hK.symm, g4.trans (congrArg nI hS.symm), g5.trans (congrArg nI hEe.symm)⟩)
                  · refine n_bipush 8 rfl (by decide) ?_
                    refine r_goto (tgt := 145) rfl rfl ?_
                    refine n_icmp_le (tgt := 153) rfl rfl (by omega) (by omega) (fun h9 => ?_) (fun h9 => ?_)
                    · have hK : tK x j = kd x i := by unfold tK; rw [hEe, hS, if_neg (by omega)]
                      exact s_vret (st := []) rfl rfl (Nat.zero_le _) (Nat.zero_le _) (⟨rfl, _, rfl, g1, g2, g3.trans (congrArg nI hK.symm), g4.trans (congrArg nI hS.symm), g5.trans (congrArg nI hEe.symm)⟩)
                    · have hK : tK x j = 5 := by unfold tK; rw [hEe, hS, if_pos (by omega)]
                      refine r_aload_n rfl rfl ?_
                      refine n_iconst 5 rfl ?_
                      refine m_putI (L' := [(2, (aup g 3 (nI 5)))]) rfl flX1_22 rfl rfl (okv_i _) rfl ?_
                      exact s_vret (st := []) rfl rfl (Nat.zero_le _) (Nat.zero_le _) (⟨rfl, _, rfl, g1, g2, congrArg nI hK.symm, g4.trans (congrArg nI hS.symm), g5.trans (congrArg nI hEe.symm)⟩)
                · refine r_aload_n rfl rfl ?_
                  refine r_aload_n rfl rfl ?_
                  refine s_getI (x := nI e) rfl flX1_28 rfl rfl g5 ?_
                  refine s_virI [.int (nI e)] [] rfl lkX1_34 rfl rfl rfl (c_kindAt hx hb hT g2 (by omega)) rfl rfl (Nat.le_refl _) (Nat.le_refl _) rfl (rI (e1 := nI (kd x e)) rfl ?_)
                  refine r_aload_n rfl rfl ?_
                  refine s_getI (x := nI (kd x i)) rfl flX1_22 rfl rfl g3 ?_
                  refine n_icmp_ne (tgt := 121) rfl rfl (by omega) (by omega) (fun h7 => ?_) (fun h7 => ?_)
                  · have hEe : tE x j = e := by rw [hE, ← hr2]; exact run_n h7
                    refine r_aload_n rfl rfl ?_
                    refine s_getI (x := nI e) rfl flX1_28 rfl rfl g5 ?_
                    refine r_aload_n rfl rfl ?_
                    refine s_getI (x := nI i) rfl flX1_25 rfl rfl g4 ?_
                    refine n_isub rfl (by omega) ?_
                    refine r_aload_n rfl rfl ?_
                    refine s_getI (x := nI (kd x i)) rfl flX1_22 rfl rfl g3 ?_
                    refine n_iconst 1 rfl ?_
                    refine n_icmp_ne (tgt := 143) rfl rfl (by omega) (by omega) (fun h8 => ?_) (fun h8 => ?_)
                    · refine n_bipush 7 rfl (by decide) ?_
                      refine n_icmp_le (tgt := 153) rfl rfl (by omega) (by omega) (fun h9 => ?_) (fun h9 => ?_)
                      · have hK : tK x j = kd x i := by unfold tK; rw [hEe, hS, if_neg (by omega)]
                        exact s_vret (st := []) rfl rfl (Nat.zero_le _) (Nat.zero_le _) (⟨rfl, _, rfl, g1, g2, g3.trans (congrArg nI hK.symm), g4.trans (congrArg nI hS.symm), g5.trans (congrArg nI hEe.symm)⟩)
                      · have hK : tK x j = 5 := by unfold tK; rw [hEe, hS, if_pos (by omega)]
                        refine r_aload_n rfl rfl ?_
                        refine n_iconst 5 rfl ?_
                        refine m_putI (L' := [(2, (aup g 3 (nI 5)))]) rfl flX1_22 rfl rfl (okv_i _) rfl ?_
                        exact s_vret (st := []) rfl rfl (Nat.zero_le _) (Nat.zero_le _) (⟨rfl, _, rfl, g1, g2, congrArg nI hK.symm, g4.trans (congrArg nI hS.symm), g5.trans (congrArg nI hEe.symm)⟩)
                    · refine n_bipush 8 rfl (by decide) ?_
                      refine r_goto (tgt := 145) rfl rfl ?_
                      refine n_icmp_le (tgt := 153) rfl rfl (by omega) (by omega) (fun h9 => ?_) (fun h9 => ?_)
                      · have hK : tK x j = kd x i := by unfold tK; rw [hEe, hS, if_neg (by omega)]
                        exact s_vret (st := []) rfl rfl (Nat.zero_le _) (Nat.zero_le _) (⟨rfl, _, rfl, g1, g2, g3.trans (congrArg nI hK.symm), g4.trans (congrArg nI hS.symm), g5.trans (congrArg nI hEe.symm)⟩)
                      · have hK : tK x j = 5 := by unfold tK; rw [hEe, hS, if_pos (by omega)]
                        refine r_aload_n rfl rfl ?_
                        refine n_iconst 5 rfl ?_
                        refine m_putI (L' := [(2, (aup g 3 (nI 5)))]) rfl flX1_22 rfl rfl (okv_i _) rfl ?_
                        exact s_vret (st := []) rfl rfl (Nat.zero_le _) (Nat.zero_le _) (⟨rfl, _, rfl, g1, g2, congrArg nI hK.symm, g4.trans (congrArg nI hS.symm), g5.trans (congrArg nI hEe.symm)⟩)
                  · refine r_aload_n rfl rfl ?_
                    refine r_dup rfl rfl ?_
                    refine s_getI (x := nI e) rfl flX1_28 rfl rfl g5 ?_
                    refine n_iconst 1 rfl ?_
                    refine n_iadd rfl ?_
                    refine m_putI (L' := [(2, (aup g 5 (nI (e + 1))))]) rfl flX1_28 rfl rfl (okv_i _) rfl ?_
                    refine r_goto (tgt := 82) rfl rfl ?_
                    refine r_lv (lv' := [(0, .ref 2)]) [0] rfl ?_
                    exact ih2 (e + 1) _ (by omega) (by omega) (by omega) (by rw [← run_y (by omega) h7]; exact hr2) g1 g2 g3 g4 rfl
            exact loop2 (x.1 + 2) (i + 1) _ (by omega) (by omega) (Nat.le_refl _) rfl f1 f2 rfl f4 rfl
      · refine r_aload_n rfl rfl ?_
        refine r_aload_n rfl rfl ?_
        refine s_getI (x := nI i) rfl flX1_25 rfl rfl f4 ?_
        refine s_virI [.int (nI i)] [] rfl lkX1_34 rfl rfl rfl (c_kindAt hx hb hT f2 (by omega)) rfl rfl (Nat.le_refl _) (Nat.le_refl _) rfl (rI (e1 := nI (kd x i)) rfl ?_)
        refine n_iconst 4 rfl ?_
        have hkl9 := kd_le x i
        refine n_icmp_ne (tgt := 44) rfl rfl (by omega) (by omega) (fun h3 => ?_) (fun h3 => ?_)
        · have hS : tS x j = i := by unfold tS; rw [← hr]; exact run_n h3
          refine r_aload_n rfl rfl ?_
          refine r_aload_n rfl rfl ?_
          refine r_aload_n rfl rfl ?_
          refine s_getI (x := nI i) rfl flX1_25 rfl rfl f4 ?_
          refine s_virI [.int (nI i)] [.ref 2] rfl lkX1_34 rfl rfl rfl (c_kindAt hx hb hT f2 (by omega)) rfl rfl (Nat.le_refl _) (Nat.le_refl _) rfl (rI (e1 := nI (kd x i)) rfl ?_)
          refine m_putI (L' := [(2, (aup f 3 (nI (kd x i))))]) rfl flX1_22 rfl rfl (okv_i _) rfl ?_
          refine r_aload_n rfl rfl ?_
          refine r_aload_n rfl rfl ?_
          refine s_getI (x := nI i) rfl flX1_25 rfl rfl f4 ?_
          refine n_iconst 1 rfl ?_
          refine n_iadd rfl ?_
          refine m_putI (L' := [(2, (aup (aup f 3 (nI (kd x i))) 5 (nI (i + 1))))]) rfl flX1_28 rfl rfl (okv_i _) rfl ?_
          refine r_aload_n rfl rfl ?_
          refine s_getI (x := nI (kd x i)) rfl flX1_22 rfl rfl rfl ?_
          refine n_iconst 1 rfl ?_
          have hkl := kd_le x i
          refine n_icmp_eq (tgt := 82) rfl rfl (by omega) (by omega) (fun h4 => ?_) (fun h4 => ?_)
          · have hin : i < x.1 := kd_in (by omega)
            have hE : tE x j = run x (kd x i) (i + 1) := by unfold tE; rw [hS, if_pos (by omega)]
            refine r_lv (lv' := [(0, .ref 2)]) [0] rfl ?_
            have loop2 : ∀ (m9_2 : Nat) (e : Nat) (g : Nat → Int32), x.1 + 1 - e < m9_2 → (e ≤ x.1) → (i + 1 ≤ e) → (run x (kd x i) e = run x (kd x i) (i + 1)) → (g 1 = σ.1 2 1) → (g 2 = nI x.1) → (g 3 = nI (kd x i)) → (g 4 = nI i) → (g 5 = nI e) → Ws z sc mX1_advance 0 0 0 0 82 [(0, .ref 2)] [] (mz σ [(2, g)] []) (RV fun σ' => ∃ f, σ' = mz σ [(2, f)] [] ∧ f 1 = σ.1 2 1 ∧ CT f x j) := by
              intro m9_2
              induction m9_2 with
              | zero => intro e g hme; exact absurd hme (Nat.not_lt_zero _)
              | succ m9_2 ih2 =>
                intro e g hme he hie hr2 g1 g2 g3 g4 g5
                have hke := kd_le x e
                refine r_aload_n rfl rfl ?_
                refine s_getI (x := nI e) rfl flX1_28 rfl rfl g5 ?_
                refine r_aload_n rfl rfl ?_
                refine s_getI (x := nI x.1) rfl flX1_19 rfl rfl g2 ?_
                refine n_icmp_ge (tgt := 121) rfl rfl (by omega) (by omega) (fun h6 => ?_) (fun h6 => ?_)
                · have hEe : tE x j = e := by rw [hE, ← hr2]; exact run_n (by rw [kd_end h6]; omega)
                  refine r_aload_n rfl rfl ?_
                  refine s_getI (x := nI e) rfl flX1_28 rfl rfl g5 ?_
                  refine r_aload_n rfl rfl ?_
                  refine s_getI (x := nI i) rfl flX1_25 rfl rfl g4 ?_
                  refine n_isub rfl (by omega) ?_
                  refine r_aload_n rfl rfl ?_
                  refine s_getI (x := nI (kd x i)) rfl flX1_22 rfl rfl g3 ?_
                  refine n_iconst 1 rfl ?_
                  refine n_icmp_ne (tgt := 143) rfl rfl (by omega) (by omega) (fun h8 => ?_) (fun h8 => ?_)
                  · refine n_bipush 7 rfl (by decide) ?_
                    refine n_icmp_le (tgt := 153) rfl rfl (by omega) (by omega) (fun h9 => ?_) (fun h9 => ?_)
                    · have hK : tK x j = kd x i := by unfold tK; rw [hEe, hS, if_neg (by omega)]
                      exact s_vret (st := []) rfl rfl (Nat.zero_le _) (Nat.zero_le _) (⟨rfl, _, rfl, g1, g2, g3.trans (congrArg nI hK.symm), g4.trans (congrArg nI hS.symm), g5.trans (congrArg nI hEe.symm)⟩)
                    · have hK : tK x j = 5 := by unfold tK; rw [hEe, hS, if_pos (by omega)]
                      refine r_aload_n rfl rfl ?_
                      refine n_iconst 5 rfl ?_
                      refine m_putI (L' := [(2, (aup g 3 (nI 5)))]) rfl flX1_22 rfl rfl (okv_i _) rfl ?_
                      exact s_vret (st := []) rfl rfl (Nat.zero_le _) (Nat.zero_le _) (⟨rfl, _, rfl, g1, g2, congrArg nI hK.symm, g4.trans (congrArg nI hS.symm), g5.trans (congrArg nI hEe.symm)⟩)
                  · refine n_bipush 8 rfl (by decide) ?_
                    refine r_goto (tgt := 145) rfl rfl ?_
                    refine n_icmp_le (tgt := 153) rfl rfl (by omega) (by omega) (fun h9 => ?_) (fun h9 => ?_)
                    · have hK : tK x j = kd x i := by unfold tK; rw [hEe, hS, if_neg (by omega)]
                      exact s_vret (st := []) rfl rfl (Nat.zero_le _) (Nat.zero_le _) (⟨rfl, _, rfl, g1, g2, g3.trans (congrArg nI hK.symm), g4.trans (congrArg nI hS.symm), g5.trans (congrArg nI hEe.symm)⟩)
                    · have hK : tK x j = 5 := by unfold tK; rw [hEe, hS, if_pos (by omega)]
                      refine r_aload_n rfl rfl ?_
                      refine n_iconst 5 rfl ?_
                      refine m_putI (L' := [(2, (aup g 3 (nI 5)))]) rfl flX1_22 rfl rfl (okv_i _) rfl ?_
                      exact s_vret (st := []) rfl rfl (Nat.zero_le _) (Nat.zero_le _) (⟨rfl, _, rfl, g1, g2, congrArg nI hK.symm, g4.trans (congrArg nI hS.symm), g5.trans (congrArg nI hEe.symm)⟩)
                · refine r_aload_n rfl rfl ?_
                  refine r_aload_n rfl rfl ?_
                  refine s_getI (x := nI e) rfl flX1_28 rfl rfl g5 ?_
                  refine s_virI [.int (nI e)] [] rfl lkX1_34 rfl rfl rfl (c_kindAt hx hb hT g2 (by omega)) rfl rfl (Nat.le_refl _) (Nat.le_refl _) rfl (rI (e1 := nI (kd x e)) rfl ?_)
                  refine r_aload_n rfl rfl ?_
                  refine s_getI (x := nI (kd x i)) rfl flX1_22 rfl rfl g3 ?_
                  refine n_icmp_ne (tgt := 121) rfl rfl (by omega) (by omega) (fun h7 => ?_) (fun h7 => ?_)
                  · have hEe : tE x j = e := by rw [hE, ← hr2]; exact run_n h7
                    refine r_aload_n rfl rfl ?_
                    refine s_getI (x := nI e) rfl flX1_28 rfl rfl g5 ?_
                    refine r_aload_n rfl rfl ?_
                    refine s_getI (x := nI i) rfl flX1_25 rfl rfl g4 ?_
                    refine n_isub rfl (by omega) ?_
                    refine r_aload_n rfl rfl ?_
                    refine s_getI (x := nI (kd x i)) rfl flX1_22 rfl rfl g3 ?_
                    refine n_iconst 1 rfl ?_
                    refine n_icmp_ne (tgt := 143) rfl rfl (by omega) (by omega) (fun h8 => ?_) (fun h8 => ?_)
                    · refine n_bipush 7 rfl (by decide) ?_
                      refine n_icmp_le (tgt := 153) rfl rfl (by omega) (by omega) (fun h9 => ?_) (fun h9 => ?_)
                      · have hK : tK x j = kd x i := by unfold tK; rw [hEe, hS, if_neg (by omega)]
                        exact s_vret (st := []) rfl rfl (Nat.zero_le _) (Nat.zero_le _) (⟨rfl, _, rfl, g1, g2, g3.trans (congrArg nI hK.symm), g4.trans (congrArg nI hS.symm), g5.trans (congrArg nI hEe.symm)⟩)
                      · have hK : tK x j = 5 := by unfold tK; rw [hEe, hS, if_pos (by omega)]
                        refine r_aload_n rfl rfl ?_
                        refine n_iconst 5 rfl ?_
                        refine m_putI (L' := [(2, (aup g 3 (nI 5)))]) rfl flX1_22 rfl rfl (okv_i _) rfl ?_
                        exact s_vret (st := []) rfl rfl (Nat.zero_le _) (Nat.zero_le _) (⟨rfl, _, rfl, g1, g2, congrArg nI hK.symm, g4.trans (congrArg nI hS.symm), g5.trans (congrArg nI hEe.symm)⟩)
                    · refine n_bipush 8 rfl (by decide) ?_
                      refine r_goto (tgt := 145) rfl rfl ?_
                      refine n_icmp_le (tgt := 153) rfl rfl (by omega) (by omega) (fun h9 => ?_) (fun h9 => ?_)
                      · have hK : tK x j = kd x i := by unfold tK; rw [hEe, hS, if_neg (by omega)]
                        exact s_vret (st := []) rfl rfl (Nat.zero_le _) (Nat.zero_le _) (⟨rfl, _, rfl, g1, g2, g3.trans (congrArg nI hK.symm), g4.trans (congrArg nI hS.symm), g5.trans (congrArg nI hEe.symm)⟩)
                      · have hK : tK x j = 5 := by unfold tK; rw [hEe, hS, if_pos (by omega)]
                        refine r_aload_n rfl rfl ?_
                        refine n_iconst 5 rfl ?_
                        refine m_putI (L' := [(2, (aup g 3 (nI 5)))]) rfl flX1_22 rfl rfl (okv_i _) rfl ?_
                        exact s_vret (st := []) rfl rfl (Nat.zero_le _) (Nat.zero_le _) (⟨rfl, _, rfl, g1, g2, congrArg nI hK.symm, g4.trans (congrArg nI hS.symm), g5.trans (congrArg nI hEe.symm)⟩)
                  · refine r_aload_n rfl rfl ?_
                    refine r_dup rfl rfl ?_
                    refine s_getI (x := nI e) rfl flX1_28 rfl rfl g5 ?_
                    refine n_iconst 1 rfl ?_
                    refine n_iadd rfl ?_
                    refine m_putI (L' := [(2, (aup g 5 (nI (e + 1))))]) rfl flX1_28 rfl rfl (okv_i _) rfl ?_
                    refine r_goto (tgt := 82) rfl rfl ?_
                    refine r_lv (lv' := [(0, .ref 2)]) [0] rfl ?_
                    exact ih2 (e + 1) _ (by omega) (by omega) (by omega) (by rw [← run_y (by omega) h7]; exact hr2) g1 g2 g3 g4 rfl
            exact loop2 (x.1 + 2) (i + 1) _ (by omega) (by omega) (Nat.le_refl _) rfl f1 f2 rfl f4 rfl
          · refine r_aload_n rfl rfl ?_
            refine s_getI (x := nI (kd x i)) rfl flX1_22 rfl rfl rfl ?_
            refine n_iconst 2 rfl ?_
            refine n_icmp_ne (tgt := 153) rfl rfl (by omega) (by omega) (fun h5 => ?_) (fun h5 => ?_)
            · have hE : tE x j = i + 1 := by unfold tE; rw [hS, if_neg (by omega)]
              have hK : tK x j = kd x i := by unfold tK; rw [hS, if_neg (by omega)]
              exact s_vret (st := []) rfl rfl (Nat.zero_le _) (Nat.zero_le _) (⟨rfl, _, rfl, f1, f2, congrArg nI hK.symm, f4.trans (congrArg nI hS.symm), congrArg nI hE.symm⟩)
            · have hin : i < x.1 := kd_in (by omega)
              have hE : tE x j = run x (kd x i) (i + 1) := by unfold tE; rw [hS, if_pos (by omega)]
              refine r_lv (lv' := [(0, .ref 2)]) [0] rfl ?_
              have loop2 : ∀ (m9_2 : Nat) (e : Nat) (g : Nat → Int32), x.1 + 1 - e < m9_2 → (e ≤ x.1) → (i + 1 ≤ e) → (run x (kd x i) e = run x (kd x i) (i + 1)) → (g 1 = σ.1 2 1) → (g 2 = nI x.1) → (g 3 = nI (kd x i)) → (g 4 = nI i) → (g 5 = nI e) → Ws z sc mX1_advance 0 0 0 0 82 [(0, .ref 2)] [] (mz σ [(2, g)] []) (RV fun σ' => ∃ f, σ' = mz σ [(2, f)] [] ∧ f 1 = σ.1 2 1 ∧ CT f x j) := by
                intro m9_2
                induction m9_2 with
                | zero => intro e g hme; exact absurd hme (Nat.not_lt_zero _)
                | succ m9_2 ih2 =>
                  intro e g hme he hie hr2 g1 g2 g3 g4 g5
                  have hke := kd_le x e
                  refine r_aload_n rfl rfl ?_
                  refine s_getI (x := nI e) rfl flX1_28 rfl rfl g5 ?_
                  refine r_aload_n rfl rfl ?_
                  refine s_getI (x := nI x.1) rfl flX1_19 rfl rfl g2 ?_
                  refine n_icmp_ge (tgt := 121) rfl rfl (by omega) (by omega) (fun h6 => ?_) (fun h6 => ?_)
                  · have hEe : tE x j = e := by rw [hE, ← hr2]; exact run_n (by rw [kd_end h6]; omega)
                    refine r_aload_n rfl rfl ?_
                    refine s_getI (x := nI e) rfl flX1_28 rfl rfl g5 ?_
                    refine r_aload_n rfl rfl ?_
                    refine s_getI (x := nI i) rfl flX1_25 rfl rfl g4 ?_
                    refine n_isub rfl (by omega) ?_
                    refine r_aload_n rfl rfl ?_
                    refine s_getI (x := nI (kd x i)) rfl flX1_22 rfl rfl g3 ?_
                    refine n_iconst 1 rfl ?_
                    refine n_icmp_ne (tgt := 143) rfl rfl (by omega) (by omega) (fun h8 => ?_) (fun h8 => ?_)
                    · refine n_bipush 7 rfl (by decide) ?_
                      refine n_icmp_le (tgt := 153) rfl rfl (by omega) (by omega) (fun h9 => ?_) (fun h9 => ?_)
                      · have hK : tK x j = kd x i := by unfold tK; rw [hEe, hS, if_neg (by omega)]
                        exact s_vret (st := []) rfl rfl (Nat.zero_le _) (Nat.zero_le _) (⟨rfl, _, rfl, g1, g2, g3.trans (congrArg nI hK.symm), g4.trans (congrArg nI hS.symm), g5.trans (congrArg nI hEe.symm)⟩)
                      · have hK : tK x j = 5 := by unfold tK; rw [hEe, hS, if_pos (by omega)]
                        refine r_aload_n rfl rfl ?_
                        refine n_iconst 5 rfl ?_
                        refine m_putI (L' := [(2, (aup g 3 (nI 5)))]) rfl flX1_22 rfl rfl (okv_i _) rfl ?_
                        exact s_vret (st := []) rfl rfl (Nat.zero_le _) (Nat.zero_le _) (⟨rfl, _, rfl, g1, g2, congrArg nI hK.symm, g4.trans (congrArg nI hS.symm), g5.trans (congrArg nI hEe.symm)⟩)
                    · refine n_bipush 8 rfl (by decide) ?_
                      refine r_goto (tgt := 145) rfl rfl ?_
                      refine n_icmp_le (tgt := 153) rfl rfl (by omega) (by omega) (fun h9 => ?_) (fun h9 => ?_)
                      · have hK : tK x j = kd x i := by unfold tK; rw [hEe, hS, if_neg (by omega)]
                        exact s_vret (st := []) rfl rfl (Nat.zero_le _) (Nat.zero_le _) (⟨rfl, _, rfl, g1, g2, g3.trans (congrArg nI hK.symm), g4.trans (congrArg nI hS.symm), g5.trans (congrArg nI hEe.symm)⟩)
                      · have hK : tK x j = 5 := by unfold tK; rw [hEe, hS, if_pos (by omega)]
                        refine r_aload_n rfl rfl ?_
                        refine n_iconst 5 rfl ?_
                        refine m_putI (L' := [(2, (aup g 3 (nI 5)))]) rfl flX1_22 rfl rfl (okv_i _) rfl ?_
                        exact s_vret (st := []) rfl rfl (Nat.zero_le _) (Nat.zero_le _) (⟨rfl, _, rfl, g1, g2, congrArg nI hK.symm, g4.trans (congrArg nI hS.symm), g5.trans (congrArg nI hEe.symm)⟩)
                  · refine r_aload_n rfl rfl ?_
                    refine r_aload_n rfl rfl ?_
                    refine s_getI (x := nI e) rfl flX1_28 rfl rfl g5 ?_
                    refine s_virI [.int (nI e)] [] rfl lkX1_34 rfl rfl rfl (c_kindAt hx hb hT g2 (by omega)) rfl rfl (Nat.le_refl _) (Nat.le_refl _) rfl (rI (e1 := nI (kd x e)) rfl ?_)
                    refine r_aload_n rfl rfl ?_
                    refine s_getI (x := nI (kd x i)) rfl flX1_22 rfl rfl g3 ?_
                    refine n_icmp_ne (tgt := 121) rfl rfl (by omega) (by omega) (fun h7 => ?_) (fun h7 => ?_)
                    · have hEe : tE x j = e := by rw [hE, ← hr2]; exact run_n h7
                      refine r_aload_n rfl rfl ?_
                      refine s_getI (x := nI e) rfl flX1_28 rfl rfl g5 ?_
                      refine r_aload_n rfl rfl ?_
                      refine s_getI (x := nI i) rfl flX1_25 rfl rfl g4 ?_
                      refine n_isub rfl (by omega) ?_
                      refine r_aload_n rfl rfl ?_
                      refine s_getI (x := nI (kd x i)) rfl flX1_22 rfl rfl g3 ?_
                      refine n_iconst 1 rfl ?_
                      refine n_icmp_ne (tgt := 143) rfl rfl (by omega) (by omega) (fun h8 => ?_) (fun h8 => ?_)
                      · refine n_bipush 7 rfl (by decide) ?_
                        refine n_icmp_le (tgt := 153) rfl rfl (by omega) (by omega) (fun h9 => ?_) (fun h9 => ?_)
                        · have hK : tK x j = kd x i := by unfold tK; rw [hEe, hS, if_neg (by omega)]
                          exact s_vret (st := []) rfl rfl (Nat.zero_le _) (Nat.zero_le _) (⟨rfl, _, rfl, g1, g2, g3.trans (congrArg nI hK.symm), g4.trans (congrArg nI hS.symm), g5.trans (congrArg nI hEe.symm)⟩)
                        · have hK : tK x j = 5 := by unfold tK; rw [hEe, hS, if_pos (by omega)]
                          refine r_aload_n rfl rfl ?_
                          refine n_iconst 5 rfl ?_
                          refine m_putI (L' := [(2, (aup g 3 (nI 5)))]) rfl flX1_22 rfl rfl (okv_i _) rfl ?_
                          exact s_vret (st := []) rfl rfl (Nat.zero_le _) (Nat.zero_le _) (⟨rfl, _, rfl, g1, g2, congrArg nI hK.symm, g4.trans (congrArg nI hS.symm), g5.trans (congrArg nI hEe.symm)⟩)
                      · refine n_bipush 8 rfl (by decide) ?_
                        refine r_goto (tgt := 145) rfl rfl ?_
                        refine n_icmp_le (tgt := 153) rfl rfl (by omega) (by omega) (fun h9 => ?_) (fun h9 => ?_)
                        · have hK : tK x j = kd x i := by unfold tK; rw [hEe, hS, if_neg (by omega)]
                          exact s_vret (st := []) rfl rfl (Nat.zero_le _) (Nat.zero_le _) (⟨rfl, _, rfl, g1, g2, g3.trans (congrArg nI hK.symm), g4.trans (congrArg nI hS.symm), g5.trans (congrArg nI hEe.symm)⟩)
                        · have hK : tK x j = 5 := by unfold tK; rw [hEe, hS, if_pos (by omega)]
                          refine r_aload_n rfl rfl ?_
                          refine n_iconst 5 rfl ?_
                          refine m_putI (L' := [(2, (aup g 3 (nI 5)))]) rfl flX1_22 rfl rfl (okv_i _) rfl ?_
                          exact s_vret (st := []) rfl rfl (Nat.zero_le _) (Nat.zero_le _) (⟨rfl, _, rfl, g1, g2, congrArg nI hK.symm, g4.trans (congrArg nI hS.symm), g5.trans (congrArg nI hEe.symm)⟩)
                    · refine r_aload_n rfl rfl ?_
                      refine r_dup rfl rfl ?_
                      refine s_getI (x := nI e) rfl flX1_28 rfl rfl g5 ?_
                      refine n_iconst 1 rfl ?_
                      refine n_iadd rfl ?_
                      refine m_putI (L' := [(2, (aup g 5 (nI (e + 1))))]) rfl flX1_28 rfl rfl (okv_i _) rfl ?_
                      refine r_goto (tgt := 82) rfl rfl ?_
                      refine r_lv (lv' := [(0, .ref 2)]) [0] rfl ?_
                      exact ih2 (e + 1) _ (by omega) (by omega) (by omega) (by rw [← run_y (by omega) h7]; exact hr2) g1 g2 g3 g4 rfl
              exact loop2 (x.1 + 2) (i + 1) _ (by omega) (by omega) (Nat.le_refl _) rfl f1 f2 rfl f4 rfl
        · refine r_aload_n rfl rfl ?_
          refine r_dup rfl rfl ?_
          refine s_getI (x := nI i) rfl flX1_25 rfl rfl f4 ?_
          refine n_iconst 1 rfl ?_
          refine n_iadd rfl ?_
          refine m_putI (L' := [(2, (aup f 4 (nI (i + 1))))]) rfl flX1_25 rfl rfl (okv_i _) rfl ?_
          refine r_goto (tgt := 8) rfl rfl ?_
          refine r_lv (lv' := [(0, .ref 2)]) [0] rfl ?_
          exact ih (i + 1) _ (by omega) (by omega) (by rw [← run_y (by decide) h3]; exact hr) f1 f2 rfl
  exact loop (x.1 + 3) j _ (by omega) hj rfl rfl h2 rfl

theorem c_open {z : SZ} {sc : SC} {σ : SS} {x : TX} (hx : x.1 ≤ 700) (hb : ∀ i, x.2 i < 256) (hT : ∀ i, i < x.1 → σ.1 3 i = bI (x.2 i)) : Cs z sc mX1_open 0 0 [.ref 2, .int (nI x.1)] σ (RV fun σ' => ∃ f, σ' = mz σ [(2, f)] [] ∧ f 1 = σ.1 2 1 ∧ CT f x 0) := by
  refine Cs.of gmX1_open (Nat.le_of_ble_eq_true rfl) ?_
  show Ws z sc mX1_open 0 0 0 0 0 [(0, .ref 2), (1, .int (nI x.1))] [] (mz σ [] []) (RV fun σ' => ∃ f, σ' = mz σ [(2, f)] [] ∧ f 1 = σ.1 2 1 ∧ CT f x 0)
  refine r_aload_n rfl rfl ?_
  refine r_iload_n rfl rfl ?_
  refine m_putI (L' := [(2, (aup (σ.1 2) 2 (nI x.1)))]) rfl flX1_19 rfl rfl (okv_i _) rfl ?_
  refine r_aload_n rfl rfl ?_
  refine n_iconst 0 rfl ?_
  refine m_putI (L' := [(2, (aup (aup (σ.1 2) 2 (nI x.1)) 5 (nI 0)))]) rfl flX1_28 rfl rfl (okv_i _) rfl ?_
  refine r_aload_n rfl rfl ?_
  refine s_virV [] [] rfl lkX1_31 rfl rfl rfl (c_adv (j := 0) hx hb hT rfl rfl (Nat.zero_le _)) rfl rfl (Nat.le_refl _) (Nat.le_refl _) rfl ?_
  rintro _ ⟨f, rfl, h1, h2⟩
  refine m_mz (L' := [(2, f)]) (M' := []) rfl rfl ?_
  exact s_vret (st := []) rfl rfl (Nat.zero_le _) (Nat.zero_le _) (⟨rfl, f, rfl, h1, h2⟩)

theorem c_word {z : SZ} {sc : SC} {σ : SS} {j : Nat} {x : TX} (hx : x.1 ≤ 700) (hb : ∀ i, x.2 i < 256) (hT : ∀ i, i < x.1 → σ.1 3 i = bI (x.2 i)) (hC : CT (σ.1 2) x j) (hk : tK x j = 1) : Cs z sc mX1_word 0 0 [.ref 2] σ (PL (lN (w27 (wl x j) 0)) σ) := by
  refine Cs.of gmX1_word (Nat.le_of_ble_eq_true rfl) ?_
  show Ws z sc mX1_word 0 0 0 0 0 [(0, .ref 2)] [] (mz σ [] []) (PL (lN (w27 (wl x j) 0)) σ)
  obtain ⟨h1, h2, h3⟩ := tK_1 hk
  have hgt := tE_gt x j
  refine n_lconst0 rfl ?_
  refine r_lstore_n (lv' := [(1, .long (lN 0)), (0, .ref 2)]) rfl rfl (Nat.le_of_ble_eq_true rfl) rfl ?_
  refine r_aload_n rfl rfl ?_
  refine s_getI (x := nI (tS x j)) rfl flX1_25 rfl rfl hC.2.2.1 ?_
  refine r_istore_n (lv' := [(3, .int (nI (tS x j))), (1, .long (lN 0)), (0, .ref 2)]) rfl rfl (Nat.le_of_ble_eq_true rfl) rfl ?_
  refine r_lv (lv' := [(3, .int (nI (tS x j + 0))), (0, .ref 2), (1, .long (lN (w27 (ltr x.2 (tS x j) 0) 0)))]) [0, 2, 1] rfl ?_
  have loop : ∀ (m9 : Nat) (i : Nat) , tE x j - tS x j - i < m9 → (tS x j + i ≤ tE x j) → Ws z sc mX1_word 0 0 0 0 7 [(3, .int (nI (tS x j + i))), (0, .ref 2), (1, .long (lN (w27 (ltr x.2 (tS x j) i) 0)))] [] (mz σ [] []) (PL (lN (w27 (wl x j) 0)) σ) := by
    intro m9
    induction m9 with
    | zero => intro i  hme; exact absurd hme (Nat.not_lt_zero _)
    | succ m9 ih =>
      intro i  hme hi
      refine r_iload_n rfl rfl ?_
      refine r_aload_n rfl rfl ?_
      refine s_getI (x := nI (tE x j)) rfl flX1_28 rfl rfl hC.2.2.2 ?_
      refine n_icmp_ge (tgt := 39) rfl rfl (by omega) (by omega) (fun h4 => ?_) (fun h4 => ?_)
      · have hie : i = tE x j - tS x j := by omega
        subst hie
        refine r_lload_n rfl rfl ?_
        exact s_lret (st := []) rfl rfl (Nat.zero_le _) (Nat.zero_le _) (pL rfl rfl)
      · have hkd := kd_1 (h2 (tS x j + i) (by omega) h4)
        refine r_lload_n rfl rfl ?_
        refine r_ldc2 (v := lN 27) rfl kcX1_50 ?_
        refine n_lmul rfl ?_
        refine r_aload_n rfl rfl ?_
        refine r_iload_n rfl rfl ?_
        refine s_virI [.int (nI (tS x j + i))] [.long (lN ((w27 (ltr x.2 (tS x j) i) 0) * 27))] rfl lkX1_43 rfl rfl rfl (c_byteAt (v := nI (x.2 (tS x j + i))) (by omega) ((hT _ (by omega)).trans (bI_p (by omega)))) rfl rfl (Nat.le_refl _) (Nat.le_refl _) rfl (rI (e1 := nI (x.2 (tS x j + i))) rfl ?_)
        refine n_bipush 97 rfl (by decide) ?_
        refine n_isub rfl (by omega) ?_
        refine n_iconst 1 rfl ?_
        refine n_iadd rfl ?_
        refine n_i2l rfl (by omega) ?_
        refine n_ladd rfl ?_
        refine r_topL (y := lN (w27 (ltr x.2 (tS x j) (i + 1)) 0)) (by rw [show ltr x.2 (tS x j) (i + 1) = ltr x.2 (tS x j) i ++ [x.2 (tS x j + i) - 96] from rfl, w27_snoc]; congr 1; omega) ?_
        refine r_lstore_n (lv' := [(1, .long (lN (w27 (ltr x.2 (tS x j) (i + 1)) 0))), (3, .int (nI (tS x j + i))), (0, .ref 2)]) rfl rfl (Nat.le_of_ble_eq_true rfl) rfl ?_
        refine n_iinc (lv' := [(3, .int (nI ((tS x j + i) + 1))), (1, .long (lN (w27 (ltr x.2 (tS x j) (i + 1)) 0))), (0, .ref 2)]) 1 rfl rfl (Nat.le_of_ble_eq_true rfl) rfl ?_
        refine r_goto (tgt := 7) rfl rfl ?_
        refine r_lv (lv' := [(3, .int (nI ((tS x j + i) + 1))), (0, .ref 2), (1, .long (lN (w27 (ltr x.2 (tS x j) (i + 1)) 0)))]) [0, 2, 1] rfl ?_
        exact ih (i + 1) (by omega) (by omega)
  exact loop (tE x j - tS x j + 1) 0 (by omega) (by omega)

theorem c_number {z : SZ} {sc : SC} {σ : SS} {j : Nat} {x : TX} (hx : x.1 ≤ 700) (hb : ∀ i, x.2 i < 256) (hT : ∀ i, i < x.1 → σ.1 3 i = bI (x.2 i)) (hC : CT (σ.1 2) x j) (hk : tK x j = 2) : Cs z sc mX1_number 0 0 [.ref 2] σ (PI (nI (vl x j)) σ) := by
  refine Cs.of gmX1_number (Nat.le_of_ble_eq_true rfl) ?_
  show Ws z sc mX1_number 0 0 0 0 0 [(0, .ref 2)] [] (mz σ [] []) (PI (nI (vl x j)) σ)
  obtain ⟨h1, h2, h3⟩ := tK_2 hk
  have hgt := tE_gt x j
  refine n_iconst 0 rfl ?_
  refine r_istore_n (lv' := [(1, .int (nI 0)), (0, .ref 2)]) rfl rfl (Nat.le_of_ble_eq_true rfl) rfl ?_
  refine r_aload_n rfl rfl ?_
  refine s_getI (x := nI (tS x j)) rfl flX1_25 rfl rfl hC.2.2.1 ?_
  refine r_istore_n (lv' := [(2, .int (nI (tS x j))), (1, .int (nI 0)), (0, .ref 2)]) rfl rfl (Nat.le_of_ble_eq_true rfl) rfl ?_
  refine r_lv (lv' := [(2, .int (nI (tS x j + 0))), (0, .ref 2), (1, .int (nI (dgt x.2 (tS x j) 0)))]) [0, 2, 1] rfl ?_
  have loop : ∀ (m9 : Nat) (i : Nat) , tE x j - tS x j - i < m9 → (tS x j + i ≤ tE x j) → Ws z sc mX1_number 0 0 0 0 7 [(2, .int (nI (tS x j + i))), (0, .ref 2), (1, .int (nI (dgt x.2 (tS x j) i)))] [] (mz σ [] []) (PI (nI (vl x j)) σ) := by
    intro m9
    induction m9 with
    | zero => intro i  hme; exact absurd hme (Nat.not_lt_zero _)
    | succ m9 ih =>
      intro i  hme hi
      refine r_iload_n rfl rfl ?_
      refine r_aload_n rfl rfl ?_
      refine s_getI (x := nI (tE x j)) rfl flX1_28 rfl rfl hC.2.2.2 ?_
      refine n_icmp_ge (tgt := 35) rfl rfl (by omega) (by omega) (fun h4 => ?_) (fun h4 => ?_)
      · have hie : i = tE x j - tS x j := by omega
        subst hie
        refine r_iload_n rfl rfl ?_
        exact s_ret (st := []) rfl rfl rfl (Nat.zero_le _) (Nat.zero_le _) (pI rfl rfl)
      · have hkd := kd_2 (h2 (tS x j + i) (by omega) h4)
        refine r_iload_n rfl rfl ?_
        refine n_bipush 10 rfl (by decide) ?_
        refine n_imul rfl ?_
        refine r_aload_n rfl rfl ?_
        refine r_iload_n rfl rfl ?_
        refine s_virI [.int (nI (tS x j + i))] [.int (nI ((dgt x.2 (tS x j) i) * 10))] rfl lkX1_43 rfl rfl rfl (c_byteAt (v := nI (x.2 (tS x j + i))) (by omega) ((hT _ (by omega)).trans (bI_p (by omega)))) rfl rfl (Nat.le_refl _) (Nat.le_refl _) rfl (rI (e1 := nI (x.2 (tS x j + i))) rfl ?_)
        refine n_bipush 48 rfl (by decide) ?_
        refine n_isub rfl (by omega) ?_
        refine n_iadd rfl ?_
        refine r_istore_n (lv' := [(1, .int (nI (dgt x.2 (tS x j) (i + 1)))), (2, .int (nI (tS x j + i))), (0, .ref 2)]) rfl rfl (Nat.le_of_ble_eq_true rfl) rfl ?_
        refine n_iinc (lv' := [(2, .int (nI ((tS x j + i) + 1))), (1, .int (nI (dgt x.2 (tS x j) (i + 1)))), (0, .ref 2)]) 1 rfl rfl (Nat.le_of_ble_eq_true rfl) rfl ?_
        refine r_goto (tgt := 7) rfl rfl ?_
        refine r_lv (lv' := [(2, .int (nI ((tS x j + i) + 1))), (0, .ref 2), (1, .int (nI (dgt x.2 (tS x j) (i + 1))))]) [0, 2, 1] rfl ?_
        exact ih (i + 1) (by omega) (by omega)
  exact loop (tE x j - tS x j + 1) 0 (by omega) (by omega)

theorem c_isWord {z : SZ} {sc : SC} {σ : SS} {j i : Nat} {s : String × Nat × String × List Int32} {w : List Nat} (hs : strJ[i]? = some s) (hw : isS s w) {x : TX} (hx : x.1 ≤ 700) (hb : ∀ i, x.2 i < 256) (hT : ∀ i, i < x.1 → σ.1 3 i = bI (x.2 i)) (hC : CT (σ.1 2) x j) : Cs z sc mX1_isWord 0 0 [.ref 2, .retAddr i] σ (PI (nI (tb (iw x j w))) σ) := by
  refine Cs.of gmX1_isWord (Nat.le_of_ble_eq_true rfl) ?_
  show Ws z sc mX1_isWord 0 0 0 0 0 [(0, .ref 2), (1, .retAddr i)] [] (mz σ [] []) (PI (nI (tb (iw x j w))) σ)
  obtain ⟨w1, w2, w3⟩ := hw
  have hkl := tK_le x j
  have hgt := tE_gt x j
  refine r_aload_n rfl rfl ?_
  refine s_getI (x := nI (tK x j)) rfl flX1_22 rfl rfl hC.2.1 ?_
  refine n_iconst 1 rfl ?_
  refine n_icmp_ne (tgt := 24) rfl rfl (by omega) (by omega) (fun h1 => ?_) (fun h1 => ?_)
  · refine n_iconst 0 rfl ?_
    exact s_ret (st := []) rfl rfl rfl (Nat.zero_le _) (Nat.zero_le _) (pI (by rw [show iw x j w = false from decide_eq_false (fun z => h1 z.1)]; rfl) rfl)
  · obtain ⟨k1, k2, k3⟩ := tK_1 h1
    refine r_aload_n rfl rfl ?_
    refine s_getI (x := nI (tE x j)) rfl flX1_28 rfl rfl hC.2.2.2 ?_
    refine r_aload_n rfl rfl ?_
    refine s_getI (x := nI (tS x j)) rfl flX1_25 rfl rfl hC.2.2.1 ?_
    refine n_isub rfl (by omega) ?_
    refine r_aload_nK rfl rfl (by have := str_lt hs; omega) ?_
    refine s_virKI [] [.int (nI ((tE x j) - (tS x j)))] rfl lkX1_38 hs rfl (c_slen hs) rfl rfl (Nat.le_refl _) (Nat.le_refl _) (rI (e1 := nI s.2.2.2.length) rfl ?_)
    refine n_icmp_eq (tgt := 26) rfl rfl (by omega) (by omega) (fun h2 => ?_) (fun h2 => ?_)
    · have hlen : (wl x j).length = w.length := by unfold wl; rw [ltr_len]; omega
      refine n_iconst 0 rfl ?_
      refine r_istore_n (lv' := [(2, .int (nI 0)), (0, .ref 2), (1, .retAddr i)]) rfl rfl (Nat.le_of_ble_eq_true rfl) rfl ?_
      refine r_lv (lv' := [(2, .int (nI 0)), (0, .ref 2), (1, .retAddr i)]) [0, 1, 2] rfl ?_
      have loop : ∀ (m9 : Nat) (q : Nat) , w.length - q < m9 → (q ≤ w.length) → (∀ k, k < q → x.2 (tS x j + k) - 96 = w.getD k 0) → Ws z sc mX1_isWord 0 0 0 0 28 [(2, .int (nI q)), (0, .ref 2), (1, .retAddr i)] [] (mz σ [] []) (PI (nI (tb (iw x j w))) σ) := by
        intro m9
        induction m9 with
        | zero => intro q  hme; exact absurd hme (Nat.not_lt_zero _)
        | succ m9 ih =>
          intro q  hme hq hall
          refine r_iload_n rfl rfl ?_
          refine r_aload_nK rfl rfl (by have := str_lt hs; omega) ?_
          refine s_virKI [] [.int (nI q)] rfl lkX1_38 hs rfl (c_slen hs) rfl rfl (Nat.le_refl _) (Nat.le_refl _) (rI (e1 := nI s.2.2.2.length) rfl ?_)
          refine n_icmp_ge (tgt := 62) rfl rfl (by omega) (by omega) (fun h8 => ?_) (fun h8 => ?_)
          · refine n_iconst 1 rfl ?_
            exact s_ret (st := []) rfl rfl rfl (Nat.zero_le _) (Nat.zero_le _) (pI (by rw [show iw x j w = true from decide_eq_true ⟨h1, wl_eq (by omega) (fun k hk => hall k (by omega))⟩]; rfl) rfl)
          · have hkd := kd_1 (k2 (tS x j + q) (by omega) (by omega))
            have hwq := w3 q (by omega)
            refine r_aload_n rfl rfl ?_
            refine r_aload_n rfl rfl ?_
            refine s_getI (x := nI (tS x j)) rfl flX1_25 rfl rfl hC.2.2.1 ?_
            refine r_iload_n rfl rfl ?_
            refine n_iadd rfl ?_
            refine s_virI [.int (nI ((tS x j) + q))] [] rfl lkX1_43 rfl rfl rfl (c_byteAt (v := nI (x.2 (tS x j + q))) (by omega) ((hT _ (by omega)).trans (bI_p (by omega)))) rfl rfl (Nat.le_refl _) (Nat.le_refl _) rfl (rI (e1 := nI (x.2 (tS x j + q))) rfl ?_)
            refine r_aload_nK rfl rfl (by have := str_lt hs; omega) ?_
            refine r_iload_n rfl rfl ?_
            refine s_virKI [.int (nI q)] [.int (nI (x.2 (tS x j + q)))] rfl lkX1_46 hs rfl (c_chAt hs (b := w.getD q 0 + 96) (by omega) (by omega) hwq.1 (by omega)) rfl rfl (Nat.le_refl _) (Nat.le_refl _) (rI (e1 := nI (w.getD q 0 + 96)) rfl ?_)
            refine n_icmp_eq (tgt := 56) rfl rfl (by omega) (by omega) (fun h9 => ?_) (fun h9 => ?_)
            · refine n_iinc (lv' := [(2, .int (nI (q + 1))), (0, .ref 2), (1, .retAddr i)]) 1 rfl rfl (Nat.le_of_ble_eq_true rfl) rfl ?_
              refine r_goto (tgt := 28) rfl rfl ?_
              refine r_lv (lv' := [(2, .int (nI (q + 1))), (0, .ref 2), (1, .retAddr i)]) [0, 1, 2] rfl ?_
              exact ih (q + 1) (by omega) (by omega) (lt_snoc hall (by omega))
            · refine n_iconst 0 rfl ?_
              exact s_ret (st := []) rfl rfl rfl (Nat.zero_le _) (Nat.zero_le _) (pI (by rw [show iw x j w = false from decide_eq_false (fun z => wl_ne (k := q) (by omega) (by omega) z.2)]; rfl) rfl)
      exact loop (w.length + 1) 0 (by omega) (by omega) (fun k hk => absurd hk (Nat.not_lt_zero _))
    · refine n_iconst 0 rfl ?_
      exact s_ret (st := []) rfl rfl rfl (Nat.zero_le _) (Nat.zero_le _) (pI (by rw [show iw x j w = false from decide_eq_false (fun z => by have e := congrArg List.length z.2; unfold wl at e; rw [ltr_len] at e; omega)]; rfl) rfl)

theorem c_iclear {z : SZ} {sc : SC} {σ : SS}  : Cs z sc mX1_clear 0 0 [.ref 2] σ (PV (mz σ [(2, aup (σ.1 2) 1 (nI 0))] [])) := by
  refine Cs.of gmX1_clear (Nat.le_of_ble_eq_true rfl) ?_
  show Ws z sc mX1_clear 0 0 0 0 0 [(0, .ref 2)] [] (mz σ [] []) (PV (mz σ [(2, aup (σ.1 2) 1 (nI 0))] []))
  refine r_aload_n rfl rfl ?_
  refine n_iconst 0 rfl ?_
  refine m_putI (L' := [(2, (aup (σ.1 2) 1 (nI 0)))]) rfl flX1_15 rfl rfl (okv_i _) rfl ?_
  exact s_vret (st := []) rfl rfl (Nat.zero_le _) (Nat.zero_le _) (pV rfl)

