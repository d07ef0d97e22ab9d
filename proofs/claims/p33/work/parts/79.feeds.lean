/-! The law feeds a text. -/
def chv (l : List Nat) (i : Nat) : Nat := if i < l.length then l.getD i 0 else 32
theorem chv_b {l : List Nat} (h : ∀ i, i < l.length → l.getD i 0 < 128) (i : Nat) : chv l i < 128 := by
  unfold chv
  by_cases z : i < l.length
  · rw [if_pos z]; exact h i z
  · rw [if_neg z]; decide
def pck (l : List Nat) (b : Nat) : Nat → Int32
  | 0 => 0
  | r + 1 => (pck l b r <<< ((nI 8) &&& 31)) ||| nI (chv l (b + r))
def pcN (l : List Nat) (b : Nat) : Nat → Nat
  | 0 => 0
  | r + 1 => pcN l b r * 256 + chv l (b + r)
theorem or_n {x c : Nat} (hx : x < 16777216) (hc : c < 256) : (nI x <<< ((nI 8) &&& 31)) ||| nI c = nI (x * 256 + c) := by
  rw [pk_shlN _ 8 (s_l9 8 (by decide)) (by omega), nI_or]
  have h := Nat.shiftLeft_add_eq_or_of_lt (i := 8) (b := c) (by omega) x
  rw [Nat.shiftLeft_eq] at h
  rw [h]
theorem pck_n {l : List Nat} (h : ∀ i, chv l i < 128) (b : Nat) : pck l b 4 = nI (pcN l b 4) ∧ pcN l b 4 < 2147483648 := by
  have h0 := h (b + 0)
  have h1 := h (b + 1)
  have h2 := h (b + 2)
  have h3 := h (b + 3)
  have e0 : pck l b 0 = nI (pcN l b 0) := rfl
  have n1 : pcN l b 1 = 0 * 256 + chv l (b + 0) := rfl
  have n2 : pcN l b 2 = pcN l b 1 * 256 + chv l (b + 1) := rfl
  have n3 : pcN l b 3 = pcN l b 2 * 256 + chv l (b + 2) := rfl
  have n4 : pcN l b 4 = pcN l b 3 * 256 + chv l (b + 3) := rfl
  have e1 : pck l b 1 = nI (pcN l b 1) := or_n (x := 0) (by decide) (Nat.lt_trans h0 (by decide))
  have e2 : pck l b 2 = nI (pcN l b 2) := by
    show (pck l b 1 <<< ((nI 8) &&& 31)) ||| nI (chv l (b + 1)) = _
    rw [e1, or_n (by omega) (by omega)]
    rfl
  have e3 : pck l b 3 = nI (pcN l b 3) := by
    show (pck l b 2 <<< ((nI 8) &&& 31)) ||| nI (chv l (b + 2)) = _
    rw [e2, or_n (by omega) (by omega)]
    rfl
  refine ⟨?_, by omega⟩
  show (pck l b 3 <<< ((nI 8) &&& 31)) ||| nI (chv l (b + 3)) = _
  rw [e3, or_n (by omega) (by omega)]
  rfl
theorem i8_q (y : Nat) : (nI y).toInt8.toBitVec.toNat = y % 256 := by
  show (BitVec.signExtend 8 (BitVec.ofNat 32 y)).toNat = _
  rw [BitVec.signExtend_eq_setWidth_of_le _ (by decide), BitVec.toNat_setWidth, BitVec.toNat_ofNat]
  omega
theorem by4_q {x k : Nat} (hx : x < 2147483648) (hk : k < 32) : by4 (nI x) k = x / 2 ^ k % 256 := by
  unfold by4
  rw [pk_shrN hx _ k (s_l9 k hk), i8_q]
/-- the buffer holds the text so far -/
def TQ (l : List Nat) (x : TX) : Prop := ∀ i, i < x.1 → x.2 i = chv l i
theorem TQ_4 {l : List Nat} {x : TX} {v : Int32} (h : ∀ i, chv l i < 128) (hT : TQ l x) (hv : v = pck l x.1 4) : TQ l (ad4 x v) := by
  obtain ⟨e1, e2⟩ := pck_n h x.1
  have h0 := h (x.1 + 0)
  have h1 := h (x.1 + 1)
  have h2 := h (x.1 + 2)
  have h3 := h (x.1 + 3)
  have n1 : pcN l x.1 1 = 0 * 256 + chv l (x.1 + 0) := rfl
  have n2 : pcN l x.1 2 = pcN l x.1 1 * 256 + chv l (x.1 + 1) := rfl
  have n3 : pcN l x.1 3 = pcN l x.1 2 * 256 + chv l (x.1 + 2) := rfl
  have n4 : pcN l x.1 4 = pcN l x.1 3 * 256 + chv l (x.1 + 3) := rfl
  have b0 : by4 v 24 = chv l (x.1 + 0) := by
    rw [hv, e1, by4_q e2 (by decide), show (2 : Nat) ^ 24 = 16777216 by decide]; omega
  have b1 : by4 v 16 = chv l (x.1 + 1) := by
    rw [hv, e1, by4_q e2 (by decide), show (2 : Nat) ^ 16 = 65536 by decide]; omega
  have b2 : by4 v 8 = chv l (x.1 + 2) := by
    rw [hv, e1, by4_q e2 (by decide), show (2 : Nat) ^ 8 = 256 by decide]; omega
  have b3 : by4 v 0 = chv l (x.1 + 3) := by
    rw [hv, e1, by4_q e2 (by decide), show (2 : Nat) ^ 0 = 1 by decide]; omega
  intro i hi
  have hi2 : i < x.1 + 4 := hi
  show aup (aup (aup (aup x.2 x.1 (by4 v 24)) (x.1 + 1) (by4 v 16)) (x.1 + 2) (by4 v 8)) (x.1 + 3) (by4 v 0) i = chv l i
  by_cases z3 : i = x.1 + 3
  · rw [z3, aup_s]; exact b3
  · rw [aup_n _ _ z3]
    by_cases z2 : i = x.1 + 2
    · rw [z2, aup_s]; exact b2
    · rw [aup_n _ _ z2]
      by_cases z1 : i = x.1 + 1
      · rw [z1, aup_s]; exact b1
      · rw [aup_n _ _ z1]
        by_cases z0 : i = x.1
        · rw [z0, aup_s]; exact b0
        · rw [aup_n _ _ z0]
          exact hT i (by omega)
theorem TQ_5 {l : List Nat} {x : TX} {f : Nat → Int32} (h : ∀ i, chv l i < 128) (hT : TQ l x) (hv : ∀ m, m < 5 → f m = pck l (x.1 + 4 * m) 4) : TQ l (ap5 x (f 0) (f 1) (f 2) (f 3) (f 4)) ∧ (ap5 x (f 0) (f 1) (f 2) (f 3) (f 4)).1 = x.1 + 20 := by
  refine ⟨?_, rfl⟩
  unfold ap5
  exact TQ_4 h (TQ_4 h (TQ_4 h (TQ_4 h (TQ_4 h hT (hv 0 (by decide))) (hv 1 (by decide))) (hv 2 (by decide))) (hv 3 (by decide))) (hv 4 (by decide))
theorem ap5_b {x : TX} (h : ∀ i, x.2 i < 256) (a b c d e : Int32) : ∀ i, (ap5 x a b c d e).2 i < 256 := ad4_b (ad4_b (ad4_b (ad4_b (ad4_b h a) b) c) d) e
set_option maxRecDepth 100000 in
theorem l_feeds {sc : SC} {S : AS} {so : Nat} {l : List Nat} {σ : SS} {a : AB} (hx : S.2.2 = true) (hso : 53 ≤ so) (hST : ST S so l.length (fun j => l.getD j 0)) (hl : l.length ≤ 698) (hA : AV a) (hI : CI9 σ a) (hCL : CL S σ) (hL0 : aL a = 0) : Cal sc mL_feeds 720 720 [.ref 0, .ref so] S (AR fun v S' => v = .int (nI 1) ∧ Fr S S' (fun i => i < 53) ∧ ∃ (σ' : SS) (a' : AB), CL S' σ' ∧ CI9 σ' a' ∧ AV a' ∧ l.length ≤ aL a' ∧ ∀ i, i < l.length → aT a' i = l.getD i 0) := by
  refine Cal.of gmL_feeds (Nat.le_of_ble_eq_true rfl) ?_
  show Wp sc mL_feeds 720 720 0 0 0 [(0, .ref 0), (1, .ref so)] [] S (AR fun v S' => v = .int (nI 1) ∧ Fr S S' (fun i => i < 53) ∧ ∃ (σ' : SS) (a' : AB), CL S' σ' ∧ CI9 σ' a' ∧ AV a' ∧ l.length ≤ aL a' ∧ ∀ i, i < l.length → aT a' i = l.getD i 0)
  obtain ⟨Vs, qs, fs, hO, ⟨hs0, hs1⟩, hQ, hch, ho1, ho2⟩ := hST
  have hcb := chv_b (l := l) (fun i hi => (hch i hi).2)
  refine n_iconst 0 rfl ?_
  refine r_istore_n (lv' := [(2, .int (nI 0)), (0, .ref 0), (1, .ref so)]) rfl rfl (Nat.le_of_ble_eq_true rfl) rfl ?_
  refine n_iconst 0 rfl ?_
  refine r_istore_n (lv' := [(3, .int (nI 0)), (2, .int (nI 0)), (0, .ref 0), (1, .ref so)]) rfl rfl (Nat.le_of_ble_eq_true rfl) rfl ?_
  refine r_lv (lv' := [(3, .int (nI 0)), (2, .int (nI 0)), (0, .ref 0), (1, .ref so)]) [0, 1, 2, 3] rfl ?_
  have loopK : ∀ (m9 : Nat) (k : Nat) (Sa : AS) (k9 n9 : Nat) (σa : SS) (a7 : AB), 700 - k < m9 → (Sa.2.2 = true) → (k % 20 = 0) → (k ≤ 700) → (k9 + (720 - k) ≤ 720) → (n9 + (720 - k) ≤ 720) → (Fr S Sa (fun i => i < 53)) → (CL Sa σa) → (CI9 σa a7) → (AV a7) → (aL a7 = k) → (TQ l (k, aT a7)) → Wp sc mL_feeds 720 720 k9 n9 4 [(3, .int (nI k)), (2, .int (nI k)), (0, .ref 0), (1, .ref so)] [] Sa (AR fun v S' => v = .int (nI 1) ∧ Fr S S' (fun i => i < 53) ∧ ∃ (σ' : SS) (a' : AB), CL S' σ' ∧ CI9 σ' a' ∧ AV a' ∧ l.length ≤ aL a' ∧ ∀ i, i < l.length → aT a' i = l.getD i 0) := by
    intro m9
    induction m9 with
    | zero => intro k Sa k9 n9 σa a7 hme; exact absurd hme (Nat.not_lt_zero _)
    | succ m9 ih =>
      intro k Sa k9 n9 σa a7 hme hxSa hk20 hk hb1 hb2 hF7 hCa hIa hAa hLa hTa
      have hzf := hF7.1
      have hOa : Sa.1 so = oO 11 Vs := (hF7.2.2 so (by omega) (by omega)).trans hO
      have hQa : Sa.1 qs = oI0 1 l.length fs := (hF7.2.2 qs (by omega) (by omega)).trans hQ
      refine r_iload_n rfl rfl ?_
      refine r_aload_n rfl rfl ?_
      refine c_virA [] [.int (nI k)] rfl lkL_7 (by omega) hOa rfl rfl (o_len (S := Sa) (by omega) (by omega) hOa hs0 hs1 hQa (by omega)) rfl rfl (by omega) (by omega) rfl ?_
      rintro _ _ ⟨rfl, rfl⟩
      refine n_icmp_ge (tgt := 114) rfl rfl (by omega) (by omega) (fun h9 => ?_) (fun h9 => ?_)
      · refine n_iconst 1 rfl ?_
        exact r_ret rfl rfl rfl (by omega) (by omega) (⟨_, rfl, rfl, hF7, σa, a7, hCa, hIa, hAa, by omega, fun i hi => (hTa i (by show i < k; omega)).trans (if_pos hi)⟩)
      · have h9 : k < l.length := by omega
        have hk2 : k + 20 ≤ 700 := by omega
        refine n_iconst 5 rfl ?_
        refine t_newa0 rfl hxSa (by decide) (by omega) (by omega) ?_
        intro S1 w2
        have z3 := w2.1
        refine r_astore (lv' := [(4, .ref Sa.2.1), (3, .int (nI k)), (2, .int (nI k)), (0, .ref 0), (1, .ref so)]) rfl (Nat.le_of_ble_eq_true rfl) rfl ?_
        refine n_iconst 0 rfl ?_
        refine r_istore (lv' := [(5, .int (nI 0)), (4, .ref Sa.2.1), (3, .int (nI k)), (2, .int (nI k)), (0, .ref 0), (1, .ref so)]) rfl (Nat.le_of_ble_eq_true rfl) rfl ?_
        have hp4 : S1.1 so = oO 11 Vs := ((w2.2.2.2 so (by omega)).trans hOa)
        have hp5 : S1.1 qs = oI0 1 l.length fs := ((w2.2.2.2 qs (by omega)).trans hQa)
        have hF1 : ∀ i, i < Sa.2.1 → S1.1 i = Sa.1 i := fun i hi => ((w2.2.2.2 i (by omega)).trans rfl)
        refine r_lv (lv' := [(5, .int (nI 0)), (4, .ref Sa.2.1), (3, .int (nI k)), (2, .int (nI k)), (0, .ref 0), (1, .ref so)]) [0, 1, 2, 3, 4, 5] rfl ?_
        have loopJ : ∀ (m9_2 : Nat) (j : Nat) (Sb : AS) (fv : Nat → Int32), 20 - j < m9_2 → (Sb.2.2 = true) → (j ≤ 20) → (∀ i, i < Sa.2.1 → Sb.1 i = Sa.1 i) → (Sb.2.1 = Sa.2.1 + 1) → (Sb.1 Sa.2.1 = oI0 0 5 fv) → (∀ m, m < 5 → fv m = pck l (k + 4 * m) (min 4 (j - 4 * m))) → Wp sc mL_feeds 720 720 (k9 + 1) (n9 + 5) 20 [(5, .int (nI j)), (4, .ref Sa.2.1), (3, .int (nI k)), (2, .int (nI k)), (0, .ref 0), (1, .ref so)] [] Sb (AR fun v S' => v = .int (nI 1) ∧ Fr S S' (fun i => i < 53) ∧ ∃ (σ' : SS) (a' : AB), CL S' σ' ∧ CI9 σ' a' ∧ AV a' ∧ l.length ≤ aL a' ∧ ∀ i, i < l.length → aT a' i = l.getD i 0) := by
          intro m9_2
          induction m9_2 with
          | zero => intro j Sb fv hme; exact absurd hme (Nat.not_lt_zero _)
          | succ m9_2 ih2 =>
            intro j Sb fv hme hxSb hj hF8 hz8 hv8 hfv
            refine r_iload rfl rfl ?_
            refine n_bipush 20 rfl (by decide) ?_
            refine n_icmp_ge (tgt := 75) rfl rfl (by omega) (by omega) (fun h8 => ?_) (fun h8 => ?_)
            · have e9 : j = 20 := by omega
              subst e9
              have hfv5 : ∀ m, m < 5 → fv m = pck l (k + 4 * m) 4 := fun m hm => by rw [hfv m hm, Nat.min_eq_left (by omega)]
              have hTx := TQ_5 hcb (x := (aL a7, aT a7)) (by rw [hLa]; exact hTa) (f := fv) (fun m hm => by show fv m = pck l (aL a7 + 4 * m) 4; rw [hLa]; exact hfv5 m hm)
              have hCb : CL Sb σa := hCa.of (by omega) (fun i hi => hF8 i (by have := hCa.1; omega))
              refine n_iinc (lv' := [(2, .int (nI (k + 20))), (5, .int (nI 20)), (4, .ref Sa.2.1), (3, .int (nI k)), (0, .ref 0), (1, .ref so)]) 20 rfl rfl (Nat.le_of_ble_eq_true rfl) rfl ?_
              refine r_aload_n rfl rfl ?_
              refine r_aload rfl rfl ?_
              refine n_iconst 0 rfl ?_
              refine r_iald rfl (by omega) hv8 (by decide) (by decide) ?_
              refine r_aload rfl rfl ?_
              refine n_iconst 1 rfl ?_
              refine r_iald rfl (by omega) hv8 (by decide) (by decide) ?_
              refine r_aload rfl rfl ?_
              refine n_iconst 2 rfl ?_
              refine r_iald rfl (by omega) hv8 (by decide) (by decide) ?_
              refine r_aload rfl rfl ?_
              refine n_iconst 3 rfl ?_
              refine r_iald rfl (by omega) hv8 (by decide) (by decide) ?_
              refine r_aload rfl rfl ?_
              refine n_iconst 4 rfl ?_
              refine r_iald rfl (by omega) hv8 (by decide) (by decide) ?_
              have hq6 := c_append (z := zf) (sc := sc) hAa hIa (v1 := fv 0) (v2 := fv 1) (v3 := fv 2) (v4 := fv 3) (v5 := fv 4) (by omega)
              refine r_cls [.int (fv 0), .int (fv 1), .int (fv 2), .int (fv 3), .int (fv 4)] [] rfl lkL_17 rfl hq6 rfl rfl (by omega) (by omega) rfl hCb ?_
              rintro _ σ2 S7 ⟨rfl, hFm, hI9⟩ hC8 hs9 hk10
              have z11 : S7.2.1 = Sb.2.1 := congrArg Prod.fst hs9
              have hx12 : S7.2.2 = true := (congrArg Prod.snd hs9).trans hxSb
              refine r_top (y := nI (k + 20)) (by rw [hLa]) ?_
              refine r_iload_n rfl rfl ?_
              refine n_icmp_eq (tgt := 108) rfl rfl (by omega) (by omega) (fun _ => ?_) (fun hq => absurd hq (by omega))
              refine n_iinc (lv' := [(3, .int (nI (k + 20))), (2, .int (nI (k + 20))), (5, .int (nI 20)), (4, .ref Sa.2.1), (0, .ref 0), (1, .ref so)]) 20 rfl rfl (Nat.le_of_ble_eq_true rfl) rfl ?_
              refine r_goto (tgt := 4) rfl rfl ?_
              have hF9 : Fr S S7 (fun i => i < 53) := ⟨by omega, hx12, fun i hi (hn : ¬ (i < 53)) => (hk10 i (by omega)).trans ((hF8 i (by omega)).trans (hF7.2.2 i hi hn))⟩
              refine r_lv (lv' := [(3, .int (nI (k + 20))), (2, .int (nI (k + 20))), (0, .ref 0), (1, .ref so)]) [0, 1, 4, 5] rfl ?_
              exact ih (k + 20) S7 (k9 + 1) (n9 + 5) σ2 _ (by omega) hx12 (by omega) (by omega) (by omega) (by omega) hF9 hC8 hI9 (apA_ok hAa (by show aL a7 + 20 ≤ 700; omega) (ap5_b hAa.2.2.2.2.1.2.1 _ _ _ _ _)) (by show aL a7 + 20 = k + 20; omega) (fun i hi => hTx.1 i (by rw [hTx.2]; show i < aL a7 + 20; have hi2 : i < k + 20 := hi; omega))
            · have h8 : j < 20 := by omega
              have hjd : j / 4 < 5 := by omega
              refine r_aload rfl rfl ?_
              refine r_iload rfl rfl ?_
              refine n_iconst 4 rfl ?_
              refine n_idiv rfl (by omega) (by omega) (by omega) ?_
              refine r_aload rfl rfl ?_
              refine r_iload rfl rfl ?_
              refine n_iconst 4 rfl ?_
              refine n_idiv rfl (by omega) (by omega) (by omega) ?_
              refine r_iald rfl (by omega) hv8 (by omega) (by decide) ?_
              refine n_bipush 8 rfl (by decide) ?_
              refine r_ishl rfl ?_
              refine r_iload_n rfl rfl ?_
              refine r_iload rfl rfl ?_
              refine n_iadd rfl ?_
              refine r_aload_n rfl rfl ?_
              refine c_virA [] [.int (nI (k + j)), .int ((fv (j / 4)) <<< ((nI 8) &&& 31)), .int (nI (j / 4)), .ref Sa.2.1] rfl lkL_7 (by omega) ((hF8 so (by omega)).trans hOa) rfl rfl (o_len (S := Sb) (by omega) (by omega) ((hF8 so (by omega)).trans hOa) hs0 hs1 ((hF8 qs (by omega)).trans hQa) (by omega)) rfl rfl (by omega) (by omega) rfl ?_
              rintro _ _ ⟨rfl, rfl⟩
              suffices K : Wp sc mL_feeds 720 720 (k9 + 1) (n9 + 5) 67 [(5, .int (nI j)), (4, .ref Sa.2.1), (3, .int (nI k)), (2, .int (nI k)), (0, .ref 0), (1, .ref so)] [.int (nI (chv l (k + j))), .int ((fv (j / 4)) <<< ((nI 8) &&& 31)), .int (nI (j / 4)), .ref Sa.2.1] Sb (AR fun v S' => v = .int (nI 1) ∧ Fr S S' (fun i => i < 53) ∧ ∃ (σ' : SS) (a' : AB), CL S' σ' ∧ CI9 σ' a' ∧ AV a' ∧ l.length ≤ aL a' ∧ ∀ i, i < l.length → aT a' i = l.getD i 0) by
                refine n_icmp_ge (tgt := 65) rfl rfl (by omega) (by omega) (fun h7 => ?_) (fun h7 => ?_)
                · refine n_bipush 32 rfl (by decide) ?_
                  exact r_top (y := nI (chv l (k + j))) (by unfold chv; rw [if_neg (by omega)]) K
                · have hlt : k + j < l.length := by omega
                  have hcj := hch (k + j) hlt
                  refine r_aload_n rfl rfl ?_
                  refine r_iload_n rfl rfl ?_
                  refine r_iload rfl rfl ?_
                  refine n_iadd rfl ?_
                  refine c_virA [.int (nI (k + j))] [.int ((fv (j / 4)) <<< ((nI 8) &&& 31)), .int (nI (j / 4)), .ref Sa.2.1] rfl lkL_13 (by omega) ((hF8 so (by omega)).trans hOa) rfl rfl (o_chAt (S := Sb) (by omega) (by omega) ((hF8 so (by omega)).trans hOa) hs0 hs1 ((hF8 qs (by omega)).trans hQa) hlt (by omega) hcj.1 hcj.2) rfl rfl (by omega) (by omega) rfl ?_
                  rintro _ _ ⟨rfl, rfl⟩
                  refine r_goto (tgt := 67) rfl rfl ?_
                  exact r_top (y := nI (chv l (k + j))) (by unfold chv; rw [if_pos hlt]) K
              refine r_ior rfl ?_
              refine t_iast rfl hxSb (by omega) hv8 (by omega) (by decide) ?_
              intro S13 w14
              have z15 := w14.1
              refine n_iinc (lv' := [(5, .int (nI (j + 1))), (4, .ref Sa.2.1), (3, .int (nI k)), (2, .int (nI k)), (0, .ref 0), (1, .ref so)]) 1 rfl rfl (Nat.le_of_ble_eq_true rfl) rfl ?_
              refine r_goto (tgt := 20) rfl rfl ?_
              have hfv9 : ∀ m, m < 5 → (aup fv (j / 4) (((fv (j / 4)) <<< ((nI 8) &&& 31)) ||| (nI (chv l (k + j))))) m = pck l (k + 4 * m) (min 4 (j + 1 - 4 * m)) := fun m hm => by
                by_cases z : m = j / 4
                · rw [z, aup_s, hfv _ hjd, show min 4 (j + 1 - 4 * (j / 4)) = min 4 (j - 4 * (j / 4)) + 1 by omega]
                  show _ = (pck l (k + 4 * (j / 4)) (min 4 (j - 4 * (j / 4))) <<< ((nI 8) &&& 31)) ||| nI (chv l (k + 4 * (j / 4) + min 4 (j - 4 * (j / 4))))
                  rw [show k + 4 * (j / 4) + min 4 (j - 4 * (j / 4)) = k + j by omega]
                · rw [aup_n _ _ z, hfv m hm, show min 4 (j + 1 - 4 * m) = min 4 (j - 4 * m) by omega]
              refine r_lv (lv' := [(5, .int (nI (j + 1))), (4, .ref Sa.2.1), (3, .int (nI k)), (2, .int (nI k)), (0, .ref 0), (1, .ref so)]) [0, 1, 2, 3, 4, 5] rfl ?_
              exact ih2 (j + 1) S13 _ (by omega) w14.2.1 (by omega) (fun i hi => ((w14.2.2.2 i (by omega)).trans (hF8 i hi))) (by omega) w14.2.2.1 hfv9
        exact loopJ 21 0 S1 (fun _ => 0) (by decide) w2.2.1 (by decide) hF1 (by omega) w2.2.2.1 (fun m _ => by rw [Nat.zero_sub]; rfl)
  exact loopK 701 0 S 0 0 σ a (by decide) hx (by decide) (by decide) (by decide) (by decide) (Fr.rf hx) hCL hI hA hL0 (fun i hi => absurd hi (Nat.not_lt_zero _))

