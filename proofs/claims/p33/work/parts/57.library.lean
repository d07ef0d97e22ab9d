/-! The library's members: StringBuilder, String; texts of letters below 128. -/
theorem t_mmax {sc : SC} {μ : MI} {mc ms k n pc : Nat} {lv : List (Nat × Value)} {st : List Value} {S : AS} {Q : Out → AS → Prop} {a b idx : Nat} (h : cf (mCd μ) pc = some (.invokestatic idx, 3)) (hw : Cond.methodLink (mNm μ).cls idx Lib.Math.max.name ∈ lw_gd) (hw2 : Cond.static Lib.Math.max.name ∈ lw_gd) (hw3 : Cond.initialized "java/lang/Math" ∈ lw_gd) (hw4 : Cond.code Lib.Math.max.name Lib.Math.max.code 2 (some .int) ∈ lw_gd) (hfr : Nat.ble 1 (mFr μ) = true) (hlo : Nat.ble ((st.map fun v => v.category).sum + 13) (mLo μ) = true) (hk : k ≤ mc) (hs : n ≤ ms) (ha : a < 2147483648) (hb : b < 2147483648) (kk : Wp sc μ mc ms k n (pc + 3) lv (.int (nI (max a b)) :: st) S Q) : Wp sc μ mc ms k n pc lv (.int (nI b) :: .int (nI a) :: st) S Q := by
  refine r_mmax h hw hw2 hw3 hw4 hfr hlo hk hs ?_
  have e : (if nI a < nI b then nI b else nI a) = nI (max a b) := by
    by_cases q : a < b
    · rw [if_pos ((nI_ltI ha hb).mpr q)]; congr 1; omega
    · rw [if_neg (fun z => q ((nI_ltI ha hb).mp z))]; congr 1; omega
  rw [e]
  exact kk
theorem t_mmin {sc : SC} {μ : MI} {mc ms k n pc : Nat} {lv : List (Nat × Value)} {st : List Value} {S : AS} {Q : Out → AS → Prop} {a b idx : Nat} (h : cf (mCd μ) pc = some (.invokestatic idx, 3)) (hw : Cond.methodLink (mNm μ).cls idx Lib.Math.min.name ∈ lw_gd) (hw2 : Cond.static Lib.Math.min.name ∈ lw_gd) (hw3 : Cond.initialized "java/lang/Math" ∈ lw_gd) (hw4 : Cond.code Lib.Math.min.name Lib.Math.min.code 2 (some .int) ∈ lw_gd) (hfr : Nat.ble 1 (mFr μ) = true) (hlo : Nat.ble ((st.map fun v => v.category).sum + 13) (mLo μ) = true) (hk : k ≤ mc) (hs : n ≤ ms) (ha : a < 2147483648) (hb : b < 2147483648) (kk : Wp sc μ mc ms k n (pc + 3) lv (.int (nI (min a b)) :: st) S Q) : Wp sc μ mc ms k n pc lv (.int (nI b) :: .int (nI a) :: st) S Q := by
  refine r_mmin h hw hw2 hw3 hw4 hfr hlo hk hs ?_
  have e : (if nI b < nI a then nI b else nI a) = nI (min a b) := by
    by_cases q : b < a
    · rw [if_pos ((nI_ltI hb ha).mpr q)]; congr 1; omega
    · rw [if_neg (fun z => q ((nI_ltI hb ha).mp z))]; congr 1; omega
  rw [e]
  exact kk
theorem bFit_cpy {f g : Nat → Int32} {sp dp w : Nat} (hf : bFit f) (hg : bFit g) : bFit (va_cpy f g sp dp w) := fun j => by
  by_cases h : dp ≤ j ∧ j < dp + w
  · rw [pk_cpy_in h.1 h.2]; exact hf _
  · rw [pk_cpy_out (by omega)]; exact hg _
theorem bFit_0 : bFit (fun _ => 0) := fun _ => rfl
theorem bFit_up {f : Nat → Int32} {j : Nat} {x : Int32} (hf : bFit f) (hx : fits .byte (.int x) = true) : bFit (aup f j x) := fun i => by
  by_cases h : i = j
  · subst h; rw [aup_s]; exact hx
  · rw [aup_n _ _ h]; exact hf i
theorem nb_c : ∀ c, c < 128 → vp_nar .byte (nI c).toInt8.toInt32 = nI c ∧ vp_nar .byte (nI c) = nI c ∧ fits .byte (.int (nI c)) = true ∧ ((nI c &&& nI 255).toUInt32 % 65536).toInt32 = nI c ∧ nI c &&& nI 255 = nI c := by decide +kernel
theorem j_isLat {sc : SC} {S : AS} {t : Nat} {V : Nat → Value} (ht : t < S.2.1) (hV : S.1 t = oO 12 V) (h1 : V 1 = .int (nI 0)) : Cal sc mJ5_isLat 0 0 [.ref t] S (AR fun v S' => v = .int (nI 1) ∧ S = S') := by
  refine Cal.of gmJ5_isLat (Nat.le_of_ble_eq_true rfl) ?_
  show Wp sc mJ5_isLat 0 0 0 0 0 [(0, .ref t)] [] S (AR fun v S' => v = .int (nI 1) ∧ S = S')
  refine r_getsC rfl fkJ5_18 ?_
  refine r_top (y := nI 1) rfl ?_
  refine n_if_eq (tgt := 17) rfl rfl (by omega) (fun hq => absurd hq (by decide)) (fun _ => ?_)
  refine r_aload_n rfl rfl ?_
  refine r_getf (v := .int (nI 0)) rfl flJ5_22 (by omega) hV h1 ?_
  refine n_if_ne (tgt := 17) rfl rfl (by omega) (fun hq => absurd hq (by decide)) (fun _ => ?_)
  refine n_iconst 1 rfl ?_
  refine r_goto (tgt := 18) rfl rfl ?_
  exact r_ret rfl rfl rfl (by omega) (by omega) (⟨_, rfl, rfl, rfl⟩)

theorem j_canEnc {sc : SC} {S : AS} {c : Nat} (hc : c < 128) : Cal sc mJ1_canEnc 0 0 [.int (nI c)] S (AR fun v S' => v = .int (nI 1) ∧ S = S') := by
  refine Cal.of gmJ1_canEnc (Nat.le_of_ble_eq_true rfl) ?_
  show Wp sc mJ1_canEnc 0 0 0 0 0 [(0, .int (nI c))] [] S (AR fun v S' => v = .int (nI 1) ∧ S = S')
  refine r_iload_n rfl rfl ?_
  refine n_sipush 255 rfl (by decide) ?_
  refine n_icmp_gt (tgt := 11) rfl rfl (by omega) (by omega) (fun hq => absurd hq (by omega)) (fun _ => ?_)
  refine n_iconst 1 rfl ?_
  refine r_goto (tgt := 12) rfl rfl ?_
  exact r_ret rfl rfl rfl (by omega) (by omega) (⟨_, rfl, rfl, rfl⟩)

theorem j_newlen {sc : SC} {S : AS} {a b c : Nat} (ha : a < 100000) (hb : b < 100000) (hc0 : 0 < c) (hc : c < 100000) : Cal sc mJ8_newlen 0 0 [.int (nI a), .int (nI b), .int (nI c)] S (AR fun v S' => v = .int (nI (a + max b c)) ∧ S = S') := by
  refine Cal.of gmJ8_newlen (Nat.le_of_ble_eq_true rfl) ?_
  show Wp sc mJ8_newlen 0 0 0 0 0 [(0, .int (nI a)), (1, .int (nI b)), (2, .int (nI c))] [] S (AR fun v S' => v = .int (nI (a + max b c)) ∧ S = S')
  refine r_iload_n rfl rfl ?_
  refine r_iload_n rfl rfl ?_
  refine r_iload_n rfl rfl ?_
  refine t_mmax (μ := mJ8_newlen) (a := b) (b := c) rfl mb_maxLJ8_194 ma_maxS maI ma_maxC rfl rfl (by omega) (by omega) (by omega) (by omega) ?_
  refine n_iadd rfl ?_
  refine r_istore_n (lv' := [(3, .int (nI (a + (max b c)))), (0, .int (nI a)), (1, .int (nI b)), (2, .int (nI c))]) rfl rfl (Nat.le_of_ble_eq_true rfl) rfl ?_
  refine n_iconst 0 rfl ?_
  refine r_iload_n rfl rfl ?_
  refine n_icmp_ge (tgt := 21) rfl rfl (by omega) (by omega) (fun hq => absurd hq (by omega)) (fun _ => ?_)
  refine r_iload_n rfl rfl ?_
  refine r_ldc (v := nI 2147483639) rfl kcJ8_200 ?_
  refine n_icmp_gt (tgt := 21) rfl rfl (by omega) (by omega) (fun hq => absurd hq (by omega)) (fun _ => ?_)
  refine r_iload_n rfl rfl ?_
  exact r_ret rfl rfl rfl (by omega) (by omega) (⟨_, rfl, rfl, rfl⟩)

theorem j_newcap {sc : SC} {S : AS} {t : Nat} {V : Nat → Value} (ht : t < S.2.1) (hV : S.1 t = oO 12 V) (h1 : V 1 = .int (nI 0)) {q m : Nat} {f : Nat → Int32} (hq : q < S.2.1) (h0 : V 0 = .ref q) (hQ : S.1 q = oI0 1 m f) {w : Nat} (hm : m < 10000) (hw : w < 10000) (hmw : m < w) : Cal sc mJ5_newcap 0 0 [.ref t, .int (nI w)] S (AR fun v S' => v = .int (nI (m + max (w - m) (m + 2))) ∧ S = S') := by
  refine Cal.of gmJ5_newcap (Nat.le_of_ble_eq_true rfl) ?_
  show Wp sc mJ5_newcap 0 0 0 0 0 [(0, .ref t), (1, .int (nI w))] [] S (AR fun v S' => v = .int (nI (m + max (w - m) (m + 2))) ∧ S = S')
  refine r_aload_n rfl rfl ?_
  refine r_getf (v := .ref q) rfl flJ5_15 (by omega) hV h0 ?_
  refine r_alen rfl (by omega) hQ (by decide) ?_
  refine r_istore_n (lv' := [(2, .int (nI m)), (0, .ref t), (1, .int (nI w))]) rfl rfl (Nat.le_of_ble_eq_true rfl) rfl ?_
  refine r_iload_n rfl rfl ?_
  refine r_aload_n rfl rfl ?_
  refine r_getf (v := .int (nI 0)) rfl flJ5_22 (by omega) hV h1 ?_
  refine r_ishl rfl ?_
  refine r_top (y := nI w) (sb_shl0 _) ?_
  refine r_istore_n (lv' := [(3, .int (nI w)), (2, .int (nI m)), (0, .ref t), (1, .int (nI w))]) rfl rfl (Nat.le_of_ble_eq_true rfl) rfl ?_
  refine r_iload_n rfl rfl ?_
  refine r_iload_n rfl rfl ?_
  refine n_isub rfl (by omega) ?_
  refine r_istore (lv' := [(4, .int (nI (w - m))), (3, .int (nI w)), (2, .int (nI m)), (0, .ref t), (1, .int (nI w))]) rfl (Nat.le_of_ble_eq_true rfl) rfl ?_
  refine r_iload_n rfl rfl ?_
  refine r_iload rfl rfl ?_
  refine r_iload_n rfl rfl ?_
  refine n_iconst 2 rfl ?_
  refine r_aload_n rfl rfl ?_
  refine r_getf (v := .int (nI 0)) rfl flJ5_22 (by omega) hV h1 ?_
  refine r_ishl rfl ?_
  refine r_top (y := nI 2) (sb_shl0 _) ?_
  refine n_iadd rfl ?_
  refine c_staA [.int (nI m), .int (nI (w - m)), .int (nI (m + 2))] [] rfl lkJ5_114 (j_newlen (S := S) (a := m) (b := w - m) (c := m + 2) (by omega) (by omega) (by omega) (by omega)) rfl rfl (by omega) (by omega) rfl ?_
  rintro _ _ ⟨rfl, rfl⟩
  refine r_istore (lv' := [(5, .int (nI (m + max (w - m) (m + 2)))), (4, .int (nI (w - m))), (3, .int (nI w)), (2, .int (nI m)), (0, .ref t), (1, .int (nI w))]) rfl (Nat.le_of_ble_eq_true rfl) rfl ?_
  refine r_iload rfl rfl ?_
  refine r_ldc (v := nI 2147483647) rfl kcJ5_39 ?_
  refine n_icmp_ne (tgt := 51) rfl rfl (by omega) (by omega) (fun _ => ?_) (fun hq => absurd hq (by omega))
  refine r_iload rfl rfl ?_
  refine r_aload_n rfl rfl ?_
  refine r_getf (v := .int (nI 0)) rfl flJ5_22 (by omega) hV h1 ?_
  refine r_ishr rfl ?_
  refine r_top (y := nI (m + max (w - m) (m + 2))) (sb_shr0 _) ?_
  exact r_ret rfl rfl rfl (by omega) (by omega) (⟨_, rfl, rfl, rfl⟩)

theorem j_copyOf {sc : SC} {S : AS} {a na nb : Nat} {f : Nat → Int32} (hx : S.2.2 = true) (ha : a < S.2.1) (hA : S.1 a = oI0 1 na f) (hfit : bFit f) (hn : na < nb) (hb : nb < 60000) : Cal sc mJ7_copyOf 1 nb [.ref a, .int (nI nb)] S (AR fun v S' => v = .ref S.2.1 ∧ Fr S S' Xno ∧ S'.2.1 = S.2.1 + 1 ∧ ∃ g, S'.1 S.2.1 = oI0 1 nb g ∧ bFit g ∧ ∀ j, j < na → g j = f j) := by
  refine Cal.of gmJ7_copyOf (Nat.le_of_ble_eq_true rfl) ?_
  show Wp sc mJ7_copyOf 1 nb 0 0 0 [(0, .ref a), (1, .int (nI nb))] [] S (AR fun v S' => v = .ref S.2.1 ∧ Fr S S' Xno ∧ S'.2.1 = S.2.1 + 1 ∧ ∃ g, S'.1 S.2.1 = oI0 1 nb g ∧ bFit g ∧ ∀ j, j < na → g j = f j)
  refine r_iload_n rfl rfl ?_
  refine r_aload_n rfl rfl ?_
  refine r_alen rfl (by omega) hA (by decide) ?_
  refine n_icmp_ne (tgt := 14) rfl rfl (by omega) (by omega) (fun _ => ?_) (fun hq => absurd hq (by omega))
  refine r_iload_n rfl rfl ?_
  refine t_newa1 rfl hx (by omega) (by omega) (by omega) ?_
  intro S1 w2
  have z3 := w2.1
  refine r_astore_n (lv' := [(2, .ref S.2.1), (0, .ref a), (1, .int (nI nb))]) rfl rfl (Nat.le_of_ble_eq_true rfl) rfl ?_
  refine r_aload_n rfl rfl ?_
  refine n_iconst 0 rfl ?_
  refine r_aload_n rfl rfl ?_
  refine n_iconst 0 rfl ?_
  refine r_aload_n rfl rfl ?_
  have hp4 : S1.1 a = oI0 1 na f := ((w2.2.2.2 a (by omega)).trans hA)
  refine r_alen rfl (by omega) hp4 (by decide) ?_
  refine r_iload_n rfl rfl ?_
  refine t_mmin (μ := mJ7_copyOf) (a := na) (b := nb) rfl mb_minLJ7_304 ma_minS maI ma_minC rfl rfl (by omega) (by omega) (by omega) (by omega) ?_
  refine t_cpyb rfl syJ7_150 w2.2.1 (by omega) (by omega) hp4 w2.2.2.1 (by omega) (by omega) (by omega) (by omega) hfit rfl rfl ?_
  intro S5 w6
  have z7 := w6.1
  refine r_aload_n rfl rfl ?_
  exact r_aret rfl rfl (Or.inr ⟨_, rfl⟩) (by omega) (by omega) (⟨_, rfl, rfl, ⟨by omega, w6.2.1, fun i hi _ => ((w6.2.2.2 i (by omega)).trans ((w2.2.2.2 i (by omega)).trans rfl))⟩, by omega, _, w6.2.2.1, bFit_cpy hfit bFit_0, fun j hj => (pk_cpy_in (Nat.zero_le _) (by omega)).trans (by rw [Nat.sub_zero, Nat.zero_add])⟩)

theorem isub_le {a b : Nat} (ha : a < 1073741824) (hb : b < 1073741824) : nI a - nI b ≤ 0 ↔ a ≤ b := by
  rw [Int32.le_iff_toInt_le, pk_sub_toInt ha hb, Int32.toInt_zero]
  omega
theorem j_ensure {sc : SC} {S : AS} (hx : S.2.2 = true) {t : Nat} {V : Nat → Value} (ht : t < S.2.1) (hV : S.1 t = oO 12 V) (h1 : V 1 = .int (nI 0)) {q m : Nat} {f : Nat → Int32} (hq : q < S.2.1) (h0 : V 0 = .ref q) (hQ : S.1 q = oI0 1 m f) {w : Nat} (hm : m < 10000) (hw : w < 730) (hfit : bFit f) (htq : t < q) : Cal sc mJ5_ensure 1 1500 [.ref t, .int (nI w)] S (AV0 fun S' => Fr S S' (fun i => i = t) ∧ ∃ (V' : Nat → Value) (q' m' : Nat) (f' : Nat → Int32), S'.1 t = oO 12 V' ∧ (V' 0 = .ref q' ∧ V' 1 = .int (nI 0) ∧ V' 3 = V 3) ∧ S'.1 q' = oI0 1 m' f' ∧ bFit f' ∧ (∀ j, j < m → f' j = f j) ∧ (t < q' ∧ q' < S'.2.1 ∧ (q' = q ∨ q' = S.2.1)) ∧ w ≤ m' ∧ (m' = m ∨ m' ≤ 2 * w)) := by
  refine Cal.of gmJ5_ensure (Nat.le_of_ble_eq_true rfl) ?_
  show Wp sc mJ5_ensure 1 1500 0 0 0 [(0, .ref t), (1, .int (nI w))] [] S (AV0 fun S' => Fr S S' (fun i => i = t) ∧ ∃ (V' : Nat → Value) (q' m' : Nat) (f' : Nat → Int32), S'.1 t = oO 12 V' ∧ (V' 0 = .ref q' ∧ V' 1 = .int (nI 0) ∧ V' 3 = V 3) ∧ S'.1 q' = oI0 1 m' f' ∧ bFit f' ∧ (∀ j, j < m → f' j = f j) ∧ (t < q' ∧ q' < S'.2.1 ∧ (q' = q ∨ q' = S.2.1)) ∧ w ≤ m' ∧ (m' = m ∨ m' ≤ 2 * w))
  refine r_aload_n rfl rfl ?_
  refine r_getf (v := .ref q) rfl flJ5_15 (by omega) hV h0 ?_
  refine r_alen rfl (by omega) hQ (by decide) ?_
  refine r_aload_n rfl rfl ?_
  refine r_getf (v := .int (nI 0)) rfl flJ5_22 (by omega) hV h1 ?_
  refine r_ishr rfl ?_
  refine r_top (y := nI m) (sb_shr0 _) ?_
  refine r_istore_n (lv' := [(2, .int (nI m)), (0, .ref t), (1, .int (nI w))]) rfl rfl (Nat.le_of_ble_eq_true rfl) rfl ?_
  refine r_iload_n rfl rfl ?_
  refine r_iload_n rfl rfl ?_
  refine r_isub rfl ?_
  refine r_if_le (tgt := 38) rfl rfl (fun h9 => ?_) (fun h9 => ?_)
  · exact r_vret rfl rfl (by omega) (by omega) (⟨rfl, Fr.rf hx, V, q, m, f, hV, ⟨h0, h1, rfl⟩, hQ, hfit, fun _ _ => rfl, ⟨htq, hq, Or.inl rfl⟩, (isub_le (by omega) (by omega)).mp h9, Or.inl rfl⟩)
  · have h8 : m < w := Nat.not_le.mp (fun z => h9 ((isub_le (by omega) (by omega)).mpr z))
    refine r_aload_n rfl rfl ?_
    refine r_aload_n rfl rfl ?_
    refine r_getf (v := .ref q) rfl flJ5_15 (by omega) hV h0 ?_
    refine r_aload_n rfl rfl ?_
    refine r_iload_n rfl rfl ?_
    refine c_virSA (r := (RJ4, TJ4, 4)) [.int (nI w)] [.ref q, .ref t] rfl lkJ5_104 (by omega) hV rfl (j_newcap (S := S) ht hV h1 hq h0 hQ (by omega) (by omega) h8) rfl rfl (by omega) (by omega) ?_
    rintro _ _ ⟨rfl, rfl⟩
    refine r_aload_n rfl rfl ?_
    refine r_getf (v := .int (nI 0)) rfl flJ5_22 (by omega) hV h1 ?_
    refine r_ishl rfl ?_
    refine r_top (y := nI (m + max (w - m) (m + 2))) (sb_shl0 _) ?_
    refine c_staA [.ref q, .int (nI (m + max (w - m) (m + 2)))] [.ref t] rfl lkJ5_108 (j_copyOf (S := S) hx hq hQ hfit (by omega) (by omega)) rfl rfl (by omega) (by omega) rfl ?_
    rintro _ S1 ⟨rfl, fr2, hsz, g, hg, hgf, hgq⟩
    have z3 := fr2.1
    have hp4 : S1.1 t = oO 12 V := ((fr2.2.2 t (by omega) (fun z9 => z9)).trans hV)
    refine t_putf rfl flJ5_15 (okv_a _ _) fr2.2.1 (by omega) hp4 ?_
    intro S5 w6
    have z7 := w6.1
    have hp8 : S5.1 S.2.1 = oI0 1 (m + max (w - m) (m + 2)) g := ((w6.2.2.2 S.2.1 (by omega)).trans hg)
    exact r_vret rfl rfl (by omega) (by omega) (⟨rfl, ⟨by omega, w6.2.1, fun i hi (hn : ¬ (i = t)) => ((w6.2.2.2 i (by omega)).trans ((fr2.2.2 i (by omega) (fun z9 => z9)).trans rfl))⟩, _, S.2.1, _, g, w6.2.2.1, ⟨aup_s _ _ _, (aup_n _ _ (by decide)).trans h1, aup_n _ _ (by decide)⟩, hp8, hgf, hgq, ⟨by omega, by omega, Or.inr rfl⟩, by omega, by omega⟩)

theorem j_coderK {sc : SC} {S : AS} {i : Nat} {x : String × Nat × String × List Int32} (hs : strJ[i]? = some x) : Cal sc mJ_coder 0 0 [.retAddr i] S (AR fun v S' => v = .int (nI 0) ∧ S = S') := by
  refine Cal.of gmJ_coder (Nat.le_of_ble_eq_true rfl) ?_
  show Wp sc mJ_coder 0 0 0 0 0 [(0, .retAddr i)] [] S (AR fun v S' => v = .int (nI 0) ∧ S = S')
  refine r_getsC rfl fkJ0_38 ?_
  refine r_top (y := nI 1) rfl ?_
  refine n_if_eq (tgt := 13) rfl rfl (by omega) (fun hq => absurd hq (by decide)) (fun _ => ?_)
  refine r_aload_nK rfl rfl (by have := str_lt hs; omega) ?_
  refine r_getC (i := i) rfl hs fjJ0_15 ?_
  refine r_top (y := nI 0) rfl ?_
  refine r_goto (tgt := 14) rfl rfl ?_
  exact r_ret rfl rfl rfl (by omega) (by omega) (⟨_, rfl, rfl, rfl⟩)

theorem j_lenK {sc : SC} {S : AS} {i : Nat} {x : String × Nat × String × List Int32} (hs : strJ[i]? = some x) : Cal sc mJ_length 0 0 [.retAddr i] S (AR fun v S' => v = .int (nI x.2.2.2.length) ∧ S = S') := by
  refine Cal.of gmJ_length (Nat.le_of_ble_eq_true rfl) ?_
  show Wp sc mJ_length 0 0 0 0 0 [(0, .retAddr i)] [] S (AR fun v S' => v = .int (nI x.2.2.2.length) ∧ S = S')
  refine r_aload_nK rfl rfl (by have := str_lt hs; omega) ?_
  refine r_getV (i := i) rfl hs fjJ0_9 ?_
  refine r_alenK (i := i) rfl hs ?_
  refine r_aload_nK rfl rfl (by have := str_lt hs; omega) ?_
  refine c_virKA [] [.int (nI x.2.2.2.length)] rfl lkJ0_335 hs rfl (j_coderK (S := S) hs) rfl rfl (by omega) (by omega) ?_
  rintro _ _ ⟨rfl, rfl⟩
  refine r_ishr rfl ?_
  refine r_top (y := nI x.2.2.2.length) (sb_shr0 _) ?_
  exact r_ret rfl rfl rfl (by omega) (by omega) (⟨_, rfl, rfl, rfl⟩)

theorem j_getBytesK {sc : SC} {S : AS} {i : Nat} {x : String × Nat × String × List Int32} (hs : strJ[i]? = some x) {q m u : Nat} {f : Nat → Int32} (hx : S.2.2 = true) (hq : q < S.2.1) (hQ : S.1 q = oI0 1 m f) (hm : m < 60000) (hu : u + x.2.2.2.length ≤ m) (hfit : bFit (fun j => x.2.2.2.getD j 0)) : Cal sc mJ0_getBytes 0 0 [.retAddr i, .ref q, .int (nI u), .int (nI 0)] S (AV0 fun S' => Wr S q (oI0 1 m (va_cpy (fun j => x.2.2.2.getD j 0) f 0 u x.2.2.2.length)) S') := by
  refine Cal.of gmJ0_getBytes (Nat.le_of_ble_eq_true rfl) ?_
  show Wp sc mJ0_getBytes 0 0 0 0 0 [(0, .retAddr i), (1, .ref q), (2, .int (nI u)), (3, .int (nI 0))] [] S (AV0 fun S' => Wr S q (oI0 1 m (va_cpy (fun j => x.2.2.2.getD j 0) f 0 u x.2.2.2.length)) S')
  refine r_aload_nK rfl rfl (by have := str_lt hs; omega) ?_
  refine c_virKA [] [] rfl lkJ0_335 hs rfl (j_coderK (S := S) hs) rfl rfl (by omega) (by omega) ?_
  rintro _ _ ⟨rfl, rfl⟩
  refine r_iload_n rfl rfl ?_
  refine n_icmp_ne (tgt := 28) rfl rfl (by omega) (by omega) (fun hq => absurd hq (by omega)) (fun _ => ?_)
  refine r_aload_nK rfl rfl (by have := str_lt hs; omega) ?_
  refine r_getV (i := i) rfl hs fkJ0_9 ?_
  refine n_iconst 0 rfl ?_
  refine r_aload_n rfl rfl ?_
  refine r_iload_n rfl rfl ?_
  refine r_iload_n rfl rfl ?_
  refine r_ishl rfl ?_
  refine r_top (y := nI u) (sb_shl0 _) ?_
  refine r_aload_nK rfl rfl (by have := str_lt hs; omega) ?_
  refine r_getV (i := i) rfl hs fkJ0_9 ?_
  refine r_alenK (i := i) rfl hs ?_
  refine t_cpyT rfl syJ0_212 hx hs (by omega) hQ (by omega) (by omega) (by omega) (by omega) hfit rfl rfl ?_
  intro S1 w2
  have z3 := w2.1
  refine r_goto (tgt := 43) rfl rfl ?_
  exact r_vret rfl rfl (by omega) (by omega) (⟨rfl, w2⟩)

theorem j_inflIf {sc : SC} {S : AS} {i : Nat} {x : String × Nat × String × List Int32} (hs : strJ[i]? = some x) {t : Nat} {V : Nat → Value} (ht : t < S.2.1) (hV : S.1 t = oO 12 V) (h1 : V 1 = .int (nI 0)) : Cal sc mJ5_inflIf 0 0 [.ref t, .retAddr i] S (AV0 fun S' => S = S') := by
  refine Cal.of gmJ5_inflIf (Nat.le_of_ble_eq_true rfl) ?_
  show Wp sc mJ5_inflIf 0 0 0 0 0 [(0, .ref t), (1, .retAddr i)] [] S (AV0 fun S' => S = S')
  refine r_getsC rfl fkJ5_18 ?_
  refine r_top (y := nI 1) rfl ?_
  refine n_if_eq (tgt := 21) rfl rfl (by omega) (fun hq => absurd hq (by decide)) (fun _ => ?_)
  refine r_aload_n rfl rfl ?_
  refine r_getf (v := .int (nI 0)) rfl flJ5_22 (by omega) hV h1 ?_
  refine r_aload_nK rfl rfl (by have := str_lt hs; omega) ?_
  refine c_virKA [] [.int (nI 0)] rfl lkJ5_40 hs rfl (j_coderK (S := S) hs) rfl rfl (by omega) (by omega) ?_
  rintro _ _ ⟨rfl, rfl⟩
  refine n_icmp_eq (tgt := 21) rfl rfl (by omega) (by omega) (fun _ => ?_) (fun hq => absurd hq (by omega))
  exact r_vret rfl rfl (by omega) (by omega) (⟨rfl, rfl⟩)

theorem j_putStr {sc : SC} {S : AS} {i : Nat} {x : String × Nat × String × List Int32} (hs : strJ[i]? = some x) {t : Nat} {V : Nat → Value} (ht : t < S.2.1) (hV : S.1 t = oO 12 V) (h1 : V 1 = .int (nI 0)) {q m : Nat} {f : Nat → Int32} (hq : q < S.2.1) (h0 : V 0 = .ref q) (hQ : S.1 q = oI0 1 m f) {u : Nat} (hx : S.2.2 = true) (hm : m < 60000) (hu : u + x.2.2.2.length ≤ m) (hfit : bFit (fun j => x.2.2.2.getD j 0)) : Cal sc mJ5_putStr 0 0 [.ref t, .int (nI u), .retAddr i] S (AV0 fun S' => Wr S q (oI0 1 m (va_cpy (fun j => x.2.2.2.getD j 0) f 0 u x.2.2.2.length)) S') := by
  refine Cal.of gmJ5_putStr (Nat.le_of_ble_eq_true rfl) ?_
  show Wp sc mJ5_putStr 0 0 0 0 0 [(0, .ref t), (1, .int (nI u)), (2, .retAddr i)] [] S (AV0 fun S' => Wr S q (oI0 1 m (va_cpy (fun j => x.2.2.2.getD j 0) f 0 u x.2.2.2.length)) S')
  refine r_aload_n rfl rfl ?_
  refine r_aload_nK rfl rfl (by have := str_lt hs; omega) ?_
  refine c_virSV (r := (RJ4, TJ4, 4)) [.retAddr i] [] rfl lkJ5_397 (by omega) hV rfl (j_inflIf (S := S) hs ht hV h1) rfl rfl (by omega) (by omega) ?_
  rintro _ rfl
  refine r_aload_nK rfl rfl (by have := str_lt hs; omega) ?_
  refine r_aload_n rfl rfl ?_
  refine r_getf (v := .ref q) rfl flJ5_15 (by omega) hV h0 ?_
  refine r_iload_n rfl rfl ?_
  refine r_aload_n rfl rfl ?_
  refine r_getf (v := .int (nI 0)) rfl flJ5_22 (by omega) hV h1 ?_
  refine c_virKV [.ref q, .int (nI u), .int (nI 0)] [] rfl lkJ5_399 hs rfl (j_getBytesK (S := S) hs hx hq hQ hm hu hfit) rfl rfl (by omega) (by omega) ?_
  intro S9 hW
  exact r_vret rfl rfl (by omega) (by omega) (⟨rfl, hW⟩)

def SB (S : AS) (t q n : Nat) (x : Nat → Nat) : Prop := ∃ (V : Nat → Value) (f : Nat → Int32) (m : Nat), S.1 t = oO 12 V ∧ (V 0 = .ref q ∧ V 1 = .int (nI 0) ∧ V 3 = .int (nI n)) ∧ S.1 q = oI0 1 m f ∧ bFit f ∧ (∀ j, j < n → f j = nI (x j) ∧ x j < 128) ∧ (t < q ∧ q < S.2.1) ∧ n ≤ m ∧ m ≤ 16 + 2 * n
def tcat (n : Nat) (x y : Nat → Nat) : Nat → Nat := fun j => if j < n then x j else y (j - n)
/-- what a text's end tells -/
abbrev SBR (S : AS) (t q n : Nat) (x : Nat → Nat) (S' : AS) : Prop := Fr S S' (fun i => i = t ∨ i = q) ∧ ∃ q', SB S' t q' n x ∧ (q' = q ∨ S.2.1 ≤ q')
theorem j5_appC {sc : SC} {S : AS} {t q u : Nat} {y : Nat → Nat} (hx : S.2.2 = true) (hB : SB S t q u y) {c : Nat} (hc : c < 128) (hu : u < 700) : Cal sc mJ5_appC 1 1500 [.ref t, .int (nI c)] S (AR fun v S' => v = .ref t ∧ SBR S t q (u + 1) (aup y u c) S') := by
  refine Cal.of gmJ5_appC (Nat.le_of_ble_eq_true rfl) ?_
  obtain ⟨V, f, m, hV, ⟨h0, h1, h3⟩, hQ, hfit, hy, ⟨htq, hq⟩, hnm, hm9⟩ := hB
  have ht : t < S.2.1 := by omega
  show Wp sc mJ5_appC 1 1500 0 0 0 [(0, .ref t), (1, .int (nI c))] [] S (AR fun v S' => v = .ref t ∧ SBR S t q (u + 1) (aup y u c) S')
  refine r_aload_n rfl rfl ?_
  refine r_aload_n rfl rfl ?_
  refine r_getf (v := .int (nI u)) rfl flJ5_79 (by omega) hV h3 ?_
  refine n_iconst 1 rfl ?_
  refine n_iadd rfl ?_
  refine c_virSV (r := (RJ4, TJ4, 4)) [.int (nI (u + 1))] [] rfl lkJ5_100 (by omega) hV rfl (j_ensure (S := S) hx ht hV h1 hq h0 hQ (w := u + 1) (by omega) (by omega) hfit htq) rfl rfl (by omega) (by omega) ?_
  rintro S1 ⟨fr2, V1, q1, m1, f1, gV, ⟨g0, g1, g3⟩, gQ, gfit, gk, ⟨gt, gq, ge⟩, gm, gm2⟩
  have z3 := fr2.1
  refine r_aload_n rfl rfl ?_
  refine c_virSA (r := (RJ4, TJ4, 4)) [] [] rfl lkJ5_83 (by omega) gV rfl (j_isLat (S := S1) (by omega) gV g1) rfl rfl (by omega) (by omega) ?_
  rintro _ _ ⟨rfl, rfl⟩
  refine n_if_eq (tgt := 45) rfl rfl (by omega) (fun hq => absurd hq (by decide)) (fun _ => ?_)
  refine r_iload_n rfl rfl ?_
  refine c_staA [.int (nI c)] [] rfl lkJ5_191 (j_canEnc (S := S1) hc) rfl rfl (by omega) (by omega) rfl ?_
  rintro _ _ ⟨rfl, rfl⟩
  refine n_if_eq (tgt := 45) rfl rfl (by omega) (fun hq => absurd hq (by decide)) (fun _ => ?_)
  refine r_aload_n rfl rfl ?_
  refine r_getf (v := .ref q1) rfl flJ5_15 (by omega) gV g0 ?_
  refine r_aload_n rfl rfl ?_
  refine r_dup rfl rfl ?_
  refine r_getf (v := .int (nI u)) rfl flJ5_79 (by omega) gV (g3.trans h3) ?_
  refine r_dupx rfl rfl rfl ?_
  refine n_iconst 1 rfl ?_
  refine n_iadd rfl ?_
  refine t_putf rfl flJ5_79 (okv_i _) fr2.2.1 (by omega) gV ?_
  intro S4 w5
  have z6 := w5.1
  refine r_iload_n rfl rfl ?_
  refine r_i2b rfl rfl ?_
  have hp7 : S4.1 q1 = oI0 1 m1 f1 := ((w5.2.2.2 q1 (by omega)).trans gQ)
  refine t_bast rfl w5.2.1 (by omega) hp7 (by omega) (by omega) ?_
  intro S8 w9
  have z10 := w9.1
  refine r_goto (tgt := 75) rfl rfl ?_
  refine r_aload_n rfl rfl ?_
  have hp11 : S8.1 t = oO 12 (aup V1 3 (.int (nI (u + 1)))) := ((w9.2.2.2 t (by omega)).trans w5.2.2.1)
  refine r_aret rfl rfl (Or.inl ⟨_, rfl⟩) (by omega) (by omega) (⟨_, rfl, rfl, ⟨by omega, w9.2.1, fun i hi (hn : ¬ (i = t ∨ i = q)) => ((w9.2.2.2 i (by omega)).trans ((w5.2.2.2 i (by omega)).trans ((fr2.2.2 i (by omega) (show ¬ (_ = t) by omega)).trans rfl)))⟩, q1, ⟨_, _, m1, hp11, ⟨(aup_n _ _ (by decide)).trans g0, (aup_n _ _ (by decide)).trans g1, aup_s _ _ _⟩, w9.2.2.1, bFit_up gfit (by rw [(nb_c c hc).1]; exact (nb_c c hc).2.2.1), fun j hj => ?_, ⟨gt, by omega⟩, gm, by omega⟩, by omega⟩)
  by_cases e : j = u
  · subst e
    rw [aup_s, aup_s, (nb_c c hc).1]
    exact ⟨rfl, hc⟩
  · rw [aup_n _ _ e, aup_n _ _ e, gk j (by omega)]
    exact hy j (by omega)

theorem j_appC {sc : SC} {S : AS} {t q u : Nat} {y : Nat → Nat} (hx : S.2.2 = true) (hB : SB S t q u y) {c : Nat} (hc : c < 128) (hu : u < 700) : Cal sc mJ4_appC 1 1500 [.ref t, .int (nI c)] S (AR fun z9 S' => z9 = .ref t ∧ SBR S t q (u + 1) (aup y u c) S') := by
  refine Cal.of gmJ4_appC (Nat.le_of_ble_eq_true rfl) ?_
  have hB9 := hB
  obtain ⟨V, f, m, hV, -, -, -, -, ⟨htq, hq⟩, -⟩ := hB9
  have ht : t < S.2.1 := by omega
  show Wp sc mJ4_appC 1 1500 0 0 0 [(0, .ref t), (1, .int (nI c))] [] S (AR fun z9 S' => z9 = .ref t ∧ SBR S t q (u + 1) (aup y u c) S')
  refine r_aload_n rfl rfl ?_
  refine r_iload_n rfl rfl ?_
  refine c_superA [.int (nI c)] [] rfl lkJ4_50 (by omega) hV rfl (j5_appC (S := S) hx hB hc hu) rfl rfl (by omega) (by omega) ?_
  rintro _ S1 ⟨rfl, fr2, hR⟩
  have z3 := fr2.1
  refine r_pop rfl rfl ?_
  refine r_aload_n rfl rfl ?_
  exact r_aret rfl rfl (Or.inl ⟨_, rfl⟩) (by omega) (by omega) (⟨_, rfl, rfl, fr2, hR⟩)

theorem j5_appS {sc : SC} {S : AS} {t q u : Nat} {y : Nat → Nat} (hx : S.2.2 = true) (hB : SB S t q u y) {i : Nat} {x : String × Nat × String × List Int32} (hs : strJ[i]? = some x) {z : Nat → Nat} (hz : ∀ j, j < x.2.2.2.length → x.2.2.2.getD j 0 = nI (z j) ∧ z j < 128) (hl : x.2.2.2.length ≤ 20) (hu : u < 700) : Cal sc mJ5_appS 1 1500 [.ref t, .retAddr i] S (AR fun v S' => v = .ref t ∧ SBR S t q (u + x.2.2.2.length) (tcat u y z) S') := by
  refine Cal.of gmJ5_appS (Nat.le_of_ble_eq_true rfl) ?_
  obtain ⟨V, f, m, hV, ⟨h0, h1, h3⟩, hQ, hfit, hy, ⟨htq, hq⟩, hnm, hm9⟩ := hB
  have ht : t < S.2.1 := by omega
  have hfz : bFit (fun j => x.2.2.2.getD j 0) := fun j => by
    by_cases e : j < x.2.2.2.length
    · show fits .byte (.int (x.2.2.2.getD j 0)) = true
      rw [(hz j e).1]; exact (nb_c _ (hz j e).2).2.2.1
    · show fits .byte (.int (x.2.2.2.getD j 0)) = true
      rw [List.getD_eq_getElem?_getD, List.getElem?_eq_none (by omega)]; rfl
  show Wp sc mJ5_appS 1 1500 0 0 0 [(0, .ref t), (1, .retAddr i)] [] S (AR fun v S' => v = .ref t ∧ SBR S t q (u + x.2.2.2.length) (tcat u y z) S')
  refine r_aload_nK rfl rfl (by have := str_lt hs; omega) ?_
  refine r_nonnullK (tgt := 9) rfl rfl (by have := str_lt hs; omega) ?_
  refine r_aload_nK rfl rfl (by have := str_lt hs; omega) ?_
  refine c_virKA [] [] rfl lkJ5_32 hs rfl (j_lenK (S := S) hs) rfl rfl (by omega) (by omega) ?_
  rintro _ _ ⟨rfl, rfl⟩
  refine r_istore_n (lv' := [(2, .int (nI x.2.2.2.length)), (0, .ref t), (1, .retAddr i)]) rfl rfl (Nat.le_of_ble_eq_true rfl) rfl ?_
  refine r_aload_n rfl rfl ?_
  refine r_aload_n rfl rfl ?_
  refine r_getf (v := .int (nI u)) rfl flJ5_79 (by omega) hV h3 ?_
  refine r_iload_n rfl rfl ?_
  refine n_iadd rfl ?_
  refine c_virSV (r := (RJ4, TJ4, 4)) [.int (nI (u + x.2.2.2.length))] [] rfl lkJ5_100 (by omega) hV rfl (j_ensure (S := S) hx ht hV h1 hq h0 hQ (w := u + x.2.2.2.length) (by omega) (by omega) hfit htq) rfl rfl (by omega) (by omega) ?_
  rintro S1 ⟨fr2, V1, q1, m1, f1, gV, ⟨g0, g1, g3⟩, gQ, gfit, gk, ⟨gt, gq, ge⟩, gm, gm2⟩
  have z3 := fr2.1
  refine r_aload_n rfl rfl ?_
  refine r_aload_n rfl rfl ?_
  refine r_getf (v := .int (nI u)) rfl flJ5_79 (by omega) gV (g3.trans h3) ?_
  refine r_aload_nK rfl rfl (by have := str_lt hs; omega) ?_
  refine c_virSV (r := (RJ4, TJ4, 4)) [.int (nI u), .retAddr i] [] rfl lkJ5_208 (by omega) gV rfl (j_putStr (S := S1) hs (by omega) gV g1 (by omega) g0 gQ fr2.2.1 (by omega) gm hfz) rfl rfl (by omega) (by omega) ?_
  intro S4 w5
  have z6 := w5.1
  refine r_aload_n rfl rfl ?_
  refine r_dup rfl rfl ?_
  have hp7 : S4.1 t = oO 12 V1 := ((w5.2.2.2 t (by omega)).trans gV)
  refine r_getf (v := .int (nI u)) rfl flJ5_79 (by omega) hp7 (g3.trans h3) ?_
  refine r_iload_n rfl rfl ?_
  refine n_iadd rfl ?_
  refine t_putf rfl flJ5_79 (okv_i _) w5.2.1 (by omega) hp7 ?_
  intro S8 w9
  have z10 := w9.1
  refine r_aload_n rfl rfl ?_
  have hp11 : S8.1 q1 = oI0 1 m1 (va_cpy (fun j => x.2.2.2.getD j 0) f1 0 u x.2.2.2.length) := ((w9.2.2.2 q1 (by omega)).trans w5.2.2.1)
  refine r_aret rfl rfl (Or.inl ⟨_, rfl⟩) (by omega) (by omega) (⟨_, rfl, rfl, ⟨by omega, w9.2.1, fun i hi (hn : ¬ (i = t ∨ i = q)) => ((w9.2.2.2 i (by omega)).trans ((w5.2.2.2 i (by omega)).trans ((fr2.2.2 i (by omega) (show ¬ (_ = t) by omega)).trans rfl)))⟩, q1, ⟨_, _, m1, w9.2.2.1, ⟨(aup_n _ _ (by decide)).trans g0, (aup_n _ _ (by decide)).trans g1, aup_s _ _ _⟩, hp11, bFit_cpy hfz gfit, fun j hj => ?_, ⟨gt, by omega⟩, gm, by omega⟩, by omega⟩)
  unfold tcat
  by_cases e : j < u
  · rw [if_pos e, pk_cpy_out (by omega), gk j (by omega)]
    exact hy j e
  · rw [if_neg e, pk_cpy_in (by omega) (by omega), show 0 + (j - u) = j - u by omega]
    exact hz (j - u) (by omega)

theorem j_appS {sc : SC} {S : AS} {t q u : Nat} {y : Nat → Nat} (hx : S.2.2 = true) (hB : SB S t q u y) {i : Nat} {x : String × Nat × String × List Int32} (hs : strJ[i]? = some x) {z : Nat → Nat} (hz : ∀ j, j < x.2.2.2.length → x.2.2.2.getD j 0 = nI (z j) ∧ z j < 128) (hl : x.2.2.2.length ≤ 20) (hu : u < 700) : Cal sc mJ4_appS 1 1500 [.ref t, .retAddr i] S (AR fun z9 S' => z9 = .ref t ∧ SBR S t q (u + x.2.2.2.length) (tcat u y z) S') := by
  refine Cal.of gmJ4_appS (Nat.le_of_ble_eq_true rfl) ?_
  have hB9 := hB
  obtain ⟨V, f, m, hV, -, -, -, -, ⟨htq, hq⟩, -⟩ := hB9
  have ht : t < S.2.1 := by omega
  show Wp sc mJ4_appS 1 1500 0 0 0 [(0, .ref t), (1, .retAddr i)] [] S (AR fun z9 S' => z9 = .ref t ∧ SBR S t q (u + x.2.2.2.length) (tcat u y z) S')
  refine r_aload_n rfl rfl ?_
  refine r_aload_nK rfl rfl (by have := str_lt hs; omega) ?_
  refine c_superA [.retAddr i] [] rfl lkJ4_29 (by omega) hV rfl (j5_appS (S := S) hx hB hs hz hl hu) rfl rfl (by omega) (by omega) ?_
  rintro _ S1 ⟨rfl, fr2, hR⟩
  have z3 := fr2.1
  refine r_pop rfl rfl ?_
  refine r_aload_n rfl rfl ?_
  exact r_aret rfl rfl (Or.inl ⟨_, rfl⟩) (by omega) (by omega) (⟨_, rfl, rfl, fr2, hR⟩)

def dgs (v : Nat) : Nat := if v < 10 then 1 else if v < 100 then 2 else if v < 1000 then 3 else 4
def dgc (v j : Nat) : Nat := 48 + v / 10 ^ (dgs v - 1 - j) % 10
theorem dgs_1 {v : Nat} (h : v < 10) : dgs v = 1 := if_pos h
theorem dgs_2 {v : Nat} (h : ¬ v < 10) (h2 : v < 100) : dgs v = 2 := by unfold dgs; rw [if_neg h, if_pos h2]
theorem dgs_3 {v : Nat} (h : ¬ v < 100) (h2 : v < 1000) : dgs v = 3 := by unfold dgs; rw [if_neg (by omega), if_neg h, if_pos h2]
theorem dgs_4 {v : Nat} (h : ¬ v < 1000) : dgs v = 4 := by unfold dgs; rw [if_neg (by omega), if_neg (by omega), if_neg h]
theorem dgs_b (v : Nat) : 1 ≤ dgs v ∧ dgs v ≤ 4 := by unfold dgs; split <;> (try split) <;> (try split) <;> omega
theorem dgc_b (v j : Nat) : 48 ≤ dgc v j ∧ dgc v j ≤ 57 := by unfold dgc; omega
theorem tbD_b : ∀ i, i < 2 → ∀ j, j < 100 → tbD i j < 128 := by decide
theorem neg_le {a b : Nat} (ha : a < 1000000) (hb : b < 1000000) : -nI a ≤ -nI b ↔ b ≤ a := sb_nle (by omega) (by omega)
theorem neg_lt {a b : Nat} (ha : a < 1000000) (hb : b < 1000000) : -nI a < -nI b ↔ b < a := sb_nlt (by omega) (by omega)
theorem ng_div {v : Nat} (h : v < 1000000) : (-nI v) / nI 100 = -nI (v / 100) := sb_ndiv (by omega)
theorem ng_rem {v : Nat} (h : v < 1000000) : (-nI (v / 100)) * nI 100 - (-nI v) = nI (v % 100) := sb_nrem (by omega)
theorem j_size {sc : SC} {S : AS} {v : Nat} (hv : v < 10000) : Cal sc mJ6_size 0 0 [.int (nI v)] S (AR fun z S' => z = .int (nI (dgs v)) ∧ S = S') := by
  refine Cal.of gmJ6_size (Nat.le_of_ble_eq_true rfl) ?_
  show Wp sc mJ6_size 0 0 0 0 0 [(0, .int (nI v))] [] S (AR fun z S' => z = .int (nI (dgs v)) ∧ S = S')
  refine n_iconst 1 rfl ?_
  refine r_istore_n (lv' := [(1, .int (nI 1)), (0, .int (nI v))]) rfl rfl (Nat.le_of_ble_eq_true rfl) rfl ?_
  refine r_iload_n rfl rfl ?_
  refine n_if_lt (tgt := 11) rfl rfl (by omega) (fun hq => hq.elim) (fun _ => ?_)
  refine n_iconst 0 rfl ?_
  refine r_istore_n (lv' := [(1, .int (nI 0)), (0, .int (nI v))]) rfl rfl (Nat.le_of_ble_eq_true rfl) rfl ?_
  refine r_iload_n rfl rfl ?_
  refine r_ineg rfl ?_
  refine r_istore_n (lv' := [(0, .int (-(nI v))), (1, .int (nI 0))]) rfl rfl (Nat.le_of_ble_eq_true rfl) rfl ?_
  refine r_bipush (v := -10) rfl (by decide) ?_
  refine r_top (y := (-nI 10)) (by decide) ?_
  refine r_istore_n (lv' := [(2, .int ((-nI 10))), (0, .int (-(nI v))), (1, .int (nI 0))]) rfl rfl (Nat.le_of_ble_eq_true rfl) rfl ?_
  refine n_iconst 1 rfl ?_
  refine r_istore_n (lv' := [(3, .int (nI 1)), (2, .int ((-nI 10))), (0, .int (-(nI v))), (1, .int (nI 0))]) rfl rfl (Nat.le_of_ble_eq_true rfl) rfl ?_
  refine r_iload_n rfl rfl ?_
  refine n_bipush 10 rfl (by decide) ?_
  refine n_icmp_ge (tgt := 42) rfl rfl (by decide) (by decide) (fun hq => absurd hq (by decide)) (fun _ => ?_)
  refine r_iload_n rfl rfl ?_
  refine r_iload_n rfl rfl ?_
  refine r_icmp_le (tgt := 31) rfl rfl (fun h1 => ?_) (fun h1 => ?_)
  · have g1 := (neg_le (by omega) (by omega)).mp h1
    refine n_bipush 10 rfl (by decide) ?_
    refine r_iload_n rfl rfl ?_
    refine r_imul rfl ?_
    refine r_top (y := (-nI 100)) (by decide) ?_
    refine r_istore_n (lv' := [(2, .int ((-nI 100))), (3, .int (nI 1)), (0, .int (-(nI v))), (1, .int (nI 0))]) rfl rfl (Nat.le_of_ble_eq_true rfl) rfl ?_
    refine n_iinc (lv' := [(3, .int (nI 2)), (2, .int ((-nI 100))), (0, .int (-(nI v))), (1, .int (nI 0))]) 1 rfl rfl (Nat.le_of_ble_eq_true rfl) rfl ?_
    refine r_goto (tgt := 16) rfl rfl ?_
    refine r_iload_n rfl rfl ?_
    refine n_bipush 10 rfl (by decide) ?_
    refine n_icmp_ge (tgt := 42) rfl rfl (by decide) (by decide) (fun hq => absurd hq (by decide)) (fun _ => ?_)
    refine r_iload_n rfl rfl ?_
    refine r_iload_n rfl rfl ?_
    refine r_icmp_le (tgt := 31) rfl rfl (fun h2 => ?_) (fun h2 => ?_)
    · have g2 := (neg_le (by omega) (by omega)).mp h2
      refine n_bipush 10 rfl (by decide) ?_
      refine r_iload_n rfl rfl ?_
      refine r_imul rfl ?_
      refine r_top (y := (-nI 1000)) (by decide) ?_
      refine r_istore_n (lv' := [(2, .int ((-nI 1000))), (3, .int (nI 2)), (0, .int (-(nI v))), (1, .int (nI 0))]) rfl rfl (Nat.le_of_ble_eq_true rfl) rfl ?_
      refine n_iinc (lv' := [(3, .int (nI 3)), (2, .int ((-nI 1000))), (0, .int (-(nI v))), (1, .int (nI 0))]) 1 rfl rfl (Nat.le_of_ble_eq_true rfl) rfl ?_
      refine r_goto (tgt := 16) rfl rfl ?_
      refine r_iload_n rfl rfl ?_
      refine n_bipush 10 rfl (by decide) ?_
      refine n_icmp_ge (tgt := 42) rfl rfl (by decide) (by decide) (fun hq => absurd hq (by decide)) (fun _ => ?_)
      refine r_iload_n rfl rfl ?_
      refine r_iload_n rfl rfl ?_
      refine r_icmp_le (tgt := 31) rfl rfl (fun h3 => ?_) (fun h3 => ?_)
      · have g3 := (neg_le (by omega) (by omega)).mp h3
        refine n_bipush 10 rfl (by decide) ?_
        refine r_iload_n rfl rfl ?_
        refine r_imul rfl ?_
        refine r_top (y := (-nI 10000)) (by decide) ?_
        refine r_istore_n (lv' := [(2, .int ((-nI 10000))), (3, .int (nI 3)), (0, .int (-(nI v))), (1, .int (nI 0))]) rfl rfl (Nat.le_of_ble_eq_true rfl) rfl ?_
        refine n_iinc (lv' := [(3, .int (nI 4)), (2, .int ((-nI 10000))), (0, .int (-(nI v))), (1, .int (nI 0))]) 1 rfl rfl (Nat.le_of_ble_eq_true rfl) rfl ?_
        refine r_goto (tgt := 16) rfl rfl ?_
        refine r_iload_n rfl rfl ?_
        refine n_bipush 10 rfl (by decide) ?_
        refine n_icmp_ge (tgt := 42) rfl rfl (by decide) (by decide) (fun hq => absurd hq (by decide)) (fun _ => ?_)
        refine r_iload_n rfl rfl ?_
        refine r_iload_n rfl rfl ?_
        refine r_icmp_le (tgt := 31) rfl rfl (fun h4 => ?_) (fun h4 => ?_)
        · exact absurd ((neg_le (by omega) (by omega)).mp h4) (by omega)
        · refine r_iload_n rfl rfl ?_
          refine r_iload_n rfl rfl ?_
          refine n_iadd rfl ?_
          have hd : dgs v = 4 := dgs_4 (by omega)
          exact r_ret rfl rfl rfl (by omega) (by omega) (⟨_, rfl, congrArg (fun z => Value.int (nI z)) hd.symm, rfl⟩)
      · have g3 : v < 1000 := Nat.not_le.mp (fun z => h3 ((neg_le (by omega) (by omega)).mpr z))
        refine r_iload_n rfl rfl ?_
        refine r_iload_n rfl rfl ?_
        refine n_iadd rfl ?_
        have hd : dgs v = 3 := dgs_3 (by omega) (by omega)
        exact r_ret rfl rfl rfl (by omega) (by omega) (⟨_, rfl, congrArg (fun z => Value.int (nI z)) hd.symm, rfl⟩)
    · have g2 : v < 100 := Nat.not_le.mp (fun z => h2 ((neg_le (by omega) (by omega)).mpr z))
      refine r_iload_n rfl rfl ?_
      refine r_iload_n rfl rfl ?_
      refine n_iadd rfl ?_
      have hd : dgs v = 2 := dgs_2 (by omega) (by omega)
      exact r_ret rfl rfl rfl (by omega) (by omega) (⟨_, rfl, congrArg (fun z => Value.int (nI z)) hd.symm, rfl⟩)
  · have g1 : v < 10 := Nat.not_le.mp (fun z => h1 ((neg_le (by omega) (by omega)).mpr z))
    refine r_iload_n rfl rfl ?_
    refine r_iload_n rfl rfl ?_
    refine n_iadd rfl ?_
    have hd : dgs v = 1 := dgs_1 (by omega)
    exact r_ret rfl rfl rfl (by omega) (by omega) (⟨_, rfl, congrArg (fun z => Value.int (nI z)) hd.symm, rfl⟩)

theorem dgc_k {v d i K : Nat} (h : dgs v = d) (hK : 10 ^ (d - 1 - i) = K) : dgc v i = 48 + v / K % 10 := by
  unfold dgc
  rw [h, hK]
theorem tD1 (j : Nat) : tbD 1 j = 48 + j % 10 := rfl
theorem tD0 (j : Nat) : tbD 0 j = 48 + j / 10 := rfl
theorem aup_at {α : Type} {f : Nat → α} {i j : Nat} {x : α} (h : i = j) : aup f j x i = x := if_pos h
theorem nb_D {i j : Nat} (hi : i < 2) (hj : j < 100) : vp_nar .byte (nI (tbD i j)) = nI (tbD i j) := (nb_c _ (tbD_b i hi j hj)).2.1
theorem nb_F {i j : Nat} (hi : i < 2) (hj : j < 100) : fits .byte (.int (vp_nar .byte (nI (tbD i j)))) = true := by
  rw [nb_D hi hj]
  exact (nb_c _ (tbD_b i hi j hj)).2.2.1
theorem j_chars {sc : SC} {S : AS} {v u d q m : Nat} {f : Nat → Int32} (hx : S.2.2 = true) (hv : v < 10000) (hd : dgs v = d) (hq : q < S.2.1) (hQ : S.1 q = oI0 1 m f) (hu : u + d ≤ m) (hm : m < 60000) (hf : bFit f) : Cal sc mJ6_chars 0 0 [.int (nI v), .int (nI (u + d)), .ref q] S (AR fun z S' => z = .int (nI u) ∧ Fr S S' (fun i => i = q) ∧ ∃ f', S'.2.1 = S.2.1 ∧ S'.1 q = oI0 1 m f' ∧ bFit f' ∧ (∀ j, j < u → f' j = f j) ∧ ∀ i, i < d → f' (u + i) = nI (dgc v i)) := by
  refine Cal.of gmJ6_chars (Nat.le_of_ble_eq_true rfl) ?_
  show Wp sc mJ6_chars 0 0 0 0 0 [(0, .int (nI v)), (1, .int (nI (u + d))), (2, .ref q)] [] S (AR fun z S' => z = .int (nI u) ∧ Fr S S' (fun i => i = q) ∧ ∃ f', S'.2.1 = S.2.1 ∧ S'.1 q = oI0 1 m f' ∧ bFit f' ∧ (∀ j, j < u → f' j = f j) ∧ ∀ i, i < d → f' (u + i) = nI (dgc v i))
  refine r_iload_n rfl rfl ?_
  refine r_istore (lv' := [(5, .int (nI (u + d))), (0, .int (nI v)), (1, .int (nI (u + d))), (2, .ref q)]) rfl (Nat.le_of_ble_eq_true rfl) rfl ?_
  refine r_iload_n rfl rfl ?_
  refine n_if_ge (tgt := 11) rfl rfl (by omega) (fun _ => ?_) (fun hq => hq.elim)
  refine n_iconst 0 rfl ?_
  refine r_istore (lv' := [(6, .int (nI 0)), (5, .int (nI (u + d))), (0, .int (nI v)), (1, .int (nI (u + d))), (2, .ref q)]) rfl (Nat.le_of_ble_eq_true rfl) rfl ?_
  refine r_iload rfl rfl ?_
  refine n_if_ne (tgt := 22) rfl rfl (by omega) (fun hq => absurd hq (by decide)) (fun _ => ?_)
  refine r_iload_n rfl rfl ?_
  refine r_ineg rfl ?_
  refine r_istore_n (lv' := [(0, .int (-(nI v))), (6, .int (nI 0)), (5, .int (nI (u + d))), (1, .int (nI (u + d))), (2, .ref q)]) rfl rfl (Nat.le_of_ble_eq_true rfl) rfl ?_
  refine r_iload_n rfl rfl ?_
  refine r_bipush (v := -100) rfl (by decide) ?_
  refine r_top (y := (-nI 100)) (by decide) ?_
  refine r_icmp_gt (tgt := 72) rfl rfl (fun h9 => ?_) (fun h9 => ?_)
  · have g9 : v < 100 := (neg_lt (by omega) (by omega)).mp h9
    by_cases h8 : v < 10
    · rw [dgs_1 h8] at hd
      subst hd
      have hd : dgs v = 1 := dgs_1 h8
      refine r_aload_n rfl rfl ?_
      refine r_iinc (lv' := [(5, .int (nI ((u + 1) - 1))), (0, .int (-(nI v))), (6, .int (nI 0)), (1, .int (nI (u + 1))), (2, .ref q)]) rfl rfl (sb_m1 (by omega)) (Nat.le_of_ble_eq_true rfl) rfl ?_
      refine r_iload rfl rfl ?_
      refine r_getsD (i := 1) rfl (by decide) fkJ6_83 ?_
      refine r_iload_n rfl rfl ?_
      refine r_ineg rfl ?_
      refine r_top (y := nI v) Int32.neg_neg ?_
      refine r_baldD (i := 1) rfl (by decide) (by omega) ?_
      refine t_bast rfl hx (by omega) hQ (by omega) (by omega) ?_
      intro S1 w2
      have z3 := w2.1
      refine r_iload_n rfl rfl ?_
      refine r_bipush (v := -9) rfl (by decide) ?_
      refine r_top (y := (-nI 9)) (by decide) ?_
      refine r_icmp_ge (tgt := 104) rfl rfl (fun _ => ?_) (fun hq => absurd ((neg_le (by omega) (by omega)).mpr (by omega)) hq)
      refine r_iload rfl rfl ?_
      refine n_if_eq (tgt := 118) rfl rfl (by omega) (fun _ => ?_) (fun hq => absurd hq (by omega))
      refine r_iload rfl rfl ?_
      refine r_ret rfl rfl rfl (by omega) (by omega) (⟨_, rfl, congrArg (fun z => Value.int (nI z)) (by omega), ⟨by omega, w2.2.1, fun i hi (hn : ¬ (i = q)) => ((w2.2.2.2 i (by omega)).trans rfl)⟩, _, by omega, w2.2.2.1, bFit_up (hf) (nb_F (by decide) (by omega)), fun j hj => (aup_n _ _ (by omega)), fun i hi => ?_⟩)
      obtain rfl : i = 0 := by omega
      exact ((aup_at (by omega))).trans ((nb_D (by decide) (by omega)).trans (congrArg nI (by first | (rw [tD1, dgc_k hd (by decide : 10 ^ (1 - 1 - 0) = 1)]; omega) | rw [tD1, dgc_k hd (by decide : 10 ^ (1 - 1 - 0) = 1)])))
    · rw [dgs_2 h8 g9] at hd
      subst hd
      have hd : dgs v = 2 := dgs_2 h8 g9
      refine r_aload_n rfl rfl ?_
      refine r_iinc (lv' := [(5, .int (nI ((u + 2) - 1))), (0, .int (-(nI v))), (6, .int (nI 0)), (1, .int (nI (u + 2))), (2, .ref q)]) rfl rfl (sb_m1 (by omega)) (Nat.le_of_ble_eq_true rfl) rfl ?_
      refine r_iload rfl rfl ?_
      refine r_getsD (i := 1) rfl (by decide) fkJ6_83 ?_
      refine r_iload_n rfl rfl ?_
      refine r_ineg rfl ?_
      refine r_top (y := nI v) Int32.neg_neg ?_
      refine r_baldD (i := 1) rfl (by decide) (by omega) ?_
      refine t_bast rfl hx (by omega) hQ (by omega) (by omega) ?_
      intro S4 w5
      have z6 := w5.1
      refine r_iload_n rfl rfl ?_
      refine r_bipush (v := -9) rfl (by decide) ?_
      refine r_top (y := (-nI 9)) (by decide) ?_
      refine r_icmp_ge (tgt := 104) rfl rfl (fun hq => absurd ((neg_le (by omega) (by omega)).mp hq) (by omega)) (fun _ => ?_)
      refine r_aload_n rfl rfl ?_
      refine r_iinc (lv' := [(5, .int (nI (((u + 2) - 1) - 1))), (0, .int (-(nI v))), (6, .int (nI 0)), (1, .int (nI (u + 2))), (2, .ref q)]) rfl rfl (sb_m1 (by omega)) (Nat.le_of_ble_eq_true rfl) rfl ?_
      refine r_iload rfl rfl ?_
      refine r_getsD (i := 0) rfl (by decide) fkJ6_87 ?_
      refine r_iload_n rfl rfl ?_
      refine r_ineg rfl ?_
      refine r_top (y := nI v) Int32.neg_neg ?_
      refine r_baldD (i := 0) rfl (by decide) (by omega) ?_
      refine t_bast rfl w5.2.1 (by omega) w5.2.2.1 (by omega) (by omega) ?_
      intro S7 w8
      have z9 := w8.1
      refine r_iload rfl rfl ?_
      refine n_if_eq (tgt := 118) rfl rfl (by omega) (fun _ => ?_) (fun hq => absurd hq (by omega))
      refine r_iload rfl rfl ?_
      refine r_ret rfl rfl rfl (by omega) (by omega) (⟨_, rfl, congrArg (fun z => Value.int (nI z)) (by omega), ⟨by omega, w8.2.1, fun i hi (hn : ¬ (i = q)) => ((w8.2.2.2 i (by omega)).trans ((w5.2.2.2 i (by omega)).trans rfl))⟩, _, by omega, w8.2.2.1, bFit_up (bFit_up (hf) (nb_F (by decide) (by omega))) (nb_F (by decide) (by omega)), fun j hj => (aup_n _ _ (by omega)).trans ((aup_n _ _ (by omega))), fun i hi => ?_⟩)
      rcases (show i = 0 ∨ i = 1 by omega) with rfl | rfl
      · exact ((aup_at (by omega))).trans ((nb_D (by decide) (by omega)).trans (congrArg nI (by first | (rw [tD0, dgc_k hd (by decide : 10 ^ (2 - 1 - 0) = 10)]; omega) | rw [tD0, dgc_k hd (by decide : 10 ^ (2 - 1 - 0) = 10)])))
      · exact ((aup_n _ _ (by omega)).trans ((aup_at (by omega)))).trans ((nb_D (by decide) (by omega)).trans (congrArg nI (by first | (rw [tD1, dgc_k hd (by decide : 10 ^ (2 - 1 - 1) = 1)]; omega) | rw [tD1, dgc_k hd (by decide : 10 ^ (2 - 1 - 1) = 1)])))
  · have g9 : ¬ v < 100 := fun z => h9 ((neg_lt (by omega) (by omega)).mpr z)
    by_cases h8 : v < 1000
    · rw [dgs_3 g9 h8] at hd
      subst hd
      have hd : dgs v = 3 := dgs_3 g9 h8
      refine r_iload_n rfl rfl ?_
      refine n_bipush 100 rfl (by decide) ?_
      refine r_idiv rfl (by decide) ?_
      refine r_top (y := (-nI (v / 100))) (ng_div (by omega)) ?_
      refine r_istore_n (lv' := [(3, .int ((-nI (v / 100)))), (0, .int (-(nI v))), (6, .int (nI 0)), (5, .int (nI (u + 3))), (1, .int (nI (u + 3))), (2, .ref q)]) rfl rfl (Nat.le_of_ble_eq_true rfl) rfl ?_
      refine r_iload_n rfl rfl ?_
      refine n_bipush 100 rfl (by decide) ?_
      refine r_imul rfl ?_
      refine r_iload_n rfl rfl ?_
      refine r_isub rfl ?_
      refine r_top (y := nI (v % 100)) (ng_rem (by omega)) ?_
      refine r_istore (lv' := [(4, .int (nI (v % 100))), (3, .int ((-nI (v / 100)))), (0, .int (-(nI v))), (6, .int (nI 0)), (5, .int (nI (u + 3))), (1, .int (nI (u + 3))), (2, .ref q)]) rfl (Nat.le_of_ble_eq_true rfl) rfl ?_
      refine r_iload_n rfl rfl ?_
      refine r_istore_n (lv' := [(0, .int ((-nI (v / 100)))), (4, .int (nI (v % 100))), (3, .int ((-nI (v / 100)))), (6, .int (nI 0)), (5, .int (nI (u + 3))), (1, .int (nI (u + 3))), (2, .ref q)]) rfl rfl (Nat.le_of_ble_eq_true rfl) rfl ?_
      refine r_aload_n rfl rfl ?_
      refine r_iinc (lv' := [(5, .int (nI ((u + 3) - 1))), (0, .int ((-nI (v / 100)))), (4, .int (nI (v % 100))), (3, .int ((-nI (v / 100)))), (6, .int (nI 0)), (1, .int (nI (u + 3))), (2, .ref q)]) rfl rfl (sb_m1 (by omega)) (Nat.le_of_ble_eq_true rfl) rfl ?_
      refine r_iload rfl rfl ?_
      refine r_getsD (i := 1) rfl (by decide) fkJ6_83 ?_
      refine r_iload rfl rfl ?_
      refine r_baldD (i := 1) rfl (by decide) (by omega) ?_
      refine t_bast rfl hx (by omega) hQ (by omega) (by omega) ?_
      intro S10 w11
      have z12 := w11.1
      refine r_aload_n rfl rfl ?_
      refine r_iinc (lv' := [(5, .int (nI (((u + 3) - 1) - 1))), (0, .int ((-nI (v / 100)))), (4, .int (nI (v % 100))), (3, .int ((-nI (v / 100)))), (6, .int (nI 0)), (1, .int (nI (u + 3))), (2, .ref q)]) rfl rfl (sb_m1 (by omega)) (Nat.le_of_ble_eq_true rfl) rfl ?_
      refine r_iload rfl rfl ?_
      refine r_getsD (i := 0) rfl (by decide) fkJ6_87 ?_
      refine r_iload rfl rfl ?_
      refine r_baldD (i := 0) rfl (by decide) (by omega) ?_
      refine t_bast rfl w11.2.1 (by omega) w11.2.2.1 (by omega) (by omega) ?_
      intro S13 w14
      have z15 := w14.1
      refine r_goto (tgt := 22) rfl rfl ?_
      refine r_iload_n rfl rfl ?_
      refine r_bipush (v := -100) rfl (by decide) ?_
      refine r_top (y := (-nI 100)) (by decide) ?_
      refine r_icmp_gt (tgt := 72) rfl rfl (fun _ => ?_) (fun hq => absurd ((neg_lt (by omega) (by omega)).mpr (by omega)) hq)
      refine r_aload_n rfl rfl ?_
      refine r_iinc (lv' := [(5, .int (nI ((((u + 3) - 1) - 1) - 1))), (0, .int ((-nI (v / 100)))), (4, .int (nI (v % 100))), (3, .int ((-nI (v / 100)))), (6, .int (nI 0)), (1, .int (nI (u + 3))), (2, .ref q)]) rfl rfl (sb_m1 (by omega)) (Nat.le_of_ble_eq_true rfl) rfl ?_
      refine r_iload rfl rfl ?_
      refine r_getsD (i := 1) rfl (by decide) fkJ6_83 ?_
      refine r_iload_n rfl rfl ?_
      refine r_ineg rfl ?_
      refine r_top (y := nI (v / 100)) Int32.neg_neg ?_
      refine r_baldD (i := 1) rfl (by decide) (by omega) ?_
      refine t_bast rfl w14.2.1 (by omega) w14.2.2.1 (by omega) (by omega) ?_
      intro S16 w17
      have z18 := w17.1
      refine r_iload_n rfl rfl ?_
      refine r_bipush (v := -9) rfl (by decide) ?_
      refine r_top (y := (-nI 9)) (by decide) ?_
      refine r_icmp_ge (tgt := 104) rfl rfl (fun _ => ?_) (fun hq => absurd ((neg_le (by omega) (by omega)).mpr (by omega)) hq)
      refine r_iload rfl rfl ?_
      refine n_if_eq (tgt := 118) rfl rfl (by omega) (fun _ => ?_) (fun hq => absurd hq (by omega))
      refine r_iload rfl rfl ?_
      refine r_ret rfl rfl rfl (by omega) (by omega) (⟨_, rfl, congrArg (fun z => Value.int (nI z)) (by omega), ⟨by omega, w17.2.1, fun i hi (hn : ¬ (i = q)) => ((w17.2.2.2 i (by omega)).trans ((w14.2.2.2 i (by omega)).trans ((w11.2.2.2 i (by omega)).trans rfl)))⟩, _, by omega, w17.2.2.1, bFit_up (bFit_up (bFit_up (hf) (nb_F (by decide) (by omega))) (nb_F (by decide) (by omega))) (nb_F (by decide) (by omega)), fun j hj => (aup_n _ _ (by omega)).trans ((aup_n _ _ (by omega)).trans ((aup_n _ _ (by omega)))), fun i hi => ?_⟩)
      rcases (show i = 0 ∨ i = 1 ∨ i = 2 by omega) with rfl | rfl | rfl
      · exact ((aup_at (by omega))).trans ((nb_D (by decide) (by omega)).trans (congrArg nI (by first | (rw [tD1, dgc_k hd (by decide : 10 ^ (3 - 1 - 0) = 100)]; omega) | rw [tD1, dgc_k hd (by decide : 10 ^ (3 - 1 - 0) = 100)])))
      · exact ((aup_n _ _ (by omega)).trans ((aup_at (by omega)))).trans ((nb_D (by decide) (by omega)).trans (congrArg nI (by first | (rw [tD0, dgc_k hd (by decide : 10 ^ (3 - 1 - 1) = 10)]; omega) | rw [tD0, dgc_k hd (by decide : 10 ^ (3 - 1 - 1) = 10)])))
      · exact ((aup_n _ _ (by omega)).trans ((aup_n _ _ (by omega)).trans ((aup_at (by omega))))).trans ((nb_D (by decide) (by omega)).trans (congrArg nI (by first | (rw [tD1, dgc_k hd (by decide : 10 ^ (3 - 1 - 2) = 1)]; omega) | rw [tD1, dgc_k hd (by decide : 10 ^ (3 - 1 - 2) = 1)])))
    · rw [dgs_4 h8] at hd
      subst hd
      have hd : dgs v = 4 := dgs_4 h8
      refine r_iload_n rfl rfl ?_
      refine n_bipush 100 rfl (by decide) ?_
      refine r_idiv rfl (by decide) ?_
      refine r_top (y := (-nI (v / 100))) (ng_div (by omega)) ?_
      refine r_istore_n (lv' := [(3, .int ((-nI (v / 100)))), (0, .int (-(nI v))), (6, .int (nI 0)), (5, .int (nI (u + 4))), (1, .int (nI (u + 4))), (2, .ref q)]) rfl rfl (Nat.le_of_ble_eq_true rfl) rfl ?_
      refine r_iload_n rfl rfl ?_
      refine n_bipush 100 rfl (by decide) ?_
      refine r_imul rfl ?_
      refine r_iload_n rfl rfl ?_
      refine r_isub rfl ?_
      refine r_top (y := nI (v % 100)) (ng_rem (by omega)) ?_
      refine r_istore (lv' := [(4, .int (nI (v % 100))), (3, .int ((-nI (v / 100)))), (0, .int (-(nI v))), (6, .int (nI 0)), (5, .int (nI (u + 4))), (1, .int (nI (u + 4))), (2, .ref q)]) rfl (Nat.le_of_ble_eq_true rfl) rfl ?_
      refine r_iload_n rfl rfl ?_
      refine r_istore_n (lv' := [(0, .int ((-nI (v / 100)))), (4, .int (nI (v % 100))), (3, .int ((-nI (v / 100)))), (6, .int (nI 0)), (5, .int (nI (u + 4))), (1, .int (nI (u + 4))), (2, .ref q)]) rfl rfl (Nat.le_of_ble_eq_true rfl) rfl ?_
      refine r_aload_n rfl rfl ?_
      refine r_iinc (lv' := [(5, .int (nI ((u + 4) - 1))), (0, .int ((-nI (v / 100)))), (4, .int (nI (v % 100))), (3, .int ((-nI (v / 100)))), (6, .int (nI 0)), (1, .int (nI (u + 4))), (2, .ref q)]) rfl rfl (sb_m1 (by omega)) (Nat.le_of_ble_eq_true rfl) rfl ?_
      refine r_iload rfl rfl ?_
      refine r_getsD (i := 1) rfl (by decide) fkJ6_83 ?_
      refine r_iload rfl rfl ?_
      refine r_baldD (i := 1) rfl (by decide) (by omega) ?_
      refine t_bast rfl hx (by omega) hQ (by omega) (by omega) ?_
      intro S19 w20
      have z21 := w20.1
      refine r_aload_n rfl rfl ?_
      refine r_iinc (lv' := [(5, .int (nI (((u + 4) - 1) - 1))), (0, .int ((-nI (v / 100)))), (4, .int (nI (v % 100))), (3, .int ((-nI (v / 100)))), (6, .int (nI 0)), (1, .int (nI (u + 4))), (2, .ref q)]) rfl rfl (sb_m1 (by omega)) (Nat.le_of_ble_eq_true rfl) rfl ?_
      refine r_iload rfl rfl ?_
      refine r_getsD (i := 0) rfl (by decide) fkJ6_87 ?_
      refine r_iload rfl rfl ?_
      refine r_baldD (i := 0) rfl (by decide) (by omega) ?_
      refine t_bast rfl w20.2.1 (by omega) w20.2.2.1 (by omega) (by omega) ?_
      intro S22 w23
      have z24 := w23.1
      refine r_goto (tgt := 22) rfl rfl ?_
      refine r_iload_n rfl rfl ?_
      refine r_bipush (v := -100) rfl (by decide) ?_
      refine r_top (y := (-nI 100)) (by decide) ?_
      refine r_icmp_gt (tgt := 72) rfl rfl (fun _ => ?_) (fun hq => absurd ((neg_lt (by omega) (by omega)).mpr (by omega)) hq)
      refine r_aload_n rfl rfl ?_
      refine r_iinc (lv' := [(5, .int (nI ((((u + 4) - 1) - 1) - 1))), (0, .int ((-nI (v / 100)))), (4, .int (nI (v % 100))), (3, .int ((-nI (v / 100)))), (6, .int (nI 0)), (1, .int (nI (u + 4))), (2, .ref q)]) rfl rfl (sb_m1 (by omega)) (Nat.le_of_ble_eq_true rfl) rfl ?_
      refine r_iload rfl rfl ?_
      refine r_getsD (i := 1) rfl (by decide) fkJ6_83 ?_
      refine r_iload_n rfl rfl ?_
      refine r_ineg rfl ?_
      refine r_top (y := nI (v / 100)) Int32.neg_neg ?_
      refine r_baldD (i := 1) rfl (by decide) (by omega) ?_
      refine t_bast rfl w23.2.1 (by omega) w23.2.2.1 (by omega) (by omega) ?_
      intro S25 w26
      have z27 := w26.1
      refine r_iload_n rfl rfl ?_
      refine r_bipush (v := -9) rfl (by decide) ?_
      refine r_top (y := (-nI 9)) (by decide) ?_
      refine r_icmp_ge (tgt := 104) rfl rfl (fun hq => absurd ((neg_le (by omega) (by omega)).mp hq) (by omega)) (fun _ => ?_)
      refine r_aload_n rfl rfl ?_
      refine r_iinc (lv' := [(5, .int (nI (((((u + 4) - 1) - 1) - 1) - 1))), (0, .int ((-nI (v / 100)))), (4, .int (nI (v % 100))), (3, .int ((-nI (v / 100)))), (6, .int (nI 0)), (1, .int (nI (u + 4))), (2, .ref q)]) rfl rfl (sb_m1 (by omega)) (Nat.le_of_ble_eq_true rfl) rfl ?_
      refine r_iload rfl rfl ?_
      refine r_getsD (i := 0) rfl (by decide) fkJ6_87 ?_
      refine r_iload_n rfl rfl ?_
      refine r_ineg rfl ?_
      refine r_top (y := nI (v / 100)) Int32.neg_neg ?_
      refine r_baldD (i := 0) rfl (by decide) (by omega) ?_
      refine t_bast rfl w26.2.1 (by omega) w26.2.2.1 (by omega) (by omega) ?_
      intro S28 w29
      have z30 := w29.1
      refine r_iload rfl rfl ?_
      refine n_if_eq (tgt := 118) rfl rfl (by omega) (fun _ => ?_) (fun hq => absurd hq (by omega))
      refine r_iload rfl rfl ?_
      refine r_ret rfl rfl rfl (by omega) (by omega) (⟨_, rfl, congrArg (fun z => Value.int (nI z)) (by omega), ⟨by omega, w29.2.1, fun i hi (hn : ¬ (i = q)) => ((w29.2.2.2 i (by omega)).trans ((w26.2.2.2 i (by omega)).trans ((w23.2.2.2 i (by omega)).trans ((w20.2.2.2 i (by omega)).trans rfl))))⟩, _, by omega, w29.2.2.1, bFit_up (bFit_up (bFit_up (bFit_up (hf) (nb_F (by decide) (by omega))) (nb_F (by decide) (by omega))) (nb_F (by decide) (by omega))) (nb_F (by decide) (by omega)), fun j hj => (aup_n _ _ (by omega)).trans ((aup_n _ _ (by omega)).trans ((aup_n _ _ (by omega)).trans ((aup_n _ _ (by omega))))), fun i hi => ?_⟩)
      rcases (show i = 0 ∨ i = 1 ∨ i = 2 ∨ i = 3 by omega) with rfl | rfl | rfl | rfl
      · exact ((aup_at (by omega))).trans ((nb_D (by decide) (by omega)).trans (congrArg nI (by first | (rw [tD0, dgc_k hd (by decide : 10 ^ (4 - 1 - 0) = 1000)]; omega) | rw [tD0, dgc_k hd (by decide : 10 ^ (4 - 1 - 0) = 1000)])))
      · exact ((aup_n _ _ (by omega)).trans ((aup_at (by omega)))).trans ((nb_D (by decide) (by omega)).trans (congrArg nI (by first | (rw [tD1, dgc_k hd (by decide : 10 ^ (4 - 1 - 1) = 100)]; omega) | rw [tD1, dgc_k hd (by decide : 10 ^ (4 - 1 - 1) = 100)])))
      · exact ((aup_n _ _ (by omega)).trans ((aup_n _ _ (by omega)).trans ((aup_at (by omega))))).trans ((nb_D (by decide) (by omega)).trans (congrArg nI (by first | (rw [tD0, dgc_k hd (by decide : 10 ^ (4 - 1 - 2) = 10)]; omega) | rw [tD0, dgc_k hd (by decide : 10 ^ (4 - 1 - 2) = 10)])))
      · exact ((aup_n _ _ (by omega)).trans ((aup_n _ _ (by omega)).trans ((aup_n _ _ (by omega)).trans ((aup_at (by omega)))))).trans ((nb_D (by decide) (by omega)).trans (congrArg nI (by first | (rw [tD1, dgc_k hd (by decide : 10 ^ (4 - 1 - 3) = 1)]; omega) | rw [tD1, dgc_k hd (by decide : 10 ^ (4 - 1 - 3) = 1)])))

theorem j5_appI {sc : SC} {S : AS} {t q u : Nat} {y : Nat → Nat} (hx : S.2.2 = true) (hB : SB S t q u y) {v : Nat} (hv : v < 10000) (hu : u < 700) : Cal sc mJ5_appI 1 1500 [.ref t, .int (nI v)] S (AR fun z S' => z = .ref t ∧ SBR S t q (u + dgs v) (tcat u y (dgc v)) S') := by
  refine Cal.of gmJ5_appI (Nat.le_of_ble_eq_true rfl) ?_
  obtain ⟨V, f, m, hV, ⟨h0, h1, h3⟩, hQ, hfit, hy, ⟨htq, hq⟩, hnm, hm9⟩ := hB
  have ht : t < S.2.1 := by omega
  have hdb := dgs_b v
  show Wp sc mJ5_appI 1 1500 0 0 0 [(0, .ref t), (1, .int (nI v))] [] S (AR fun z S' => z = .ref t ∧ SBR S t q (u + dgs v) (tcat u y (dgc v)) S')
  refine r_aload_n rfl rfl ?_
  refine r_getf (v := .int (nI u)) rfl flJ5_79 (by omega) hV h3 ?_
  refine r_istore_n (lv' := [(2, .int (nI u)), (0, .ref t), (1, .int (nI v))]) rfl rfl (Nat.le_of_ble_eq_true rfl) rfl ?_
  refine r_iload_n rfl rfl ?_
  refine r_iload_n rfl rfl ?_
  refine c_staA [.int (nI v)] [.int (nI u)] rfl lkJ5_245 (j_size (S := S) hv) rfl rfl (by omega) (by omega) rfl ?_
  rintro _ _ ⟨rfl, rfl⟩
  refine n_iadd rfl ?_
  refine r_istore_n (lv' := [(3, .int (nI (u + (dgs v)))), (2, .int (nI u)), (0, .ref t), (1, .int (nI v))]) rfl rfl (Nat.le_of_ble_eq_true rfl) rfl ?_
  refine r_aload_n rfl rfl ?_
  refine r_iload_n rfl rfl ?_
  refine c_virSV (r := (RJ4, TJ4, 4)) [.int (nI (u + (dgs v)))] [] rfl lkJ5_100 (by omega) hV rfl (j_ensure (S := S) hx ht hV h1 hq h0 hQ (w := u + dgs v) (by omega) (by omega) hfit htq) rfl rfl (by omega) (by omega) ?_
  rintro S1 ⟨fr2, V1, q1, m1, f1, gV, ⟨g0, g1, g3⟩, gQ, gfit, gk, ⟨gt, gq, ge⟩, gm, gm2⟩
  have z3 := fr2.1
  refine r_aload_n rfl rfl ?_
  refine c_virSA (r := (RJ4, TJ4, 4)) [] [] rfl lkJ5_83 (by omega) gV rfl (j_isLat (S := S1) (by omega) gV g1) rfl rfl (by omega) (by omega) ?_
  rintro _ _ ⟨rfl, rfl⟩
  refine n_if_eq (tgt := 37) rfl rfl (by omega) (fun hq => absurd hq (by decide)) (fun _ => ?_)
  refine r_iload_n rfl rfl ?_
  refine r_iload_n rfl rfl ?_
  refine r_aload_n rfl rfl ?_
  refine r_getf (v := .ref q1) rfl flJ5_15 (by omega) gV g0 ?_
  refine c_staA [.int (nI v), .int (nI (u + (dgs v))), .ref q1] [] rfl lkJ5_248 (j_chars (S := S1) fr2.2.1 hv rfl (by omega) gQ gm (by omega) gfit) rfl rfl (by omega) (by omega) rfl ?_
  rintro _ S4 ⟨rfl, fr5, f2, hs2, gQ2, gfit2, gk2, gd2⟩
  have z6 := fr5.1
  refine r_pop rfl rfl ?_
  refine r_goto (tgt := 48) rfl rfl ?_
  refine r_aload_n rfl rfl ?_
  refine r_iload_n rfl rfl ?_
  have hp7 : S4.1 t = oO 12 V1 := ((fr5.2.2 t (by omega) (show ¬ (_ = q1) by omega)).trans gV)
  refine t_putf rfl flJ5_79 (okv_i _) fr5.2.1 (by omega) hp7 ?_
  intro S8 w9
  have z10 := w9.1
  refine r_aload_n rfl rfl ?_
  have hp11 : S8.1 q1 = oI0 1 m1 f2 := ((w9.2.2.2 q1 (by omega)).trans gQ2)
  refine r_aret rfl rfl (Or.inl ⟨_, rfl⟩) (by omega) (by omega) (⟨_, rfl, rfl, ⟨by omega, w9.2.1, fun i hi (hn : ¬ (i = t ∨ i = q)) => ((w9.2.2.2 i (by omega)).trans ((fr5.2.2 i (by omega) (show ¬ (_ = q1) by omega)).trans ((fr2.2.2 i (by omega) (show ¬ (_ = t) by omega)).trans rfl)))⟩, q1, ⟨_, _, m1, w9.2.2.1, ⟨(aup_n _ _ (by decide)).trans g0, (aup_n _ _ (by decide)).trans g1, aup_s _ _ _⟩, hp11, gfit2, fun j hj => ?_, ⟨gt, by omega⟩, gm, by omega⟩, by omega⟩)
  unfold tcat
  by_cases e : j < u
  · rw [if_pos e, gk2 j e, gk j (by omega)]
    exact hy j e
  · have e9 := gd2 (j - u) (by omega)
    have e8 := dgc_b v (j - u)
    rw [show u + (j - u) = j by omega] at e9
    rw [if_neg e, e9]
    exact ⟨rfl, by omega⟩

theorem j_appI {sc : SC} {S : AS} {t q u : Nat} {y : Nat → Nat} (hx : S.2.2 = true) (hB : SB S t q u y) {v : Nat} (hv : v < 10000) (hu : u < 700) : Cal sc mJ4_appI 1 1500 [.ref t, .int (nI v)] S (AR fun z9 S' => z9 = .ref t ∧ SBR S t q (u + dgs v) (tcat u y (dgc v)) S') := by
  refine Cal.of gmJ4_appI (Nat.le_of_ble_eq_true rfl) ?_
  have hB9 := hB
  obtain ⟨V, f, m, hV, -, -, -, -, ⟨htq, hq⟩, -⟩ := hB9
  have ht : t < S.2.1 := by omega
  show Wp sc mJ4_appI 1 1500 0 0 0 [(0, .ref t), (1, .int (nI v))] [] S (AR fun z9 S' => z9 = .ref t ∧ SBR S t q (u + dgs v) (tcat u y (dgc v)) S')
  refine r_aload_n rfl rfl ?_
  refine r_iload_n rfl rfl ?_
  refine c_superA [.int (nI v)] [] rfl lkJ4_53 (by omega) hV rfl (j5_appI (S := S) hx hB hv hu) rfl rfl (by omega) (by omega) ?_
  rintro _ S1 ⟨rfl, fr2, hR⟩
  have z3 := fr2.1
  refine r_pop rfl rfl ?_
  refine r_aload_n rfl rfl ?_
  exact r_aret rfl rfl (Or.inl ⟨_, rfl⟩) (by omega) (by omega) (⟨_, rfl, rfl, fr2, hR⟩)

theorem j5_init {sc : SC} {S : AS} {t : Nat} {V : Nat → Value} (hx : S.2.2 = true) (ht : t < S.2.1) (hV : S.1 t = oO 12 V) (h3 : V 3 = .int (nI 0)) : Cal sc mJ5_init 1 16 [.ref t, .int (nI 16)] S (AV0 fun S' => Fr S S' (fun i => i = t) ∧ S'.2.1 = S.2.1 + 1 ∧ ∀ y, SB S' t S.2.1 0 y) := by
  refine Cal.of gmJ5_init (Nat.le_of_ble_eq_true rfl) ?_
  show Wp sc mJ5_init 1 16 0 0 0 [(0, .ref t), (1, .int (nI 16))] [] S (AV0 fun S' => Fr S S' (fun i => i = t) ∧ S'.2.1 = S.2.1 + 1 ∧ ∀ y, SB S' t S.2.1 0 y)
  refine r_aload_n rfl rfl ?_
  refine r_obj (μ := mJ5_init) rfl obJ5_3 obI obC rfl rfl ?_
  refine r_getsC rfl fkJ5_18 ?_
  refine r_top (y := nI 1) rfl ?_
  refine n_if_eq (tgt := 25) rfl rfl (by omega) (fun hq => absurd hq (by decide)) (fun _ => ?_)
  refine r_aload_n rfl rfl ?_
  refine r_iload_n rfl rfl ?_
  refine t_newa1 rfl hx (by decide) (by omega) (by omega) ?_
  intro S1 w2
  have z3 := w2.1
  have hp4 : S1.1 t = oO 12 V := ((w2.2.2.2 t (by omega)).trans hV)
  refine t_putf rfl flJ5_15 (okv_a _ _) w2.2.1 (by omega) hp4 ?_
  intro S5 w6
  have z7 := w6.1
  refine r_aload_n rfl rfl ?_
  refine n_iconst 0 rfl ?_
  refine t_putf rfl flJ5_22 (okv_b0) w6.2.1 (by omega) w6.2.2.1 ?_
  intro S8 w9
  have z10 := w9.1
  refine r_goto (tgt := 38) rfl rfl ?_
  have hp11 : S8.1 S.2.1 = oI0 1 16 (fun _ => 0) := ((w9.2.2.2 S.2.1 (by omega)).trans ((w6.2.2.2 S.2.1 (by omega)).trans w2.2.2.1))
  exact r_vret rfl rfl (by omega) (by omega) (⟨rfl, ⟨by omega, w9.2.1, fun i hi (hn : ¬ (i = t)) => ((w9.2.2.2 i (by omega)).trans ((w6.2.2.2 i (by omega)).trans ((w2.2.2.2 i (by omega)).trans rfl)))⟩, by omega, fun y => ⟨_, _, 16, w9.2.2.1, ⟨(aup_n _ _ (by decide)).trans (aup_s _ _ _), aup_s _ _ _, (aup_n _ _ (by decide)).trans ((aup_n _ _ (by decide)).trans h3)⟩, hp11, bFit_0, fun j hj => absurd hj (Nat.not_lt_zero _), ⟨ht, by omega⟩, by omega, by omega⟩⟩)

theorem j_init {sc : SC} {S : AS} {t : Nat} {V : Nat → Value} (hx : S.2.2 = true) (ht : t < S.2.1) (hV : S.1 t = oO 12 V) (h3 : V 3 = .int (nI 0)) : Cal sc mJ4_init 1 16 [.ref t] S (AV0 fun S' => Fr S S' (fun i => i = t) ∧ S'.2.1 = S.2.1 + 1 ∧ ∀ y, SB S' t S.2.1 0 y) := by
  refine Cal.of gmJ4_init (Nat.le_of_ble_eq_true rfl) ?_
  show Wp sc mJ4_init 1 16 0 0 0 [(0, .ref t)] [] S (AV0 fun S' => Fr S S' (fun i => i = t) ∧ S'.2.1 = S.2.1 + 1 ∧ ∀ y, SB S' t S.2.1 0 y)
  refine r_aload_n rfl rfl ?_
  refine n_bipush 16 rfl (by decide) ?_
  refine c_iniV [.int (nI 16)] [] rfl lkJ4_1 (j5_init (S := S) hx ht hV h3) rfl rfl (by omega) (by omega) ?_
  rintro S1 ⟨fr2, hs9, hR⟩
  have z3 := fr2.1
  exact r_vret rfl rfl (by omega) (by omega) (⟨rfl, fr2, hs9, hR⟩)

theorem j5_len {sc : SC} {S : AS} {t : Nat} {V : Nat → Value} {u : Nat} (ht : t < S.2.1) (hV : S.1 t = oO 12 V) (h3 : V 3 = .int (nI u)) : Cal sc mJ5_len 0 0 [.ref t] S (AR fun z S' => z = .int (nI u) ∧ S = S') := by
  refine Cal.of gmJ5_len (Nat.le_of_ble_eq_true rfl) ?_
  show Wp sc mJ5_len 0 0 0 0 0 [(0, .ref t)] [] S (AR fun z S' => z = .int (nI u) ∧ S = S')
  refine r_aload_n rfl rfl ?_
  refine r_getf (v := .int (nI u)) rfl flJ5_79 (by omega) hV h3 ?_
  exact r_ret rfl rfl rfl (by omega) (by omega) (⟨_, rfl, rfl, rfl⟩)

theorem j_len {sc : SC} {S : AS} {t : Nat} {V : Nat → Value} {u : Nat} (ht : t < S.2.1) (hV : S.1 t = oO 12 V) (h3 : V 3 = .int (nI u)) : Cal sc mJ4_len 0 0 [.ref t] S (AR fun z S' => z = .int (nI u) ∧ S = S') := by
  refine Cal.of gmJ4_len (Nat.le_of_ble_eq_true rfl) ?_
  show Wp sc mJ4_len 0 0 0 0 0 [(0, .ref t)] [] S (AR fun z S' => z = .int (nI u) ∧ S = S')
  refine r_aload_n rfl rfl ?_
  refine c_superA [] [] rfl lkJ4_343 (by omega) hV rfl (j5_len (S := S) ht hV h3) rfl rfl (by omega) (by omega) ?_
  rintro _ _ ⟨rfl, rfl⟩
  exact r_ret rfl rfl rfl (by omega) (by omega) (⟨_, rfl, rfl, rfl⟩)

theorem j_getVal {sc : SC} {S : AS} {t q : Nat} {V : Nat → Value} (ht : t < S.2.1) (hV : S.1 t = oO 12 V) (h0 : V 0 = .ref q) : Cal sc mJ5_getVal 0 0 [.ref t] S (AR fun z S' => z = .ref q ∧ S = S') := by
  refine Cal.of gmJ5_getVal (Nat.le_of_ble_eq_true rfl) ?_
  show Wp sc mJ5_getVal 0 0 0 0 0 [(0, .ref t)] [] S (AR fun z S' => z = .ref q ∧ S = S')
  refine r_aload_n rfl rfl ?_
  refine r_getf (v := .ref q) rfl flJ5_15 (by omega) hV h0 ?_
  exact r_aret rfl rfl (Or.inr ⟨_, rfl⟩) (by omega) (by omega) (⟨_, rfl, rfl, rfl⟩)

theorem j_chk {sc : SC} {S : AS} {u : Nat} (hu : u < 60000) : Cal sc mJ7_chk 0 0 [.int (nI 0), .int (nI u)] S (AV0 fun S' => S = S') := by
  refine Cal.of gmJ7_chk (Nat.le_of_ble_eq_true rfl) ?_
  show Wp sc mJ7_chk 0 0 0 0 0 [(0, .int (nI 0)), (1, .int (nI u))] [] S (AV0 fun S' => S = S')
  refine r_iload_n rfl rfl ?_
  refine r_iload_n rfl rfl ?_
  refine n_icmp_ge (tgt := 37) rfl rfl (by omega) (by omega) (fun _ => ?_) (fun hq => absurd hq (by omega))
  exact r_vret rfl rfl (by omega) (by omega) (⟨rfl, rfl⟩)

theorem j_cpyRB {sc : SC} {S : AS} {a na u : Nat} {f : Nat → Int32} (hx : S.2.2 = true) (ha : a < S.2.1) (hA : S.1 a = oI0 1 na f) (hfit : bFit f) (hn : na < 60000) (hu : u ≤ na) : Cal sc mJ7_cpyRB 1 u [.ref a, .int (nI 0), .int (nI u)] S (AR fun v S' => v = .ref S.2.1 ∧ Fr S S' Xno ∧ S'.2.1 = S.2.1 + 1 ∧ ∃ g, S'.1 S.2.1 = oI0 1 u g ∧ ∀ j, j < u → g j = f j) := by
  refine Cal.of gmJ7_cpyRB (Nat.le_of_ble_eq_true rfl) ?_
  show Wp sc mJ7_cpyRB 1 u 0 0 0 [(0, .ref a), (1, .int (nI 0)), (2, .int (nI u))] [] S (AR fun v S' => v = .ref S.2.1 ∧ Fr S S' Xno ∧ S'.2.1 = S.2.1 + 1 ∧ ∃ g, S'.1 S.2.1 = oI0 1 u g ∧ ∀ j, j < u → g j = f j)
  refine r_iload_n rfl rfl ?_
  refine r_iload_n rfl rfl ?_
  refine c_staV [.int (nI 0), .int (nI u)] [] rfl lkJ7_343 (j_chk (S := S) (by omega)) rfl rfl (by omega) (by omega) rfl ?_
  rintro _ rfl
  refine r_iload_n rfl rfl ?_
  refine r_iload_n rfl rfl ?_
  refine n_isub rfl (by omega) ?_
  refine r_istore_n (lv' := [(3, .int (nI (u - 0))), (0, .ref a), (1, .int (nI 0)), (2, .int (nI u))]) rfl rfl (Nat.le_of_ble_eq_true rfl) rfl ?_
  refine r_iload_n rfl rfl ?_
  refine t_newa1 rfl hx (by omega) (by omega) (by omega) ?_
  intro S1 w2
  have z3 := w2.1
  refine r_astore (lv' := [(4, .ref S.2.1), (3, .int (nI (u - 0))), (0, .ref a), (1, .int (nI 0)), (2, .int (nI u))]) rfl (Nat.le_of_ble_eq_true rfl) rfl ?_
  refine r_aload_n rfl rfl ?_
  refine r_iload_n rfl rfl ?_
  refine r_aload rfl rfl ?_
  refine n_iconst 0 rfl ?_
  refine r_aload_n rfl rfl ?_
  have hp4 : S1.1 a = oI0 1 na f := ((w2.2.2.2 a (by omega)).trans hA)
  refine r_alen rfl (by omega) hp4 (by decide) ?_
  refine r_iload_n rfl rfl ?_
  refine n_isub rfl (by omega) ?_
  refine r_iload_n rfl rfl ?_
  refine t_mmin (μ := mJ7_cpyRB) (a := na - 0) (b := u - 0) rfl mb_minLJ7_304 ma_minS maI ma_minC rfl rfl (by omega) (by omega) (by omega) (by omega) ?_
  refine t_cpyb rfl syJ7_150 w2.2.1 (by omega) (by omega) hp4 w2.2.2.1 (by omega) (by omega) (by omega) (by omega) hfit rfl rfl ?_
  intro S5 w6
  have z7 := w6.1
  refine r_aload rfl rfl ?_
  exact r_aret rfl rfl (Or.inr ⟨_, rfl⟩) (by omega) (by omega) (⟨_, rfl, rfl, ⟨by omega, w6.2.1, fun i hi _ => ((w6.2.2.2 i (by omega)).trans ((w2.2.2.2 i (by omega)).trans rfl))⟩, by omega, _, w6.2.2.1, fun j hj => (pk_cpy_in (Nat.zero_le _) (by omega)).trans (by rw [Nat.sub_zero, Nat.zero_add])⟩)

theorem j_cpyR {sc : SC} {S : AS} {a na u : Nat} {f : Nat → Int32} (hx : S.2.2 = true) (ha : a < S.2.1) (hA : S.1 a = oI0 1 na f) (hfit : bFit f) (hn : na < 60000) (hu : u ≤ na) : Cal sc mJ7_cpyR 1 u [.ref a, .int (nI 0), .int (nI u)] S (AR fun v S' => v = .ref S.2.1 ∧ Fr S S' Xno ∧ S'.2.1 = S.2.1 + 1 ∧ ∃ g, S'.1 S.2.1 = oI0 1 u g ∧ ∀ j, j < u → g j = f j) := by
  refine Cal.of gmJ7_cpyR (Nat.le_of_ble_eq_true rfl) ?_
  show Wp sc mJ7_cpyR 1 u 0 0 0 [(0, .ref a), (1, .int (nI 0)), (2, .int (nI u))] [] S (AR fun v S' => v = .ref S.2.1 ∧ Fr S S' Xno ∧ S'.2.1 = S.2.1 + 1 ∧ ∃ g, S'.1 S.2.1 = oI0 1 u g ∧ ∀ j, j < u → g j = f j)
  refine r_iload_n rfl rfl ?_
  refine n_if_ne (tgt := 10) rfl rfl (by omega) (fun hq => absurd hq (by omega)) (fun _ => ?_)
  refine r_iload_n rfl rfl ?_
  refine r_aload_n rfl rfl ?_
  refine r_alen rfl (by omega) hA (by decide) ?_
  refine n_icmp_eq (tgt := 17) rfl rfl (by omega) (by omega) (fun h9 => ?_) (fun h9 => ?_)
  · have e9 : u = na := h9
    subst e9
    refine r_aload_n rfl rfl ?_
    refine t_clone rfl cnJ7_310 hx (by omega) hA hfit rfl rfl (by omega) (by omega) ?_
    intro S1 w2
    have z3 := w2.1
    refine r_castB rfl awJ7_311 (by omega) w2.2.2.1 ?_
    exact r_aret rfl rfl (Or.inr ⟨_, rfl⟩) (by omega) (by omega) (⟨_, rfl, rfl, ⟨by omega, w2.2.1, fun i hi _ => ((w2.2.2.2 i (by omega)).trans rfl)⟩, by omega, _, w2.2.2.1, fun j hj => rfl⟩)
  · refine r_aload_n rfl rfl ?_
    refine r_iload_n rfl rfl ?_
    refine r_iload_n rfl rfl ?_
    refine c_staA [.ref a, .int (nI 0), .int (nI u)] [] rfl lkJ7_339 (j_cpyRB (S := S) hx ha hA hfit hn hu) rfl rfl (by omega) (by omega) rfl ?_
    rintro _ S4 ⟨rfl, fr5, hR⟩
    have z6 := fr5.1
    exact r_aret rfl rfl (Or.inr ⟨_, rfl⟩) (by omega) (by omega) (⟨_, rfl, rfl, fr5, hR⟩)

def ST (S : AS) (o n : Nat) (x : Nat → Nat) : Prop := ∃ (V : Nat → Value) (q : Nat) (f : Nat → Int32), S.1 o = oO 11 V ∧ (V 0 = .ref q ∧ V 1 = .int (nI 0)) ∧ S.1 q = oI0 1 n f ∧ (∀ j, j < n → f j = nI (x j) ∧ x j < 128) ∧ o < q ∧ q < S.2.1
theorem SB.o {S : AS} {t q n : Nat} {x : Nat → Nat} (h : SB S t q n x) : t < q ∧ q < S.2.1 := by
  obtain ⟨V, f, m, hV, -, hQ, hfit, hy, h9, -⟩ := h
  exact h9
theorem SB.fr {S S' : AS} {t q n : Nat} {x : Nat → Nat} (h : SB S t q n x) (hz : S.2.1 ≤ S'.2.1) (h1 : S'.1 t = S.1 t) (h2 : S'.1 q = S.1 q) : SB S' t q n x := by
  obtain ⟨V, f, m, hV, h0, hQ, hfit, hy, h9, h8⟩ := h
  exact ⟨V, f, m, h1.trans hV, h0, h2.trans hQ, hfit, hy, ⟨h9.1, by omega⟩, h8⟩
theorem j_iniAB {sc : SC} {S : AS} {o t q u : Nat} {y : Nat → Nat} {U : Nat → Value} (hx : S.2.2 = true) (ho : o < S.2.1) (hO : S.1 o = oO 11 U) (hB : SB S t q u y) (hot : o ≠ t) (hoq : o ≠ q) (hu : u < 700) : Cal sc mJ0_iniAB 1 u [.ref o, .ref t, .null] S (AV0 fun S' => Fr S S' (fun i => i = o) ∧ ST S' o u y) := by
  refine Cal.of gmJ0_iniAB (Nat.le_of_ble_eq_true rfl) ?_
  obtain ⟨V, f, m, hV, ⟨h0, h1, h3⟩, hQ, hfit, hy, ⟨htq, hq⟩, hnm, hm9⟩ := hB
  have ht : t < S.2.1 := by omega
  show Wp sc mJ0_iniAB 1 u 0 0 0 [(0, .ref o), (1, .ref t), (2, .null)] [] S (AV0 fun S' => Fr S S' (fun i => i = o) ∧ ST S' o u y)
  refine r_aload_n rfl rfl ?_
  refine r_obj (μ := mJ0_iniAB) rfl obJ0_1 obI obC rfl rfl ?_
  refine r_aload_n rfl rfl ?_
  refine c_virSA (r := (RJ4, TJ4, 4)) [] [] rfl lkJ0_552 (by omega) hV rfl (j_getVal (S := S) ht hV h0) rfl rfl (by omega) (by omega) ?_
  rintro _ _ ⟨rfl, rfl⟩
  refine r_astore_n (lv' := [(3, .ref q), (0, .ref o), (1, .ref t), (2, .null)]) rfl rfl (Nat.le_of_ble_eq_true rfl) rfl ?_
  refine r_aload_n rfl rfl ?_
  refine c_virOA (r := (RJ4, TJ4, 4)) [] [] rfl lkJ0_549 (by omega) hV rfl (j_len (S := S) ht hV h3) rfl rfl (by omega) (by omega) ?_
  rintro _ _ ⟨rfl, rfl⟩
  refine r_istore (lv' := [(4, .int (nI u)), (3, .ref q), (0, .ref o), (1, .ref t), (2, .null)]) rfl (Nat.le_of_ble_eq_true rfl) rfl ?_
  refine r_aload_n rfl rfl ?_
  refine c_virSA (r := (RJ4, TJ4, 4)) [] [] rfl lkJ0_1047 (by omega) hV rfl (j_isLat (S := S) ht hV h1) rfl rfl (by omega) (by omega) ?_
  rintro _ _ ⟨rfl, rfl⟩
  refine n_if_eq (tgt := 41) rfl rfl (by omega) (fun hq => absurd hq (by decide)) (fun _ => ?_)
  refine r_aload_n rfl rfl ?_
  refine n_iconst 0 rfl ?_
  refine t_putF rfl flJ0_15 (fun r hr => by cases hr; rfl) rfl (okv_b0) hx (by omega) hO ?_
  intro S1 w2
  have z3 := w2.1
  refine r_aload_n rfl rfl ?_
  refine r_aload_n rfl rfl ?_
  refine n_iconst 0 rfl ?_
  refine r_iload rfl rfl ?_
  have hp4 : S1.1 q = oI0 1 m f := ((w2.2.2.2 q (by omega)).trans hQ)
  refine c_staA [.ref q, .int (nI 0), .int (nI u)] [.ref o] rfl lkJ0_54 (j_cpyR (S := S1) w2.2.1 (by omega) hp4 hfit (by omega) hnm) rfl rfl (by omega) (by omega) rfl ?_
  rintro _ S5 ⟨rfl, fr6, hs9, g, gQ, gk⟩
  have z7 := fr6.1
  have hp8 : S5.1 o = oO 11 (aup U 1 (.int (nI 0))) := ((fr6.2.2 o (by omega) (fun z9 => z9)).trans w2.2.2.1)
  refine t_putF rfl flJ0_9 (fun r hr => by cases hr; rfl) rfl (okv_a _ _) fr6.2.1 (by omega) hp8 ?_
  intro S9 w10
  have z11 := w10.1
  refine r_goto (tgt := 97) rfl rfl ?_
  have hp12 : S9.1 S1.2.1 = oI0 1 u g := ((w10.2.2.2 S1.2.1 (by omega)).trans gQ)
  exact r_vret rfl rfl (by omega) (by omega) (⟨rfl, ⟨by omega, w10.2.1, fun i hi (hn : ¬ (i = o)) => ((w10.2.2.2 i (by omega)).trans ((fr6.2.2 i (by omega) (fun z9 => z9)).trans ((w2.2.2.2 i (by omega)).trans rfl)))⟩, _, _, g, w10.2.2.1, ⟨aup_s _ _ _, (aup_n _ _ (by decide)).trans (aup_s _ _ _)⟩, hp12, fun j hj => by rw [gk j hj]; exact hy j hj, by omega, by omega⟩)

theorem j_iniSB {sc : SC} {S : AS} {o t q u : Nat} {y : Nat → Nat} {U : Nat → Value} (hx : S.2.2 = true) (ho : o < S.2.1) (hO : S.1 o = oO 11 U) (hB : SB S t q u y) (hot : o ≠ t) (hoq : o ≠ q) (hu : u < 700) : Cal sc mJ0_iniSB 1 u [.ref o, .ref t] S (AV0 fun S' => Fr S S' (fun i => i = o) ∧ ST S' o u y) := by
  refine Cal.of gmJ0_iniSB (Nat.le_of_ble_eq_true rfl) ?_
  show Wp sc mJ0_iniSB 1 u 0 0 0 [(0, .ref o), (1, .ref t)] [] S (AV0 fun S' => Fr S S' (fun i => i = o) ∧ ST S' o u y)
  refine r_aload_n rfl rfl ?_
  refine r_aload_n rfl rfl ?_
  refine r_null rfl ?_
  refine c_iniV [.ref t, .null] [] rfl lkJ0_489 (j_iniAB (S := S) hx ho hO hB hot hoq hu) rfl rfl (by omega) (by omega) ?_
  rintro S1 ⟨fr2, hR⟩
  have z3 := fr2.1
  exact r_vret rfl rfl (by omega) (by omega) (⟨rfl, fr2, hR⟩)

theorem j_toStr {sc : SC} {S : AS} {t q u : Nat} {y : Nat → Nat} (hx : S.2.2 = true) (hB : SB S t q u y) (hu : u < 700) : Cal sc mJ4_toStr 2 (u + 4) [.ref t] S (AR fun z S' => z = .ref S.2.1 ∧ Fr S S' Xno ∧ ST S' S.2.1 u y) := by
  refine Cal.of gmJ4_toStr (Nat.le_of_ble_eq_true rfl) ?_
  have hB9 := SB.o hB
  show Wp sc mJ4_toStr 2 (u + 4) 0 0 0 [(0, .ref t)] [] S (AR fun z S' => z = .ref S.2.1 ∧ Fr S S' Xno ∧ ST S' S.2.1 u y)
  refine t_new (V := dW tyJ0) rfl ciJ0 nwJ4_18 (fun κ j hj => dW_cv κ tyJ0 j) hx (by omega) (by omega) ?_
  intro S1 w2
  have z3 := w2.1
  refine r_dup rfl rfl ?_
  refine r_aload_n rfl rfl ?_
  refine c_iniV [.ref t] [.ref S.2.1] rfl lkJ4_137 (j_iniSB (S := S1) w2.2.1 (by omega) w2.2.2.1 (SB.fr hB (by omega) ((w2.2.2.2 t (by omega)).trans rfl) ((w2.2.2.2 q (by omega)).trans rfl)) (by omega) (by omega) hu) rfl rfl (by omega) (by omega) ?_
  rintro S4 ⟨fr5, hR⟩
  have z6 := fr5.1
  exact r_aret rfl rfl (Or.inl ⟨_, rfl⟩) (by omega) (by omega) (⟨_, rfl, rfl, ⟨by omega, fr5.2.1, fun i hi _ => ((fr5.2.2 i (by omega) (show ¬ (_ = S.2.1) by omega)).trans ((w2.2.2.2 i (by omega)).trans rfl))⟩, hR⟩)

theorem o_coder {sc : SC} {S : AS} {o q u : Nat} {V : Nat → Value} {f : Nat → Int32} (ho : o < S.2.1) (hq : q < S.2.1) (hO : S.1 o = oO 11 V) (h0 : V 0 = .ref q) (h1 : V 1 = .int (nI 0)) (hQ : S.1 q = oI0 1 u f) : Cal sc mJ_coder 0 0 [.ref o] S (AR fun v S' => v = .int (nI 0) ∧ S = S') := by
  refine Cal.of gmJ_coder (Nat.le_of_ble_eq_true rfl) ?_
  show Wp sc mJ_coder 0 0 0 0 0 [(0, .ref o)] [] S (AR fun v S' => v = .int (nI 0) ∧ S = S')
  refine r_getsC rfl fkJ0_38 ?_
  refine r_top (y := nI 1) rfl ?_
  refine n_if_eq (tgt := 13) rfl rfl (by omega) (fun hq => absurd hq (by decide)) (fun _ => ?_)
  refine r_aload_n rfl rfl ?_
  refine r_getf (v := .int (nI 0)) rfl flJ0_15 (by omega) hO h1 ?_
  refine r_goto (tgt := 14) rfl rfl ?_
  exact r_ret rfl rfl rfl (by omega) (by omega) (⟨_, rfl, rfl, rfl⟩)

theorem o_isLat {sc : SC} {S : AS} {o q u : Nat} {V : Nat → Value} {f : Nat → Int32} (ho : o < S.2.1) (hq : q < S.2.1) (hO : S.1 o = oO 11 V) (h0 : V 0 = .ref q) (h1 : V 1 = .int (nI 0)) (hQ : S.1 q = oI0 1 u f) : Cal sc mJ_isLatin1 0 0 [.ref o] S (AR fun v S' => v = .int (nI 1) ∧ S = S') := by
  refine Cal.of gmJ_isLatin1 (Nat.le_of_ble_eq_true rfl) ?_
  show Wp sc mJ_isLatin1 0 0 0 0 0 [(0, .ref o)] [] S (AR fun v S' => v = .int (nI 1) ∧ S = S')
  refine r_getsC rfl fkJ0_38 ?_
  refine r_top (y := nI 1) rfl ?_
  refine n_if_eq (tgt := 17) rfl rfl (by omega) (fun hq => absurd hq (by decide)) (fun _ => ?_)
  refine r_aload_n rfl rfl ?_
  refine r_getf (v := .int (nI 0)) rfl flJ0_15 (by omega) hO h1 ?_
  refine n_if_ne (tgt := 17) rfl rfl (by omega) (fun hq => absurd hq (by decide)) (fun _ => ?_)
  refine n_iconst 1 rfl ?_
  refine r_goto (tgt := 18) rfl rfl ?_
  exact r_ret rfl rfl rfl (by omega) (by omega) (⟨_, rfl, rfl, rfl⟩)

theorem o_len {sc : SC} {S : AS} {o q u : Nat} {V : Nat → Value} {f : Nat → Int32} (ho : o < S.2.1) (hq : q < S.2.1) (hO : S.1 o = oO 11 V) (h0 : V 0 = .ref q) (h1 : V 1 = .int (nI 0)) (hQ : S.1 q = oI0 1 u f) (hu : u < 2147483648) : Cal sc mJ_length 0 0 [.ref o] S (AR fun v S' => v = .int (nI u) ∧ S = S') := by
  refine Cal.of gmJ_length (Nat.le_of_ble_eq_true rfl) ?_
  show Wp sc mJ_length 0 0 0 0 0 [(0, .ref o)] [] S (AR fun v S' => v = .int (nI u) ∧ S = S')
  refine r_aload_n rfl rfl ?_
  refine r_getf (v := .ref q) rfl flJ0_9 (by omega) hO h0 ?_
  refine r_alen rfl (by omega) hQ (by decide) ?_
  refine r_aload_n rfl rfl ?_
  refine c_virA [] [.int (nI u)] rfl lkJ0_335 (by omega) hO rfl rfl (o_coder (S := S) ho hq hO h0 h1 hQ) rfl rfl (by omega) (by omega) rfl ?_
  rintro _ _ ⟨rfl, rfl⟩
  refine r_ishr rfl ?_
  refine r_top (y := nI u) (sb_shr0 _) ?_
  exact r_ret rfl rfl rfl (by omega) (by omega) (⟨_, rfl, rfl, rfl⟩)

theorem o_chkP {sc : SC} {S : AS} {j m : Nat} (hj : j < m) (hm : m < 1000) : Cal sc mJ_checkIndexP 0 0 [.int (nI j), .int (nI m), .retAddr 99] S (AR fun v S' => v = .int (nI j) ∧ S = S') := by
  refine Cal.of gmJ_checkIndexP (Nat.le_of_ble_eq_true rfl) ?_
  show Wp sc mJ_checkIndexP 0 0 0 0 0 [(0, .int (nI j)), (1, .int (nI m)), (2, .retAddr 99)] [] S (AR fun v S' => v = .int (nI j) ∧ S = S')
  refine r_iload_n rfl rfl ?_
  refine n_if_lt (tgt := 9) rfl rfl (by omega) (fun hq => hq.elim) (fun _ => ?_)
  refine r_iload_n rfl rfl ?_
  refine r_iload_n rfl rfl ?_
  refine n_icmp_lt (tgt := 16) rfl rfl (by omega) (by omega) (fun _ => ?_) (fun hq => absurd hq (by omega))
  refine r_iload_n rfl rfl ?_
  exact r_ret rfl rfl rfl (by omega) (by omega) (⟨_, rfl, rfl, rfl⟩)

theorem o_chkS {sc : SC} {S : AS} {j m : Nat} (hj : j < m) (hm : m < 1000) : Cal sc mJ_checkIndexS 0 0 [.int (nI j), .int (nI m)] S (AV0 fun S' => S = S') := by
  refine Cal.of gmJ_checkIndexS (Nat.le_of_ble_eq_true rfl) ?_
  show Wp sc mJ_checkIndexS 0 0 0 0 0 [(0, .int (nI j)), (1, .int (nI m))] [] S (AV0 fun S' => S = S')
  refine r_iload_n rfl rfl ?_
  refine r_iload_n rfl rfl ?_
  refine r_getsF rfl fjJ0_1053 ?_
  refine c_staA [.int (nI j), .int (nI m), .retAddr 99] [] rfl lkJ0_1059 (o_chkP (S := S) hj hm) rfl rfl (by omega) (by omega) rfl ?_
  rintro _ _ ⟨rfl, rfl⟩
  refine r_pop rfl rfl ?_
  exact r_vret rfl rfl (by omega) (by omega) (⟨rfl, rfl⟩)

theorem o_chAtL {sc : SC} {S : AS} {q u j : Nat} {f : Nat → Int32} {c : Nat} (hq : q < S.2.1) (hQ : S.1 q = oI0 1 u f) (hj : j < u) (hu : u < 1000) (hc : f j = nI c) (hc2 : c < 128) : Cal sc mJ_charAtL 0 0 [.ref q, .int (nI j)] S (AR fun v S' => v = .int (nI c) ∧ S = S') := by
  refine Cal.of gmJ_charAtL (Nat.le_of_ble_eq_true rfl) ?_
  show Wp sc mJ_charAtL 0 0 0 0 0 [(0, .ref q), (1, .int (nI j))] [] S (AR fun v S' => v = .int (nI c) ∧ S = S')
  refine r_iload_n rfl rfl ?_
  refine r_aload_n rfl rfl ?_
  refine r_alen rfl (by omega) hQ (by decide) ?_
  refine c_staV [.int (nI j), .int (nI u)] [] rfl lkJ1_9 (o_chkS (S := S) hj (by omega)) rfl rfl (by omega) (by omega) rfl ?_
  rintro _ rfl
  refine r_aload_n rfl rfl ?_
  refine r_iload_n rfl rfl ?_
  refine r_bald rfl (by omega) hQ (by omega) (by omega) ?_
  refine r_top (y := nI c) hc ?_
  refine n_sipush 255 rfl (by decide) ?_
  refine r_iand rfl ?_
  refine r_i2c rfl rfl ?_
  refine r_top (y := nI c) ((nb_c c hc2).2.2.2.1) ?_
  exact r_ret rfl rfl (pk_charN (by omega)).1 (by omega) (by omega) (⟨_, rfl, rfl, rfl⟩)

theorem o_chAt {sc : SC} {S : AS} {o q u : Nat} {V : Nat → Value} {f : Nat → Int32} (ho : o < S.2.1) (hq : q < S.2.1) (hO : S.1 o = oO 11 V) (h0 : V 0 = .ref q) (h1 : V 1 = .int (nI 0)) (hQ : S.1 q = oI0 1 u f) {j c : Nat} (hj : j < u) (hu : u < 1000) (hc : f j = nI c) (hc2 : c < 128) : Cal sc mJ_charAt 0 0 [.ref o, .int (nI j)] S (AR fun v S' => v = .int (nI c) ∧ S = S') := by
  refine Cal.of gmJ_charAt (Nat.le_of_ble_eq_true rfl) ?_
  show Wp sc mJ_charAt 0 0 0 0 0 [(0, .ref o), (1, .int (nI j))] [] S (AR fun v S' => v = .int (nI c) ∧ S = S')
  refine r_aload_n rfl rfl ?_
  refine c_virA [] [] rfl lkJ0_492 (by omega) hO rfl rfl (o_isLat (S := S) ho hq hO h0 h1 hQ) rfl rfl (by omega) (by omega) rfl ?_
  rintro _ _ ⟨rfl, rfl⟩
  refine n_if_eq (tgt := 16) rfl rfl (by omega) (fun hq => absurd hq (by decide)) (fun _ => ?_)
  refine r_aload_n rfl rfl ?_
  refine r_getf (v := .ref q) rfl flJ0_9 (by omega) hO h0 ?_
  refine r_iload_n rfl rfl ?_
  refine c_staA [.ref q, .int (nI j)] [] rfl lkJ0_495 (o_chAtL (S := S) hq hQ hj hu hc hc2) rfl rfl (by omega) (by omega) rfl ?_
  rintro _ _ ⟨rfl, rfl⟩
  exact r_ret rfl rfl (pk_charN (by omega)).1 (by omega) (by omega) (⟨_, rfl, rfl, rfl⟩)

