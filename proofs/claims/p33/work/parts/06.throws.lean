theorem lw_gd_w {w : Cond} (h : w ∈ lw_gd) : goodWord w = true := by
  rcases List.mem_append.mp h with h | h
  · obtain ⟨y, -, rfl⟩ := List.mem_map.mp h
    rfl
  · exact (List.mem_filter.mp h).2
abbrev supN : List String := ["java/lang/RuntimeException", "java/lang/Exception"]
/-- the words of a throw of ec in the class own -/
def TH (own : String) (ik ic ec : Nat) : Prop := Cond.classLink own ik (exN ec) ∈ lw_gd ∧ Cond.methodLink own ic (Bundle.initS (exN ec)) ∈ lw_gd
theorem atS_split (own : String) (ic : Nat) (X : String) (nm : List String) : ∀ w ∈ vx_atS own ic X nm, w = Cond.methodLink own ic (Bundle.initS X) ∨ w ∈ vx_atS "" 0 X nm := by
  intro w hw
  unfold vx_atS at hw ⊢
  obtain ⟨h1, h2⟩ := List.mem_filter.mp hw
  unfold Bundle.ownAtoms at h1
  rw [List.mem_append] at h1
  rcases h1 with h1 | h1
  · refine Or.inr (List.mem_filter.mpr ⟨?_, h2⟩)
    unfold Bundle.ownAtoms
    exact List.mem_append_left _ h1
  · rcases List.mem_cons.mp h1 with e | h1
    · exact Or.inl e
    · refine Or.inr (List.mem_filter.mpr ⟨?_, h2⟩)
      unfold Bundle.ownAtoms
      exact List.mem_append_right _ (List.mem_cons_of_mem _ h1)
set_option maxRecDepth 100000 in
theorem atS_ok : ∀ ec, ec < 3 → ∀ w ∈ vx_atS "" 0 (exN ec) supN, w = Cond.methodLink "" 0 (Bundle.initS (exN ec)) ∨ (w ∈ lw_tbl ∧ goodWord w = true) ∨ w = Cond.castable (exN ec) (exN ec) ∨ w ∈ lw_dcl.map Cond.declares := by decide +kernel
theorem ex_cst : ∀ ec, ec < 3 → (exN ec, exN ec) ∈ lw_cst := by decide
theorem ex_ini : ∀ ec, ec < 3 → Cond.initialized (exN ec) ∈ lw_tbl := by decide +kernel
theorem ex_fit : ∀ ec, ec < 3 → Bundle.fit (exN ec) = true := by decide +kernel
theorem sup_fit : ∀ n ∈ supN, Bundle.fit n = true := by decide +kernel
theorem th_no : ∀ ec, ec < 3 → Cond.methodLink "" 0 (Bundle.initS (exN ec)) ∉ Bundle.throwableAtoms ++ Bundle.throwableSAtoms ++ Bundle.chainSAtoms (exN ec) supN := by decide +kernel
theorem th_all {own : String} {ik ic ec : Nat} (h : TH own ik ic ec) (he : ec < 3) {args : Array Value} {s : State} (hw : ∀ w ∈ lw_gd, w.before args s = true) (hc : va_Nw (.castable (exN ec) (exN ec)) s) (hd : ∀ x ∈ lw_dcl, va_Nw (.declares x) s) : ∀ w ∈ vx_atS own ic (exN ec) supN, w.before args s = true ∧ vx_ot w = true := by
  have g : ∀ w ∈ lw_gd, w.before args s = true ∧ vx_ot w = true := fun w h9 => ⟨hw w h9, by unfold vx_ot; rw [lw_gd_w h9, Bool.or_true]⟩
  intro w hw1
  rcases atS_split _ _ _ _ w hw1 with rfl | hw2
  · exact g _ h.2
  · rcases atS_ok ec he w hw2 with e | ⟨h1, h2⟩ | e | e
    · unfold vx_atS at hw1
      have h7 := (List.mem_filter.mp hw1).1
      unfold Bundle.ownAtoms at h7
      rw [List.mem_append] at h7
      rw [e] at h7
      rcases h7 with h7 | h7
      · exact (th_no ec he h7).elim
      · rcases List.mem_cons.mp h7 with e2 | h7
        · rw [e, e2]
          exact g _ h.2
        · simp only [List.mem_cons, List.not_mem_nil, or_false, reduceCtorEq, false_or] at h7
    · exact g _ (lw_gd_of h1 h2)
    · rw [e]
      exact ⟨va_Nw.use rfl hc, rfl⟩
    · obtain ⟨y, hy, rfl⟩ := List.mem_map.mp e
      exact ⟨va_Nw.use rfl (hd y hy), rfl⟩
theorem r_throw {sc : SC} {μ : MI} {mc ms k n pc : Nat} {lv : List (Nat × Value)} {st : List Value} {S : AS} {Q : Out → AS → Prop} {ik is ic i ec : Nat} {tx : String} {bs : List Int32} (d0 : cf (mCd μ) pc = some (.new ik, 3)) (d3 : cf (mCd μ) (pc + 3) = some (.dup, 1)) (d4 : cf (mCd μ) (pc + 4) = some (.ldc is, 2)) (d6 : cf (mCd μ) (pc + 6) = some (.invokespecial ic, 3)) (d9 : cf (mCd μ) (pc + 9) = some (.athrow, 1))
    (he : ec < 3) (hT : TH (mNm μ).cls ik ic ec) (hs : strJ[i]? = some ((mNm μ).cls, is, tx, bs)) (hh : mHh μ = []) (hfr : Nat.ble 6 (mFr μ) = true) (hlo : Nat.ble ((st.map fun v => v.category).sum + 82) (mLo μ) = true) (hk : k + 1 ≤ mc) (hn : n + 6 ≤ ms) (hq : Q (.inr ec) (S.1, S.2.1, false)) : Wp sc μ mc ms k n pc lv st S Q := by
  intro l κ p e s m args below meth c H locs ls hfl hC hS hR hlv
  have hcs : va_Nw (.castable (exN ec) (exN ec)) s := hC.gd.2.2.2.2.1.2.1 _ (ex_cst ec he)
  have hall := th_all hT he (fun w hw => hC.wd hw) hcs hC.gd.2.2.2.2.1.2.2.2
  have hini : Cond.initialized (exN ec) ∈ lw_gd := lw_gd_of (ex_ini ec he) rfl
  refine vx_throwS (names := supN) (cls := exN ec) (sa := kSK κ i) (text := tx) hC.1.1 hC.1.2.1 hfl hC.own (ex_fit ec he) sup_fit (hC.wd hT.1) (hC.wd hini) (hC.gd.2.1 i _ hs).2 (fun w hw => (hall w hw).1) ?_ hC.gd.2.2.1.1 hC.gd.2.2.1.2.1 hS (hlv.1.trans hC.1.2.2.2.1.symm) (hC.dk d0) (hC.dk d3) (hC.dk d4) (hC.dk d6) (hC.dk d9) (by rw [hC.2.2.2.1, hh]; intro x hx; cases hx) (Nat.le_of_ble_eq_true hfr) ?_ hk hn hC.2.2.1 ?_ hS.2.2 hk hn
  · intro w hw
    rcases List.mem_cons.mp hw with rfl | hw
    · rfl
    · rcases List.mem_cons.mp hw with rfl | hw
      · rfl
      · exact (hall w hw).2
  · show ((cvs κ st).map fun v => v.category).sum + 82 ≤ mLo μ
    rw [cvs_sum]
    exact Nat.le_of_ble_eq_true hlo
  · intro t hal hz hkp
    refine ⟨⟨ec, (S.1, S.2.1, false), rfl, he, hq, ⟨hR.kept hkp, ⟨Nat.le_trans hR.2.1.1 hz, (fun q => by cases q)⟩, hR.2.2⟩⟩, ⟨Nat.le_trans hS.1 hz, fun q h1 h2 => (hkp q (Nat.lt_of_lt_of_le h1 hS.1)).trans (hS.2.1 q h1 h2)⟩⟩
theorem r_throwW {sc : SC} {μ : MI} {mc ms k n pc : Nat} {lv : List (Nat × Value)} {st : List Value} {S : AS} {Q : Out → AS → Prop} {ik is ic i ec : Nat} {tx : String} {bs : List Int32} (d0 : cf (mCd μ) pc = some (.new ik, 3)) (d3 : cf (mCd μ) (pc + 3) = some (.dup, 1)) (d4 : cf (mCd μ) (pc + 4) = some (.ldc_w is, 3)) (d6 : cf (mCd μ) (pc + 7) = some (.invokespecial ic, 3)) (d9 : cf (mCd μ) (pc + 10) = some (.athrow, 1))
    (he : ec < 3) (hT : TH (mNm μ).cls ik ic ec) (hs : strJ[i]? = some ((mNm μ).cls, is, tx, bs)) (hh : mHh μ = []) (hfr : Nat.ble 6 (mFr μ) = true) (hlo : Nat.ble ((st.map fun v => v.category).sum + 82) (mLo μ) = true) (hk : k + 1 ≤ mc) (hn : n + 6 ≤ ms) (hq : Q (.inr ec) (S.1, S.2.1, false)) : Wp sc μ mc ms k n pc lv st S Q := by
  intro l κ p e s m args below meth c H locs ls hfl hC hS hR hlv
  have hcs : va_Nw (.castable (exN ec) (exN ec)) s := hC.gd.2.2.2.2.1.2.1 _ (ex_cst ec he)
  have hall := th_all hT he (fun w hw => hC.wd hw) hcs hC.gd.2.2.2.2.1.2.2.2
  have hini : Cond.initialized (exN ec) ∈ lw_gd := lw_gd_of (ex_ini ec he) rfl
  refine vx_throwSW (names := supN) (cls := exN ec) (sa := kSK κ i) (text := tx) hC.1.1 hC.1.2.1 hfl hC.own (ex_fit ec he) sup_fit (hC.wd hT.1) (hC.wd hini) (hC.gd.2.1 i _ hs).2 (fun w hw => (hall w hw).1) ?_ hC.gd.2.2.1.1 hC.gd.2.2.1.2.1 hS (hlv.1.trans hC.1.2.2.2.1.symm) (hC.dk d0) (hC.dk d3) (hC.dk d4) (hC.dk d6) (hC.dk d9) (by rw [hC.2.2.2.1, hh]; intro x hx; cases hx) (Nat.le_of_ble_eq_true hfr) ?_ hk hn hC.2.2.1 ?_ hS.2.2 hk hn
  · intro w hw
    rcases List.mem_cons.mp hw with rfl | hw
    · rfl
    · rcases List.mem_cons.mp hw with rfl | hw
      · rfl
      · exact (hall w hw).2
  · show ((cvs κ st).map fun v => v.category).sum + 82 ≤ mLo μ
    rw [cvs_sum]
    exact Nat.le_of_ble_eq_true hlo
  · intro t hal hz hkp
    refine ⟨⟨ec, (S.1, S.2.1, false), rfl, he, hq, ⟨hR.kept hkp, ⟨Nat.le_trans hR.2.1.1 hz, (fun q => by cases q)⟩, hR.2.2⟩⟩, ⟨Nat.le_trans hS.1 hz, fun q h1 h2 => (hkp q (Nat.lt_of_lt_of_le h1 hS.1)).trans (hS.2.1 q h1 h2)⟩⟩
/-- System.arraycopy -/
theorem r_cpyi {sc : SC} {μ : MI} {mc ms k n pc : Nat} {lv : List (Nat × Value)} {st : List Value} {S : AS} {Q : Out → AS → Prop} {idx a b sp dp w na nb : Nat} {f g : Nat → Int32} (h : cf (mCd μ) pc = some (.invokestatic idx, 3)) (hw : Cond.methodLink (mNm μ).cls idx arraycopyName ∈ lw_gd) (hw2 : Cond.native arraycopyName ∈ lw_gd) (hw3 : Cond.static arraycopyName ∈ lw_gd) (hw4 : Cond.initialized "java/lang/System" ∈ lw_gd) (ha : a < S.2.1) (hb : b < S.2.1) (hga : S.1 a = .inl (0, na, f)) (hgb : S.1 b = .inl (0, nb, g)) (h1 : sp + w ≤ na) (h2 : dp + w ≤ nb) (hna : na < 2147483648) (hnb : nb < 2147483648) (hfr : Nat.ble 1 (mFr μ) = true) (hlo : Nat.ble ((st.map fun v => v.category).sum + 40) (mLo μ) = true)
    (kk : Wp sc μ mc ms k n (pc + 3) lv st (aup S.1 b (.inl (0, nb, va_cpy f g sp dp w)), S.2.1, false) Q) : Wp sc μ mc ms k n pc lv (.int (nI w) :: .int (nI dp) :: .ref b :: .int (nI sp) :: .ref a :: st) S Q := by
  intro l κ p e s m args below meth c H locs ls hfl hC hS hR hlv
  obtain ⟨pa, -, ga⟩ := wsL_pos κ ha (by rw [hga]; rfl : jk (S.1 a) = false)
  obtain ⟨pb, hpb, gb⟩ := wsL_pos κ hb (by rw [hgb]; rfl : jk (S.1 b) = false)
  rw [hga] at ga
  rw [hgb] at gb
  refine va_copyi (D := kD κ) (cl := vwCl) (tys := tysK κ) (ws := wsL κ S.1 S.2.1) (ty := .int) hC.1.1 hC.1.2.1 (by rw [hC.1.2.2.2.1]; exact hlv.1.symm) hC.own (hC.wd hw) (hC.wd hw2) (hC.wd hw3) (hC.wd hw4) hC.kk hR.P (wsL_D κ S.1 S.2.1 hR.2.2) (⟨Nat.le_refl _, fun _ _ _ => rfl, hS.2.2⟩ : va_S (kF κ) H H locs) pa pb 0 0 ga gb rfl rfl rfl (nI_pos (by omega)) (nI_pos (by omega)) (nI_pos (by omega)) (by rw [nI_clamp (by omega), nI_clamp (by omega)]; exact h1) (by rw [nI_clamp (by omega), nI_clamp (by omega)]; exact h2) (fun _ _ => rfl) (Nat.le_of_ble_eq_true hfr) ?_ (hC.dk h) (fun H1 locs1 hP hD hS1 => ?_)
  · have e9 : nativeFrameWords "java/lang/System" "arraycopy" 5 + 11 ≤ 40 := by decide
    have e8 := Nat.le_of_ble_eq_true hlo
    show ((cvs κ st).map fun v => v.category).sum + _ ≤ mLo μ
    rw [cvs_sum]
    omega
  · rw [nI_clamp (by omega), nI_clamp (by omega), nI_clamp (by omega)] at hP
    refine kk l κ p e s m args below meth c H1 locs1 ls hfl hC ⟨Nat.le_trans hS.1 hS1.1, fun q q1 q2 => (hS1.2.1 q (Nat.lt_of_lt_of_le q1 hS.1) q2).trans (hS.2.1 q q1 q2), hS1.2.2⟩ ⟨?_, ⟨Nat.le_trans hR.2.1.1 hS1.1, (fun q => by cases q)⟩, hR.2.2⟩ hlv
    exact repSet hpb rfl hP
theorem r_cpyl {sc : SC} {μ : MI} {mc ms k n pc : Nat} {lv : List (Nat × Value)} {st : List Value} {S : AS} {Q : Out → AS → Prop} {idx a b sp dp w na nb : Nat} {f g : Nat → Int64} (h : cf (mCd μ) pc = some (.invokestatic idx, 3)) (hw : Cond.methodLink (mNm μ).cls idx arraycopyName ∈ lw_gd) (hw2 : Cond.native arraycopyName ∈ lw_gd) (hw3 : Cond.static arraycopyName ∈ lw_gd) (hw4 : Cond.initialized "java/lang/System" ∈ lw_gd) (ha : a < S.2.1) (hb : b < S.2.1) (hga : S.1 a = .inr (.inl (na, f))) (hgb : S.1 b = .inr (.inl (nb, g))) (h1 : sp + w ≤ na) (h2 : dp + w ≤ nb) (hna : na < 2147483648) (hnb : nb < 2147483648) (hfr : Nat.ble 1 (mFr μ) = true) (hlo : Nat.ble ((st.map fun v => v.category).sum + 40) (mLo μ) = true)
    (kk : Wp sc μ mc ms k n (pc + 3) lv st (aup S.1 b (.inr (.inl (nb, va_cpy f g sp dp w))), S.2.1, false) Q) : Wp sc μ mc ms k n pc lv (.int (nI w) :: .int (nI dp) :: .ref b :: .int (nI sp) :: .ref a :: st) S Q := by
  intro l κ p e s m args below meth c H locs ls hfl hC hS hR hlv
  obtain ⟨pa, -, ga⟩ := wsL_pos κ ha (by rw [hga]; rfl : jk (S.1 a) = false)
  obtain ⟨pb, hpb, gb⟩ := wsL_pos κ hb (by rw [hgb]; rfl : jk (S.1 b) = false)
  rw [hga] at ga
  rw [hgb] at gb
  refine va_copyl (D := kD κ) (cl := vwCl) (tys := tysK κ) (ws := wsL κ S.1 S.2.1) (ty := .long) hC.1.1 hC.1.2.1 (by rw [hC.1.2.2.2.1]; exact hlv.1.symm) hC.own (hC.wd hw) (hC.wd hw2) (hC.wd hw3) (hC.wd hw4) hC.kk hR.P (wsL_D κ S.1 S.2.1 hR.2.2) (⟨Nat.le_refl _, fun _ _ _ => rfl, hS.2.2⟩ : va_S (kF κ) H H locs) pa pb 3 3 ga gb rfl rfl rfl (nI_pos (by omega)) (nI_pos (by omega)) (nI_pos (by omega)) (by rw [nI_clamp (by omega), nI_clamp (by omega)]; exact h1) (by rw [nI_clamp (by omega), nI_clamp (by omega)]; exact h2) (fun _ _ => rfl) (Nat.le_of_ble_eq_true hfr) ?_ (hC.dk h) (fun H1 locs1 hP hD hS1 => ?_)
  · have e9 : nativeFrameWords "java/lang/System" "arraycopy" 5 + 11 ≤ 40 := by decide
    have e8 := Nat.le_of_ble_eq_true hlo
    show ((cvs κ st).map fun v => v.category).sum + _ ≤ mLo μ
    rw [cvs_sum]
    omega
  · rw [nI_clamp (by omega), nI_clamp (by omega), nI_clamp (by omega)] at hP
    refine kk l κ p e s m args below meth c H1 locs1 ls hfl hC ⟨Nat.le_trans hS.1 hS1.1, fun q q1 q2 => (hS1.2.1 q (Nat.lt_of_lt_of_le q1 hS.1) q2).trans (hS.2.1 q q1 q2), hS1.2.2⟩ ⟨?_, ⟨Nat.le_trans hR.2.1.1 hS1.1, (fun q => by cases q)⟩, hR.2.2⟩ hlv
    exact repSet hpb rfl hP
