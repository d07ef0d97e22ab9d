theorem Cx.dk {κ : KX} {sc : SC} {μ : MI} {p : Program} {s : State} {m : MethodId} {args : Array Value} {meth : Method} {c : Code} (h : Cx κ sc μ p s m args meth c) {pc : Nat} {x : Instr × Nat} (hc : cf (mCd μ) pc = some x) : decode (mBs μ) pc = .ok x := h.2.2.2.2.2.1 pc x hc
theorem Cx.own {κ : KX} {sc : SC} {μ : MI} {p : Program} {s : State} {m : MethodId} {args : Array Value} {meth : Method} {c : Code} (h : Cx κ sc μ p s m args meth c) : s.vm.findClass (mNm μ).cls = some m.cls := h.1.2.2.2.2
theorem Cx.wd {κ : KX} {sc : SC} {μ : MI} {p : Program} {s : State} {m : MethodId} {args : Array Value} {meth : Method} {c : Code} (h : Cx κ sc μ p s m args meth c) {w : Cond} (hw : w ∈ lw_gd) : w.before args s = true := h.2.1 w (List.mem_cons_of_mem _ hw)
theorem Cx.gd {κ : KX} {sc : SC} {μ : MI} {p : Program} {s : State} {m : MethodId} {args : Array Value} {meth : Method} {c : Code} (h : Cx κ sc μ p s m args meth c) : Gd κ sc s := h.2.2.2.2.1
theorem Cx.kk {κ : KX} {sc : SC} {μ : MI} {p : Program} {s : State} {m : MethodId} {args : Array Value} {meth : Method} {c : Code} (h : Cx κ sc μ p s m args meth c) : va_K (kD κ) vwCl (tysK κ) s := h.gd.1.1
theorem Cx.kA {κ : KX} {sc : SC} {μ : MI} {p : Program} {s : State} {m : MethodId} {args : Array Value} {meth : Method} {c : Code} (h : Cx κ sc μ p s m args meth c) : ∀ q : Nat, s.heap.size ≤ q → kF κ q := fun _ hq => ⟨Nat.le_trans h.gd.1.2.1 hq, Or.inl (Nat.le_trans h.gd.1.2.2 hq)⟩
/-- a local -/
def lk : List (Nat × Value) → Nat → Option Value
  | [], _ => none
  | e :: t, i => if e.1 = i then some e.2 else lk t i
theorem lk_mem : ∀ (l : List (Nat × Value)) (i : Nat) (v : Value), lk l i = some v → (i, v) ∈ l
  | [], _, _, h => by cases h
  | e :: t, i, v, h => by
    unfold lk at h
    by_cases he : e.1 = i
    · rw [if_pos he] at h
      cases h
      subst he
      exact List.mem_cons_self
    · rw [if_neg he] at h
      exact List.mem_cons_of_mem _ (lk_mem t i v h)
theorem lk_at {κ : KX} {ls : Array Slot} {nL : Nat} {lv : List (Nat × Value)} {i : Nat} {v : Value} (h : lv_has ls nL (cvl κ lv)) (hl : lk lv i = some v) : ls[i]? = some (.val (cv κ v)) :=
  h.2.2 (i, cv κ v) (List.mem_map.mpr ⟨(i, v), lk_mem lv i v hl, rfl⟩)
def st1 (lv : List (Nat × Value)) (i : Nat) (v : Value) : List (Nat × Value) := (i, v) :: lv.filter (fun q => !(q.1 == i) && !(q.1 + 1 == i && q.2.category == 2))
def st2 (lv : List (Nat × Value)) (i : Nat) (v : Value) : List (Nat × Value) := (i, v) :: lv.filter (fun q => !(q.1 == i) && (!(q.1 == i + 1) && !(q.1 + 1 == i && q.2.category == 2)))
theorem st1_cv (κ : KX) (lv : List (Nat × Value)) (i : Nat) (v : Value) : (i, cv κ v) :: (cvl κ lv).filter (fun q => !(q.1 == i) && !(q.1 + 1 == i && q.2.category == 2)) = cvl κ (st1 lv i v) := by
  unfold st1 cvl
  rw [List.map_cons, List.filter_map]
  congr 2
  apply List.filter_congr
  intro q _
  simp [Function.comp, cv_cat]
theorem st2_cv (κ : KX) (lv : List (Nat × Value)) (i : Nat) (v : Value) : (i, cv κ v) :: (cvl κ lv).filter (fun q => !(q.1 == i) && (!(q.1 == i + 1) && !(q.1 + 1 == i && q.2.category == 2))) = cvl κ (st2 lv i v) := by
  unfold st2 cvl
  rw [List.map_cons, List.filter_map]
  congr 2
  apply List.filter_congr
  intro q _
  simp [Function.comp, cv_cat]
theorem cvs_sum (κ : KX) (st : List Value) : ((cvs κ st).map fun v => v.category).sum = (st.map fun v => v.category).sum := by
  congr 1
  unfold cvs
  rw [List.map_map]
  apply List.map_congr_left
  intro v _
  exact cv_cat κ v
theorem cvl_sub {κ : KX} {ls : Array Slot} {nL : Nat} {lv lv' : List (Nat × Value)} (h : lv_has ls nL (cvl κ lv)) (ks : List Nat) (hl : lv_pick lv ks = lv') : lv_has ls nL (cvl κ lv') := by
  refine lv_sub h ks ?_
  subst hl
  unfold lv_pick cvl
  rw [List.map_filterMap]
  congr 1
  funext i
  rw [List.getElem?_map]
theorem r_lv {sc : SC} {μ : MI} {mc ms k n pc : Nat} {lv : List (Nat × Value)} {st : List Value} {S : AS} {Q : Out → AS → Prop} {lv' : List (Nat × Value)} (ks : List Nat) (hl : lv_pick lv ks = lv') (kk : Wp sc μ mc ms k n pc lv' st S Q) : Wp sc μ mc ms k n pc lv st S Q := by
  intro l κ p e s m args below meth c H locs ls hfl hC hS hR hlv
  exact kk l κ p e s m args below meth c H locs ls hfl hC hS hR (cvl_sub hlv ks hl)
theorem r_top {sc : SC} {μ : MI} {mc ms k n pc : Nat} {lv : List (Nat × Value)} {st : List Value} {S : AS} {Q : Out → AS → Prop} {x y : Int32} (h : x = y) (kk : Wp sc μ mc ms k n pc lv (.int y :: st) S Q) : Wp sc μ mc ms k n pc lv (.int x :: st) S Q := h ▸ kk
theorem r_topL {sc : SC} {μ : MI} {mc ms k n pc : Nat} {lv : List (Nat × Value)} {st : List Value} {S : AS} {Q : Out → AS → Prop} {x y : Int64} (h : x = y) (kk : Wp sc μ mc ms k n pc lv (.long y :: st) S Q) : Wp sc μ mc ms k n pc lv (.long x :: st) S Q := h ▸ kk

theorem r_iconst {sc : SC} {μ : MI} {mc ms k n pc : Nat} {lv : List (Nat × Value)} {st : List Value} {S : AS} {Q : Out → AS → Prop} {z : Int} {v : Int32} (h : cf (mCd μ) pc = some (.iconst z, 1)) (hv : Int32.ofInt z = v) (kk : Wp sc μ mc ms k n (pc + 1) lv (.int v :: st) S Q) : Wp sc μ mc ms k n pc lv (st) S Q := by
  intro l κ p e s m args below meth c H locs ls hfl hC hS hR hlv
  exact lv_iconst hC.1.1 hC.1.2.1 (hC.dk h) hv (kk l κ p e s m args below meth c H locs _ hfl hC hS hR hlv)

theorem r_bipush {sc : SC} {μ : MI} {mc ms k n pc : Nat} {lv : List (Nat × Value)} {st : List Value} {S : AS} {Q : Out → AS → Prop} {z : Int} {v : Int32} (h : cf (mCd μ) pc = some (.bipush z, 2)) (hv : (Int8.ofInt z).toInt32 = v) (kk : Wp sc μ mc ms k n (pc + 2) lv (.int v :: st) S Q) : Wp sc μ mc ms k n pc lv (st) S Q := by
  intro l κ p e s m args below meth c H locs ls hfl hC hS hR hlv
  exact lv_bipush hC.1.1 hC.1.2.1 (hC.dk h) hv (kk l κ p e s m args below meth c H locs _ hfl hC hS hR hlv)

theorem r_sipush {sc : SC} {μ : MI} {mc ms k n pc : Nat} {lv : List (Nat × Value)} {st : List Value} {S : AS} {Q : Out → AS → Prop} {z : Int} {v : Int32} (h : cf (mCd μ) pc = some (.sipush z, 3)) (hv : (Int16.ofInt z).toInt32 = v) (kk : Wp sc μ mc ms k n (pc + 3) lv (.int v :: st) S Q) : Wp sc μ mc ms k n pc lv (st) S Q := by
  intro l κ p e s m args below meth c H locs ls hfl hC hS hR hlv
  exact lv_sipush hC.1.1 hC.1.2.1 (hC.dk h) hv (kk l κ p e s m args below meth c H locs _ hfl hC hS hR hlv)

theorem r_lconst {sc : SC} {μ : MI} {mc ms k n pc : Nat} {lv : List (Nat × Value)} {st : List Value} {S : AS} {Q : Out → AS → Prop} {z : Fin 2} {v : Int64} (h : cf (mCd μ) pc = some (.lconst z, 1)) (hv : Int64.ofNat (z : Nat) = v) (kk : Wp sc μ mc ms k n (pc + 1) lv (.long v :: st) S Q) : Wp sc μ mc ms k n pc lv (st) S Q := by
  intro l κ p e s m args below meth c H locs ls hfl hC hS hR hlv
  exact lv_lconst hC.1.1 hC.1.2.1 (hC.dk h) hv (kk l κ p e s m args below meth c H locs _ hfl hC hS hR hlv)

theorem r_ldc {sc : SC} {μ : MI} {mc ms k n pc : Nat} {lv : List (Nat × Value)} {st : List Value} {S : AS} {Q : Out → AS → Prop} {idx : Nat} {v : Int32} (h : cf (mCd μ) pc = some (.ldc idx, 2)) (hw : Cond.constant (mNm μ).cls idx v ∈ lw_gd) (kk : Wp sc μ mc ms k n (pc + 2) lv (.int v :: st) S Q) : Wp sc μ mc ms k n pc lv (st) S Q := by
  intro l κ p e s m args below meth c H locs ls hfl hC hS hR hlv
  exact lv_ldc hC.1.1 hC.1.2.1 hC.own (hC.wd hw) (hC.dk h) (kk l κ p e s m args below meth c H locs _ hfl hC hS hR hlv)

theorem r_ldcw {sc : SC} {μ : MI} {mc ms k n pc : Nat} {lv : List (Nat × Value)} {st : List Value} {S : AS} {Q : Out → AS → Prop} {idx : Nat} {v : Int32} (h : cf (mCd μ) pc = some (.ldc_w idx, 3)) (hw : Cond.constant (mNm μ).cls idx v ∈ lw_gd) (kk : Wp sc μ mc ms k n (pc + 3) lv (.int v :: st) S Q) : Wp sc μ mc ms k n pc lv (st) S Q := by
  intro l κ p e s m args below meth c H locs ls hfl hC hS hR hlv
  exact lv_ldcw hC.1.1 hC.1.2.1 hC.own (hC.wd hw) (hC.dk h) (kk l κ p e s m args below meth c H locs _ hfl hC hS hR hlv)

theorem r_ldc2 {sc : SC} {μ : MI} {mc ms k n pc : Nat} {lv : List (Nat × Value)} {st : List Value} {S : AS} {Q : Out → AS → Prop} {idx : Nat} {v : Int64} (h : cf (mCd μ) pc = some (.ldc2_w idx, 3)) (hw : Cond.constantLong (mNm μ).cls idx v ∈ lw_gd) (kk : Wp sc μ mc ms k n (pc + 3) lv (.long v :: st) S Q) : Wp sc μ mc ms k n pc lv (st) S Q := by
  intro l κ p e s m args below meth c H locs ls hfl hC hS hR hlv
  exact lv_ldc2 hC.1.1 hC.1.2.1 hC.own (hC.wd hw) (hC.dk h) (kk l κ p e s m args below meth c H locs _ hfl hC hS hR hlv)

theorem r_iload_n {sc : SC} {μ : MI} {mc ms k n pc : Nat} {lv : List (Nat × Value)} {st : List Value} {S : AS} {Q : Out → AS → Prop} {i : Fin 4} {x : Int32} (h : cf (mCd μ) pc = some (.iload_n i, 1)) (hl : lk lv (i : Nat) = some (.int x)) (kk : Wp sc μ mc ms k n (pc + 1) lv (.int x :: st) S Q) : Wp sc μ mc ms k n pc lv (st) S Q := by
  intro l κ p e s m args below meth c H locs ls hfl hC hS hR hlv
  exact lv_iload_n hC.1.1 hC.1.2.1 (hC.dk h) rfl (lk_at hlv hl) (kk l κ p e s m args below meth c H locs _ hfl hC hS hR hlv)

theorem r_iload {sc : SC} {μ : MI} {mc ms k n pc : Nat} {lv : List (Nat × Value)} {st : List Value} {S : AS} {Q : Out → AS → Prop} {i : Nat} {x : Int32} (h : cf (mCd μ) pc = some (.iload i, 2)) (hl : lk lv i = some (.int x)) (kk : Wp sc μ mc ms k n (pc + 2) lv (.int x :: st) S Q) : Wp sc μ mc ms k n pc lv (st) S Q := by
  intro l κ p e s m args below meth c H locs ls hfl hC hS hR hlv
  exact lv_iload hC.1.1 hC.1.2.1 (hC.dk h) (lk_at hlv hl) (kk l κ p e s m args below meth c H locs _ hfl hC hS hR hlv)

theorem r_lload_n {sc : SC} {μ : MI} {mc ms k n pc : Nat} {lv : List (Nat × Value)} {st : List Value} {S : AS} {Q : Out → AS → Prop} {i : Fin 4} {x : Int64} (h : cf (mCd μ) pc = some (.lload_n i, 1)) (hl : lk lv (i : Nat) = some (.long x)) (kk : Wp sc μ mc ms k n (pc + 1) lv (.long x :: st) S Q) : Wp sc μ mc ms k n pc lv (st) S Q := by
  intro l κ p e s m args below meth c H locs ls hfl hC hS hR hlv
  exact lv_lload_n hC.1.1 hC.1.2.1 (hC.dk h) rfl (lk_at hlv hl) (kk l κ p e s m args below meth c H locs _ hfl hC hS hR hlv)

theorem r_lload {sc : SC} {μ : MI} {mc ms k n pc : Nat} {lv : List (Nat × Value)} {st : List Value} {S : AS} {Q : Out → AS → Prop} {i : Nat} {x : Int64} (h : cf (mCd μ) pc = some (.lload i, 2)) (hl : lk lv i = some (.long x)) (kk : Wp sc μ mc ms k n (pc + 2) lv (.long x :: st) S Q) : Wp sc μ mc ms k n pc lv (st) S Q := by
  intro l κ p e s m args below meth c H locs ls hfl hC hS hR hlv
  exact lv_lload hC.1.1 hC.1.2.1 (hC.dk h) (lk_at hlv hl) (kk l κ p e s m args below meth c H locs _ hfl hC hS hR hlv)

theorem r_aload_n {sc : SC} {μ : MI} {mc ms k n pc : Nat} {lv : List (Nat × Value)} {st : List Value} {S : AS} {Q : Out → AS → Prop} {i : Fin 4} {x : Nat} (h : cf (mCd μ) pc = some (.aload_n i, 1)) (hl : lk lv (i : Nat) = some (.ref x)) (kk : Wp sc μ mc ms k n (pc + 1) lv (.ref x :: st) S Q) : Wp sc μ mc ms k n pc lv (st) S Q := by
  intro l κ p e s m args below meth c H locs ls hfl hC hS hR hlv
  exact lv_aload_n hC.1.1 hC.1.2.1 (hC.dk h) rfl (lk_at hlv hl) (kk l κ p e s m args below meth c H locs _ hfl hC hS hR hlv)

theorem r_aload {sc : SC} {μ : MI} {mc ms k n pc : Nat} {lv : List (Nat × Value)} {st : List Value} {S : AS} {Q : Out → AS → Prop} {i : Nat} {x : Nat} (h : cf (mCd μ) pc = some (.aload i, 2)) (hl : lk lv i = some (.ref x)) (kk : Wp sc μ mc ms k n (pc + 2) lv (.ref x :: st) S Q) : Wp sc μ mc ms k n pc lv (st) S Q := by
  intro l κ p e s m args below meth c H locs ls hfl hC hS hR hlv
  exact lv_aload hC.1.1 hC.1.2.1 (hC.dk h) (lk_at hlv hl) (kk l κ p e s m args below meth c H locs _ hfl hC hS hR hlv)

theorem cvK_ref (κ : KX) {x : Nat} (hx : x ≠ 99) : ∃ t, cv κ (.retAddr x) = .ref t := by
  show ∃ t, cvK κ x = .ref t
  unfold cvK
  split
  · exact ⟨_, rfl⟩
  · split
    · exact ⟨_, rfl⟩
    · rw [if_neg (by omega)]
      split <;> exact ⟨_, rfl⟩

theorem r_aload_nK {sc : SC} {μ : MI} {mc ms k n pc : Nat} {lv : List (Nat × Value)} {st : List Value} {S : AS} {Q : Out → AS → Prop} {i : Fin 4} {x : Nat} (h : cf (mCd μ) pc = some (.aload_n i, 1)) (hl : lk lv (i : Nat) = some (.retAddr x)) (hx : x ≠ 99) (kk : Wp sc μ mc ms k n (pc + 1) lv (.retAddr x :: st) S Q) : Wp sc μ mc ms k n pc lv st S Q := by
  intro l κ p e s m args below meth c H locs ls hfl hC hS hR hlv
  have h1 := lk_at hlv hl
  have h2 := kk l κ p e s m args below meth c H locs _ hfl hC hS hR hlv
  obtain ⟨t, ht⟩ := cvK_ref κ hx
  have h3 : cvs κ (.retAddr x :: st) = .ref t :: cvs κ st := by
    show cv κ (.retAddr x) :: cvs κ st = _
    rw [ht]
  rw [h3] at h2
  rw [ht] at h1
  exact lv_aload_n hC.1.1 hC.1.2.1 (hC.dk h) rfl h1 h2

theorem r_aloadK {sc : SC} {μ : MI} {mc ms k n pc : Nat} {lv : List (Nat × Value)} {st : List Value} {S : AS} {Q : Out → AS → Prop} {i : Nat} {x : Nat} (h : cf (mCd μ) pc = some (.aload i, 2)) (hl : lk lv i = some (.retAddr x)) (hx : x ≠ 99) (kk : Wp sc μ mc ms k n (pc + 2) lv (.retAddr x :: st) S Q) : Wp sc μ mc ms k n pc lv st S Q := by
  intro l κ p e s m args below meth c H locs ls hfl hC hS hR hlv
  have h1 := lk_at hlv hl
  have h2 := kk l κ p e s m args below meth c H locs _ hfl hC hS hR hlv
  obtain ⟨t, ht⟩ := cvK_ref κ hx
  have h3 : cvs κ (.retAddr x :: st) = .ref t :: cvs κ st := by
    show cv κ (.retAddr x) :: cvs κ st = _
    rw [ht]
  rw [h3] at h2
  rw [ht] at h1
  exact lv_aload hC.1.1 hC.1.2.1 (hC.dk h) h1 h2

theorem r_istore_n {sc : SC} {μ : MI} {mc ms k n pc : Nat} {lv : List (Nat × Value)} {st : List Value} {S : AS} {Q : Out → AS → Prop} {j : Fin 4} {i : Nat} {x : Int32} {lv' : List (Nat × Value)} (h : cf (mCd μ) pc = some (.istore_n j, 1)) (hi : (j : Nat) = i) (hn : i < mMl μ) (hl : st1 lv i (.int x) = lv') (kk : Wp sc μ mc ms k n (pc + 1) lv' st S Q) : Wp sc μ mc ms k n pc lv (.int x :: st) S Q := by
  intro l κ p e s m args below meth c H locs ls hfl hC hS hR hlv
  exact lv_istore_n (nL := mMl μ) (lv' := cvl κ lv') hC.1.1 hC.1.2.1 (hC.dk h) hi hlv hn (by subst hl; exact st1_cv κ lv i (.int x)) (fun ls' hlv => kk l κ p e s m args below meth c H locs ls' hfl hC hS hR hlv)

theorem r_istore {sc : SC} {μ : MI} {mc ms k n pc : Nat} {lv : List (Nat × Value)} {st : List Value} {S : AS} {Q : Out → AS → Prop} {i : Nat} {x : Int32} {lv' : List (Nat × Value)} (h : cf (mCd μ) pc = some (.istore i, 2)) (hn : i < mMl μ) (hl : st1 lv i (.int x) = lv') (kk : Wp sc μ mc ms k n (pc + 2) lv' st S Q) : Wp sc μ mc ms k n pc lv (.int x :: st) S Q := by
  intro l κ p e s m args below meth c H locs ls hfl hC hS hR hlv
  exact lv_istore (nL := mMl μ) (lv' := cvl κ lv') hC.1.1 hC.1.2.1 (hC.dk h) hlv hn (by subst hl; exact st1_cv κ lv i (.int x)) (fun ls' hlv => kk l κ p e s m args below meth c H locs ls' hfl hC hS hR hlv)

theorem r_lstore_n {sc : SC} {μ : MI} {mc ms k n pc : Nat} {lv : List (Nat × Value)} {st : List Value} {S : AS} {Q : Out → AS → Prop} {j : Fin 4} {i : Nat} {x : Int64} {lv' : List (Nat × Value)} (h : cf (mCd μ) pc = some (.lstore_n j, 1)) (hi : (j : Nat) = i) (hn : i + 1 < mMl μ) (hl : st2 lv i (.long x) = lv') (kk : Wp sc μ mc ms k n (pc + 1) lv' st S Q) : Wp sc μ mc ms k n pc lv (.long x :: st) S Q := by
  intro l κ p e s m args below meth c H locs ls hfl hC hS hR hlv
  exact lv_lstore_n (nL := mMl μ) (lv' := cvl κ lv') hC.1.1 hC.1.2.1 (hC.dk h) hi hlv hn (by subst hl; exact st2_cv κ lv i (.long x)) (fun ls' hlv => kk l κ p e s m args below meth c H locs ls' hfl hC hS hR hlv)

theorem r_lstore {sc : SC} {μ : MI} {mc ms k n pc : Nat} {lv : List (Nat × Value)} {st : List Value} {S : AS} {Q : Out → AS → Prop} {i : Nat} {x : Int64} {lv' : List (Nat × Value)} (h : cf (mCd μ) pc = some (.lstore i, 2)) (hn : i + 1 < mMl μ) (hl : st2 lv i (.long x) = lv') (kk : Wp sc μ mc ms k n (pc + 2) lv' st S Q) : Wp sc μ mc ms k n pc lv (.long x :: st) S Q := by
  intro l κ p e s m args below meth c H locs ls hfl hC hS hR hlv
  exact lv_lstore (nL := mMl μ) (lv' := cvl κ lv') hC.1.1 hC.1.2.1 (hC.dk h) hlv hn (by subst hl; exact st2_cv κ lv i (.long x)) (fun ls' hlv => kk l κ p e s m args below meth c H locs ls' hfl hC hS hR hlv)

theorem r_astore_n {sc : SC} {μ : MI} {mc ms k n pc : Nat} {lv : List (Nat × Value)} {st : List Value} {S : AS} {Q : Out → AS → Prop} {j : Fin 4} {i : Nat} {x : Nat} {lv' : List (Nat × Value)} (h : cf (mCd μ) pc = some (.astore_n j, 1)) (hi : (j : Nat) = i) (hn : i < mMl μ) (hl : st1 lv i (.ref x) = lv') (kk : Wp sc μ mc ms k n (pc + 1) lv' st S Q) : Wp sc μ mc ms k n pc lv (.ref x :: st) S Q := by
  intro l κ p e s m args below meth c H locs ls hfl hC hS hR hlv
  exact lv_astore_n (nL := mMl μ) (lv' := cvl κ lv') hC.1.1 hC.1.2.1 (hC.dk h) hi hlv hn (by subst hl; exact st1_cv κ lv i (.ref x)) (fun ls' hlv => kk l κ p e s m args below meth c H locs ls' hfl hC hS hR hlv)

theorem r_astore {sc : SC} {μ : MI} {mc ms k n pc : Nat} {lv : List (Nat × Value)} {st : List Value} {S : AS} {Q : Out → AS → Prop} {i : Nat} {x : Nat} {lv' : List (Nat × Value)} (h : cf (mCd μ) pc = some (.astore i, 2)) (hn : i < mMl μ) (hl : st1 lv i (.ref x) = lv') (kk : Wp sc μ mc ms k n (pc + 2) lv' st S Q) : Wp sc μ mc ms k n pc lv (.ref x :: st) S Q := by
  intro l κ p e s m args below meth c H locs ls hfl hC hS hR hlv
  exact lv_astore (nL := mMl μ) (lv' := cvl κ lv') hC.1.1 hC.1.2.1 (hC.dk h) hlv hn (by subst hl; exact st1_cv κ lv i (.ref x)) (fun ls' hlv => kk l κ p e s m args below meth c H locs ls' hfl hC hS hR hlv)

theorem r_iinc {sc : SC} {μ : MI} {mc ms k n pc : Nat} {lv : List (Nat × Value)} {st : List Value} {S : AS} {Q : Out → AS → Prop} {i : Nat} {z : Int} {x v : Int32} {lv' : List (Nat × Value)} (h : cf (mCd μ) pc = some (.iinc i z, 3)) (hx : lk lv i = some (.int x)) (hv : x + Int32.ofInt z = v) (hn : i < mMl μ) (hl : st1 lv i (.int v) = lv') (kk : Wp sc μ mc ms k n (pc + 3) lv' st S Q) : Wp sc μ mc ms k n pc lv st S Q := by
  intro l κ p e s m args below meth c H locs ls hfl hC hS hR hlv
  obtain ⟨j, hj⟩ := List.getElem?_of_mem (lk_mem lv i _ hx)
  exact lv_iinc (nL := mMl μ) (lv' := cvl κ lv') (k := j) (x := x) hC.1.1 hC.1.2.1 (hC.dk h) hlv (by unfold cvl; rw [List.getElem?_map, hj]; rfl) hv hn (by subst hl; exact st1_cv κ lv i (.int v)) (fun ls' hlv => kk l κ p e s m args below meth c H locs ls' hfl hC hS hR hlv)

theorem r_iadd {sc : SC} {μ : MI} {mc ms k n pc : Nat} {lv : List (Nat × Value)} {st : List Value} {S : AS} {Q : Out → AS → Prop} {x y : Int32} (h : cf (mCd μ) pc = some (.iadd, 1))  (kk : Wp sc μ mc ms k n (pc + 1) lv (.int (x + y) :: st) S Q) : Wp sc μ mc ms k n pc lv (.int y :: .int x :: st) S Q := by
  intro l κ p e s m args below meth c H locs ls hfl hC hS hR hlv
  exact lv_iadd hC.1.1 hC.1.2.1 (hC.dk h) (kk l κ p e s m args below meth c H locs _ hfl hC hS hR hlv)

theorem r_isub {sc : SC} {μ : MI} {mc ms k n pc : Nat} {lv : List (Nat × Value)} {st : List Value} {S : AS} {Q : Out → AS → Prop} {x y : Int32} (h : cf (mCd μ) pc = some (.isub, 1))  (kk : Wp sc μ mc ms k n (pc + 1) lv (.int (x - y) :: st) S Q) : Wp sc μ mc ms k n pc lv (.int y :: .int x :: st) S Q := by
  intro l κ p e s m args below meth c H locs ls hfl hC hS hR hlv
  exact lv_isub hC.1.1 hC.1.2.1 (hC.dk h) (kk l κ p e s m args below meth c H locs _ hfl hC hS hR hlv)

theorem r_imul {sc : SC} {μ : MI} {mc ms k n pc : Nat} {lv : List (Nat × Value)} {st : List Value} {S : AS} {Q : Out → AS → Prop} {x y : Int32} (h : cf (mCd μ) pc = some (.imul, 1))  (kk : Wp sc μ mc ms k n (pc + 1) lv (.int (x * y) :: st) S Q) : Wp sc μ mc ms k n pc lv (.int y :: .int x :: st) S Q := by
  intro l κ p e s m args below meth c H locs ls hfl hC hS hR hlv
  exact lv_imul hC.1.1 hC.1.2.1 (hC.dk h) (kk l κ p e s m args below meth c H locs _ hfl hC hS hR hlv)

theorem r_iand {sc : SC} {μ : MI} {mc ms k n pc : Nat} {lv : List (Nat × Value)} {st : List Value} {S : AS} {Q : Out → AS → Prop} {x y : Int32} (h : cf (mCd μ) pc = some (.iand, 1))  (kk : Wp sc μ mc ms k n (pc + 1) lv (.int (x &&& y) :: st) S Q) : Wp sc μ mc ms k n pc lv (.int y :: .int x :: st) S Q := by
  intro l κ p e s m args below meth c H locs ls hfl hC hS hR hlv
  exact lv_iand hC.1.1 hC.1.2.1 (hC.dk h) (kk l κ p e s m args below meth c H locs _ hfl hC hS hR hlv)

theorem r_ior {sc : SC} {μ : MI} {mc ms k n pc : Nat} {lv : List (Nat × Value)} {st : List Value} {S : AS} {Q : Out → AS → Prop} {x y : Int32} (h : cf (mCd μ) pc = some (.ior, 1))  (kk : Wp sc μ mc ms k n (pc + 1) lv (.int (x ||| y) :: st) S Q) : Wp sc μ mc ms k n pc lv (.int y :: .int x :: st) S Q := by
  intro l κ p e s m args below meth c H locs ls hfl hC hS hR hlv
  exact lv_ior hC.1.1 hC.1.2.1 (hC.dk h) (kk l κ p e s m args below meth c H locs _ hfl hC hS hR hlv)

theorem r_ixor {sc : SC} {μ : MI} {mc ms k n pc : Nat} {lv : List (Nat × Value)} {st : List Value} {S : AS} {Q : Out → AS → Prop} {x y : Int32} (h : cf (mCd μ) pc = some (.ixor, 1))  (kk : Wp sc μ mc ms k n (pc + 1) lv (.int (x ^^^ y) :: st) S Q) : Wp sc μ mc ms k n pc lv (.int y :: .int x :: st) S Q := by
  intro l κ p e s m args below meth c H locs ls hfl hC hS hR hlv
  exact lv_ixor hC.1.1 hC.1.2.1 (hC.dk h) (kk l κ p e s m args below meth c H locs _ hfl hC hS hR hlv)

theorem r_ishl {sc : SC} {μ : MI} {mc ms k n pc : Nat} {lv : List (Nat × Value)} {st : List Value} {S : AS} {Q : Out → AS → Prop} {x y : Int32} (h : cf (mCd μ) pc = some (.ishl, 1))  (kk : Wp sc μ mc ms k n (pc + 1) lv (.int (x <<< (y &&& 31)) :: st) S Q) : Wp sc μ mc ms k n pc lv (.int y :: .int x :: st) S Q := by
  intro l κ p e s m args below meth c H locs ls hfl hC hS hR hlv
  exact lv_ishl hC.1.1 hC.1.2.1 (hC.dk h) (kk l κ p e s m args below meth c H locs _ hfl hC hS hR hlv)

theorem r_ishr {sc : SC} {μ : MI} {mc ms k n pc : Nat} {lv : List (Nat × Value)} {st : List Value} {S : AS} {Q : Out → AS → Prop} {x y : Int32} (h : cf (mCd μ) pc = some (.ishr, 1))  (kk : Wp sc μ mc ms k n (pc + 1) lv (.int (x >>> (y &&& 31)) :: st) S Q) : Wp sc μ mc ms k n pc lv (.int y :: .int x :: st) S Q := by
  intro l κ p e s m args below meth c H locs ls hfl hC hS hR hlv
  exact lv_ishr hC.1.1 hC.1.2.1 (hC.dk h) (kk l κ p e s m args below meth c H locs _ hfl hC hS hR hlv)

theorem r_idiv {sc : SC} {μ : MI} {mc ms k n pc : Nat} {lv : List (Nat × Value)} {st : List Value} {S : AS} {Q : Out → AS → Prop} {x y : Int32} (h : cf (mCd μ) pc = some (.idiv, 1)) (hne : ¬ y = 0) (kk : Wp sc μ mc ms k n (pc + 1) lv (.int (x / y) :: st) S Q) : Wp sc μ mc ms k n pc lv (.int y :: .int x :: st) S Q := by
  intro l κ p e s m args below meth c H locs ls hfl hC hS hR hlv
  exact lv_idiv hC.1.1 hC.1.2.1 (hC.dk h) hne (kk l κ p e s m args below meth c H locs _ hfl hC hS hR hlv)

theorem r_irem {sc : SC} {μ : MI} {mc ms k n pc : Nat} {lv : List (Nat × Value)} {st : List Value} {S : AS} {Q : Out → AS → Prop} {x y : Int32} (h : cf (mCd μ) pc = some (.irem, 1)) (hne : ¬ y = 0) (kk : Wp sc μ mc ms k n (pc + 1) lv (.int (x - x / y * y) :: st) S Q) : Wp sc μ mc ms k n pc lv (.int y :: .int x :: st) S Q := by
  intro l κ p e s m args below meth c H locs ls hfl hC hS hR hlv
  exact lv_irem hC.1.1 hC.1.2.1 (hC.dk h) hne (kk l κ p e s m args below meth c H locs _ hfl hC hS hR hlv)

theorem r_ladd {sc : SC} {μ : MI} {mc ms k n pc : Nat} {lv : List (Nat × Value)} {st : List Value} {S : AS} {Q : Out → AS → Prop} {x y : Int64} (h : cf (mCd μ) pc = some (.ladd, 1))  (kk : Wp sc μ mc ms k n (pc + 1) lv (.long (x + y) :: st) S Q) : Wp sc μ mc ms k n pc lv (.long y :: .long x :: st) S Q := by
  intro l κ p e s m args below meth c H locs ls hfl hC hS hR hlv
  exact lv_ladd hC.1.1 hC.1.2.1 (hC.dk h) (kk l κ p e s m args below meth c H locs _ hfl hC hS hR hlv)

theorem r_lsub {sc : SC} {μ : MI} {mc ms k n pc : Nat} {lv : List (Nat × Value)} {st : List Value} {S : AS} {Q : Out → AS → Prop} {x y : Int64} (h : cf (mCd μ) pc = some (.lsub, 1))  (kk : Wp sc μ mc ms k n (pc + 1) lv (.long (x - y) :: st) S Q) : Wp sc μ mc ms k n pc lv (.long y :: .long x :: st) S Q := by
  intro l κ p e s m args below meth c H locs ls hfl hC hS hR hlv
  exact lv_lsub hC.1.1 hC.1.2.1 (hC.dk h) (kk l κ p e s m args below meth c H locs _ hfl hC hS hR hlv)

theorem r_lmul {sc : SC} {μ : MI} {mc ms k n pc : Nat} {lv : List (Nat × Value)} {st : List Value} {S : AS} {Q : Out → AS → Prop} {x y : Int64} (h : cf (mCd μ) pc = some (.lmul, 1))  (kk : Wp sc μ mc ms k n (pc + 1) lv (.long (x * y) :: st) S Q) : Wp sc μ mc ms k n pc lv (.long y :: .long x :: st) S Q := by
  intro l κ p e s m args below meth c H locs ls hfl hC hS hR hlv
  exact lv_lmul hC.1.1 hC.1.2.1 (hC.dk h) (kk l κ p e s m args below meth c H locs _ hfl hC hS hR hlv)

theorem r_land {sc : SC} {μ : MI} {mc ms k n pc : Nat} {lv : List (Nat × Value)} {st : List Value} {S : AS} {Q : Out → AS → Prop} {x y : Int64} (h : cf (mCd μ) pc = some (.land, 1))  (kk : Wp sc μ mc ms k n (pc + 1) lv (.long (x &&& y) :: st) S Q) : Wp sc μ mc ms k n pc lv (.long y :: .long x :: st) S Q := by
  intro l κ p e s m args below meth c H locs ls hfl hC hS hR hlv
  exact lv_land hC.1.1 hC.1.2.1 (hC.dk h) (kk l κ p e s m args below meth c H locs _ hfl hC hS hR hlv)

theorem r_lor {sc : SC} {μ : MI} {mc ms k n pc : Nat} {lv : List (Nat × Value)} {st : List Value} {S : AS} {Q : Out → AS → Prop} {x y : Int64} (h : cf (mCd μ) pc = some (.lor, 1))  (kk : Wp sc μ mc ms k n (pc + 1) lv (.long (x ||| y) :: st) S Q) : Wp sc μ mc ms k n pc lv (.long y :: .long x :: st) S Q := by
  intro l κ p e s m args below meth c H locs ls hfl hC hS hR hlv
  exact lv_lor hC.1.1 hC.1.2.1 (hC.dk h) (kk l κ p e s m args below meth c H locs _ hfl hC hS hR hlv)

theorem r_ldiv {sc : SC} {μ : MI} {mc ms k n pc : Nat} {lv : List (Nat × Value)} {st : List Value} {S : AS} {Q : Out → AS → Prop} {x y : Int64} (h : cf (mCd μ) pc = some (.ldiv, 1)) (hne : ¬ y = 0) (kk : Wp sc μ mc ms k n (pc + 1) lv (.long (x / y) :: st) S Q) : Wp sc μ mc ms k n pc lv (.long y :: .long x :: st) S Q := by
  intro l κ p e s m args below meth c H locs ls hfl hC hS hR hlv
  exact lv_ldiv hC.1.1 hC.1.2.1 (hC.dk h) hne (kk l κ p e s m args below meth c H locs _ hfl hC hS hR hlv)

theorem r_lrem {sc : SC} {μ : MI} {mc ms k n pc : Nat} {lv : List (Nat × Value)} {st : List Value} {S : AS} {Q : Out → AS → Prop} {x y : Int64} (h : cf (mCd μ) pc = some (.lrem, 1)) (hne : ¬ y = 0) (kk : Wp sc μ mc ms k n (pc + 1) lv (.long (x - x / y * y) :: st) S Q) : Wp sc μ mc ms k n pc lv (.long y :: .long x :: st) S Q := by
  intro l κ p e s m args below meth c H locs ls hfl hC hS hR hlv
  exact lv_lrem hC.1.1 hC.1.2.1 (hC.dk h) hne (kk l κ p e s m args below meth c H locs _ hfl hC hS hR hlv)

theorem r_lshl {sc : SC} {μ : MI} {mc ms k n pc : Nat} {lv : List (Nat × Value)} {st : List Value} {S : AS} {Q : Out → AS → Prop} {x v : Int64} {y : Int32} (h : cf (mCd μ) pc = some (.lshl, 1)) (hv : x <<< (y.toInt64 &&& 63) = v) (kk : Wp sc μ mc ms k n (pc + 1) lv (.long v :: st) S Q) : Wp sc μ mc ms k n pc lv (.int y :: .long x :: st) S Q := by
  intro l κ p e s m args below meth c H locs ls hfl hC hS hR hlv
  exact lv_lshl hC.1.1 hC.1.2.1 (hC.dk h) hv (kk l κ p e s m args below meth c H locs _ hfl hC hS hR hlv)

theorem r_i2l {sc : SC} {μ : MI} {mc ms k n pc : Nat} {lv : List (Nat × Value)} {st : List Value} {S : AS} {Q : Out → AS → Prop} {x : Int32} {v : Int64} (h : cf (mCd μ) pc = some (.i2l, 1)) (hv : x.toInt64 = v) (kk : Wp sc μ mc ms k n (pc + 1) lv (.long v :: st) S Q) : Wp sc μ mc ms k n pc lv (.int x :: st) S Q := by
  intro l κ p e s m args below meth c H locs ls hfl hC hS hR hlv
  exact lv_i2l hC.1.1 hC.1.2.1 (hC.dk h) hv (kk l κ p e s m args below meth c H locs _ hfl hC hS hR hlv)

theorem r_l2i {sc : SC} {μ : MI} {mc ms k n pc : Nat} {lv : List (Nat × Value)} {st : List Value} {S : AS} {Q : Out → AS → Prop} {x : Int64} {v : Int32} (h : cf (mCd μ) pc = some (.l2i, 1)) (hv : x.toInt32 = v) (kk : Wp sc μ mc ms k n (pc + 1) lv (.int v :: st) S Q) : Wp sc μ mc ms k n pc lv (.long x :: st) S Q := by
  intro l κ p e s m args below meth c H locs ls hfl hC hS hR hlv
  exact lv_l2i hC.1.1 hC.1.2.1 (hC.dk h) hv (kk l κ p e s m args below meth c H locs _ hfl hC hS hR hlv)

theorem r_i2b {sc : SC} {μ : MI} {mc ms k n pc : Nat} {lv : List (Nat × Value)} {st : List Value} {S : AS} {Q : Out → AS → Prop} {x v : Int32} (h : cf (mCd μ) pc = some (.i2b, 1)) (hv : x.toInt8.toInt32 = v) (kk : Wp sc μ mc ms k n (pc + 1) lv (.int v :: st) S Q) : Wp sc μ mc ms k n pc lv (.int x :: st) S Q := by
  intro l κ p e s m args below meth c H locs ls hfl hC hS hR hlv
  exact lv_i2b hC.1.1 hC.1.2.1 (hC.dk h) hv (kk l κ p e s m args below meth c H locs _ hfl hC hS hR hlv)

theorem r_lcmp {sc : SC} {μ : MI} {mc ms k n pc : Nat} {lv : List (Nat × Value)} {st : List Value} {S : AS} {Q : Out → AS → Prop} {x y : Int64} (h : cf (mCd μ) pc = some (.lcmp, 1)) (kk : Wp sc μ mc ms k n (pc + 1) lv (.int (lg_cmp x y) :: st) S Q) : Wp sc μ mc ms k n pc lv (.long y :: .long x :: st) S Q := by
  intro l κ p e s m args below meth c H locs ls hfl hC hS hR hlv
  exact W.lcmp hC.1.1 hC.1.2.1 (hC.dk h) (kk l κ p e s m args below meth c H locs _ hfl hC hS hR hlv)

theorem r_dup {sc : SC} {μ : MI} {mc ms k n pc : Nat} {lv : List (Nat × Value)} {st : List Value} {S : AS} {Q : Out → AS → Prop} {v : Value} (h : cf (mCd μ) pc = some (.dup, 1)) (hv : v.category = 1) (kk : Wp sc μ mc ms k n (pc + 1) lv (v :: v :: st) S Q) : Wp sc μ mc ms k n pc lv (v :: st) S Q := by
  intro l κ p e s m args below meth c H locs ls hfl hC hS hR hlv
  exact lv_dup hC.1.1 hC.1.2.1 (hC.dk h) (by rw [cv_cat]; exact hv) (kk l κ p e s m args below meth c H locs _ hfl hC hS hR hlv)

theorem r_dup2 {sc : SC} {μ : MI} {mc ms k n pc : Nat} {lv : List (Nat × Value)} {st : List Value} {S : AS} {Q : Out → AS → Prop} {v u : Value} (h : cf (mCd μ) pc = some (.dup2, 1)) (hv : v.category = 1) (hu : u.category = 1) (kk : Wp sc μ mc ms k n (pc + 1) lv (v :: u :: v :: u :: st) S Q) : Wp sc μ mc ms k n pc lv (v :: u :: st) S Q := by
  intro l κ p e s m args below meth c H locs ls hfl hC hS hR hlv
  exact lv_dup2_11 hC.1.1 hC.1.2.1 (hC.dk h) (by rw [cv_cat]; exact hv) (by rw [cv_cat]; exact hu) (kk l κ p e s m args below meth c H locs _ hfl hC hS hR hlv)

theorem r_dup2L {sc : SC} {μ : MI} {mc ms k n pc : Nat} {lv : List (Nat × Value)} {st : List Value} {S : AS} {Q : Out → AS → Prop} {v : Value} (h : cf (mCd μ) pc = some (.dup2, 1)) (hv : v.category = 2) (kk : Wp sc μ mc ms k n (pc + 1) lv (v :: v :: st) S Q) : Wp sc μ mc ms k n pc lv (v :: st) S Q := by
  intro l κ p e s m args below meth c H locs ls hfl hC hS hR hlv
  exact lv_dup2_2 hC.1.1 hC.1.2.1 (hC.dk h) (by rw [cv_cat]; exact hv) (kk l κ p e s m args below meth c H locs _ hfl hC hS hR hlv)

theorem r_pop {sc : SC} {μ : MI} {mc ms k n pc : Nat} {lv : List (Nat × Value)} {st : List Value} {S : AS} {Q : Out → AS → Prop} {v : Value} (h : cf (mCd μ) pc = some (.pop, 1)) (hv : v.category = 1) (kk : Wp sc μ mc ms k n (pc + 1) lv (st) S Q) : Wp sc μ mc ms k n pc lv (v :: st) S Q := by
  intro l κ p e s m args below meth c H locs ls hfl hC hS hR hlv
  exact lv_pop hC.1.1 hC.1.2.1 (hC.dk h) (by rw [cv_cat]; exact hv) (kk l κ p e s m args below meth c H locs _ hfl hC hS hR hlv)

theorem r_i2c {sc : SC} {μ : MI} {mc ms k n pc : Nat} {lv : List (Nat × Value)} {st : List Value} {S : AS} {Q : Out → AS → Prop} {x v : Int32} (h : cf (mCd μ) pc = some (.i2c, 1)) (hv : (x.toUInt32 % 65536).toInt32 = v) (kk : Wp sc μ mc ms k n (pc + 1) lv (.int v :: st) S Q) : Wp sc μ mc ms k n pc lv (.int x :: st) S Q := by
  intro l κ p e s m args below meth c H locs ls hfl hC hS hR hlv
  exact lv_i2c hC.1.1 hC.1.2.1 (hC.dk h) hv (kk l κ p e s m args below meth c H locs _ hfl hC hS hR hlv)

theorem r_if_eq {sc : SC} {μ : MI} {mc ms k n pc : Nat} {lv : List (Nat × Value)} {st : List Value} {S : AS} {Q : Out → AS → Prop} {x : Int32} {off : Int} {tgt : Nat} (h : cf (mCd μ) pc = some (.ifCond .eq off, 3)) (ht : (pc : Int) + off = (tgt : Int)) (kt : x = 0 → Wp sc μ mc ms k n tgt lv st S Q) (kf : ¬ x = 0 → Wp sc μ mc ms k n (pc + 3) lv st S Q) : Wp sc μ mc ms k n pc lv (.int x :: st) S Q := by
  intro l κ p e s m args below meth c H locs ls hfl hC hS hR hlv
  exact lv_if_eq hC.1.1 hC.1.2.1 (hC.dk h) ht (fun q => kt q l κ p e s m args below meth c H locs ls hfl hC hS hR hlv) (fun q => kf q l κ p e s m args below meth c H locs ls hfl hC hS hR hlv)

theorem r_if_ne {sc : SC} {μ : MI} {mc ms k n pc : Nat} {lv : List (Nat × Value)} {st : List Value} {S : AS} {Q : Out → AS → Prop} {x : Int32} {off : Int} {tgt : Nat} (h : cf (mCd μ) pc = some (.ifCond .ne off, 3)) (ht : (pc : Int) + off = (tgt : Int)) (kt : ¬ x = 0 → Wp sc μ mc ms k n tgt lv st S Q) (kf : x = 0 → Wp sc μ mc ms k n (pc + 3) lv st S Q) : Wp sc μ mc ms k n pc lv (.int x :: st) S Q := by
  intro l κ p e s m args below meth c H locs ls hfl hC hS hR hlv
  exact lv_if_ne hC.1.1 hC.1.2.1 (hC.dk h) ht (fun q => kt q l κ p e s m args below meth c H locs ls hfl hC hS hR hlv) (fun q => kf q l κ p e s m args below meth c H locs ls hfl hC hS hR hlv)

theorem r_if_lt {sc : SC} {μ : MI} {mc ms k n pc : Nat} {lv : List (Nat × Value)} {st : List Value} {S : AS} {Q : Out → AS → Prop} {x : Int32} {off : Int} {tgt : Nat} (h : cf (mCd μ) pc = some (.ifCond .lt off, 3)) (ht : (pc : Int) + off = (tgt : Int)) (kt : x < 0 → Wp sc μ mc ms k n tgt lv st S Q) (kf : ¬ x < 0 → Wp sc μ mc ms k n (pc + 3) lv st S Q) : Wp sc μ mc ms k n pc lv (.int x :: st) S Q := by
  intro l κ p e s m args below meth c H locs ls hfl hC hS hR hlv
  exact lv_if_lt hC.1.1 hC.1.2.1 (hC.dk h) ht (fun q => kt q l κ p e s m args below meth c H locs ls hfl hC hS hR hlv) (fun q => kf q l κ p e s m args below meth c H locs ls hfl hC hS hR hlv)

theorem r_if_ge {sc : SC} {μ : MI} {mc ms k n pc : Nat} {lv : List (Nat × Value)} {st : List Value} {S : AS} {Q : Out → AS → Prop} {x : Int32} {off : Int} {tgt : Nat} (h : cf (mCd μ) pc = some (.ifCond .ge off, 3)) (ht : (pc : Int) + off = (tgt : Int)) (kt : 0 ≤ x → Wp sc μ mc ms k n tgt lv st S Q) (kf : ¬ 0 ≤ x → Wp sc μ mc ms k n (pc + 3) lv st S Q) : Wp sc μ mc ms k n pc lv (.int x :: st) S Q := by
  intro l κ p e s m args below meth c H locs ls hfl hC hS hR hlv
  exact lv_if_ge hC.1.1 hC.1.2.1 (hC.dk h) ht (fun q => kt q l κ p e s m args below meth c H locs ls hfl hC hS hR hlv) (fun q => kf q l κ p e s m args below meth c H locs ls hfl hC hS hR hlv)

theorem r_if_gt {sc : SC} {μ : MI} {mc ms k n pc : Nat} {lv : List (Nat × Value)} {st : List Value} {S : AS} {Q : Out → AS → Prop} {x : Int32} {off : Int} {tgt : Nat} (h : cf (mCd μ) pc = some (.ifCond .gt off, 3)) (ht : (pc : Int) + off = (tgt : Int)) (kt : 0 < x → Wp sc μ mc ms k n tgt lv st S Q) (kf : ¬ 0 < x → Wp sc μ mc ms k n (pc + 3) lv st S Q) : Wp sc μ mc ms k n pc lv (.int x :: st) S Q := by
  intro l κ p e s m args below meth c H locs ls hfl hC hS hR hlv
  exact lv_if_gt hC.1.1 hC.1.2.1 (hC.dk h) ht (fun q => kt q l κ p e s m args below meth c H locs ls hfl hC hS hR hlv) (fun q => kf q l κ p e s m args below meth c H locs ls hfl hC hS hR hlv)

theorem r_if_le {sc : SC} {μ : MI} {mc ms k n pc : Nat} {lv : List (Nat × Value)} {st : List Value} {S : AS} {Q : Out → AS → Prop} {x : Int32} {off : Int} {tgt : Nat} (h : cf (mCd μ) pc = some (.ifCond .le off, 3)) (ht : (pc : Int) + off = (tgt : Int)) (kt : x ≤ 0 → Wp sc μ mc ms k n tgt lv st S Q) (kf : ¬ x ≤ 0 → Wp sc μ mc ms k n (pc + 3) lv st S Q) : Wp sc μ mc ms k n pc lv (.int x :: st) S Q := by
  intro l κ p e s m args below meth c H locs ls hfl hC hS hR hlv
  exact lv_if_le hC.1.1 hC.1.2.1 (hC.dk h) ht (fun q => kt q l κ p e s m args below meth c H locs ls hfl hC hS hR hlv) (fun q => kf q l κ p e s m args below meth c H locs ls hfl hC hS hR hlv)

theorem r_icmp_eq {sc : SC} {μ : MI} {mc ms k n pc : Nat} {lv : List (Nat × Value)} {st : List Value} {S : AS} {Q : Out → AS → Prop} {x y : Int32} {off : Int} {tgt : Nat} (h : cf (mCd μ) pc = some (.if_icmp .eq off, 3)) (ht : (pc : Int) + off = (tgt : Int)) (kt : x = y → Wp sc μ mc ms k n tgt lv st S Q) (kf : ¬ x = y → Wp sc μ mc ms k n (pc + 3) lv st S Q) : Wp sc μ mc ms k n pc lv (.int y :: .int x :: st) S Q := by
  intro l κ p e s m args below meth c H locs ls hfl hC hS hR hlv
  exact lv_icmp_eq hC.1.1 hC.1.2.1 (hC.dk h) ht (fun q => kt q l κ p e s m args below meth c H locs ls hfl hC hS hR hlv) (fun q => kf q l κ p e s m args below meth c H locs ls hfl hC hS hR hlv)

theorem r_icmp_ne {sc : SC} {μ : MI} {mc ms k n pc : Nat} {lv : List (Nat × Value)} {st : List Value} {S : AS} {Q : Out → AS → Prop} {x y : Int32} {off : Int} {tgt : Nat} (h : cf (mCd μ) pc = some (.if_icmp .ne off, 3)) (ht : (pc : Int) + off = (tgt : Int)) (kt : ¬ x = y → Wp sc μ mc ms k n tgt lv st S Q) (kf : x = y → Wp sc μ mc ms k n (pc + 3) lv st S Q) : Wp sc μ mc ms k n pc lv (.int y :: .int x :: st) S Q := by
  intro l κ p e s m args below meth c H locs ls hfl hC hS hR hlv
  exact lv_icmp_ne hC.1.1 hC.1.2.1 (hC.dk h) ht (fun q => kt q l κ p e s m args below meth c H locs ls hfl hC hS hR hlv) (fun q => kf q l κ p e s m args below meth c H locs ls hfl hC hS hR hlv)

theorem r_icmp_lt {sc : SC} {μ : MI} {mc ms k n pc : Nat} {lv : List (Nat × Value)} {st : List Value} {S : AS} {Q : Out → AS → Prop} {x y : Int32} {off : Int} {tgt : Nat} (h : cf (mCd μ) pc = some (.if_icmp .lt off, 3)) (ht : (pc : Int) + off = (tgt : Int)) (kt : x < y → Wp sc μ mc ms k n tgt lv st S Q) (kf : ¬ x < y → Wp sc μ mc ms k n (pc + 3) lv st S Q) : Wp sc μ mc ms k n pc lv (.int y :: .int x :: st) S Q := by
  intro l κ p e s m args below meth c H locs ls hfl hC hS hR hlv
  exact lv_icmp_lt hC.1.1 hC.1.2.1 (hC.dk h) ht (fun q => kt q l κ p e s m args below meth c H locs ls hfl hC hS hR hlv) (fun q => kf q l κ p e s m args below meth c H locs ls hfl hC hS hR hlv)

theorem r_icmp_ge {sc : SC} {μ : MI} {mc ms k n pc : Nat} {lv : List (Nat × Value)} {st : List Value} {S : AS} {Q : Out → AS → Prop} {x y : Int32} {off : Int} {tgt : Nat} (h : cf (mCd μ) pc = some (.if_icmp .ge off, 3)) (ht : (pc : Int) + off = (tgt : Int)) (kt : y ≤ x → Wp sc μ mc ms k n tgt lv st S Q) (kf : ¬ y ≤ x → Wp sc μ mc ms k n (pc + 3) lv st S Q) : Wp sc μ mc ms k n pc lv (.int y :: .int x :: st) S Q := by
  intro l κ p e s m args below meth c H locs ls hfl hC hS hR hlv
  exact lv_icmp_ge hC.1.1 hC.1.2.1 (hC.dk h) ht (fun q => kt q l κ p e s m args below meth c H locs ls hfl hC hS hR hlv) (fun q => kf q l κ p e s m args below meth c H locs ls hfl hC hS hR hlv)

theorem r_icmp_gt {sc : SC} {μ : MI} {mc ms k n pc : Nat} {lv : List (Nat × Value)} {st : List Value} {S : AS} {Q : Out → AS → Prop} {x y : Int32} {off : Int} {tgt : Nat} (h : cf (mCd μ) pc = some (.if_icmp .gt off, 3)) (ht : (pc : Int) + off = (tgt : Int)) (kt : y < x → Wp sc μ mc ms k n tgt lv st S Q) (kf : ¬ y < x → Wp sc μ mc ms k n (pc + 3) lv st S Q) : Wp sc μ mc ms k n pc lv (.int y :: .int x :: st) S Q := by
  intro l κ p e s m args below meth c H locs ls hfl hC hS hR hlv
  exact lv_icmp_gt hC.1.1 hC.1.2.1 (hC.dk h) ht (fun q => kt q l κ p e s m args below meth c H locs ls hfl hC hS hR hlv) (fun q => kf q l κ p e s m args below meth c H locs ls hfl hC hS hR hlv)

theorem r_icmp_le {sc : SC} {μ : MI} {mc ms k n pc : Nat} {lv : List (Nat × Value)} {st : List Value} {S : AS} {Q : Out → AS → Prop} {x y : Int32} {off : Int} {tgt : Nat} (h : cf (mCd μ) pc = some (.if_icmp .le off, 3)) (ht : (pc : Int) + off = (tgt : Int)) (kt : x ≤ y → Wp sc μ mc ms k n tgt lv st S Q) (kf : ¬ x ≤ y → Wp sc μ mc ms k n (pc + 3) lv st S Q) : Wp sc μ mc ms k n pc lv (.int y :: .int x :: st) S Q := by
  intro l κ p e s m args below meth c H locs ls hfl hC hS hR hlv
  exact lv_icmp_le hC.1.1 hC.1.2.1 (hC.dk h) ht (fun q => kt q l κ p e s m args below meth c H locs ls hfl hC hS hR hlv) (fun q => kf q l κ p e s m args below meth c H locs ls hfl hC hS hR hlv)

theorem r_goto {sc : SC} {μ : MI} {mc ms k n pc : Nat} {lv : List (Nat × Value)} {st : List Value} {S : AS} {Q : Out → AS → Prop} {off : Int} {tgt : Nat} (h : cf (mCd μ) pc = some (.goto off, 3)) (ht : (pc : Int) + off = (tgt : Int)) (kk : Wp sc μ mc ms k n tgt lv st S Q) : Wp sc μ mc ms k n pc lv st S Q := by
  intro l κ p e s m args below meth c H locs ls hfl hC hS hR hlv
  exact lv_goto hC.1.1 hC.1.2.1 (hC.dk h) ht (kk l κ p e s m args below meth c H locs _ hfl hC hS hR hlv)
theorem r_tblOut {sc : SC} {μ : MI} {mc ms k n pc : Nat} {lv : List (Nat × Value)} {st : List Value} {S : AS} {Q : Out → AS → Prop} {d lo hi : Int} {offs : Array Int} {len tgt : Nat} {x : Int32} (h : cf (mCd μ) pc = some (.tableswitch d lo hi offs, len)) (hx : x.toInt < lo ∨ hi < x.toInt) (ht : (pc : Int) + d = (tgt : Int)) (kk : Wp sc μ mc ms k n tgt lv st S Q) : Wp sc μ mc ms k n pc lv (.int x :: st) S Q := by
  intro l κ p e s m args below meth c H locs ls hfl hC hS hR hlv
  exact lv_tableOut hC.1.1 hC.1.2.1 (hC.dk h) hx ht (kk l κ p e s m args below meth c H locs _ hfl hC hS hR hlv)
theorem r_tblIn {sc : SC} {μ : MI} {mc ms k n pc : Nat} {lv : List (Nat × Value)} {st : List Value} {S : AS} {Q : Out → AS → Prop} {d lo hi : Int} {offs : Array Int} {len tgt : Nat} {x : Int32} {off : Int} (h : cf (mCd μ) pc = some (.tableswitch d lo hi offs, len)) (h1 : ¬ x.toInt < lo) (h2 : ¬ hi < x.toInt) (ho : offs[(x.toInt - lo).toNat]? = some off) (ht : (pc : Int) + off = (tgt : Int)) (kk : Wp sc μ mc ms k n tgt lv st S Q) : Wp sc μ mc ms k n pc lv (.int x :: st) S Q := by
  intro l κ p e s m args below meth c H locs ls hfl hC hS hR hlv
  exact lv_tableIn hC.1.1 hC.1.2.1 (hC.dk h) h1 h2 ho ht (kk l κ p e s m args below meth c H locs _ hfl hC hS hR hlv)
theorem r_lookup {sc : SC} {μ : MI} {mc ms k n pc : Nat} {lv : List (Nat × Value)} {st : List Value} {S : AS} {Q : Out → AS → Prop} {d off : Int} {ps : Array (Int × Int)} {len tgt : Nat} {x : Int32} (h : cf (mCd μ) pc = some (.lookupswitch d ps, len)) (hp : (ps.toList.zip (ps.toList.drop 1)).all (fun (a, next) => a.1 < next.1) = true) (ho : Op.lookupswitch.offset ps.toList d x.toInt = off) (ht : (pc : Int) + off = (tgt : Int)) (kk : Wp sc μ mc ms k n tgt lv st S Q) : Wp sc μ mc ms k n pc lv (.int x :: st) S Q := by
  intro l κ p e s m args below meth c H locs ls hfl hC hS hR hlv
  exact lv_lookup hC.1.1 hC.1.2.1 (hC.dk h) hp ho ht (kk l κ p e s m args below meth c H locs _ hfl hC hS hR hlv)
