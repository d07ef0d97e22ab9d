/-! Rows that the law, and what it calls of the library, want besides. -/
section
variable {p : Program} {l : Launch} {e : Env} {R : Room} {s : State} {m : MethodId} {args : Array Value} {below : List Frame} {meth : Method} {c : Code} {H : Heap} {locs : List Loc} {cells slots : Nat} {Q : State → Prop}
theorem w_cpyb {cc : ByteArray} (hexec : p.tables.exec = Jvm.exec) (hb : c.code = cc) {ls : Array Slot} (hml : c.maxLocals = ls.size) {own : String} {index : Nat} (hown : s.vm.findClass own = some m.cls) (hlink : (Cond.methodLink own index arraycopyName).before args s = true) (hnat : (Cond.native arraycopyName).before args s = true) (hstat : (Cond.static arraycopyName).before args s = true) (hini : (Cond.initialized "java/lang/System").before args s = true)
    {a0 a n0 n1 sp dp w pc : Nat} {f g : Nat → Int32} {c1 : ClassId} {cs : Cell} {rest : List Value} (hcs : H[a0]? = some cs) (hca : s.isArrayOf cs .byte) (hck : cs.vm ≠ .unknown) (hcn : n0 ≤ cs.slots.size) (hcf : ∀ j, j < n0 → cs.slots[j]? = some (.int (f j)))
    (hcd : H[a]? = some (vp_cell c1 (n1, .inl g))) (hcT : ArrOfT s c1 .byte) (h1 : sp + w ≤ n0) (h2 : dp + w ≤ n1) (hn0 : n0 < 2147483648) (hn1 : n1 < 2147483648) (hfit : ∀ i, i < w → fits .byte (.int (f (sp + i))) = true)
    (hframes : 1 ≤ R.frames) (hlocals : (rest.map fun v => v.category).sum + (nativeFrameWords "java/lang/System" "arraycopy" 5 + 11) ≤ R.locals) (hdg : decode cc pc = .ok (.invokestatic index, 3)) {A : Nat → Prop} {H0 : Heap} (hS : va_S A H0 H locs) (hA : A a)
    (kk : ∀ (H1 : Heap) (locs1 : List Loc), H1[a]? = some (vp_cell c1 (n1, .inl (va_cpy f g sp dp w))) → H1.size = H.size → (∀ q, q ≠ a → H1[q]? = H[q]?) → va_S A H0 H1 locs1 → W p l e R s m args below meth c H1 locs1 cells slots Q (F0 m (pc + 3) ls rest)) :
    W p l e R s m args below meth c H locs cells slots Q (F0 m pc ls (.int (nI w) :: .int (nI dp) :: .ref a :: .int (nI sp) :: .ref a0 :: rest)) := by
  intro T hT X
  obtain ⟨hs6, k0, hk0, cm0, hkk0⟩ := hca
  obtain ⟨-, k1, hk1, cm1, hkk1⟩ := hcT n1 (fun j => .int (g j))
  have tw : (nI w).toInt = (w : Int) := nI_toInt (by omega)
  have td : (nI dp).toInt = (dp : Int) := nI_toInt (by omega)
  have ts : (nI sp).toInt = (sp : Int) := nI_toInt (by omega)
  have cw : (nI w).toNatClampNeg = w := nI_clamp (by omega)
  have cd : (nI dp).toNatClampNeg = dp := nI_clamp (by omega)
  have csp : (nI sp).toNatClampNeg = sp := nI_clamp (by omega)
  obtain ⟨vm', X', step⟩ := X.arraycopy hexec hown hlink hnat hstat hini (src := a0) (dst := a) (cs := cs) (cd := vp_cell c1 (n1, .inl g)) (srcPos := nI sp) (destPos := nI dp) (n := nI w) (by rw [hT]; exact hcs) (by rw [hT]; exact hcd)
    hs6 (fun _ h => by cases h) hck (fun h => by cases h) hk0 hk1 hkk0 hkk1 (by simp [refKind]) (nI_pos (by omega)) (nI_pos (by omega)) (nI_pos (by omega))
    (by rw [ts, tw]; omega)
    (by rw [td, tw]; show ¬ _ > ((arrV c1 n1 (fun j => .int (g j))).slots.size : Int); rw [arrV_size]; omega)
    (fun vm₁ _ i hi => by
      rw [cw] at hi
      rw [csp]
      have e9 : cs.slots.getD (sp + i) .null = .int (f (sp + i)) := by
        rw [Array.getD_eq_getD_getElem?, hcf _ (by omega)]
        rfl
      rw [e9]
      exact ⟨hfit i hi, trivial⟩)
    (g := F0 m pc ls (.int (nI w) :: .int (nI dp) :: .ref a :: .int (nI sp) :: .ref a0 :: rest)) rfl (by rw [hml]) (rest := rest) rfl (by rw [hb]; exact hdg) hframes (by show 2 * 0 + _ + _ ≤ _; omega)
  have e1 : copied cs (vp_cell c1 (n1, .inl g)) (nI sp) (nI dp) (nI w) = vp_cell c1 (n1, .inl (va_cpy f g sp dp w)) := by
    have e9 := va_copiedX (fun z => .int z) cs c1 (n0 := n0) (n1 := n1) (sp := sp) (dp := dp) (n := w) f g hcf h1
    rw [← csp, ← cd, ← cw] at e9
    rw [csp, cd, cw] at e9
    show (arrV c1 n1 (fun j => .int (g j))).storeRun _ (cs.stretch _ _) = _
    rw [csp, cd, cw]
    exact e9
  rw [e1] at X' step
  have hl : a < H.size := (Array.getElem?_eq_some_iff.mp hcd).1
  have hheap : ((T.setVm vm').setCell a (vp_cell c1 (n1, .inl (va_cpy f g sp dp w)))).heap = H.setIfInBounds a (vp_cell c1 (n1, .inl (va_cpy f g sp dp w))) := by rw [← hT]; rfl
  have oq : ∀ q : Nat, q ≠ a → (H.setIfInBounds a (vp_cell c1 (n1, .inl (va_cpy f g sp dp w))))[q]? = H[q]? := fun q hq => by simp [Array.getElem?_setIfInBounds, Ne.symm hq]
  obtain ⟨t, b1, b2⟩ := kk _ _ (show (H.setIfInBounds a _)[a]? = some _ by simp [Array.getElem?_setIfInBounds, hl]) (by simp) oq ⟨by simp; exact hS.1, fun q g1 g2 => by
      rw [oq q (fun e => g2 (by rw [e]; exact hA))]
      exact hS.2.1 q g1 g2, fun q hq => by
      rcases List.mem_append.mp hq with h | h
      · exact hS.2.2 q h
      · obtain ⟨z, -, hz⟩ := List.mem_map.mp h
        rw [← hz]
        exact hA⟩ _ hheap X'
  exact ⟨t, step t b1, b2⟩
end
def bFit (f : Nat → Int32) : Prop := ∀ j, fits .byte (.int (f j)) = true
theorem cpw_le {κ : KX} {st : List Value} {μ : MI} (hlo : Nat.ble ((st.map fun v => v.category).sum + 40) (mLo μ) = true) : ((cvs κ st).map fun v => v.category).sum + (nativeFrameWords "java/lang/System" "arraycopy" 5 + 11) ≤ mLo μ := by
  have e9 : nativeFrameWords "java/lang/System" "arraycopy" 5 + 11 ≤ 40 := by decide
  have e8 := Nat.le_of_ble_eq_true hlo
  rw [cvs_sum]
  omega
theorem r_cpyb {sc : SC} {μ : MI} {mc ms k n pc : Nat} {lv : List (Nat × Value)} {st : List Value} {S : AS} {Q : Out → AS → Prop} {idx a b sp dp w na nb : Nat} {f g : Nat → Int32} (h : cf (mCd μ) pc = some (.invokestatic idx, 3)) (hw : Cond.methodLink (mNm μ).cls idx arraycopyName ∈ lw_gd) (ha : a < S.2.1) (hb : b < S.2.1) (hga : S.1 a = .inl (1, na, f)) (hgb : S.1 b = .inl (1, nb, g)) (h1 : sp + w ≤ na) (h2 : dp + w ≤ nb) (hna : na < 2147483648) (hnb : nb < 2147483648) (hfit : bFit f) (hfr : Nat.ble 1 (mFr μ) = true) (hlo : Nat.ble ((st.map fun v => v.category).sum + 40) (mLo μ) = true)
    (kk : Wp sc μ mc ms k n (pc + 3) lv st (aup S.1 b (.inl (1, nb, va_cpy f g sp dp w)), S.2) Q) : Wp sc μ mc ms k n pc lv (.int (nI w) :: .int (nI dp) :: .ref b :: .int (nI sp) :: .ref a :: st) S Q := by
  intro l κ p e s m args below meth c H locs ls hfl hC hS hR hlv
  refine w_cpyb (c1 := kA κ 1) (n0 := na) (n1 := nb) (f := f) (g := g) (a0 := kB κ + a) (a := kB κ + b) (cs := vp_cell (kA κ 1) (na, .inl f)) hC.1.1 hC.1.2.1 (by rw [hC.1.2.2.2.1]; exact hlv.1.symm) hC.own (hC.wd hw) (hC.wd syN) (hC.wd syS) (hC.wd syI) (hR.arr ha hga 0 _ rfl) ((hC.kk.2 1 _ rfl).1 na (fun j => .int (f j))) (fun q => by cases q) (by show na ≤ (arrV _ _ _).slots.size; rw [arrV_size]; exact Nat.le_refl _) (fun j hj => arrV_read _ _ hj) (hR.arr hb hgb 0 _ rfl) (hC.kk.2 1 _ rfl).1 h1 h2 hna hnb (fun i _ => hfit _) (Nat.le_of_ble_eq_true hfr) (cpw_le hlo) (hC.dk h) hS (hR.2.2 b hb) (fun H1 locs1 e1 z oq hS1 => ?_)
  exact kk l κ p e s m args below meth c H1 locs1 ls hfl hC hS1 (hR.put hb z e1 oq) hlv
theorem r_cpyT {sc : SC} {μ : MI} {mc ms k n pc : Nat} {lv : List (Nat × Value)} {st : List Value} {S : AS} {Q : Out → AS → Prop} {idx i b sp dp w nb : Nat} {x : String × Nat × String × List Int32} {g : Nat → Int32} (h : cf (mCd μ) pc = some (.invokestatic idx, 3)) (hw : Cond.methodLink (mNm μ).cls idx arraycopyName ∈ lw_gd) (hs : strJ[i]? = some x) (hb : b < S.2.1) (hgb : S.1 b = .inl (1, nb, g)) (h1 : sp + w ≤ x.2.2.2.length) (h2 : dp + w ≤ nb) (hna : x.2.2.2.length < 2147483648) (hnb : nb < 2147483648) (hfit : bFit (fun j => x.2.2.2.getD j 0)) (hfr : Nat.ble 1 (mFr μ) = true) (hlo : Nat.ble ((st.map fun v => v.category).sum + 40) (mLo μ) = true)
    (kk : Wp sc μ mc ms k n (pc + 3) lv st (aup S.1 b (.inl (1, nb, va_cpy (fun j => x.2.2.2.getD j 0) g sp dp w)), S.2) Q) : Wp sc μ mc ms k n pc lv (.int (nI w) :: .int (nI dp) :: .ref b :: .int (nI sp) :: .retAddr (50 + i) :: st) S Q := by
  intro l κ p e s m args below meth c H locs ls hfl hC hS hR hlv
  have hv : cv κ (.retAddr (50 + i)) = .ref (kSV κ i) := cv_stv κ (Nat.lt_trans (str_lt hs) (by decide))
  show W p l e _ s m args below meth c H locs k n _ (F0 m pc ls (.int (nI w) :: .int (nI dp) :: .ref (kB κ + b) :: .int (nI sp) :: cv κ (.retAddr (50 + i)) :: cvs κ st))
  rw [hv]
  obtain ⟨cs, t1, t2, t3, t4, -, t5, t6⟩ := (hC.gd.2.1 i _ hs).1.2.2.2
  have t1H : H[kSV κ i]? = some cs := by rw [hS.2.1 _ (Array.getElem?_eq_some_iff.mp t1).1 t6]; exact t1
  refine w_cpyb (c1 := kA κ 1) (n0 := x.2.2.2.length) (n1 := nb) (f := fun j => x.2.2.2.getD j 0) (g := g) (a0 := kSV κ i) (a := kB κ + b) (cs := cs) hC.1.1 hC.1.2.1 (by rw [hC.1.2.2.2.1]; exact hlv.1.symm) hC.own (hC.wd hw) (hC.wd syN) (hC.wd syS) (hC.wd syI) t1H t2 t3 t4 t5 (hR.arr hb hgb 0 _ rfl) (hC.kk.2 1 _ rfl).1 h1 h2 hna hnb (fun i _ => hfit _) (Nat.le_of_ble_eq_true hfr) (cpw_le hlo) (hC.dk h) hS (hR.2.2 b hb) (fun H1 locs1 e1 z oq hS1 => ?_)
  exact kk l κ p e s m args below meth c H1 locs1 ls hfl hC hS1 (hR.put hb z e1 oq) hlv
abbrev clN : MethodName := ⟨"[B", "clone", "()Ljava/lang/Object;"⟩
abbrev clO : MethodName := ⟨"java/lang/Object", "clone", "()Ljava/lang/Object;"⟩
theorem r_clone {sc : SC} {μ : MI} {mc ms k n pc : Nat} {lv : List (Nat × Value)} {st : List Value} {S : AS} {Q : Out → AS → Prop} {idx a na : Nat} {f : Nat → Int32} (h : cf (mCd μ) pc = some (.invokevirtual idx, 3)) (hw : Cond.methodLink (mNm μ).cls idx clN ∈ lw_gd) (hw2 : Cond.sameMethod "[B" "java/lang/Object" "clone" "()Ljava/lang/Object;" ∈ lw_gd) (hw3 : Cond.native clO ∈ lw_gd) (hw4 : Cond.instanceMethod clO ∈ lw_gd) (hw5 : Cond.selects "[B" clN clO ∈ lw_gd) (ha : a < S.2.1) (hga : S.1 a = .inl (1, na, f)) (hfit : bFit f) (hex : S.2.2 = true) (hfr : Nat.ble 1 (mFr μ) = true) (hlo : Nat.ble ((st.map fun v => v.category).sum + 40) (mLo μ) = true) (hk : k + 1 ≤ mc) (hn : n + na ≤ ms)
    (kk : Wp sc μ mc ms (k + 1) (n + na) (pc + 3) lv (.ref S.2.1 :: st) (aup S.1 S.2.1 (.inl (1, na, f)), S.2.1 + 1, true) Q) : Wp sc μ mc ms k n pc lv (.ref a :: st) S Q := by
  intro l κ p e s m args below meth c H locs ls hfl hC hS hR hlv
  have hkA := (hC.kk.2 1 _ rfl).1
  have hnm : s.vm.findClass "[B" = some (kA κ 1) := (hC.kk.2 1 _ rfl).2
  have hcl : va_Nw (.castable "[B" "java/lang/Cloneable") s := hC.gd.2.2.2.2.1.2.1 ("[B", "java/lang/Cloneable") (by decide)
  obtain ⟨c0, t0, f1, f2, f3⟩ := Cond.castable_spec (va_Nw.use (A := args) rfl hcl)
  cases hnm.symm.trans f1
  have hz : H.size = kB κ + S.2.1 := hR.2.1.2 hex
  have hsz : (vp_cell (kA κ 1) (na, .inl f)).slots.size = na := arrV_size _ _ _
  intro T hT X
  have hcell : T.heap[kB κ + a]? = some (vp_cell (kA κ 1) (na, .inl f)) := by rw [hT]; exact hR.arr ha hga 0 _ rfl
  obtain ⟨-, kc, hkc, comp, hkind⟩ := State.isArrayOf_alike X.warmed.alike (hkA 0 (fun _ => .null))
  obtain ⟨-, kS, hkS, compS, hkindS⟩ := hkA 0 (fun _ => .null)
  have hlo2 := Nat.le_of_ble_eq_true hlo
  obtain ⟨vm', X', st'⟩ := X.cloneArray hC.1.1 hC.own (hC.wd hw) (hC.wd hw2) (hC.wd hw3) (hC.wd hw4) (hC.wd hw5) (a := kB κ + a) (cell := vp_cell (kA κ 1) (na, .inl f)) hcell (fun k h => by cases h) (fun h => by cases h) hnm f2 f3
    (fun i v hv => by
      have hk' : T.vm.classes[kA κ 1]? = some kc := hkc
      have hf : fits .byte v = true := by
        by_cases hi : i < na
        · have e9 : (vp_cell (kA κ 1) (na, .inl f)).slots[i]? = some (.int (f i)) := arrV_read _ _ hi
          rw [e9] at hv
          cases hv
          exact hfit i
        · have e9 : (vp_cell (kA κ 1) (na, .inl f)).slots[i]? = none := Array.getElem?_eq_none (by rw [hsz]; omega)
          rw [e9] at hv
          cases hv
      show T.fitsSlot (kA κ 1) .none i v = true
      simpa [State.fitsSlot, State.slotType?, hk', hkind] using hf)
    (g := F0 m pc ls (.ref (kB κ + a) :: cvs κ st)) rfl (by rw [hC.1.2.2.2.1]; exact hlv.1) rfl (by rw [hC.1.2.1]; exact hC.dk h) (Nat.le_of_ble_eq_true hfr) (by show 2 * 0 + ((cvs κ st).map fun v => v.category).sum + 14 ≤ mLo μ; rw [cvs_sum]; omega) hk (by rw [hsz]; exact hn) (hloader := Vm.clonesLoader_of_array hkS hkindS)
  rw [hsz] at X'
  generalize hH1 : H.push (vp_cell (kA κ 1) (na, .inl f)) = H1
  have z1 : H1.size = H.size + 1 := by rw [← hH1, Array.size_push]
  have e1 : H1[H.size]? = some (vp_cell (kA κ 1) (na, .inl f)) := by rw [← hH1, Array.getElem?_push_size]
  have o1 : ∀ q : Nat, q < H.size → H1[q]? = H[q]? := fun q hq => by rw [← hH1, Array.getElem?_push, if_neg (Nat.ne_of_lt hq)]
  obtain ⟨t, b1, b2⟩ := kk l κ p e s m args below meth c H1 locs ls hfl hC ⟨Nat.le_trans hS.1 (by omega), fun x h1 h2 => (o1 x (Nat.lt_of_lt_of_le h1 hS.1)).trans (hS.2.1 x h1 h2), hS.2.2⟩ (hR.push (e := .inl (1, na, f)) (Nat.le_trans hC.gd.1.2.2 hS.1) hex z1 e1 o1 true) hlv
    ((T.setVm vm').pushCell (vp_cell (kA κ 1) (na, .inl f))) (by rw [← hH1, ← hT]; rfl) X'
  refine ⟨t, st' t ?_, b2⟩
  rw [hT, hz]
  exact b1
theorem r_castB {sc : SC} {μ : MI} {mc ms k n pc : Nat} {lv : List (Nat × Value)} {st : List Value} {S : AS} {Q : Out → AS → Prop} {idx a na : Nat} {f : Nat → Int32} (h : cf (mCd μ) pc = some (.checkcast idx, 3)) (hw : Cond.classLink (mNm μ).cls idx "[B" ∈ lw_gd) (ha : a < S.2.1) (hga : S.1 a = .inl (1, na, f)) (kk : Wp sc μ mc ms k n (pc + 3) lv (.ref a :: st) S Q) : Wp sc μ mc ms k n pc lv (.ref a :: st) S Q := by
  intro l κ p e s m args below meth c H locs ls hfl hC hS hR hlv
  exact va_castA (D := kD κ) (cl := vwCl) hC.1.1 hC.1.2.1 hC.own (hC.wd hw) (hR.arr ha hga) 0 rfl (hC.kk.2 1 _ rfl).2 (hC.dk h) (kk l κ p e s m args below meth c H locs ls hfl hC hS hR hlv)
theorem r_null {sc : SC} {μ : MI} {mc ms k n pc : Nat} {lv : List (Nat × Value)} {st : List Value} {S : AS} {Q : Out → AS → Prop} (h : cf (mCd μ) pc = some (.aconst_null, 1)) (kk : Wp sc μ mc ms k n (pc + 1) lv (.null :: st) S Q) : Wp sc μ mc ms k n pc lv st S Q := by
  intro l κ p e s m args below meth c H locs ls hfl hC hS hR hlv
  exact lv_null hC.1.1 hC.1.2.1 (hC.dk h) (kk l κ p e s m args below meth c H locs ls hfl hC hS hR hlv)
theorem r_aret {sc : SC} {μ : MI} {mc ms k n pc : Nat} {lv : List (Nat × Value)} {S : AS} {Q : Out → AS → Prop} {o : Nat} {t : FieldType} (h : cf (mCd μ) pc = some (.areturn, 1)) (hrt : mRt μ = some t) (ht : (∃ n, t = .object n) ∨ ∃ u, t = .array u) (hk : k ≤ mc) (hs : n ≤ ms) (hq : Q (.inl (some (.ref o))) S) : Wp sc μ mc ms k n pc lv [.ref o] S Q := by
  intro l κ p e s m args below meth c H locs ls hfl hC hS hR hlv
  refine W.widen hk hs (vx_ret ?_)
  exact W.aret hC.1.1 hC.1.2.1 (hC.1.2.2.1.trans hrt) ht (Or.inr ⟨_, rfl⟩) (fun t ht hW => ⟨⟨some (.ref o), S, rfl, hq, by rw [ht]; exact hR⟩, hS.F ht⟩) hS.2.2 (hC.dk h) hC.2.2.1
theorem r_ineg {sc : SC} {μ : MI} {mc ms k n pc : Nat} {lv : List (Nat × Value)} {st : List Value} {S : AS} {Q : Out → AS → Prop} {x : Int32} (h : cf (mCd μ) pc = some (.ineg, 1)) (kk : Wp sc μ mc ms k n (pc + 1) lv (.int (-x) :: st) S Q) : Wp sc μ mc ms k n pc lv (.int x :: st) S Q := by
  intro l κ p e s m args below meth c H locs ls hfl hC hS hR hlv
  exact lv_ineg hC.1.1 hC.1.2.1 (hC.dk h) (kk l κ p e s m args below meth c H locs ls hfl hC hS hR hlv)
theorem r_iushr {sc : SC} {μ : MI} {mc ms k n pc : Nat} {lv : List (Nat × Value)} {st : List Value} {S : AS} {Q : Out → AS → Prop} {x y v : Int32} (h : cf (mCd μ) pc = some (.iushr, 1)) (hv : (x.toUInt32 >>> (y.toUInt32 &&& Int32.toUInt32 31)).toInt32 = v) (kk : Wp sc μ mc ms k n (pc + 1) lv (.int v :: st) S Q) : Wp sc μ mc ms k n pc lv (.int y :: .int x :: st) S Q := by
  intro l κ p e s m args below meth c H locs ls hfl hC hS hR hlv
  exact lv_iushr hC.1.1 hC.1.2.1 (hC.dk h) hv (kk l κ p e s m args below meth c H locs ls hfl hC hS hR hlv)
theorem r_dupx {sc : SC} {μ : MI} {mc ms k n pc : Nat} {lv : List (Nat × Value)} {st : List Value} {S : AS} {Q : Out → AS → Prop} {a b : Value} (h : cf (mCd μ) pc = some (.dup_x1, 1)) (ha : a.category = 1) (hb : b.category = 1) (kk : Wp sc μ mc ms k n (pc + 1) lv (a :: b :: a :: st) S Q) : Wp sc μ mc ms k n pc lv (a :: b :: st) S Q := by
  intro l κ p e s m args below meth c H locs ls hfl hC hS hR hlv
  exact lv_dup_x1 hC.1.1 hC.1.2.1 (hC.dk h) (by rw [cv_cat]; exact ha) (by rw [cv_cat]; exact hb) (kk l κ p e s m args below meth c H locs ls hfl hC hS hR hlv)
theorem r_nonnullK {sc : SC} {μ : MI} {mc ms k n pc : Nat} {lv : List (Nat × Value)} {st : List Value} {S : AS} {Q : Out → AS → Prop} {x : Nat} {off : Int} {tgt : Nat} (h : cf (mCd μ) pc = some (.ifnonnull off, 3)) (ht : (pc : Int) + off = (tgt : Int)) (hx : x ≠ 99) (kk : Wp sc μ mc ms k n tgt lv st S Q) : Wp sc μ mc ms k n pc lv (.retAddr x :: st) S Q := by
  intro l κ p e s m args below meth c H locs ls hfl hC hS hR hlv
  obtain ⟨t, e9⟩ := cvK_ref κ hx
  show W p l e _ s m args below meth c H locs k n _ (F0 m pc ls (cv κ (.retAddr x) :: cvs κ st))
  rw [e9]
  exact lv_ifnonnull hC.1.1 hC.1.2.1 (hC.dk h) ht (kk l κ p e s m args below meth c H locs ls hfl hC hS hR hlv)
theorem r_alenL {sc : SC} {μ : MI} {mc ms k n pc : Nat} {lv : List (Nat × Value)} {st : List Value} {S : AS} {Q : Out → AS → Prop} {o nn : Nat} {f : Nat → Int64} (h : cf (mCd μ) pc = some (.arraylength, 1)) (hlt : o < S.2.1) (ho : S.1 o = .inr (.inl (nn, f))) (kk : Wp sc μ mc ms k n (pc + 1) lv (.int (nI nn) :: st) S Q) : Wp sc μ mc ms k n pc lv (.ref o :: st) S Q := by
  intro l κ p e s m args below meth c H locs ls hfl hC hS hR hlv
  exact va_alen (cl := vwCl) (D := kD κ) (tys := tysK κ) hC.1.1 hC.1.2.1 hC.kk (hR.arrL hlt ho) 0 3 rfl rfl rfl (hC.dk h) (kk l κ p e s m args below meth c H locs ls hfl hC hS hR hlv)
theorem r_alenQ {sc : SC} {μ : MI} {mc ms k n pc : Nat} {lv : List (Nat × Value)} {st : List Value} {S : AS} {Q : Out → AS → Prop} {o nn : Nat} {V : Nat → Value} (h : cf (mCd μ) pc = some (.arraylength, 1)) (hlt : o < S.2.1) (ho : S.1 o = .inr (.inr (100 + nn, V))) (kk : Wp sc μ mc ms k n (pc + 1) lv (.int (nI nn) :: st) S Q) : Wp sc μ mc ms k n pc lv (.ref o :: st) S Q := by
  intro l κ p e s m args below meth c H locs ls hfl hC hS hR hlv
  exact va_alen (cl := vwCl) (D := kD κ) (tys := tysK κ) hC.1.1 hC.1.2.1 hC.kk (hR.arrQ hlt ho) 0 4 rfl rfl rfl (hC.dk h) (kk l κ p e s m args below meth c H locs ls hfl hC hS hR hlv)
theorem r_aald {sc : SC} {μ : MI} {mc ms k n pc : Nat} {lv : List (Nat × Value)} {st : List Value} {S : AS} {Q : Out → AS → Prop} {o j nn x : Nat} {V : Nat → Value} (h : cf (mCd μ) pc = some (.aaload, 1)) (hlt : o < S.2.1) (ho : S.1 o = .inr (.inr (100 + nn, V))) (hj : j < nn) (hn : nn < 2147483648) (hV : V j = .ref x) (kk : Wp sc μ mc ms k n (pc + 1) lv (.ref x :: st) S Q) : Wp sc μ mc ms k n pc lv (.int (nI j) :: .ref o :: st) S Q := by
  intro l κ p e s m args below meth c H locs ls hfl hC hS hR hlv
  have hc := hR.arrQ hlt ho 0 _ rfl
  refine W.aald (cell := vp_cell (kA κ 4) (nn, .inr (.inr (.inr (.inr (fun j => adr κ (V j))))))) (a := kB κ + o) (v := .ref (kB κ + x)) (ty := .array .int) hC.1.1 hC.1.2.1 hc ((hC.kk.2 4 _ rfl).1 nn (fun j => va_rf (adr κ (V j)))) rfl (fun q => by cases q) (by show ¬ (nI j < 0 ∨ (arrV _ _ _).slots.size ≤ _); rw [arrV_size]; exact vin hj hn) ?_ rfl rfl (hC.dk h) (kk l κ p e s m args below meth c H locs ls hfl hC hS hR hlv)
  show (arrV _ _ _).slots[_]? = _
  rw [nI_clamp (Nat.lt_trans hj hn), arrV_read _ _ hj]
  show some (va_rf (adr κ (V j))) = _
  rw [hV]
  rfl
