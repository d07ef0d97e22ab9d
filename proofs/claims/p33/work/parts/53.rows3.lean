theorem conv_Q (κ : KX) (nn : Nat) (V : Nat → Value) : conv κ (.inr (.inr (100 + nn, V))) = .inl (kA κ 4, nn, .inr (.inr (.inr (.inr (fun j => adr κ (V j)))))) := by
  show (if 100 + nn < 50 then _ else _) = _
  rw [if_neg (by omega), show 100 + nn - 100 = nn by omega]
theorem asg_rf (vm : Vm) (c : ClassId) : vm.assignable c c = true := by
  show vm.assignableAux (255 + 1) c c = true
  rw [Vm.assignableAux, beq_self_eq_true, Bool.true_or]
theorem r_aast {sc : SC} {μ : MI} {mc ms k n pc : Nat} {lv : List (Nat × Value)} {st : List Value} {S : AS} {Q : Out → AS → Prop} {o j nn v vn : Nat} {V : Nat → Value} {f : Nat → Int32} (h : cf (mCd μ) pc = some (.aastore, 1)) (hlt : o < S.2.1) (ho : S.1 o = .inr (.inr (100 + nn, V))) (hv : v < S.2.1) (hvv : S.1 v = .inl (0, vn, f)) (hj : j < nn) (hn : nn < 2147483648) (kk : Wp sc μ mc ms k n (pc + 1) lv st (aup S.1 o (.inr (.inr (100 + nn, aup V j (.ref v)))), S.2) Q) : Wp sc μ mc ms k n pc lv (.ref v :: .int (nI j) :: .ref o :: st) S Q := by
  intro l κ p e9 s m args below meth c H locs ls hfl hC hS hR hlv
  have hc := hR.arrQ hlt ho 0 _ rfl
  have hcv := hR.arr hv hvv 0 _ rfl
  obtain ⟨comp, cA, kA4, q1, q2, q3, q4, q5⟩ := arrayOverA_spec hC.gd.2.2.1.2.2.2.1
  have e4 : cA = kA κ 4 := Option.some.inj (q5.symm.trans (hC.kk.2 4 _ rfl).2)
  have e0 : comp = kA κ 0 := Option.some.inj (q1.symm.trans (hC.kk.2 0 _ rfl).2)
  subst e4
  subst e0
  obtain ⟨-, k0, hk0, comp0, hkind0⟩ := (hC.kk.2 0 _ rfl).1 0 (fun _ => .null)
  refine W.aast (cell := vp_cell (kA κ 4) (nn, .inr (.inr (.inr (.inr (fun j => adr κ (V j))))))) (cv := vp_cell (kA κ 0) (vn, .inl f)) (a := kB κ + o) (v := kB κ + v) (k := kA4) (kv := k0) (kcomp := k0) (comp := kA κ 0) (t := .array .int) hC.1.1 hC.1.2.1 hc (fun q z => by cases z) (fun z => by cases z) q3 q4 rfl hk0 ⟨nI_pos (Nat.lt_trans hj hn), by rw [nI_clamp (Nat.lt_trans hj hn)]; show j < (arrV _ _ _).slots.size; rw [arrV_size]; exact hj⟩ hcv (fun q z => by cases z) hk0 (asg_rf _ _) rfl rfl (hC.dk h) (fun H1 e z oq => ?_)
  rw [nI_clamp (Nat.lt_trans hj hn)] at e ⊢
  refine kk l κ p e9 s m args below meth c H1 _ ls hfl hC (hS.put z oq (hR.2.2 o hlt)) (hR.put hlt z ?_ oq) hlv
  rw [conv_Q]
  show H1[kB κ + o]? = some (vp_cell _ _)
  rw [e, vp_cell_q, vp_cell_q, arrV_store]
  congr 2
  funext q
  by_cases hq : q = j
  · subst hq
    simp [updV, aup, adr, va_rf]
  · simp [updV, aup, hq]
theorem r_anewQ {sc : SC} {μ : MI} {mc ms k n pc : Nat} {lv : List (Nat × Value)} {st : List Value} {S : AS} {Q : Out → AS → Prop} {idx nn : Nat} (h : cf (mCd μ) pc = some (.anewarray idx, 3)) (hw : Cond.classLink (mNm μ).cls idx "[I" ∈ lw_gd) (hn : nn < 65536) (hex : S.2.2 = true) (hk : k + 1 ≤ mc) (hs : n + nn ≤ ms) (kk : Wp sc μ mc ms (k + 1) (n + nn) (pc + 3) lv (.ref S.2.1 :: st) (aup S.1 S.2.1 (.inr (.inr (100 + nn, fun _ => .null))), S.2.1 + 1, true) Q) : Wp sc μ mc ms k n pc lv (.int (nI nn) :: st) S Q := by
  intro l κ p e s m args below meth c H locs ls hfl hC hS hR hlv
  have hcl : (nI nn).toNatClampNeg = nn := nI_clamp (by omega)
  refine W.anewA (t := .int) hC.1.1 hC.1.2.1 hC.own (hC.wd hw) hC.gd.2.2.1.2.2.2.1 rfl (hC.dk h) rfl (nI_pos (by omega)) (by rw [hcl]; omega) hk (by rw [hcl]; exact hs) (fun cA kA4 comp q5 q3 q4 q1 => ?_)
  have e4 : cA = kA κ 4 := Option.some.inj (q5.symm.trans (hC.kk.2 4 _ rfl).2)
  subst e4
  rw [hcl]
  have hz : H.size = kB κ + S.2.1 := hR.2.1.2 hex
  generalize hH1 : H.push ({ cls := kA κ 4, slots := Array.replicate nn .null, vm := .none } : Cell) = H1
  have z1 : H1.size = H.size + 1 := by rw [← hH1, Array.size_push]
  have e1 : H1[H.size]? = some (arrV (kA κ 4) nn (fun _ => .null)) := by rw [← hH1, Array.getElem?_push_size, ← arrV_new]
  have o1 : ∀ q : Nat, q < H.size → H1[q]? = H[q]? := fun q hq => by rw [← hH1, Array.getElem?_push, if_neg (Nat.ne_of_lt hq)]
  have h9 := fun hq => kk l κ p e s m args below meth c H1 locs ls hfl hC ⟨Nat.le_trans hS.1 (by omega), fun x h1 h2 => (o1 x (Nat.lt_of_lt_of_le h1 hS.1)).trans (hS.2.1 x h1 h2), hS.2.2⟩ (hR.push (Nat.le_trans hC.gd.1.2.2 hS.1) hex z1 hq o1 true) hlv
  rw [hz]
  refine h9 ?_
  rw [conv_Q]
  exact e1
theorem r_getsD {sc : SC} {μ : MI} {mc ms k n pc : Nat} {lv : List (Nat × Value)} {st : List Value} {S : AS} {Q : Out → AS → Prop} {idx i : Nat} (h : cf (mCd μ) pc = some (.getstatic idx, 3)) (hi : i < 2) (hw : Cond.fieldLink (mNm μ).cls idx "java/lang/Integer" (nmD i) "[B" ∈ lw_gd) (kk : Wp sc μ mc ms k n (pc + 3) lv (.retAddr (101 + i) :: st) S Q) : Wp sc μ mc ms k n pc lv st S Q := by
  intro l κ p e s m args below meth c H locs ls hfl hC hS hR hlv
  have h9 := kk l κ p e s m args below meth c H locs ls hfl hC hS hR hlv
  have e9 : cvs κ (.retAddr (101 + i) :: st) = .ref (kDT κ i) :: cvs κ st := by
    show cv κ (.retAddr (101 + i)) :: cvs κ st = _
    rw [cv_dig]
  rw [e9] at h9
  exact va_gets (A := kF κ) hC.1.1 hC.1.2.1 (hC.gd.2.2.1.2.2.1 i hi).1 hS hC.own (hC.wd hw) (fun _ q => q) (hC.dk h) h9
theorem r_baldD {sc : SC} {μ : MI} {mc ms k n pc : Nat} {lv : List (Nat × Value)} {st : List Value} {S : AS} {Q : Out → AS → Prop} {i j : Nat} (h : cf (mCd μ) pc = some (.baload, 1)) (hi : i < 2) (hj : j < 100) (kk : Wp sc μ mc ms k n (pc + 1) lv (.int (nI (tbD i j)) :: st) S Q) : Wp sc μ mc ms k n pc lv (.int (nI j) :: .retAddr (101 + i) :: st) S Q := by
  intro l κ p e s m args below meth c H locs ls hfl hC hS hR hlv
  show W p l e (rmO μ mc ms) s m args below meth c H locs k n _ (F0 m pc ls (.int (nI j) :: cv κ (.retAddr (101 + i)) :: cvs κ st))
  rw [cv_dig]
  exact va_tb (A := kF κ) hC.1.1 hC.1.2.1 (hC.gd.2.2.1.2.2.1 i hi).2 hS (vin hj (by decide)) (by rw [nI_clamp (Nat.lt_trans hj (by decide))]; rfl) (hC.dk h) (kk l κ p e s m args below meth c H locs ls hfl hC hS hR hlv)
theorem r_minL {sc : SC} {μ : MI} {mc ms k n pc : Nat} {lv : List (Nat × Value)} {st : List Value} {S : AS} {Q : Out → AS → Prop} {x y : Int64} {idx : Nat} (h : cf (mCd μ) pc = some (.invokestatic idx, 3)) (hw : Cond.methodLink (mNm μ).cls idx Lib.MathLoose.min_long.x ∈ lw_gd) (hw2 : Cond.static Lib.MathLoose.min_long.x ∈ lw_gd) (hw4 : Cond.code Lib.MathLoose.min_long.x Lib.MathLoose.min_long.code 4 (some .long) ∈ lw_gd) (hfr : Nat.ble 1 (mFr μ) = true) (hlo : Nat.ble ((st.map fun v => v.category).sum + 15) (mLo μ) = true) (hk : k ≤ mc) (hs : n ≤ ms) (kk : Wp sc μ mc ms k n (pc + 3) lv (.long (if y < x then y else x) :: st) S Q) : Wp sc μ mc ms k n pc lv (.long y :: .long x :: st) S Q := by
  intro l κ p e s m args below meth c H locs ls hfl hC hS hR hlv
  refine va_mmin_long hC.1.1 hC.1.2.1 (by rw [hC.1.2.2.2.1]; exact hlv.1.symm) hC.own (hC.wd hw) (hC.wd hw2) (hC.wd maI) (hC.wd hw4) (Nat.le_of_ble_eq_true hfr) ?_ hk hs (hC.dk h) (kk l κ p e s m args below meth c H locs ls hfl hC hS hR hlv)
  show ((cvs κ st).map fun v => v.category).sum + 15 ≤ mLo μ
  rw [cvs_sum]
  exact Nat.le_of_ble_eq_true hlo
/-- the receiver's class answers by this very method -/
def SelOk (C : String) (ν : MI) : Prop := ∀ (args : Array Value) (s : State), (∀ w ∈ lw_gd, w.before args s = true) → (Cond.selects C (mNm ν) (mNm ν)).before args s = true
theorem SelOk.w {C : String} {ν : MI} (h : Cond.selects C (mNm ν) (mNm ν) ∈ lw_gd) : SelOk C ν := fun _ _ hw => hw _ h
def LVS (own : String) (idx : Nat) (C : String) (ν : MI) (na : Nat) : Prop := Cond.methodLink own idx (mNm ν) ∈ lw_gd ∧ Cond.instanceMethod (mNm ν) ∈ lw_gd ∧ SelOk C ν ∧ (parseMethodDescriptor (mNm ν).desc).map (fun d => d.parameters.length) = some na ∧ GM ν ∧ mHh ν = []
theorem r_virS {sc : SC} {μ ν : MI} {mc ms k n mc1 ms1 pc : Nat} {lv : List (Nat × Value)} {st : List Value} {S : AS} {Q Q1 : Out → AS → Prop} {idx o ci : Nat} {V : Nat → Value} {r : vw_C} (as rest : List Value) (h : cf (mCd μ) pc = some (.invokevirtual idx, 3)) (hL : LVS (mNm μ).cls idx r.1 ν as.length) (hlt : o < S.2.1) (ho : S.1 o = .inr (.inr (ci, V))) (hc9 : vwCl[ci]? = some r) (hcal : Cal sc ν mc1 ms1 (.ref o :: as) S Q1) (hno : ∀ ec S', ¬ Q1 (.inr ec) S') (hst : st = as.reverse ++ .ref o :: rest) (hrm : rmB μ ν rest = true) (hmc : k + mc1 ≤ mc) (hms : n + ms1 ≤ ms)
    (kk : ∀ r S', Q1 (.inl r) S' → Wp sc μ mc ms (k + mc1) (n + ms1) (pc + 3) lv (r.toList ++ rest) S' Q) : Wp sc μ mc ms k n pc lv st S Q := by
  intro l κ p e s m args below meth c H locs ls hfl hC hS hR hlv
  obtain ⟨w1, w2, w3, hd, hg, hhν⟩ := hL
  obtain ⟨m1, m2, m3⟩ := rmB_sp hrm
  subst hst
  obtain ⟨cellB, b1, b2, b3⟩ := recv_at hC.gd hR hlt ho hc9
  have hcw : CallW (rmO μ mc ms) s args (mNm μ).cls r.1 idx (mNm ν) (mBs ν) (mMl ν) (mRt ν) (wsO ν) (rmO ν mc1 ms1) mc1 ms1 as.length := ⟨callB_of as.length hC.2.1 (gin_O hg.2.1) (wsO_eq hhν) rfl rfl (hC.wd hg.2.2.2.2) (hC.wd w1) ⟨hg.2.2.2.1.1, hg.2.2.2.1.2, hd⟩ ⟨m1, m2⟩, hC.wd w2, w3 _ _ (fun w hw => hC.wd hw)⟩
  have hrun := va_runV (e := e) (meth := meth) (below := below) (rest := cvs κ rest) (g := F0 m pc ls (cvs κ (as.reverse ++ .ref o :: rest))) (locs := locs) (cells := k) (slots := n) (H := H) (As := cvs κ as) (b := kB κ + o) ⟨hC.1.1, hC.1.2.1, hC.1.2.2.2.1, hC.own, hC.2.1⟩ (hcal.met hno l κ hfl) hcw ⟨Pc0_blind κ sc _ S, ⟨cellB, b1, b2, b3⟩, pre_at (as := .ref o :: as) hC.gd hS hR⟩ rfl (by simp [cvs]) hlv.1 (by show cvs κ (as.reverse ++ .ref o :: rest) = _; rw [cvs_app, cvs_rev]; rfl) (rm8 m3) (hC.dk h) ⟨hmc, hms⟩
  refine run_goM (sc := sc) (S := S) hrun hS (fun r S' H1 locs1 hq hR1 hS1 => ?_)
  have h9 := kk r S' hq l κ p e s m args below meth c H1 locs1 ls hfl hC hS1 hR1 hlv
  rw [cvs_app] at h9
  cases r <;> exact h9
/-- a nest mate's private method -/
def LVN (own : String) (idx : Nat) (ν : MI) (na : Nat) : Prop := (∃ host : String, (own, idx, mNm ν, host) ∈ lw_nest) ∧ Cond.instanceMethod (mNm ν) ∈ lw_gd ∧ Cond.selects (mNm ν).cls (mNm ν) (mNm ν) ∈ lw_gd ∧ (parseMethodDescriptor (mNm ν).desc).map (fun d => d.parameters.length) = some na ∧ GM ν ∧ mHh ν = []
theorem r_virN {sc : SC} {μ ν : MI} {mc ms k n mc1 ms1 pc : Nat} {lv : List (Nat × Value)} {st : List Value} {S : AS} {Q Q1 : Out → AS → Prop} {idx o ci : Nat} {V : Nat → Value} {r : vw_C} (as rest : List Value) (h : cf (mCd μ) pc = some (.invokevirtual idx, 3)) (hL : LVN (mNm μ).cls idx ν as.length) (hlt : o < S.2.1) (ho : S.1 o = .inr (.inr (ci, V))) (hc9 : vwCl[ci]? = some r) (hc : r.1 = (mNm ν).cls) (hcal : Cal sc ν mc1 ms1 (.ref o :: as) S Q1) (hno : ∀ ec S', ¬ Q1 (.inr ec) S') (hst : st = as.reverse ++ .ref o :: rest) (hrm : rmB μ ν rest = true) (hmc : k + mc1 ≤ mc) (hms : n + ms1 ≤ ms)
    (kk : ∀ r S', Q1 (.inl r) S' → Wp sc μ mc ms (k + mc1) (n + ms1) (pc + 3) lv (r.toList ++ rest) S' Q) : Wp sc μ mc ms k n pc lv st S Q := by
  intro l κ p e s m args below meth c H locs ls hfl hC hS hR hlv
  obtain ⟨⟨host, w1⟩, w2, w3, hd, hg, hhν⟩ := hL
  obtain ⟨m1, m2, m3⟩ := rmB_sp hrm
  subst hst
  obtain ⟨cellB, b1, b2, b3⟩ := recv_at hC.gd hR hlt ho hc9
  rw [hc] at b3
  have hcb := va_cnB (R := rmO μ mc ms) (rm := rmO ν mc1 ms1) as.length hC.2.1 (gin_O hg.2.1) (wsO_eq hhν) rfl rfl (hC.gd.2.2.2.2.1.1 _ w1) (hC.wd hg.2.2.2.2) ⟨hg.2.2.2.1.1, hg.2.2.2.1.2, hd⟩ ⟨m1, m2⟩
  have hcw := And.intro hcb (And.intro (hC.wd w2) (hC.wd w3))
  have hrun := va_runVN (e := e) (meth := meth) (below := below) (rest := cvs κ rest) (g := F0 m pc ls (cvs κ (as.reverse ++ .ref o :: rest))) (locs := locs) (cells := k) (slots := n) (H := H) (As := cvs κ as) (b := kB κ + o) ⟨hC.1.1, hC.1.2.1, hC.1.2.2.2.1, hC.own, hC.2.1⟩ (hcal.met hno l κ hfl) hcw ⟨Pc0_blind κ sc _ S, ⟨cellB, b1, b2, b3⟩, pre_at (as := .ref o :: as) hC.gd hS hR⟩ rfl (by simp [cvs]) hlv.1 (by show cvs κ (as.reverse ++ .ref o :: rest) = _; rw [cvs_app, cvs_rev]; rfl) (rm8 m3) (hC.dk h) ⟨hmc, hms⟩
  refine run_goM (sc := sc) (S := S) hrun hS (fun r S' H1 locs1 hq hR1 hS1 => ?_)
  have h9 := kk r S' hq l κ p e s m args below meth c H1 locs1 ls hfl hC hS1 hR1 hlv
  rw [cvs_app] at h9
  cases r <;> exact h9
/-- a method of the class above, called by super -/
def LSU (own : String) (idx : Nat) (ν : MI) (na : Nat) : Prop := (Cond.methodLink own idx (mNm ν) ∈ lw_gd ∧ Cond.sameMethod (mNm ν).cls (mNm ν).cls (mNm ν).name (mNm ν).desc ∈ lw_gd ∧ Cond.superclass own (mNm ν).cls ∈ lw_gd ∧ Cond.instanceMethod (mNm ν) ∈ lw_gd) ∧ (mNm ν).name ≠ "<init>" ∧ (parseMethodDescriptor (mNm ν).desc).map (fun d => d.parameters.length) = some na ∧ GM ν ∧ mHh ν = []
theorem r_super {sc : SC} {μ ν : MI} {mc ms k n mc1 ms1 pc : Nat} {lv : List (Nat × Value)} {st : List Value} {S : AS} {Q Q1 : Out → AS → Prop} {idx o ci : Nat} {V : Nat → Value} {r : vw_C} (as rest : List Value) (h : cf (mCd μ) pc = some (.invokespecial idx, 3)) (hL : LSU (mNm μ).cls idx ν as.length) (hlt : o < S.2.1) (ho : S.1 o = .inr (.inr (ci, V))) (hc9 : vwCl[ci]? = some r) (hcal : Cal sc ν mc1 ms1 (.ref o :: as) S Q1) (hno : ∀ ec S', ¬ Q1 (.inr ec) S') (hst : st = as.reverse ++ .ref o :: rest) (hrm : rmB μ ν rest = true) (hmc : k + mc1 ≤ mc) (hms : n + ms1 ≤ ms)
    (kk : ∀ r S', Q1 (.inl r) S' → Wp sc μ mc ms (k + mc1) (n + ms1) (pc + 3) lv (r.toList ++ rest) S' Q) : Wp sc μ mc ms k n pc lv st S Q := by
  intro l κ p e s m args below meth c H locs ls hfl hC hS hR hlv
  obtain ⟨⟨w1, w2, w3, w4⟩, hni, hd, hg, hhν⟩ := hL
  obtain ⟨m1, m2, m3⟩ := rmB_sp hrm
  subst hst
  obtain ⟨cellB, b1, b2, b3⟩ := recv_at hC.gd hR hlt ho hc9
  have hgi : GoodIn (wsO μ) (va_wsSU (mNm μ).cls idx (mNm ν) (wsO ν)) := by
    unfold va_wsSU
    refine gin_app ?_ (gin_O hg.2.1)
    intro w hw
    simp only [List.mem_cons, List.not_mem_nil, or_false] at hw
    rcases hw with rfl | rfl | rfl | rfl | rfl
    · exact w1
    · exact w2
    · exact w3
    · exact w4
    · exact hg.2.2.2.2
  have hcw := va_cwSU (R := rmO μ mc ms) (rm := rmO ν mc1 ms1) as.length hC.2.1 hgi (wsO_eq hhν) rfl rfl ⟨hni, hd⟩ ⟨m1, m2⟩
  have hrun := va_runSU (e := e) (meth := meth) (below := below) (rest := cvs κ rest) (g := F0 m pc ls (cvs κ (as.reverse ++ .ref o :: rest))) (locs := locs) (cells := k) (slots := n) (H := H) (As := cvs κ as) (b := kB κ + o) (hC.kk.1 ci _ hc9).2 ⟨hC.1.1, hC.1.2.1, hC.1.2.2.2.1, hC.own, hC.2.1⟩ (hcal.met hno l κ hfl) hcw ⟨Pc0_blind κ sc _ S, ⟨cellB, b1, b2, b3⟩, pre_at (as := .ref o :: as) hC.gd hS hR⟩ rfl (by simp [cvs]) hlv.1 (by show cvs κ (as.reverse ++ .ref o :: rest) = _; rw [cvs_app, cvs_rev]; rfl) (rm8 m3) (hC.dk h) ⟨hmc, hms⟩
  refine run_goM (sc := sc) (S := S) hrun hS (fun r S' H1 locs1 hq hR1 hS1 => ?_)
  have h9 := kk r S' hq l κ p e s m args below meth c H1 locs1 ls hfl hC hS1 hR1 hlv
  rw [cvs_app] at h9
  cases r <;> exact h9
/-- what is named is a method above; the receiver's class has its own -/
def LVO (own : String) (idx : Nat) (C : String) (x : MethodName) (ν : MI) (na : Nat) : Prop := (Cond.methodLink own idx x ∈ lw_gd ∧ Cond.sameMethod x.cls x.cls x.name x.desc ∈ lw_gd ∧ Cond.instanceMethod x ∈ lw_gd ∧ Cond.selects C x (mNm ν) ∈ lw_gd ∧ Cond.instanceMethod (mNm ν) ∈ lw_gd) ∧ (∃ (b0 : ByteArray) (m0 : Nat) (r0 : Option FieldType), Cond.code x b0 m0 r0 ∈ lw_gd) ∧ (x.cls ≠ "java/lang/invoke/MethodHandle" ∧ x.cls ≠ "java/lang/invoke/VarHandle" ∧ (parseMethodDescriptor x.desc).map (fun d => d.parameters.length) = some na) ∧ GM ν ∧ mHh ν = []
theorem r_virO {sc : SC} {μ ν : MI} {mc ms k n mc1 ms1 pc : Nat} {lv : List (Nat × Value)} {st : List Value} {S : AS} {Q Q1 : Out → AS → Prop} {idx o ci : Nat} {V : Nat → Value} {r : vw_C} {x : MethodName} (as rest : List Value) (h : cf (mCd μ) pc = some (.invokevirtual idx, 3)) (hL : LVO (mNm μ).cls idx r.1 x ν as.length) (hlt : o < S.2.1) (ho : S.1 o = .inr (.inr (ci, V))) (hc9 : vwCl[ci]? = some r) (hcal : Cal sc ν mc1 ms1 (.ref o :: as) S Q1) (hno : ∀ ec S', ¬ Q1 (.inr ec) S') (hst : st = as.reverse ++ .ref o :: rest) (hrm : rmB μ ν rest = true) (hmc : k + mc1 ≤ mc) (hms : n + ms1 ≤ ms)
    (kk : ∀ r S', Q1 (.inl r) S' → Wp sc μ mc ms (k + mc1) (n + ms1) (pc + 3) lv (r.toList ++ rest) S' Q) : Wp sc μ mc ms k n pc lv st S Q := by
  intro l κ p e s m args below meth c H locs ls hfl hC hS hR hlv
  obtain ⟨⟨w1, w2, w3, w4, w5⟩, ⟨b0, m0, r0, w6⟩, hd, hg, hhν⟩ := hL
  obtain ⟨m1, m2, m3⟩ := rmB_sp hrm
  subst hst
  obtain ⟨cellB, b1, b2, b3⟩ := recv_at hC.gd hR hlt ho hc9
  have hgi : GoodIn (wsO μ) (va_wsO (mNm μ).cls idx r.1 x.cls x (mNm ν) (wsO ν)) := by
    unfold va_wsO
    refine gin_app ?_ (gin_O hg.2.1)
    intro w hw
    simp only [List.mem_cons, List.not_mem_nil, or_false] at hw
    rcases hw with rfl | rfl | rfl | rfl | rfl | rfl
    · exact w1
    · exact w2
    · exact w3
    · exact w4
    · exact w5
    · exact hg.2.2.2.2
  have hcw := va_cwO (R := rmO μ mc ms) (rm := rmO ν mc1 ms1) as.length hC.2.1 hgi (wsO_eq hhν) rfl rfl (List.mem_cons_of_mem _ w6) hd ⟨m1, m2⟩
  have hrun := va_runU (e := e) (meth := meth) (below := below) (rest := cvs κ rest) (g := F0 m pc ls (cvs κ (as.reverse ++ .ref o :: rest))) (locs := locs) (cells := k) (slots := n) (H := H) (As := cvs κ as) (b := kB κ + o) ⟨hC.1.1, hC.1.2.1, hC.1.2.2.2.1, hC.own, hC.2.1⟩ (hcal.met hno l κ hfl) hcw ⟨Pc0_blind κ sc _ S, ⟨cellB, b1, b2, b3⟩, pre_at (as := .ref o :: as) hC.gd hS hR⟩ rfl (by simp [cvs]) hlv.1 (by show cvs κ (as.reverse ++ .ref o :: rest) = _; rw [cvs_app, cvs_rev]; rfl) (rm8 m3) (hC.dk h) ⟨hmc, hms⟩
  refine run_goM (sc := sc) (S := S) hrun hS (fun r S' H1 locs1 hq hR1 hS1 => ?_)
  have h9 := kk r S' hq l κ p e s m args below meth c H1 locs1 ls hfl hC hS1 hR1 hlv
  rw [cvs_app] at h9
  cases r <;> exact h9
/-- a nest mate's field -/
def FLN (own : String) (idx ci kf : Nat) (t : FieldType) : Prop := ∃ (C : String) (T : u_T) (N : Nat) (ty : Nat → FieldType) (host : String), CI ci C T N ty ∧ kf < N ∧ (own, idx, (T kf).1, (T kf).2.1, (T kf).2.2.1, host) ∈ lw_fnest ∧ (T kf).2.2.2 = false ∧ ty kf = t
def FLNf (own : String) (idx ci kf : Nat) (t : FieldType) : Prop := ∃ (C : String) (T : u_T) (N : Nat) (ty : Nat → FieldType) (host : String), CI ci C T N ty ∧ kf < N ∧ (own, idx, (T kf).1, (T kf).2.1, (T kf).2.2.1, host) ∈ lw_fnest ∧ ty kf = t
theorem FLN.f {own : String} {idx ci kf : Nat} {t : FieldType} (h : FLN own idx ci kf t) : FLNf own idx ci kf t := by
  obtain ⟨C, T, N, ty, host, h1, h2, h3, h4, h5⟩ := h
  exact ⟨C, T, N, ty, host, h1, h2, h3, h5⟩
theorem r_getfN {sc : SC} {μ : MI} {mc ms k n pc : Nat} {lv : List (Nat × Value)} {st : List Value} {S : AS} {Q : Out → AS → Prop} {idx o ci kf : Nat} {t : FieldType} {V : Nat → Value} {v : Value} (h : cf (mCd μ) pc = some (.getfield idx, 3)) (hf : FLNf (mNm μ).cls idx ci kf t) (hlt : o < S.2.1) (ho : S.1 o = .inr (.inr (ci, V))) (hv : V kf = v) (kk : Wp sc μ mc ms k n (pc + 3) lv (v :: st) S Q) : Wp sc μ mc ms k n pc lv (.ref o :: st) S Q := by
  intro l κ p e s m args below meth c H locs ls hfl hC hS hR hlv
  obtain ⟨C, T, N, ty, host, ⟨hc, hin, hty, hnm⟩, hk, hl, ht⟩ := hf
  refine va_getN (D := kD κ) (cl := vwCl) (tys := tysK κ) (C := C) (T := T) (N := N) (ref := (T kf).1) (host := host) (v := cv κ v) hC.1.1 hC.1.2.1 hC.2.1 (fun w hw => List.mem_cons_of_mem _ (hin w hw)) hC.own hC.kk (hR.at hc hlt ho) 0 rfl hc kf hk (va_Nw.use rfl (hC.gd.2.2.1.2.2.2.2 _ hl)) (fun _ q => q) ?_ (hC.dk h) (kk l κ p e s m args below meth c H locs ls hfl hC hS hR hlv)
  rw [List.getElem?_map, nfs_of hc, List.getElem?_range hk, ← hv]
  rfl
theorem r_putfN {sc : SC} {μ : MI} {mc ms k n pc : Nat} {lv : List (Nat × Value)} {st : List Value} {S : AS} {Q : Out → AS → Prop} {idx o ci kf : Nat} {t : FieldType} {V : Nat → Value} {v : Value} (h : cf (mCd μ) pc = some (.putfield idx, 3)) (hf : FLN (mNm μ).cls idx ci kf t) (hv : okv t v) (hlt : o < S.2.1) (ho : S.1 o = .inr (.inr (ci, V))) (kk : Wp sc μ mc ms k n (pc + 3) lv st (aup S.1 o (.inr (.inr (ci, aup V kf v))), S.2) Q) : Wp sc μ mc ms k n pc lv (v :: .ref o :: st) S Q := by
  intro l κ p e s m args below meth c H locs ls hfl hC hS hR hlv
  obtain ⟨C, T, N, ty, host, ⟨hc, hin, hty, hnm⟩, hk, hl, hfn, ht⟩ := hf
  have hin' : ∀ w ∈ u_ws C T N, w ∈ wsO μ := fun w hw => List.mem_cons_of_mem _ (hin w hw)
  have hap := va_apart (own := (mNm μ).cls) hC.2.1 hin' ty hty hnm hC.kk hc
  obtain ⟨r, h1, cell, q1, q2, q3, q4⟩ := hR.at hc hlt ho 0 _ rfl
  have hr : r = (C, T, N) := Option.some.inj (h1.symm.trans hc)
  subst hr
  obtain ⟨hS9, hfc, kC, hkC, hkind⟩ := hC.kk.1 ci _ hc
  obtain ⟨cf9, kf9, fi, f, hi, hsl⟩ := hS9 kf hk
  have hlay := hC.2.1 _ (hin' _ (u_in_lay hk))
  unfold u_lay at hlay
  rw [if_neg (by rw [hfn]; decide)] at hlay
  have hst := (u_facts hfc hkC (u_lays hC.2.1 hin' hk) hi).1
  have hty2 := hty kf hk
  rw [ht] at hty2
  have h6 := u_store (v := cv κ v) hfc hkC hkind hlay hi hty2 (hv κ).1 (hv κ).2
  refine va_WputK hC.1.1 hC.1.2.1 (f := f) hC.own (va_Nw.use rfl (hC.gd.2.2.1.2.2.2.2 _ hl)) hi hst (by rw [q2]; exact h6) q1 q3 (by rw [hsl]; exact k2_hasslot (q4 kf hk)) rfl rfl (hC.dk h) fun H' e1 e2 e3 => ?_
  rw [hsl] at e1 ⊢
  exact kk l κ p e s m args below meth c H' _ ls hfl hC (hS.put e2 e3 (hR.2.2 o hlt)) (Rep.obj (s := s) hR hlt ho hc hk q2 q3 q4 hap e1 e2 e3) hlv
