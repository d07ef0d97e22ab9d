theorem run_go {sc : SC} {μ : MI} {mc ms k n mc1 ms1 pc : Nat} {st0 rest : List Value} {S : AS} {Q1 : Out → AS → Prop} {l : Launch} {κ : KX} {p : Program} {e : Env} {s : State} {m : MethodId} {args a : Array Value} {below : List Frame} {meth : Method} {c : Code} {H : Heap} {locs : List Loc} {ls : Array Slot} {G : State → Prop}
    (hr : vx_Run p l e (rmO μ mc ms) s m args below meth c H locs k n mc1 ms1 (F0 m pc ls st0) rest (QO κ Q1 a) (XO κ Q1) (kF κ)) (hS : va_S (kF κ) s.heap H locs)
    (kx : ∀ (ec : Nat) (ce : Cell) (q9 : Addr) (S' : AS) (H1 : Heap) (locs1 : List Loc), Q1 (.inr ec) S' → ec < 3 → Rep κ S' H1 → va_S (kF κ) s.heap H1 locs1 → H1[q9]? = some ce → ce.vm = .none → s.vm.findClass (exN ec) = some ce.cls → vx_W p l e (rmO μ mc ms) s m args below meth c H1 locs1 (k + mc1) (n + ms1) G (F0 m pc ls rest) q9)
    (kk : ∀ (r : Option Value) (S' : AS) (H1 : Heap) (locs1 : List Loc), Q1 (.inl r) S' → Rep κ S' H1 → va_S (kF κ) s.heap H1 locs1 → W p l e (rmO μ mc ms) s m args below meth c H1 locs1 (k + mc1) (n + ms1) G (F0 m (pc + 3) ls ((r.map (cv κ)).toList ++ rest))) : W p l e (rmO μ mc ms) s m args below meth c H locs k n G (F0 m pc ls st0) := by
  intro T hT X
  rcases hr T hT X with ⟨v, st₀, t, T', L, h0, X', hL, e1, e2, ⟨⟨r, S', hv, hq, hR'⟩, hF⟩, st⟩ | ⟨q, st₀, t, T', L, E, ce, h0, X', hL, e1, e2, ⟨⟨ec, S', hE, h3, hq, hR'⟩, hF⟩, hce, hcv, hcl, st⟩
  · cases hv
    obtain ⟨k1, k2, k3⟩ := vx_keep h0 e1 hS (fun _ _ h => h) (fun _ h => h) hL hF
    obtain ⟨t2, a1, b1⟩ := kk r S' T'.heap (locs ++ L) hq (by rw [e1]; exact hR') k3 T' rfl X'
    exact ⟨t2, st t2 a1, b1⟩
  · subst hE
    obtain ⟨k1, k2, k3⟩ := vx_keep h0 e1 hS (fun _ _ h => h) (fun _ h => h) hL hF
    obtain ⟨t2, a1, b1⟩ := kx ec ce q S' T'.heap (locs ++ L) hq h3 (by rw [e1]; exact hR') k3 (by rw [e1]; exact hce) hcv hcl T' rfl X'
    exact ⟨t2, st.trans a1, b1⟩
/-- an instance method's entry of the pool -/
def LV (own : String) (idx : Nat) (ν : MI) (na : Nat) : Prop := Cond.methodLink own idx (mNm ν) ∈ lw_gd ∧ Cond.instanceMethod (mNm ν) ∈ lw_gd ∧ Cond.selects (mNm ν).cls (mNm ν) (mNm ν) ∈ lw_gd ∧ (parseMethodDescriptor (mNm ν).desc).map (fun d => d.parameters.length) = some na ∧ GM ν ∧ mHh ν = []
/-- a static method's -/
def LS9 (own : String) (idx : Nat) (ν : MI) (na : Nat) : Prop := Cond.methodLink own idx (mNm ν) ∈ lw_gd ∧ Cond.static (mNm ν) ∈ lw_gd ∧ (parseMethodDescriptor (mNm ν).desc).map (fun d => d.parameters.length) = some na ∧ GM ν ∧ mHh ν = []
def LSN (own : String) (idx : Nat) (ν : MI) (na : Nat) : Prop := (∃ host : String, (own, idx, mNm ν, host) ∈ lw_nest) ∧ Cond.static (mNm ν) ∈ lw_gd ∧ (parseMethodDescriptor (mNm ν).desc).map (fun d => d.parameters.length) = some na ∧ GM ν ∧ mHh ν = []
def LI (own : String) (idx : Nat) (ν : MI) (na : Nat) : Prop := Cond.methodLink own idx (mNm ν) ∈ lw_gd ∧ Cond.instanceMethod (mNm ν) ∈ lw_gd ∧ (mNm ν).name = "<init>" ∧ (parseMethodDescriptor (mNm ν).desc).map (fun d => d.parameters.length) = some na ∧ GM ν ∧ mHh ν = [] ∧ mRt ν = none
def LIN (own : String) (idx : Nat) (ν : MI) (na : Nat) : Prop := (∃ host : String, (own, idx, mNm ν, host) ∈ lw_nest) ∧ Cond.instanceMethod (mNm ν) ∈ lw_gd ∧ (mNm ν).name = "<init>" ∧ (parseMethodDescriptor (mNm ν).desc).map (fun d => d.parameters.length) = some na ∧ GM ν ∧ mHh ν = [] ∧ mRt ν = none
def LSW (own : String) (idx : Nat) (ν : MI) (na : Nat) : Prop := Cond.methodLink own idx (mNm ν) ∈ lw_gd ∧ Cond.static (mNm ν) ∈ lw_gd ∧ (parseMethodDescriptor (mNm ν).desc).map (fun d => d.parameters.length) = some na ∧ GM ν ∧ ∃ x t, mHh ν = x :: t
theorem wsO_eq {ν : MI} (h : mHh ν = []) : wsO ν = Cond.code (mNm ν) (mBs ν) (mMl ν) (mRt ν) :: lw_gd := by
  unfold wsO cdW
  rw [h]
theorem wsO_eqW {ν : MI} {x : Nat × Nat × Nat × Nat} {t : List (Nat × Nat × Nat × Nat)} (h : mHh ν = x :: t) : wsO ν = Cond.codeWith (mNm ν) (mBs ν) (mMl ν) (mRt ν) (x :: t) :: lw_gd := by
  unfold wsO cdW
  rw [h]
theorem gin_app {μ : MI} {a b : List Cond} (ha : ∀ w ∈ a, w ∈ lw_gd) (hb : GoodIn (wsO μ) b) : GoodIn (wsO μ) (a ++ b) := by
  intro w hw
  rcases List.mem_append.mp hw with h | h
  · exact ⟨List.mem_cons_of_mem _ (ha w h), lw_gd_good (ha w h)⟩
  · exact hb w h
/-- room for a call -/
def rmB (μ ν : MI) (rest : List Value) : Bool := Nat.ble (mFr ν + 1) (mFr μ) && (Nat.ble (8 + (mMl ν + 11) + mLo ν) (mLo μ) && Nat.ble ((rest.map fun v => v.category).sum) 8)
theorem rmB_sp {μ ν : MI} {rest : List Value} (h : rmB μ ν rest = true) : mFr ν + 1 ≤ mFr μ ∧ 8 + (mMl ν + 11) + mLo ν ≤ mLo μ ∧ (rest.map fun v => v.category).sum ≤ 8 := by
  unfold rmB at h
  rw [Bool.and_eq_true, Bool.and_eq_true] at h
  exact ⟨Nat.le_of_ble_eq_true h.1, Nat.le_of_ble_eq_true h.2.1, Nat.le_of_ble_eq_true h.2.2⟩
theorem rm8 {κ : KX} {m : MethodId} {pc : Nat} {ls : Array Slot} {st rest : List Value} (h : (rest.map fun v => v.category).sum ≤ 8) : 2 * (F0 m pc ls st).monitorRoom + ((cvs κ rest).map fun v => v.category).sum ≤ 8 := by
  rw [cvs_sum]
  exact lv_room (m := m) (pc := pc) (ls := ls) (rest := st) h
theorem cvs_app (κ : KX) (a b : List Value) : cvs κ (a ++ b) = cvs κ a ++ cvs κ b := List.map_append
theorem cvs_rev (κ : KX) (a : List Value) : cvs κ a.reverse = (cvs κ a).reverse := List.map_reverse
/-- the receiver -/
theorem recv_at {κ : KX} {sc : SC} {s : State} {S : AS} {H : Heap} {o ci : Nat} {V : Nat → Value} {r : vw_C} (hG : Gd κ sc s) (hR : Rep κ S H) (hlt : o < S.2.1) (ho : S.1 o = .inr (.inr (ci, V))) (hc : vwCl[ci]? = some r) : ∃ cell : Cell, H[kB κ + o]? = some cell ∧ cell.vm.isStatics = false ∧ s.vm.findClass r.1 = some cell.cls :=
  va_recv (q0 := 0) hG.1.1 (hR.at hc hlt ho) hc rfl
theorem pre_at {κ : KX} {sc : SC} {s : State} {S : AS} {H : Heap} {locs : List Loc} {as : List Value} (hG : Gd κ sc s) (hS : va_S (kF κ) s.heap H locs) (hR : Rep κ S H) : ∀ U : State, U.heap = H → s.WarmedH U.vm → Pc0 κ sc as S (cvs κ as).toArray U :=
  fun U hU hW => ⟨rfl, hG.next hW hU hS, by rw [hU]; exact hR⟩
theorem r_vir {sc : SC} {μ ν : MI} {mc ms k n mc1 ms1 pc : Nat} {lv : List (Nat × Value)} {st : List Value} {S : AS} {Q Q1 : Out → AS → Prop} {idx o ci : Nat} {V : Nat → Value} {r : vw_C} (as rest : List Value) (h : cf (mCd μ) pc = some (.invokevirtual idx, 3)) (hL : LV (mNm μ).cls idx ν as.length) (hlt : o < S.2.1) (ho : S.1 o = .inr (.inr (ci, V))) (hc9 : vwCl[ci]? = some r) (hc : r.1 = (mNm ν).cls) (hcal : Cal sc ν mc1 ms1 (.ref o :: as) S Q1) (hst : st = as.reverse ++ .ref o :: rest) (hrm : rmB μ ν rest = true) (hmc : k + mc1 ≤ mc) (hms : n + ms1 ≤ ms) (hh : mHh μ = [])
    (kx : ∀ ec S', Q1 (.inr ec) S' → Q (.inr ec) S') (kk : ∀ r S', Q1 (.inl r) S' → Wp sc μ mc ms (k + mc1) (n + ms1) (pc + 3) lv (r.toList ++ rest) S' Q) : Wp sc μ mc ms k n pc lv st S Q := by
  intro l κ p e s m args below meth c H locs ls hfl hC hS hR hlv
  obtain ⟨w1, w2, w3, hd, hg, hhν⟩ := hL
  obtain ⟨m1, m2, m3⟩ := rmB_sp hrm
  have hgi : GoodIn (wsO μ) (wsV (mNm μ).cls idx (mNm ν).cls (mNm ν) (wsO ν)) := by
    unfold wsV
    refine gin_app ?_ (gin_O hg.2.1)
    intro w hw
    simp only [List.mem_cons, List.not_mem_nil, or_false] at hw
    rcases hw with rfl | rfl | rfl | rfl
    · exact w1
    · exact w2
    · exact w3
    · exact hg.2.2.2.2
  subst hst
  obtain ⟨cellB, b1, b2, b3⟩ := recv_at hC.gd hR hlt ho hc9
  rw [hc] at b3
  have hrun := vx_runV (R := rmO μ mc ms) (e := e) (meth := meth) (below := below) (rest := cvs κ rest) (g := F0 m pc ls (cvs κ (as.reverse ++ .ref o :: rest))) (locs := locs) (cells := k) (slots := n) (H := H) (As := cvs κ as) (b := kB κ + o) ⟨hC.1.1, hC.1.2.1, hC.1.2.2.2.1, hC.own, hC.2.1⟩ (hcal l κ hfl) (cwV (R := rmO μ mc ms) (rm := rmO ν mc1 ms1) as.length hC.2.1 hgi (wsO_eq hhν) rfl rfl ⟨rfl, hg.2.2.2.1.1, hg.2.2.2.1.2, hd⟩ ⟨m1, m2⟩) ⟨Pc0_blind κ sc _ S, ⟨cellB, b1, b2, b3⟩, pre_at (as := .ref o :: as) hC.gd hS hR⟩ rfl (by simp [cvs]) hlv.1 (by show cvs κ (as.reverse ++ .ref o :: rest) = _; rw [cvs_app, cvs_rev]; rfl) (rm8 m3) (hC.dk h) ⟨hmc, hms⟩
  refine run_go (sc := sc) (S := S) hrun hS (fun ec ce q9 S' H1 locs1 hq h3 hR1 hS1 hce hv hcl => ?_) (fun r S' H1 locs1 hq hR1 hS1 => ?_)
  · refine vx_out (by rw [hC.2.2.2.1, hh]; intro x hx; cases hx) hC.2.2.1 hce hv hcl (fun t ht hal => ⟨⟨ec, S', rfl, h3, kx ec S' hq, by rw [ht]; exact hR1⟩, hS1.F ht⟩) hS1.2.2 hmc hms
  · have h9 := kk r S' hq l κ p e s m args below meth c H1 locs1 ls hfl hC hS1 hR1 hlv
    rw [cvs_app] at h9
    cases r <;> exact h9
theorem r_sta {sc : SC} {μ ν : MI} {mc ms k n mc1 ms1 pc : Nat} {lv : List (Nat × Value)} {st : List Value} {S : AS} {Q Q1 : Out → AS → Prop} {idx : Nat} (as rest : List Value) (h : cf (mCd μ) pc = some (.invokestatic idx, 3)) (hL : LS9 (mNm μ).cls idx ν as.length) (hcal : Cal sc ν mc1 ms1 as S Q1) (hst : st = as.reverse ++ rest) (hrm : rmB μ ν rest = true) (hmc : k + mc1 ≤ mc) (hms : n + ms1 ≤ ms) (hh : mHh μ = [])
    (kx : ∀ ec S', Q1 (.inr ec) S' → Q (.inr ec) S') (kk : ∀ r S', Q1 (.inl r) S' → Wp sc μ mc ms (k + mc1) (n + ms1) (pc + 3) lv (r.toList ++ rest) S' Q) : Wp sc μ mc ms k n pc lv st S Q := by
  intro l κ p e s m args below meth c H locs ls hfl hC hS hR hlv
  obtain ⟨w1, w2, hd, hg, hhν⟩ := hL
  obtain ⟨m1, m2, m3⟩ := rmB_sp hrm
  have hcb := callB_of (R := rmO μ mc ms) (rm := rmO ν mc1 ms1) as.length hC.2.1 (gin_O hg.2.1) (wsO_eq hhν) rfl rfl (hC.wd hg.2.2.2.2) (hC.wd w1) ⟨hg.2.2.2.1.1, hg.2.2.2.1.2, hd⟩ ⟨m1, m2⟩
  subst hst
  have hrun := vx_runS (e := e) (meth := meth) (below := below) (rest := cvs κ rest) (g := F0 m pc ls (cvs κ (as.reverse ++ rest))) (locs := locs) (cells := k) (slots := n) (H := H) (As := cvs κ as) ⟨hC.1.1, hC.1.2.1, hC.1.2.2.2.1, hC.own, hC.2.1⟩ (hcal l κ hfl) ⟨hcb, hC.wd w2⟩ ⟨Pc0_blind κ sc _ S, pre_at hC.gd hS hR⟩ rfl (by simp [cvs]) hlv.1 (by show cvs κ (as.reverse ++ rest) = _; rw [cvs_app, cvs_rev]) (rm8 m3) (hC.dk h) ⟨hmc, hms⟩
  refine run_go (sc := sc) (S := S) hrun hS (fun ec ce q9 S' H1 locs1 hq h3 hR1 hS1 hce hv hcl => ?_) (fun r S' H1 locs1 hq hR1 hS1 => ?_)
  · refine vx_out (by rw [hC.2.2.2.1, hh]; intro x hx; cases hx) hC.2.2.1 hce hv hcl (fun t ht hal => ⟨⟨ec, S', rfl, h3, kx ec S' hq, by rw [ht]; exact hR1⟩, hS1.F ht⟩) hS1.2.2 hmc hms
  · have h9 := kk r S' hq l κ p e s m args below meth c H1 locs1 ls hfl hC hS1 hR1 hlv
    rw [cvs_app] at h9
    cases r <;> exact h9
theorem Cal.met {sc : SC} {ν : MI} {mc ms : Nat} {as : List Value} {S : AS} {Q : Out → AS → Prop} (h : Cal sc ν mc ms as S Q) (hno : ∀ ec S', ¬ Q (.inr ec) S') (l : Launch) (κ : KX) (hfl : l.stackTraces = false) : Met l (mNm ν) (wsO ν) (rmO ν mc ms) (Pc0 κ sc as S) (QO κ Q) mc ms (kF κ) := by
  intro p e ha hc hk s m args below hf happ hP hK
  obtain ⟨n, o, h1, h2, h3, h4⟩ := h l κ hfl p e ha hc hk s m args below hf happ hP hK
  refine ⟨n, o, h1, h2, h3, ?_⟩
  rcases h4 with h4 | ⟨q, e1, E, ce, L, ⟨⟨ec, S', f1, f2, f3, f4⟩, hF⟩, hr⟩
  · exact h4
  · exact (hno ec S' f3).elim
theorem run_goM {sc : SC} {μ : MI} {mc ms k n mc1 ms1 pc : Nat} {st0 rest : List Value} {S : AS} {Q1 : Out → AS → Prop} {l : Launch} {κ : KX} {p : Program} {e : Env} {s : State} {m : MethodId} {args a : Array Value} {below : List Frame} {meth : Method} {c : Code} {H : Heap} {locs : List Loc} {ls : Array Slot} {G : State → Prop}
    (hr : va_Run p l e (rmO μ mc ms) s m args below meth c H locs k n mc1 ms1 (F0 m pc ls st0) rest (QO κ Q1 a) (kF κ)) (hS : va_S (kF κ) s.heap H locs)
    (kk : ∀ (r : Option Value) (S' : AS) (H1 : Heap) (locs1 : List Loc), Q1 (.inl r) S' → Rep κ S' H1 → va_S (kF κ) s.heap H1 locs1 → W p l e (rmO μ mc ms) s m args below meth c H1 locs1 (k + mc1) (n + ms1) G (F0 m (pc + 3) ls ((r.map (cv κ)).toList ++ rest))) : W p l e (rmO μ mc ms) s m args below meth c H locs k n G (F0 m pc ls st0) := by
  intro T hT X
  obtain ⟨v, st₀, t, T', L, h0, X', hL, e1, e2, ⟨⟨r, S', hv, hq, hR'⟩, hF⟩, st⟩ := hr T hT X
  cases hv
  obtain ⟨k1, k2, k3⟩ := vx_keep h0 e1 hS (fun _ _ h => h) (fun _ h => h) hL hF
  obtain ⟨t2, a1, b1⟩ := kk r S' T'.heap (locs ++ L) hq (by rw [e1]; exact hR') k3 T' rfl X'
  exact ⟨t2, st t2 a1, b1⟩
theorem r_staN {sc : SC} {μ ν : MI} {mc ms k n mc1 ms1 pc : Nat} {lv : List (Nat × Value)} {st : List Value} {S : AS} {Q Q1 : Out → AS → Prop} {idx : Nat} (as rest : List Value) (h : cf (mCd μ) pc = some (.invokestatic idx, 3)) (hL : LSN (mNm μ).cls idx ν as.length) (hcal : Cal sc ν mc1 ms1 as S Q1) (hno : ∀ ec S', ¬ Q1 (.inr ec) S') (hst : st = as.reverse ++ rest) (hrm : rmB μ ν rest = true) (hmc : k + mc1 ≤ mc) (hms : n + ms1 ≤ ms)
    (kk : ∀ r S', Q1 (.inl r) S' → Wp sc μ mc ms (k + mc1) (n + ms1) (pc + 3) lv (r.toList ++ rest) S' Q) : Wp sc μ mc ms k n pc lv st S Q := by
  intro l κ p e s m args below meth c H locs ls hfl hC hS hR hlv
  obtain ⟨⟨host, w1⟩, w2, hd, hg, hhν⟩ := hL
  obtain ⟨m1, m2, m3⟩ := rmB_sp hrm
  have hcb := va_cnB (R := rmO μ mc ms) (rm := rmO ν mc1 ms1) as.length hC.2.1 (gin_O hg.2.1) (wsO_eq hhν) rfl rfl (hC.gd.2.2.2.2.1.1 _ w1) (hC.wd hg.2.2.2.2) ⟨hg.2.2.2.1.1, hg.2.2.2.1.2, hd⟩ ⟨m1, m2⟩
  subst hst
  have hrun := va_runSN (e := e) (meth := meth) (below := below) (rest := cvs κ rest) (g := F0 m pc ls (cvs κ (as.reverse ++ rest))) (locs := locs) (cells := k) (slots := n) (H := H) (As := cvs κ as) ⟨hC.1.1, hC.1.2.1, hC.1.2.2.2.1, hC.own, hC.2.1⟩ (hcal.met hno l κ hfl) ⟨hcb, hC.wd w2, trivial⟩ ⟨Pc0_blind κ sc _ S, pre_at hC.gd hS hR⟩ rfl (by simp [cvs]) hlv.1 (by show cvs κ (as.reverse ++ rest) = _; rw [cvs_app, cvs_rev]) (rm8 m3) (hC.dk h) ⟨hmc, hms⟩
  refine run_goM (sc := sc) (S := S) hrun hS (fun r S' H1 locs1 hq hR1 hS1 => ?_)
  have h9 := kk r S' hq l κ p e s m args below meth c H1 locs1 ls hfl hC hS1 hR1 hlv
  rw [cvs_app] at h9
  cases r <;> exact h9
theorem r_ini {sc : SC} {μ ν : MI} {mc ms k n mc1 ms1 pc : Nat} {lv : List (Nat × Value)} {st : List Value} {S : AS} {Q Q1 : Out → AS → Prop} {idx o : Nat} (as rest : List Value) (h : cf (mCd μ) pc = some (.invokespecial idx, 3)) (hL : LI (mNm μ).cls idx ν as.length) (hcal : Cal sc ν mc1 ms1 (.ref o :: as) S Q1) (hno : ∀ ec S', ¬ Q1 (.inr ec) S') (hst : st = as.reverse ++ .ref o :: rest) (hrm : rmB μ ν rest = true) (hmc : k + mc1 ≤ mc) (hms : n + ms1 ≤ ms)
    (kk : ∀ r S', Q1 (.inl r) S' → Wp sc μ mc ms (k + mc1) (n + ms1) (pc + 3) lv (r.toList ++ rest) S' Q) : Wp sc μ mc ms k n pc lv st S Q := by
  intro l κ p e s m args below meth c H locs ls hfl hC hS hR hlv
  obtain ⟨w1, w2, hnm, hd, hg, hhν, hrt⟩ := hL
  obtain ⟨m1, m2, m3⟩ := rmB_sp hrm
  have hwn : wsO ν = Cond.code (mNm ν) (mBs ν) (mMl ν) none :: lw_gd := by rw [wsO_eq hhν, hrt]
  have hcw := cwI (R := rmO μ mc ms) (rm := rmO ν mc1 ms1) as.length hC.2.1 (gin_O hg.2.1) hwn rfl rfl (hC.wd hg.2.2.2.2) (hC.wd w1) (hC.wd w2) hnm ⟨hg.2.2.2.1.1, hg.2.2.2.1.2, hd⟩ ⟨m1, m2⟩
  subst hst
  have hrun := va_runI (e := e) (meth := meth) (below := below) (rest := cvs κ rest) (g := F0 m pc ls (cvs κ (as.reverse ++ .ref o :: rest))) (locs := locs) (cells := k) (slots := n) (H := H) (As := cvs κ as) (b := kB κ + o) ⟨hC.1.1, hC.1.2.1, hC.1.2.2.2.1, hC.own, hC.2.1⟩ (hcal.met hno l κ hfl) hcw ⟨Pc0_blind κ sc _ S, pre_at (as := .ref o :: as) hC.gd hS hR⟩ rfl (by simp [cvs]) hlv.1 (by show cvs κ (as.reverse ++ .ref o :: rest) = _; rw [cvs_app, cvs_rev]; rfl) (rm8 m3) (hC.dk h) ⟨hmc, hms⟩
  refine run_goM (sc := sc) (S := S) hrun hS (fun r S' H1 locs1 hq hR1 hS1 => ?_)
  have h9 := kk r S' hq l κ p e s m args below meth c H1 locs1 ls hfl hC hS1 hR1 hlv
  rw [cvs_app] at h9
  cases r <;> exact h9
theorem r_iniN {sc : SC} {μ ν : MI} {mc ms k n mc1 ms1 pc : Nat} {lv : List (Nat × Value)} {st : List Value} {S : AS} {Q Q1 : Out → AS → Prop} {idx o : Nat} (as rest : List Value) (h : cf (mCd μ) pc = some (.invokespecial idx, 3)) (hL : LIN (mNm μ).cls idx ν as.length) (hcal : Cal sc ν mc1 ms1 (.ref o :: as) S Q1) (hno : ∀ ec S', ¬ Q1 (.inr ec) S') (hst : st = as.reverse ++ .ref o :: rest) (hrm : rmB μ ν rest = true) (hmc : k + mc1 ≤ mc) (hms : n + ms1 ≤ ms)
    (kk : ∀ r S', Q1 (.inl r) S' → Wp sc μ mc ms (k + mc1) (n + ms1) (pc + 3) lv (r.toList ++ rest) S' Q) : Wp sc μ mc ms k n pc lv st S Q := by
  intro l κ p e s m args below meth c H locs ls hfl hC hS hR hlv
  obtain ⟨⟨host, w1⟩, w2, hnm, hd, hg, hhν, hrt⟩ := hL
  obtain ⟨m1, m2, m3⟩ := rmB_sp hrm
  have hwn : wsO ν = Cond.code (mNm ν) (mBs ν) (mMl ν) none :: lw_gd := by rw [wsO_eq hhν, hrt]
  have hcb := va_cnB (R := rmO μ mc ms) (rm := rmO ν mc1 ms1) as.length hC.2.1 (gin_O hg.2.1) hwn rfl rfl (hC.gd.2.2.2.2.1.1 _ w1) (hC.wd hg.2.2.2.2) ⟨hg.2.2.2.1.1, hg.2.2.2.1.2, hd⟩ ⟨m1, m2⟩
  subst hst
  have hrun := va_runIN (e := e) (meth := meth) (below := below) (rest := cvs κ rest) (g := F0 m pc ls (cvs κ (as.reverse ++ .ref o :: rest))) (locs := locs) (cells := k) (slots := n) (H := H) (As := cvs κ as) (b := kB κ + o) ⟨hC.1.1, hC.1.2.1, hC.1.2.2.2.1, hC.own, hC.2.1⟩ (hcal.met hno l κ hfl) ⟨hcb, hnm, hC.wd w2⟩ ⟨Pc0_blind κ sc _ S, pre_at (as := .ref o :: as) hC.gd hS hR⟩ rfl (by simp [cvs]) hlv.1 (by show cvs κ (as.reverse ++ .ref o :: rest) = _; rw [cvs_app, cvs_rev]; rfl) (rm8 m3) (hC.dk h) ⟨hmc, hms⟩
  refine run_goM (sc := sc) (S := S) hrun hS (fun r S' H1 locs1 hq hR1 hS1 => ?_)
  have h9 := kk r S' hq l κ p e s m args below meth c H1 locs1 ls hfl hC hS1 hR1 hlv
  rw [cvs_app] at h9
  cases r <;> exact h9
/-- Object's constructor -/
theorem r_obj {sc : SC} {μ : MI} {mc ms k n pc : Nat} {lv : List (Nat × Value)} {st : List Value} {S : AS} {Q : Out → AS → Prop} {idx o : Nat} (h : cf (mCd μ) pc = some (.invokespecial idx, 3)) (hw : Cond.methodLink (mNm μ).cls idx objectInit ∈ lw_gd) (hw2 : Cond.instanceMethod objectInit ∈ lw_gd) (hw3 : Cond.code objectInit ⟨#[0xb1]⟩ 1 none ∈ lw_gd) (hfr : Nat.ble 1 (mFr μ) = true) (hlo : Nat.ble ((st.map fun v => v.category).sum + 12) (mLo μ) = true) (kk : Wp sc μ mc ms k n (pc + 3) lv st S Q) : Wp sc μ mc ms k n pc lv (.ref o :: st) S Q := by
  intro l κ p e s m args below meth c H locs ls hfl hC hS hR hlv
  refine W.objInit (a := kB κ + o) (rest := cvs κ st) hC.1.1 hC.1.2.1 hC.own (hC.wd hw) (hC.wd hw2) (hC.wd hw3) rfl (by rw [hC.1.2.2.2.1]; exact hlv.1) rfl (hC.dk h) (Nat.le_of_ble_eq_true hfr) ?_ (kk l κ p e s m args below meth c H locs ls hfl hC hS hR hlv)
  rw [cvs_sum]
  have := Nat.le_of_ble_eq_true hlo
  show 2 * 0 + _ + 12 ≤ mLo μ
  omega
theorem r_ret {sc : SC} {μ : MI} {mc ms k n pc : Nat} {lv : List (Nat × Value)} {S : AS} {Q : Out → AS → Prop} {x : Int32} {t : FieldType} (h : cf (mCd μ) pc = some (.ireturn, 1)) (hrt : mRt μ = some t) (hn : narrow t (.int x) = .int x) (hk : k ≤ mc) (hs : n ≤ ms) (hq : Q (.inl (some (.int x))) S) : Wp sc μ mc ms k n pc lv [.int x] S Q := by
  intro l κ p e s m args below meth c H locs ls hfl hC hS hR hlv
  refine W.widen hk hs (vx_ret ?_)
  exact W.zret (ty := t) hC.1.1 hC.1.2.1 (hC.1.2.2.1.trans hrt) hn (fun t ht hW => ⟨⟨some (.int x), S, rfl, hq, by rw [ht]; exact hR⟩, hS.F ht⟩) hS.2.2 (hC.dk h) hC.2.2.1
theorem r_lret {sc : SC} {μ : MI} {mc ms k n pc : Nat} {lv : List (Nat × Value)} {S : AS} {Q : Out → AS → Prop} {x : Int64} (h : cf (mCd μ) pc = some (.lreturn, 1)) (hrt : mRt μ = some .long) (hk : k ≤ mc) (hs : n ≤ ms) (hq : Q (.inl (some (.long x))) S) : Wp sc μ mc ms k n pc lv [.long x] S Q := by
  intro l κ p e s m args below meth c H locs ls hfl hC hS hR hlv
  refine W.widen hk hs (vx_ret ?_)
  exact W.lret hC.1.1 hC.1.2.1 (hC.1.2.2.1.trans hrt) (fun t ht hW => ⟨⟨some (.long x), S, rfl, hq, by rw [ht]; exact hR⟩, hS.F ht⟩) hS.2.2 (hC.dk h) hC.2.2.1
theorem r_vret {sc : SC} {μ : MI} {mc ms k n pc : Nat} {lv : List (Nat × Value)} {S : AS} {Q : Out → AS → Prop} (h : cf (mCd μ) pc = some (.return_, 1)) (hrt : mRt μ = none) (hk : k ≤ mc) (hs : n ≤ ms) (hq : Q (.inl none) S) : Wp sc μ mc ms k n pc lv [] S Q := by
  intro l κ p e s m args below meth c H locs ls hfl hC hS hR hlv
  refine W.widen hk hs (vx_ret ?_)
  exact W.vret hC.1.1 hC.1.2.1 (hC.1.2.2.1.trans hrt) (fun t ht hW => ⟨⟨none, S, rfl, hq, by rw [ht]; exact hR⟩, hS.F ht⟩) hS.2.2 (hC.dk h) hC.2.2.1
theorem r_mmin {sc : SC} {μ : MI} {mc ms k n pc : Nat} {lv : List (Nat × Value)} {st : List Value} {S : AS} {Q : Out → AS → Prop} {x y : Int32} {idx : Nat} (h : cf (mCd μ) pc = some (.invokestatic idx, 3)) (hw : Cond.methodLink (mNm μ).cls idx Lib.Math.min.name ∈ lw_gd) (hw2 : Cond.static Lib.Math.min.name ∈ lw_gd) (hw3 : Cond.initialized "java/lang/Math" ∈ lw_gd) (hw4 : Cond.code Lib.Math.min.name Lib.Math.min.code 2 (some .int) ∈ lw_gd) (hfr : Nat.ble 1 (mFr μ) = true) (hlo : Nat.ble ((st.map fun v => v.category).sum + 13) (mLo μ) = true) (hk : k ≤ mc) (hs : n ≤ ms) (kk : Wp sc μ mc ms k n (pc + 3) lv (.int (if y < x then y else x) :: st) S Q) : Wp sc μ mc ms k n pc lv (.int y :: .int x :: st) S Q := by
  intro l κ p e s m args below meth c H locs ls hfl hC hS hR hlv
  refine va_mmin hC.1.1 hC.1.2.1 (by rw [hC.1.2.2.2.1]; exact hlv.1.symm) hC.own (hC.wd hw) (hC.wd hw2) (hC.wd hw3) (hC.wd hw4) (Nat.le_of_ble_eq_true hfr) ?_ hk hs (hC.dk h) (kk l κ p e s m args below meth c H locs ls hfl hC hS hR hlv)
  show ((cvs κ st).map fun v => v.category).sum + 13 ≤ mLo μ
  rw [cvs_sum]
  exact Nat.le_of_ble_eq_true hlo
theorem r_mmax {sc : SC} {μ : MI} {mc ms k n pc : Nat} {lv : List (Nat × Value)} {st : List Value} {S : AS} {Q : Out → AS → Prop} {x y : Int32} {idx : Nat} (h : cf (mCd μ) pc = some (.invokestatic idx, 3)) (hw : Cond.methodLink (mNm μ).cls idx Lib.Math.max.name ∈ lw_gd) (hw2 : Cond.static Lib.Math.max.name ∈ lw_gd) (hw3 : Cond.initialized "java/lang/Math" ∈ lw_gd) (hw4 : Cond.code Lib.Math.max.name Lib.Math.max.code 2 (some .int) ∈ lw_gd) (hfr : Nat.ble 1 (mFr μ) = true) (hlo : Nat.ble ((st.map fun v => v.category).sum + 13) (mLo μ) = true) (hk : k ≤ mc) (hs : n ≤ ms) (kk : Wp sc μ mc ms k n (pc + 3) lv (.int (if x < y then y else x) :: st) S Q) : Wp sc μ mc ms k n pc lv (.int y :: .int x :: st) S Q := by
  intro l κ p e s m args below meth c H locs ls hfl hC hS hR hlv
  refine va_mmax hC.1.1 hC.1.2.1 (by rw [hC.1.2.2.2.1]; exact hlv.1.symm) hC.own (hC.wd hw) (hC.wd hw2) (hC.wd hw3) (hC.wd hw4) (Nat.le_of_ble_eq_true hfr) ?_ hk hs (hC.dk h) (kk l κ p e s m args below meth c H locs ls hfl hC hS hR hlv)
  show ((cvs κ st).map fun v => v.category).sum + 13 ≤ mLo μ
  rw [cvs_sum]
  exact Nat.le_of_ble_eq_true hlo
theorem str_lt {i : Nat} {x : String × Nat × String × List Int32} (h : strJ[i]? = some x) : i < 38 := (List.getElem?_eq_some_iff.mp h).1
theorem r_ldcS {sc : SC} {μ : MI} {mc ms k n pc : Nat} {lv : List (Nat × Value)} {st : List Value} {S : AS} {Q : Out → AS → Prop} {idx i : Nat} {tx : String} {bs : List Int32} (h : cf (mCd μ) pc = some (.ldc idx, 2)) (hs : strJ[i]? = some ((mNm μ).cls, idx, tx, bs)) (kk : Wp sc μ mc ms k n (pc + 2) lv (.retAddr i :: st) S Q) : Wp sc μ mc ms k n pc lv st S Q := by
  intro l κ p e s m args below meth c H locs ls hfl hC hS hR hlv
  have hi := str_lt hs
  refine va_ldcS (q := kSK κ i) hC.1.1 hC.1.2.1 hC.own (hC.gd.2.1 i _ hs).2 (hC.dk h) ?_
  rw [← cv_str κ (Nat.lt_trans hi (by decide))]
  exact kk l κ p e s m args below meth c H locs ls hfl hC hS hR hlv
theorem r_getsC {sc : SC} {μ : MI} {mc ms k n pc : Nat} {lv : List (Nat × Value)} {st : List Value} {S : AS} {Q : Out → AS → Prop} {idx : Nat} (h : cf (mCd μ) pc = some (.getstatic idx, 3)) (hw : Cond.fieldLink (mNm μ).cls idx "java/lang/String" "COMPACT_STRINGS" "Z" ∈ lw_gd) (kk : Wp sc μ mc ms k n (pc + 3) lv (.int 1 :: st) S Q) : Wp sc μ mc ms k n pc lv st S Q := by
  intro l κ p e s m args below meth c H locs ls hfl hC hS hR hlv
  exact va_gets (A := kF κ) hC.1.1 hC.1.2.1 hC.gd.2.2.2.1.1 hS hC.own (hC.wd hw) (fun _ q => q) (hC.dk h) (kk l κ p e s m args below meth c H locs ls hfl hC hS hR hlv)
theorem r_getsF {sc : SC} {μ : MI} {mc ms k n pc : Nat} {lv : List (Nat × Value)} {st : List Value} {S : AS} {Q : Out → AS → Prop} {idx : Nat} (h : cf (mCd μ) pc = some (.getstatic idx, 3)) (hw : Cond.fieldLink (mNm μ).cls idx "jdk/internal/util/Preconditions" "SIOOBE_FORMATTER" "Ljava/util/function/BiFunction;" ∈ lw_gd) (kk : Wp sc μ mc ms k n (pc + 3) lv (.retAddr 99 :: st) S Q) : Wp sc μ mc ms k n pc lv st S Q := by
  intro l κ p e s m args below meth c H locs ls hfl hC hS hR hlv
  exact va_gets (A := kF κ) hC.1.1 hC.1.2.1 hC.gd.2.2.2.1.2 hS hC.own (hC.wd hw) (fun _ q => q) (hC.dk h) (kk l κ p e s m args below meth c H locs ls hfl hC hS hR hlv)
theorem r_getC {sc : SC} {μ : MI} {mc ms k n pc : Nat} {lv : List (Nat × Value)} {st : List Value} {S : AS} {Q : Out → AS → Prop} {idx i : Nat} {x : String × Nat × String × List Int32} (h : cf (mCd μ) pc = some (.getfield idx, 3)) (hs : strJ[i]? = some x) (hw : Cond.fieldLink (mNm μ).cls idx "java/lang/String" "coder" "B" ∈ lw_gd) (kk : Wp sc μ mc ms k n (pc + 3) lv (.int 0 :: st) S Q) : Wp sc μ mc ms k n pc lv (.retAddr i :: st) S Q := by
  intro l κ p e s m args below meth c H locs ls hfl hC hS hR hlv
  have hi := str_lt hs
  show W p l e (rmO μ mc ms) s m args below meth c H locs k n _ (F0 m pc ls (cv κ (.retAddr i) :: cvs κ st))
  rw [cv_str κ (Nat.lt_trans hi (by decide))]
  exact vk_getf (A := kF κ) hC.1.1 hC.1.2.1 (hC.gd.2.1 i _ hs).1.2.1 hS hC.own (hC.wd hw) (fun _ q => q) (hC.dk h) (kk l κ p e s m args below meth c H locs ls hfl hC hS hR hlv)
theorem r_getV {sc : SC} {μ : MI} {mc ms k n pc : Nat} {lv : List (Nat × Value)} {st : List Value} {S : AS} {Q : Out → AS → Prop} {idx i : Nat} {x : String × Nat × String × List Int32} (h : cf (mCd μ) pc = some (.getfield idx, 3)) (hs : strJ[i]? = some x) (hw : Cond.fieldLink (mNm μ).cls idx "java/lang/String" "value" "[B" ∈ lw_gd) (kk : Wp sc μ mc ms k n (pc + 3) lv (.retAddr (50 + i) :: st) S Q) : Wp sc μ mc ms k n pc lv (.retAddr i :: st) S Q := by
  intro l κ p e s m args below meth c H locs ls hfl hC hS hR hlv
  have hi := str_lt hs
  have h9 := kk l κ p e s m args below meth c H locs ls hfl hC hS hR hlv
  show W p l e (rmO μ mc ms) s m args below meth c H locs k n _ (F0 m pc ls (cv κ (.retAddr i) :: cvs κ st))
  rw [cv_str κ (Nat.lt_trans hi (by decide))]
  refine vk_getf (A := kF κ) hC.1.1 hC.1.2.1 (hC.gd.2.1 i _ hs).1.2.2.1 hS hC.own (hC.wd hw) (fun _ q => q) (hC.dk h) ?_
  rw [← cv_stv κ (Nat.lt_trans hi (by decide))]
  exact h9
theorem r_alenK {sc : SC} {μ : MI} {mc ms k n pc : Nat} {lv : List (Nat × Value)} {st : List Value} {S : AS} {Q : Out → AS → Prop} {i : Nat} {x : String × Nat × String × List Int32} (h : cf (mCd μ) pc = some (.arraylength, 1)) (hs : strJ[i]? = some x) (kk : Wp sc μ mc ms k n (pc + 1) lv (.int (nI x.2.2.2.length) :: st) S Q) : Wp sc μ mc ms k n pc lv (.retAddr (50 + i) :: st) S Q := by
  intro l κ p e s m args below meth c H locs ls hfl hC hS hR hlv
  have hi := str_lt hs
  show W p l e (rmO μ mc ms) s m args below meth c H locs k n _ (F0 m pc ls (cv κ (.retAddr (50 + i)) :: cvs κ st))
  rw [cv_stv κ (Nat.lt_trans hi (by decide))]
  exact va_tlen (A := kF κ) hC.1.1 hC.1.2.1 (hC.gd.2.1 i _ hs).1.2.2.2 hS rfl (hC.dk h) (kk l κ p e s m args below meth c H locs ls hfl hC hS hR hlv)
theorem r_baldK {sc : SC} {μ : MI} {mc ms k n pc : Nat} {lv : List (Nat × Value)} {st : List Value} {S : AS} {Q : Out → AS → Prop} {i j : Nat} {x : String × Nat × String × List Int32} (h : cf (mCd μ) pc = some (.baload, 1)) (hs : strJ[i]? = some x) (hj : j < x.2.2.2.length) (hn : x.2.2.2.length < 2147483648) (kk : Wp sc μ mc ms k n (pc + 1) lv (.int (x.2.2.2.getD j 0) :: st) S Q) : Wp sc μ mc ms k n pc lv (.int (nI j) :: .retAddr (50 + i) :: st) S Q := by
  intro l κ p e s m args below meth c H locs ls hfl hC hS hR hlv
  have hi := str_lt hs
  show W p l e (rmO μ mc ms) s m args below meth c H locs k n _ (F0 m pc ls (.int (nI j) :: cv κ (.retAddr (50 + i)) :: cvs κ st))
  rw [cv_stv κ (Nat.lt_trans hi (by decide))]
  exact va_tb (A := kF κ) hC.1.1 hC.1.2.1 (hC.gd.2.1 i _ hs).1.2.2.2 hS (vin hj hn) (by rw [nI_clamp (Nat.lt_trans hj hn)]; rfl) (hC.dk h) (kk l κ p e s m args below meth c H locs ls hfl hC hS hR hlv)
theorem r_virK {sc : SC} {μ ν : MI} {mc ms k n mc1 ms1 pc : Nat} {lv : List (Nat × Value)} {st : List Value} {S : AS} {Q Q1 : Out → AS → Prop} {idx i : Nat} {x : String × Nat × String × List Int32} (as rest : List Value) (h : cf (mCd μ) pc = some (.invokevirtual idx, 3)) (hL : LV (mNm μ).cls idx ν as.length) (hs : strJ[i]? = some x) (hc : "java/lang/String" = (mNm ν).cls) (hcal : Cal sc ν mc1 ms1 (.retAddr i :: as) S Q1) (hno : ∀ ec S', ¬ Q1 (.inr ec) S') (hst : st = as.reverse ++ .retAddr i :: rest) (hrm : rmB μ ν rest = true) (hmc : k + mc1 ≤ mc) (hms : n + ms1 ≤ ms)
    (kk : ∀ r S', Q1 (.inl r) S' → Wp sc μ mc ms (k + mc1) (n + ms1) (pc + 3) lv (r.toList ++ rest) S' Q) : Wp sc μ mc ms k n pc lv st S Q := by
  intro l κ p e s m args below meth c H locs ls hfl hC hS hR hlv
  obtain ⟨w1, w2, w3, hd, hg, hhν⟩ := hL
  obtain ⟨m1, m2, m3⟩ := rmB_sp hrm
  have hi := str_lt hs
  have hcvi := cv_str κ (Nat.lt_trans hi (by decide : 38 < 50))
  have hgi : GoodIn (wsO μ) (wsV (mNm μ).cls idx (mNm ν).cls (mNm ν) (wsO ν)) := by
    unfold wsV
    refine gin_app ?_ (gin_O hg.2.1)
    intro w hw
    simp only [List.mem_cons, List.not_mem_nil, or_false] at hw
    rcases hw with rfl | rfl | rfl | rfl
    · exact w1
    · exact w2
    · exact w3
    · exact hg.2.2.2.2
  subst hst
  obtain ⟨cellB, b1, b2, b3, -⟩ := (hC.gd.2.1 i _ hs).1.1.kept hS.2.1
  rw [hc] at b3
  have hpre := pre_at (as := .retAddr i :: as) hC.gd hS hR
  have hstk : cvs κ (as.reverse ++ .retAddr i :: rest) = (cvs κ as).reverse ++ .ref (kSK κ i) :: cvs κ rest := by
    rw [cvs_app, cvs_rev]
    show _ ++ cv κ (.retAddr i) :: cvs κ rest = _
    rw [hcvi]
  have hpre' : ∀ U : State, U.heap = H → s.WarmedH U.vm → Pc0 κ sc (.retAddr i :: as) S (Value.ref (kSK κ i) :: cvs κ as).toArray U := by
    intro U hU hW
    rw [← hcvi]
    exact hpre U hU hW
  have hrun := va_runV (R := rmO μ mc ms) (e := e) (meth := meth) (below := below) (rest := cvs κ rest) (g := F0 m pc ls (cvs κ (as.reverse ++ .retAddr i :: rest))) (locs := locs) (cells := k) (slots := n) (H := H) (As := cvs κ as) (b := kSK κ i) ⟨hC.1.1, hC.1.2.1, hC.1.2.2.2.1, hC.own, hC.2.1⟩ (hcal.met hno l κ hfl) (cwV (R := rmO μ mc ms) (rm := rmO ν mc1 ms1) as.length hC.2.1 hgi (wsO_eq hhν) rfl rfl ⟨rfl, hg.2.2.2.1.1, hg.2.2.2.1.2, hd⟩ ⟨m1, m2⟩) ⟨Pc0_blind κ sc _ S, ⟨cellB, b1, b2, b3⟩, hpre'⟩ rfl (by simp [cvs]) hlv.1 hstk (rm8 m3) (hC.dk h) ⟨hmc, hms⟩
  refine run_goM (sc := sc) (S := S) hrun hS (fun r S' H1 locs1 hq hR1 hS1 => ?_)
  have h9 := kk r S' hq l κ p e s m args below meth c H1 locs1 ls hfl hC hS1 hR1 hlv
  rw [cvs_app] at h9
  cases r <;> exact h9
/-- a call of a static method with handlers -/
theorem r_staW {sc : SC} {μ ν : MI} {mc ms k n mc1 ms1 pc : Nat} {lv : List (Nat × Value)} {st : List Value} {S : AS} {Q Q1 : Out → AS → Prop} {idx : Nat} (as rest : List Value) (h : cf (mCd μ) pc = some (.invokestatic idx, 3)) (hL : LSW (mNm μ).cls idx ν as.length) (hcal : Cal sc ν mc1 ms1 as S Q1) (hno : ∀ ec S', ¬ Q1 (.inr ec) S') (hst : st = as.reverse ++ rest) (hrm : rmB μ ν rest = true) (hmc : k + mc1 ≤ mc) (hms : n + ms1 ≤ ms)
    (kk : ∀ r S', Q1 (.inl r) S' → Wp sc μ mc ms (k + mc1) (n + ms1) (pc + 3) lv (r.toList ++ rest) S' Q) : Wp sc μ mc ms k n pc lv st S Q := by
  intro l κ p e s m args below meth c H locs ls hfl hC hS hR hlv
  obtain ⟨w1, w2, hd, hg, x, t, hhν⟩ := hL
  obtain ⟨m1, m2, m3⟩ := rmB_sp hrm
  have hgi : GoodIn (wsO μ) (va_wsS (mNm μ).cls idx (mNm ν) (wsO ν)) := by
    unfold va_wsS
    refine gin_app ?_ (gin_O hg.2.1)
    intro w hw
    simp only [List.mem_cons, List.not_mem_nil, or_false] at hw
    rcases hw with rfl | rfl | rfl
    · exact w1
    · exact w2
    · exact hg.2.2.2.2
  subst hst
  have hrun := vx_runSW (R := rmO μ mc ms) (e := e) (meth := meth) (below := below) (rest := cvs κ rest) (g := F0 m pc ls (cvs κ (as.reverse ++ rest))) (locs := locs) (cells := k) (slots := n) (H := H) (As := cvs κ as) ⟨hC.1.1, hC.1.2.1, hC.1.2.2.2.1, hC.own, hC.2.1⟩ (hcal.met hno l κ hfl) (vx_cwSW (R := rmO μ mc ms) (rm := rmO ν mc1 ms1) as.length hC.2.1 hgi (wsO_eqW hhν) rfl rfl ⟨hg.2.2.2.1.1, hg.2.2.2.1.2, hd⟩ ⟨m1, m2⟩) ⟨Pc0_blind κ sc _ S, pre_at hC.gd hS hR⟩ rfl (by simp [cvs]) hlv.1 (by show cvs κ (as.reverse ++ rest) = _; rw [cvs_app, cvs_rev]) (rm8 m3) (hC.dk h) ⟨hmc, hms⟩
  refine run_goM (sc := sc) (S := S) hrun hS (fun r S' H1 locs1 hq hR1 hS1 => ?_)
  have h9 := kk r S' hq l κ p e s m args below meth c H1 locs1 ls hfl hC hS1 hR1 hlv
  rw [cvs_app] at h9
  cases r <;> exact h9
