/-- a class of the tables -/
def CI (ci : Nat) (C : String) (T : u_T) (N : Nat) (ty : Nat → FieldType) : Prop := vwCl[ci]? = some (C, T, N) ∧ (∀ w ∈ u_ws C T N, w ∈ lw_gd) ∧ (∀ k, k < N → parseFieldDescriptor (T k).2.2.1 = some (ty k)) ∧ (∀ a, a < N → ∀ b, b < N → a ≠ b → (T a).2.1 ≠ (T b).2.1)
/-- a field's entry of the pool: class's number, field's number, final or not, type -/
def FL (own : String) (idx ci kf : Nat) (fin : Bool) (t : FieldType) : Prop := ∃ (C : String) (T : u_T) (N : Nat) (ty : Nat → FieldType), CI ci C T N ty ∧ kf < N ∧ Cond.fieldLink own idx (T kf).1 (T kf).2.1 (T kf).2.2.1 ∈ lw_gd ∧ (T kf).2.2.2 = fin ∧ ty kf = t
theorem FL.of {own : String} {idx ci kf : Nat} {fin : Bool} {t : FieldType} {C : String} {T : u_T} {N : Nat} {ty : Nat → FieldType} (h1 : CI ci C T N ty) (h2 : kf < N) (h3 : Cond.fieldLink own idx (T kf).1 (T kf).2.1 (T kf).2.2.1 ∈ lw_gd) (h4 : (T kf).2.2.2 = fin) (h5 : ty kf = t) : FL own idx ci kf fin t := ⟨C, T, N, ty, h1, h2, h3, h4, h5⟩
theorem nfs_of {ci : Nat} {C : String} {T : u_T} {N : Nat} (h : vwCl[ci]? = some (C, T, N)) : nfs ci = N := by
  unfold nfs
  rw [h]
theorem vw_lt {ci : Nat} {r : vw_C} (h : vwCl[ci]? = some r) : ci < 50 := Nat.lt_of_lt_of_le (List.getElem?_eq_some_iff.mp h).1 (by decide)
theorem jk_obj {ci : Nat} (V : Nat → Value) (h : ci < 50) : jk (.inr (.inr (ci, V))) = false := by
  show (Nat.ble 50 ci && Nat.ble ci 99) = false
  rw [show Nat.ble 50 ci = false from Bool.eq_false_iff.mpr fun q => absurd (Nat.le_of_ble_eq_true q) (by omega)]
  rfl
theorem conv_obj (κ : KX) {ci : Nat} (V : Nat → Value) (h : ci < 50) : conv κ (.inr (.inr (ci, V))) = .inr (ci, (List.range (nfs ci)).map (fun k => cv κ (V k))) := if_pos h
theorem Rep.at {κ : KX} {S : AS} {H : Heap} (hR : Rep κ S H) {o ci : Nat} {V : Nat → Value} {r : vw_C} (hc : vwCl[ci]? = some r) (hlt : o < S.2.1) (ho : S.1 o = .inr (.inr (ci, V))) : va_P (kD κ) vwCl [(kB κ + o, .inr (ci, (List.range (nfs ci)).map (fun k => cv κ (V k))))] H := by
  have h := hR.1 o hlt (by rw [ho]; exact jk_obj V (vw_lt hc))
  rw [ho, conv_obj κ V (vw_lt hc)] at h
  exact va1 h
theorem r_getf {sc : SC} {μ : MI} {mc ms k n pc : Nat} {lv : List (Nat × Value)} {st : List Value} {S : AS} {Q : Out → AS → Prop} {idx o ci kf : Nat} {fin : Bool} {t : FieldType} {V : Nat → Value} {v : Value} (h : cf (mCd μ) pc = some (.getfield idx, 3)) (hf : FL (mNm μ).cls idx ci kf fin t) (hlt : o < S.2.1) (ho : S.1 o = .inr (.inr (ci, V))) (hv : V kf = v) (kk : Wp sc μ mc ms k n (pc + 3) lv (v :: st) S Q) : Wp sc μ mc ms k n pc lv (.ref o :: st) S Q := by
  intro l κ p e s m args below meth c H locs ls hfl hC hS hR hlv
  obtain ⟨C, T, N, ty, ⟨hc, hin, hty, hnm⟩, hk, hl, hfn, ht⟩ := hf
  refine va_get (D := kD κ) (cl := vwCl) (ws := [(kB κ + o, .inr (ci, (List.range (nfs ci)).map (fun k => cv κ (V k))))]) (tys := tysK κ) (C := C) (T := T) (N := N) (ref := (T kf).1) (v := cv κ v) hC.1.1 hC.1.2.1 hC.2.1 (fun w hw => List.mem_cons_of_mem _ (hin w hw)) hC.own hC.kk (hR.at hc hlt ho) 0 rfl hc kf hk (hC.wd hl) (fun _ q => q) ?_ (hC.dk h) (kk l κ p e s m args below meth c H locs ls hfl hC hS hR hlv)
  rw [List.getElem?_map, nfs_of hc, List.getElem?_range hk, ← hv]
  rfl
theorem map_set (κ : KX) (V : Nat → Value) (N kf : Nat) (v : Value) : ((List.range N).map (fun k => cv κ (V k))).set kf (cv κ v) = (List.range N).map (fun k => cv κ (aup V kf v k)) := by
  apply List.ext_getElem?
  intro j
  by_cases hj : j < N
  · by_cases hjk : j = kf
    · subst hjk
      rw [List.getElem?_set_self (by simpa using hj), List.getElem?_map, List.getElem?_range hj]
      simp [aup]
    · rw [List.getElem?_set_ne (Ne.symm hjk), List.getElem?_map, List.getElem?_map, List.getElem?_range hj]
      simp [aup, hjk]
  · rw [List.getElem?_eq_none (by simp; omega), List.getElem?_eq_none (by simp; omega)]
theorem fits_ref (κ : KX) (t : FieldType) (o : Nat) (ht : (∃ C, t = .object C) ∨ ∃ u, t = .array u) : narrow t (cv κ (.ref o)) = cv κ (.ref o) ∧ fits t (cv κ (.ref o)) = true := by
  rcases ht with ⟨C, rfl⟩ | ⟨u, rfl⟩ <;> exact ⟨rfl, rfl⟩
def okv (t : FieldType) (v : Value) : Prop := ∀ κ : KX, narrow t (cv κ v) = cv κ v ∧ fits t (cv κ v) = true
theorem okv_i (x : Int32) : okv .int (.int x) := fun _ => ⟨rfl, rfl⟩
theorem okv_l (x : Int64) : okv .long (.long x) := fun _ => ⟨rfl, rfl⟩
theorem okv_o (C : String) (o : Nat) : okv (.object C) (.ref o) := fun _ => ⟨rfl, rfl⟩
theorem okv_a (u : FieldType) (o : Nat) : okv (.array u) (.ref o) := fun _ => ⟨rfl, rfl⟩
theorem okv_z {x : Int32} (h : x = 0 ∨ x = 1) : okv .boolean (.int x) := by
  intro κ
  rcases h with rfl | rfl <;> exact ⟨rfl, rfl⟩
theorem Rep.obj {κ : KX} {S : AS} {H H1 : Heap} {o ci kf N : Nat} {V : Nat → Value} {v : Value} {C : String} {T : u_T} {cell : Cell} {s : State} (hR : Rep κ S H) (hlt : o < S.2.1) (ho : S.1 o = .inr (.inr (ci, V))) (hc : vwCl[ci]? = some (C, T, N)) (hk : kf < N)
    (q2 : cell.cls = (kD κ).1 ci) (q3 : cell.vm = .none) (q4 : ∀ j, j < N → cell.slots[(kD κ).2 ci j]? = some (vp_V ((List.range (nfs ci)).map (fun k => cv κ (V k))) j)) (hap : ∀ a b, a < N → b < N → a ≠ b → (kD κ).2 ci a ≠ (kD κ).2 ci b)
    (e1 : H1[kB κ + o]? = some (cell.setSlot ((kD κ).2 ci kf) (cv κ v))) (e2 : H1.size = H.size) (e3 : ∀ q, q ≠ kB κ + o → H1[q]? = H[q]?) : Rep κ (aup S.1 o (.inr (.inr (ci, aup V kf v))), S.2) H1 := by
  refine hR.put hlt e2 ?_ e3
  rw [conv_obj κ _ (vw_lt hc)]
  refine ⟨_, hc, ?_⟩
  have hl : kf < ((List.range (nfs ci)).map (fun k => cv κ (V k))).length := by rw [List.length_map, List.length_range, nfs_of hc]; exact hk
  refine t_OB.to (V := updV (vp_V ((List.range (nfs ci)).map (fun k => cv κ (V k)))) kf (cv κ v)) ⟨_, e1, q2, q3, t_set q4 hap hk (cv κ v)⟩ (fun j _ => ?_)
  rw [vp_updV_set hl, map_set]
theorem r_putf {sc : SC} {μ : MI} {mc ms k n pc : Nat} {lv : List (Nat × Value)} {st : List Value} {S : AS} {Q : Out → AS → Prop} {idx o ci kf : Nat} {t : FieldType} {V : Nat → Value} {v : Value} (h : cf (mCd μ) pc = some (.putfield idx, 3)) (hf : FL (mNm μ).cls idx ci kf false t) (hv : okv t v) (hlt : o < S.2.1) (ho : S.1 o = .inr (.inr (ci, V))) (kk : Wp sc μ mc ms k n (pc + 3) lv st (aup S.1 o (.inr (.inr (ci, aup V kf v))), S.2) Q) : Wp sc μ mc ms k n pc lv (v :: .ref o :: st) S Q := by
  intro l κ p e s m args below meth c H locs ls hfl hC hS hR hlv
  obtain ⟨C, T, N, ty, ⟨hc, hin, hty, hnm⟩, hk, hl, hfn, ht⟩ := hf
  have hin' : ∀ w ∈ u_ws C T N, w ∈ wsO μ := fun w hw => List.mem_cons_of_mem _ (hin w hw)
  have hap := va_apart (own := (mNm μ).cls) hC.2.1 hin' ty hty hnm hC.kk hc
  obtain ⟨r, h1, cell, q1, q2, q3, q4⟩ := hR.at hc hlt ho 0 _ rfl
  have hr : r = (C, T, N) := Option.some.inj (h1.symm.trans hc)
  subst hr
  obtain ⟨hS9, hfc, kC, hkC, hkind⟩ := hC.kk.1 ci _ hc
  obtain ⟨cf9, kf9, fi, f, hi, hsl⟩ := hS9 kf hk
  have hlay := hC.2.1 _ (hin' _ (u_in_lay hk))
  unfold u_lay at hlay
  rw [if_neg (by rw [hfn]; decide)] at hlay
  have hst := (u_facts hfc hkC (u_lays hC.2.1 hin' hk) hi).1
  have hty2 := hty kf hk
  rw [ht] at hty2
  have h6 := u_store (v := cv κ v) hfc hkC hkind hlay hi hty2 (hv κ).1 (hv κ).2
  refine W.putK hC.1.1 hC.1.2.1 (f := f) ⟨hC.own, hC.wd hl, ⟨_, _, _, hi⟩, hst⟩ (by rw [q2]; exact h6) q1 q3 (by rw [hsl]; exact k2_hasslot (q4 kf hk)) rfl rfl (hC.dk h) fun H' e1 e2 e3 => ?_
  rw [hsl] at e1 ⊢
  exact kk l κ p e s m args below meth c H' _ ls hfl hC (hS.put e2 e3 (hR.2.2 o hlt)) (Rep.obj (s := s) hR hlt ho hc hk q2 q3 q4 hap e1 e2 e3) hlv
theorem r_putF {sc : SC} {μ : MI} {mc ms k n pc : Nat} {lv : List (Nat × Value)} {st : List Value} {S : AS} {Q : Out → AS → Prop} {idx o ci kf : Nat} {t : FieldType} {V : Nat → Value} {v : Value} (h : cf (mCd μ) pc = some (.putfield idx, 3)) (hf : FL (mNm μ).cls idx ci kf true t) (hdecl : ∀ r : vw_C, vwCl[ci]? = some r → (r.2.1 kf).1 = (mNm μ).cls) (hni : (mNm μ).name = "<init>") (hv : okv t v) (hlt : o < S.2.1) (ho : S.1 o = .inr (.inr (ci, V))) (kk : Wp sc μ mc ms k n (pc + 3) lv st (aup S.1 o (.inr (.inr (ci, aup V kf v))), S.2) Q) : Wp sc μ mc ms k n pc lv (v :: .ref o :: st) S Q := by
  intro l κ p e s m args below meth c H locs ls hfl hC hS hR hlv
  obtain ⟨C, T, N, ty, ⟨hc, hin, hty, hnm⟩, hk, hl, hfn, ht⟩ := hf
  have hin' : ∀ w ∈ u_ws C T N, w ∈ wsO μ := fun w hw => List.mem_cons_of_mem _ (hin w hw)
  have hap := va_apart (own := (mNm μ).cls) hC.2.1 hin' ty hty hnm hC.kk hc
  obtain ⟨r, h1, cell, q1, q2, q3, q4⟩ := hR.at hc hlt ho 0 _ rfl
  have hr : r = (C, T, N) := Option.some.inj (h1.symm.trans hc)
  subst hr
  obtain ⟨hS9, hfc, kC, hkC, hkind⟩ := hC.kk.1 ci _ hc
  obtain ⟨cf9, kf9, fi, f, hi, hsl⟩ := hS9 kf hk
  have hlay := hC.2.1 _ (hin' _ (u_in_lay hk))
  unfold u_lay at hlay
  rw [if_pos hfn] at hlay
  have hst := (u_facts hfc hkC (u_lays hC.2.1 hin' hk) hi).1
  have hcf : m.cls = cf9 := by
    obtain ⟨_, _, c', _, _, _, -, -, hf', -, -, -, hown2, -⟩ := Cond.laysFinal_spec hlay
    have e1 : c' = cf9 := by have := hi.symm.trans hf'; simp at this; exact this.1.symm
    rw [hdecl _ hc] at hown2
    rw [← e1]; exact Option.some.inj (hC.own.symm.trans hown2)
  have hty2 := hty kf hk
  rw [ht] at hty2
  have h6 := u_fits (v := cv κ v) hfc hkC hkind (Or.inr hlay) hi hty2 (hv κ).1 (hv κ).2
  refine W.putFinK hC.1.1 hC.1.2.1 hC.own (hC.wd hl) hi hst hcf (by rw [← hC.2.2.2.2.2.2]; exact hni) (by rw [q2]; exact h6) q1 q3 (by rw [hsl]; exact k2_hasslot (q4 kf hk)) rfl rfl (hC.dk h) fun H' e1 e2 e3 => ?_
  rw [hsl] at e1 ⊢
  exact kk l κ p e s m args below meth c H' _ ls hfl hC (hS.put e2 e3 (hR.2.2 o hlt)) (Rep.obj (s := s) hR hlt ho hc hk q2 q3 q4 hap e1 e2 e3) hlv
theorem Rep.arr {κ : KX} {S : AS} {H : Heap} (hR : Rep κ S H) {o t nn : Nat} {f : Nat → Int32} (hlt : o < S.2.1) (ho : S.1 o = .inl (t, nn, f)) : va_P (kD κ) vwCl [(kB κ + o, .inl (kA κ t, nn, .inl f))] H := by
  have h := hR.1 o hlt (by rw [ho]; rfl)
  rw [ho] at h
  exact va1 h
theorem Rep.arrL {κ : KX} {S : AS} {H : Heap} (hR : Rep κ S H) {o nn : Nat} {f : Nat → Int64} (hlt : o < S.2.1) (ho : S.1 o = .inr (.inl (nn, f))) : va_P (kD κ) vwCl [(kB κ + o, .inl (kA κ 3, nn, .inr (.inl f)))] H := by
  have h := hR.1 o hlt (by rw [ho]; rfl)
  rw [ho] at h
  exact va1 h
theorem adr_rf (κ : KX) {v : Value} (h : v = .null ∨ ∃ o, v = .ref o) : va_rf (adr κ v) = cv κ v := by
  rcases h with rfl | ⟨o, rfl⟩ <;> rfl
theorem Rep.arrQ {κ : KX} {S : AS} {H : Heap} (hR : Rep κ S H) {o nn : Nat} {V : Nat → Value} (hlt : o < S.2.1) (ho : S.1 o = .inr (.inr (100 + nn, V))) : va_P (kD κ) vwCl [(kB κ + o, .inl (kA κ 4, nn, .inr (.inr (.inr (.inr (fun j => adr κ (V j)))))))] H := by
  have h := hR.1 o hlt (by
    rw [ho]
    show (Nat.ble 50 (100 + nn) && Nat.ble (100 + nn) 99) = false
    rw [show Nat.ble (100 + nn) 99 = false from Bool.eq_false_iff.mpr fun q => absurd (Nat.le_of_ble_eq_true q) (by omega), Bool.and_false])
  rw [ho] at h
  have e : conv κ (.inr (.inr (100 + nn, V))) = .inl (kA κ 4, nn, .inr (.inr (.inr (.inr (fun j => adr κ (V j)))))) := by
    show (if 100 + nn < 50 then _ else _) = _
    rw [if_neg (by omega), show 100 + nn - 100 = nn by omega]
  rw [e] at h
  exact va1 h
theorem vin {j nn : Nat} (hj : j < nn) (hn : nn < 2147483648) : vp_in (nI j) nn := vp_in_nI hj hn
theorem r_iald {sc : SC} {μ : MI} {mc ms k n pc : Nat} {lv : List (Nat × Value)} {st : List Value} {S : AS} {Q : Out → AS → Prop} {o j nn : Nat} {f : Nat → Int32} (h : cf (mCd μ) pc = some (.iaload, 1)) (hlt : o < S.2.1) (ho : S.1 o = .inl (0, nn, f)) (hj : j < nn) (hn : nn < 2147483648) (kk : Wp sc μ mc ms k n (pc + 1) lv (.int (f j) :: st) S Q) : Wp sc μ mc ms k n pc lv (.int (nI j) :: .ref o :: st) S Q := by
  intro l κ p e s m args below meth c H locs ls hfl hC hS hR hlv
  refine va_iald (ws := [(kB κ + o, .inl (kA κ 0, nn, .inl f))]) (cl := vwCl) (D := kD κ) (tys := tysK κ) hC.1.1 hC.1.2.1 hC.kk (hR.arr hlt ho) 0 0 rfl rfl (vin hj hn) (hC.dk h) ?_
  rw [nI_clamp (Nat.lt_trans hj hn)]
  exact kk l κ p e s m args below meth c H locs ls hfl hC hS hR hlv

theorem r_bald {sc : SC} {μ : MI} {mc ms k n pc : Nat} {lv : List (Nat × Value)} {st : List Value} {S : AS} {Q : Out → AS → Prop} {o j nn : Nat} {f : Nat → Int32} (h : cf (mCd μ) pc = some (.baload, 1)) (hlt : o < S.2.1) (ho : S.1 o = .inl (1, nn, f)) (hj : j < nn) (hn : nn < 2147483648) (kk : Wp sc μ mc ms k n (pc + 1) lv (.int (f j) :: st) S Q) : Wp sc μ mc ms k n pc lv (.int (nI j) :: .ref o :: st) S Q := by
  intro l κ p e s m args below meth c H locs ls hfl hC hS hR hlv
  refine va_bald (ws := [(kB κ + o, .inl (kA κ 1, nn, .inl f))]) (cl := vwCl) (D := kD κ) (tys := tysK κ) hC.1.1 hC.1.2.1 hC.kk (hR.arr hlt ho) 0 1 rfl rfl (vin hj hn) (hC.dk h) ?_
  rw [nI_clamp (Nat.lt_trans hj hn)]
  exact kk l κ p e s m args below meth c H locs ls hfl hC hS hR hlv

theorem r_zald {sc : SC} {μ : MI} {mc ms k n pc : Nat} {lv : List (Nat × Value)} {st : List Value} {S : AS} {Q : Out → AS → Prop} {o j nn : Nat} {f : Nat → Int32} (h : cf (mCd μ) pc = some (.baload, 1)) (hlt : o < S.2.1) (ho : S.1 o = .inl (2, nn, f)) (hj : j < nn) (hn : nn < 2147483648) (kk : Wp sc μ mc ms k n (pc + 1) lv (.int (f j) :: st) S Q) : Wp sc μ mc ms k n pc lv (.int (nI j) :: .ref o :: st) S Q := by
  intro l κ p e s m args below meth c H locs ls hfl hC hS hR hlv
  refine va_zald (ws := [(kB κ + o, .inl (kA κ 2, nn, .inl f))]) (cl := vwCl) (D := kD κ) (tys := tysK κ) hC.1.1 hC.1.2.1 hC.kk (hR.arr hlt ho) 0 2 rfl rfl (vin hj hn) (hC.dk h) ?_
  rw [nI_clamp (Nat.lt_trans hj hn)]
  exact kk l κ p e s m args below meth c H locs ls hfl hC hS hR hlv

theorem r_lald {sc : SC} {μ : MI} {mc ms k n pc : Nat} {lv : List (Nat × Value)} {st : List Value} {S : AS} {Q : Out → AS → Prop} {o j nn : Nat} {f : Nat → Int64} (h : cf (mCd μ) pc = some (.laload, 1)) (hlt : o < S.2.1) (ho : S.1 o = .inr (.inl (nn, f))) (hj : j < nn) (hn : nn < 2147483648) (kk : Wp sc μ mc ms k n (pc + 1) lv (.long (f j) :: st) S Q) : Wp sc μ mc ms k n pc lv (.int (nI j) :: .ref o :: st) S Q := by
  intro l κ p e s m args below meth c H locs ls hfl hC hS hR hlv
  refine va_lald (ws := [(kB κ + o, .inl (kA κ 3, nn, .inr (.inl f)))]) (cl := vwCl) (D := kD κ) (tys := tysK κ) hC.1.1 hC.1.2.1 hC.kk (hR.arrL hlt ho) 0 3 rfl rfl (vin hj hn) (hC.dk h) ?_
  rw [nI_clamp (Nat.lt_trans hj hn)]
  exact kk l κ p e s m args below meth c H locs ls hfl hC hS hR hlv
theorem r_alen {sc : SC} {μ : MI} {mc ms k n pc : Nat} {lv : List (Nat × Value)} {st : List Value} {S : AS} {Q : Out → AS → Prop} {o t nn : Nat} {f : Nat → Int32} (h : cf (mCd μ) pc = some (.arraylength, 1)) (hlt : o < S.2.1) (ho : S.1 o = .inl (t, nn, f)) (ht : t < 3) (kk : Wp sc μ mc ms k n (pc + 1) lv (.int (nI nn) :: st) S Q) : Wp sc μ mc ms k n pc lv (.ref o :: st) S Q := by
  intro l κ p e s m args below meth c H locs ls hfl hC hS hR hlv
  have ht9 : ∃ ty, (tysK κ)[t]? = some (kA κ t, ty) := by
    rcases (show t = 0 ∨ t = 1 ∨ t = 2 by omega) with rfl | rfl | rfl <;> exact ⟨_, rfl⟩
  obtain ⟨ty, ht9⟩ := ht9
  exact va_alen (ws := [(kB κ + o, .inl (kA κ t, nn, .inl f))]) (cl := vwCl) (D := kD κ) (tys := tysK κ) hC.1.1 hC.1.2.1 hC.kk (hR.arr hlt ho) 0 t rfl ht9 rfl (hC.dk h) (kk l κ p e s m args below meth c H locs ls hfl hC hS hR hlv)
theorem r_iast {sc : SC} {μ : MI} {mc ms k n pc : Nat} {lv : List (Nat × Value)} {st : List Value} {S : AS} {Q : Out → AS → Prop} {o j nn : Nat} {f : Nat → Int32} {x : Int32} (h : cf (mCd μ) pc = some (.iastore, 1)) (hlt : o < S.2.1) (ho : S.1 o = .inl (0, nn, f)) (hj : j < nn) (hn : nn < 2147483648) (kk : Wp sc μ mc ms k n (pc + 1) lv st (aup S.1 o (.inl (0, nn, aup f j (x))), S.2) Q) : Wp sc μ mc ms k n pc lv (.int x :: .int (nI j) :: .ref o :: st) S Q := by
  intro l κ p e9 s m args below meth c H locs ls hfl hC hS hR hlv
  refine W.iast (cell := vp_cell (kA κ 0) (nn, .inl f)) (a := kB κ + o) hC.1.1 hC.1.2.1 (hR.arr hlt ho 0 _ rfl) ((hC.kk.2 0 _ rfl).1 nn (fun j => .int (f j))) (fun q => by cases q) (by show ¬ (nI j < 0 ∨ (arrV _ _ _).slots.size ≤ _); rw [arrV_size]; exact vin hj hn) rfl rfl (hC.dk h) fun H1 e z oq => ?_
  rw [nI_clamp (Nat.lt_trans hj hn)] at e ⊢
  refine kk l κ p e9 s m args below meth c H1 _ ls hfl hC (hS.put z oq (hR.2.2 o hlt)) ?_ hlv
  refine hR.put hlt z ?_ oq
  show H1[kB κ + o]? = some (vp_cell _ _)
  rw [e]
  rw [vp_cell_i, vp_cell_i, arrV_store]
  congr 2
  funext q
  by_cases hq : q = j
  · subst hq
    simp [updV, aup]
  · simp [updV, aup, hq]

theorem r_bast {sc : SC} {μ : MI} {mc ms k n pc : Nat} {lv : List (Nat × Value)} {st : List Value} {S : AS} {Q : Out → AS → Prop} {o j nn : Nat} {f : Nat → Int32} {x : Int32} (h : cf (mCd μ) pc = some (.bastore, 1)) (hlt : o < S.2.1) (ho : S.1 o = .inl (1, nn, f)) (hj : j < nn) (hn : nn < 2147483648) (kk : Wp sc μ mc ms k n (pc + 1) lv st (aup S.1 o (.inl (1, nn, aup f j (vp_nar .byte x))), S.2) Q) : Wp sc μ mc ms k n pc lv (.int x :: .int (nI j) :: .ref o :: st) S Q := by
  intro l κ p e9 s m args below meth c H locs ls hfl hC hS hR hlv
  refine W.bast (cell := vp_cell (kA κ 1) (nn, .inl f)) (a := kB κ + o) hC.1.1 hC.1.2.1 (hR.arr hlt ho 0 _ rfl) ((hC.kk.2 1 _ rfl).1 nn (fun j => .int (f j))) (fun q => by cases q) (by show ¬ (nI j < 0 ∨ (arrV _ _ _).slots.size ≤ _); rw [arrV_size]; exact vin hj hn) rfl rfl (hC.dk h) fun H1 e z oq => ?_
  rw [nI_clamp (Nat.lt_trans hj hn)] at e ⊢
  refine kk l κ p e9 s m args below meth c H1 _ ls hfl hC (hS.put z oq (hR.2.2 o hlt)) ?_ hlv
  refine hR.put hlt z ?_ oq
  show H1[kB κ + o]? = some (vp_cell _ _)
  rw [e]
  rw [vp_cell_i, vp_cell_i, arrV_store]
  congr 2
  funext q
  by_cases hq : q = j
  · subst hq
    simp [updV, aup, vp_nar, narrow]
  · simp [updV, aup, hq]

theorem r_zast {sc : SC} {μ : MI} {mc ms k n pc : Nat} {lv : List (Nat × Value)} {st : List Value} {S : AS} {Q : Out → AS → Prop} {o j nn : Nat} {f : Nat → Int32} {x : Int32} (h : cf (mCd μ) pc = some (.bastore, 1)) (hlt : o < S.2.1) (ho : S.1 o = .inl (2, nn, f)) (hj : j < nn) (hn : nn < 2147483648) (kk : Wp sc μ mc ms k n (pc + 1) lv st (aup S.1 o (.inl (2, nn, aup f j (vp_nar .boolean x))), S.2) Q) : Wp sc μ mc ms k n pc lv (.int x :: .int (nI j) :: .ref o :: st) S Q := by
  intro l κ p e9 s m args below meth c H locs ls hfl hC hS hR hlv
  refine W.zast (cell := vp_cell (kA κ 2) (nn, .inl f)) (a := kB κ + o) hC.1.1 hC.1.2.1 (hR.arr hlt ho 0 _ rfl) ((hC.kk.2 2 _ rfl).1 nn (fun j => .int (f j))) (fun q => by cases q) (by show ¬ (nI j < 0 ∨ (arrV _ _ _).slots.size ≤ _); rw [arrV_size]; exact vin hj hn) rfl rfl (hC.dk h) fun H1 e z oq => ?_
  rw [nI_clamp (Nat.lt_trans hj hn)] at e ⊢
  refine kk l κ p e9 s m args below meth c H1 _ ls hfl hC (hS.put z oq (hR.2.2 o hlt)) ?_ hlv
  refine hR.put hlt z ?_ oq
  show H1[kB κ + o]? = some (vp_cell _ _)
  rw [e]
  rw [vp_cell_i, vp_cell_i, arrV_store]
  congr 2
  funext q
  by_cases hq : q = j
  · subst hq
    simp [updV, aup, vp_nar, narrow]
  · simp [updV, aup, hq]

theorem r_last {sc : SC} {μ : MI} {mc ms k n pc : Nat} {lv : List (Nat × Value)} {st : List Value} {S : AS} {Q : Out → AS → Prop} {o j nn : Nat} {f : Nat → Int64} {x : Int64} (h : cf (mCd μ) pc = some (.lastore, 1)) (hlt : o < S.2.1) (ho : S.1 o = .inr (.inl (nn, f))) (hj : j < nn) (hn : nn < 2147483648) (kk : Wp sc μ mc ms k n (pc + 1) lv st (aup S.1 o (.inr (.inl (nn, aup f j x))), S.2) Q) : Wp sc μ mc ms k n pc lv (.long x :: .int (nI j) :: .ref o :: st) S Q := by
  intro l κ p e9 s m args below meth c H locs ls hfl hC hS hR hlv
  refine W.last (cell := vp_cell (kA κ 3) (nn, .inr (.inl f))) (a := kB κ + o) hC.1.1 hC.1.2.1 (hR.arrL hlt ho 0 _ rfl) ((hC.kk.2 3 _ rfl).1 nn (fun j => .long (f j))) (fun q => by cases q) (by show ¬ (nI j < 0 ∨ (arrV _ _ _).slots.size ≤ _); rw [arrV_size]; exact vin hj hn) rfl rfl (hC.dk h) fun H1 e z oq => ?_
  rw [nI_clamp (Nat.lt_trans hj hn)] at e ⊢
  refine kk l κ p e9 s m args below meth c H1 _ ls hfl hC (hS.put z oq (hR.2.2 o hlt)) ?_ hlv
  refine hR.put hlt z ?_ oq
  show H1[kB κ + o]? = some (vp_cell _ _)
  rw [e]
  rw [vp_cell_l, vp_cell_l, arrV_store]
  congr 2
  funext q
  by_cases hq : q = j
  · subst hq
    simp [updV, aup]
  · simp [updV, aup, hq]

theorem r_newa0 {sc : SC} {μ : MI} {mc ms k n pc : Nat} {lv : List (Nat × Value)} {st : List Value} {S : AS} {Q : Out → AS → Prop} {nn : Nat} (h : cf (mCd μ) pc = some (.newarray .int, 2)) (hw : Cond.arrayClass .int ∈ lw_gd) (hn : nn < 65536) (hex : S.2.2 = true) (hk : k + 1 ≤ mc) (hs : n + nn ≤ ms) (kk : Wp sc μ mc ms (k + 1) (n + nn) (pc + 2) lv (.ref S.2.1 :: st) (aup S.1 S.2.1 (.inl (0, nn, fun _ => 0)), S.2.1 + 1, true) Q) : Wp sc μ mc ms k n pc lv (.int (nI nn) :: st) S Q := by
  intro l κ p e s m args below meth c H locs ls hfl hC hS hR hlv
  refine va_newaK (atype := .int) (N := nn) hC.1.1 hC.1.2.1 (hC.wd hw) rfl (hC.dk h) rfl (nI_pos (by omega)) (nI_clamp (by omega)) (by show nn * _ ≤ _; simp only [newarray.typeOf, componentBytes]; omega) hk hs rfl fun H1 cA e1 z1 o1 hAr hNm => ?_
  have hca : cA = kA κ 0 := by
    have h9 : s.vm.findClass ("[" ++ ((.int : FieldType)).toString) = some (kA κ 0) := (hC.kk.2 0 _ rfl).2
    exact Option.some.inj (hNm.symm.trans h9)
  subst hca
  have hz : H.size = kB κ + S.2.1 := hR.2.1.2 hex
  have h9 := fun hq => kk l κ p e s m args below meth c H1 locs ls hfl hC ⟨Nat.le_trans hS.1 (by omega), fun x h1 h2 => (o1 x (Nat.lt_of_lt_of_le h1 hS.1)).trans (hS.2.1 x h1 h2), hS.2.2⟩ (hR.push (Nat.le_trans hC.gd.1.2.2 hS.1) hex z1 hq o1 true) hlv
  rw [hz]
  refine h9 ?_
  exact e1

theorem r_newa1 {sc : SC} {μ : MI} {mc ms k n pc : Nat} {lv : List (Nat × Value)} {st : List Value} {S : AS} {Q : Out → AS → Prop} {nn : Nat} (h : cf (mCd μ) pc = some (.newarray .byte, 2)) (hw : Cond.arrayClass .byte ∈ lw_gd) (hn : nn < 65536) (hex : S.2.2 = true) (hk : k + 1 ≤ mc) (hs : n + nn ≤ ms) (kk : Wp sc μ mc ms (k + 1) (n + nn) (pc + 2) lv (.ref S.2.1 :: st) (aup S.1 S.2.1 (.inl (1, nn, fun _ => 0)), S.2.1 + 1, true) Q) : Wp sc μ mc ms k n pc lv (.int (nI nn) :: st) S Q := by
  intro l κ p e s m args below meth c H locs ls hfl hC hS hR hlv
  refine va_newaK (atype := .byte) (N := nn) hC.1.1 hC.1.2.1 (hC.wd hw) rfl (hC.dk h) rfl (nI_pos (by omega)) (nI_clamp (by omega)) (by show nn * _ ≤ _; simp only [newarray.typeOf, componentBytes]; omega) hk hs rfl fun H1 cA e1 z1 o1 hAr hNm => ?_
  have hca : cA = kA κ 1 := by
    have h9 : s.vm.findClass ("[" ++ ((.byte : FieldType)).toString) = some (kA κ 1) := (hC.kk.2 1 _ rfl).2
    exact Option.some.inj (hNm.symm.trans h9)
  subst hca
  have hz : H.size = kB κ + S.2.1 := hR.2.1.2 hex
  have h9 := fun hq => kk l κ p e s m args below meth c H1 locs ls hfl hC ⟨Nat.le_trans hS.1 (by omega), fun x h1 h2 => (o1 x (Nat.lt_of_lt_of_le h1 hS.1)).trans (hS.2.1 x h1 h2), hS.2.2⟩ (hR.push (Nat.le_trans hC.gd.1.2.2 hS.1) hex z1 hq o1 true) hlv
  rw [hz]
  refine h9 ?_
  exact e1

theorem r_newa2 {sc : SC} {μ : MI} {mc ms k n pc : Nat} {lv : List (Nat × Value)} {st : List Value} {S : AS} {Q : Out → AS → Prop} {nn : Nat} (h : cf (mCd μ) pc = some (.newarray .boolean, 2)) (hw : Cond.arrayClass .boolean ∈ lw_gd) (hn : nn < 65536) (hex : S.2.2 = true) (hk : k + 1 ≤ mc) (hs : n + nn ≤ ms) (kk : Wp sc μ mc ms (k + 1) (n + nn) (pc + 2) lv (.ref S.2.1 :: st) (aup S.1 S.2.1 (.inl (2, nn, fun _ => 0)), S.2.1 + 1, true) Q) : Wp sc μ mc ms k n pc lv (.int (nI nn) :: st) S Q := by
  intro l κ p e s m args below meth c H locs ls hfl hC hS hR hlv
  refine va_newaK (atype := .boolean) (N := nn) hC.1.1 hC.1.2.1 (hC.wd hw) rfl (hC.dk h) rfl (nI_pos (by omega)) (nI_clamp (by omega)) (by show nn * _ ≤ _; simp only [newarray.typeOf, componentBytes]; omega) hk hs rfl fun H1 cA e1 z1 o1 hAr hNm => ?_
  have hca : cA = kA κ 2 := by
    have h9 : s.vm.findClass ("[" ++ ((.boolean : FieldType)).toString) = some (kA κ 2) := (hC.kk.2 2 _ rfl).2
    exact Option.some.inj (hNm.symm.trans h9)
  subst hca
  have hz : H.size = kB κ + S.2.1 := hR.2.1.2 hex
  have h9 := fun hq => kk l κ p e s m args below meth c H1 locs ls hfl hC ⟨Nat.le_trans hS.1 (by omega), fun x h1 h2 => (o1 x (Nat.lt_of_lt_of_le h1 hS.1)).trans (hS.2.1 x h1 h2), hS.2.2⟩ (hR.push (Nat.le_trans hC.gd.1.2.2 hS.1) hex z1 hq o1 true) hlv
  rw [hz]
  refine h9 ?_
  exact e1

theorem r_newa3 {sc : SC} {μ : MI} {mc ms k n pc : Nat} {lv : List (Nat × Value)} {st : List Value} {S : AS} {Q : Out → AS → Prop} {nn : Nat} (h : cf (mCd μ) pc = some (.newarray .long, 2)) (hw : Cond.arrayClass .long ∈ lw_gd) (hn : nn < 65536) (hex : S.2.2 = true) (hk : k + 1 ≤ mc) (hs : n + nn ≤ ms) (kk : Wp sc μ mc ms (k + 1) (n + nn) (pc + 2) lv (.ref S.2.1 :: st) (aup S.1 S.2.1 (.inr (.inl (nn, fun _ => 0))), S.2.1 + 1, true) Q) : Wp sc μ mc ms k n pc lv (.int (nI nn) :: st) S Q := by
  intro l κ p e s m args below meth c H locs ls hfl hC hS hR hlv
  refine va_newaK (atype := .long) (N := nn) hC.1.1 hC.1.2.1 (hC.wd hw) rfl (hC.dk h) rfl (nI_pos (by omega)) (nI_clamp (by omega)) (by show nn * _ ≤ _; simp only [newarray.typeOf, componentBytes]; omega) hk hs rfl fun H1 cA e1 z1 o1 hAr hNm => ?_
  have hca : cA = kA κ 3 := by
    have h9 : s.vm.findClass ("[" ++ ((.long : FieldType)).toString) = some (kA κ 3) := (hC.kk.2 3 _ rfl).2
    exact Option.some.inj (hNm.symm.trans h9)
  subst hca
  have hz : H.size = kB κ + S.2.1 := hR.2.1.2 hex
  have h9 := fun hq => kk l κ p e s m args below meth c H1 locs ls hfl hC ⟨Nat.le_trans hS.1 (by omega), fun x h1 h2 => (o1 x (Nat.lt_of_lt_of_le h1 hS.1)).trans (hS.2.1 x h1 h2), hS.2.2⟩ (hR.push (Nat.le_trans hC.gd.1.2.2 hS.1) hex z1 hq o1 true) hlv
  rw [hz]
  refine h9 ?_
  exact e1

theorem r_new {sc : SC} {μ : MI} {mc ms k n pc : Nat} {lv : List (Nat × Value)} {st : List Value} {S : AS} {Q : Out → AS → Prop} {idx ci N : Nat} {C : String} {T : u_T} {ty : Nat → FieldType} {V : Nat → Value} (h : cf (mCd μ) pc = some (.new idx, 3)) (hci : CI ci C T N ty) (hw1 : Cond.classLink (mNm μ).cls idx C ∈ lw_gd) (hw2 : Cond.instantiable C N ∈ lw_gd) (hw3 : Cond.initialized C ∈ lw_gd) (hV : ∀ (κ : KX) (j : Nat), j < N → defaultValue (ty j) = cv κ (V j)) (hex : S.2.2 = true) (hk : k + 1 ≤ mc) (hs : n + N ≤ ms) (kk : Wp sc μ mc ms (k + 1) (n + N) (pc + 3) lv (.ref S.2.1 :: st) (aup S.1 S.2.1 (.inr (.inr (ci, V))), S.2.1 + 1, true) Q) : Wp sc μ mc ms k n pc lv st S Q := by
  intro l κ p e s m args below meth c H locs ls hfl hC hS hR hlv
  obtain ⟨hc, hin, hty, hnm⟩ := hci
  have hin' : ∀ w ∈ u_ws C T N, w ∈ wsO μ := fun w hw => List.mem_cons_of_mem _ (hin w hw)
  have hKn := hC.kk.1 ci _ hc
  refine W.newcK hC.1.1 hC.1.2.1 hC.own (hC.wd hw1) (hC.wd hw2) (hC.wd hw3) rfl (hC.dk h) hk hs hKn.2.1 rfl fun H1 kC hkC e1 z1 o1 => ?_
  have hz : H.size = kB κ + S.2.1 := hR.2.1.2 hex
  have h9 := fun hq => kk l κ p e s m args below meth c H1 locs ls hfl hC ⟨Nat.le_trans hS.1 (by omega), fun x h1 h2 => (o1 x (Nat.lt_of_lt_of_le h1 hS.1)).trans (hS.2.1 x h1 h2), hS.2.2⟩ (hR.push (Nat.le_trans hC.gd.1.2.2 hS.1) hex z1 hq o1 true) hlv
  rw [hz]
  refine h9 ?_
  rw [conv_obj κ _ (vw_lt hc)]
  refine ⟨_, hc, (u_born ty hC.2.1 hin' hKn hkC e1 hty).to (fun j hj => ?_)⟩
  rw [hV κ j hj]
  unfold vp_V
  rw [List.getD_eq_getElem?_getD, List.getElem?_map, nfs_of hc, List.getElem?_range hj]
  rfl

theorem cv_scr (κ : KX) {x : Nat} (hx : x = 100) : cv κ (.retAddr x) = .ref (kSb κ) := by
  subst hx
  rfl
theorem cv_dig (κ : KX) (i : Nat) : cv κ (.retAddr (101 + i)) = .ref (kDT κ i) := by
  show cvK κ (101 + i) = _
  unfold cvK
  rw [if_neg (by omega), if_neg (by omega), if_neg (by omega), if_neg (by omega), show 101 + i - 101 = i by omega]
theorem cv_str (κ : KX) {x : Nat} (hx : x < 50) : cv κ (.retAddr x) = .ref (kSK κ x) := by
  show cvK κ x = _
  unfold cvK
  rw [if_pos hx]
theorem cv_stv (κ : KX) {x : Nat} (hx : x < 49) : cv κ (.retAddr (50 + x)) = .ref (kSV κ x) := by
  show cvK κ (50 + x) = _
  unfold cvK
  rw [if_neg (by omega), if_pos (by omega), Nat.add_sub_cancel_left]
/-- the script -/
theorem r_slen {sc : SC} {μ : MI} {mc ms k n pc : Nat} {lv : List (Nat × Value)} {st : List Value} {S : AS} {Q : Out → AS → Prop} {x : Nat} (h : cf (mCd μ) pc = some (.arraylength, 1)) (hx : x = 100) (kk : Wp sc μ mc ms k n (pc + 1) lv (.int (nI sc.1) :: st) S Q) : Wp sc μ mc ms k n pc lv (.retAddr x :: st) S Q := by
  intro l κ p e s m args below meth c H locs ls hfl hC hS hR hlv
  show W p l e (rmO μ mc ms) s m args below meth c H locs k n _ (F0 m pc ls (cv κ (.retAddr x) :: cvs κ st))
  rw [cv_scr κ hx]
  exact va_slen (A := kF κ) hC.1.1 hC.1.2.1 hC.gd.2.2.2.2.2.1 hC.gd.2.2.2.2.2.2.1 hC.gd.2.2.2.2.2.2.2 hS (hC.dk h) (kk l κ p e s m args below meth c H locs ls hfl hC hS hR hlv)
theorem r_sld {sc : SC} {μ : MI} {mc ms k n pc : Nat} {lv : List (Nat × Value)} {st : List Value} {S : AS} {Q : Out → AS → Prop} {x j : Nat} (h : cf (mCd μ) pc = some (.iaload, 1)) (hx : x = 100) (hj : j < sc.1) (hn : sc.1 < 2147483648) (kk : Wp sc μ mc ms k n (pc + 1) lv (.int (sc.2 j) :: st) S Q) : Wp sc μ mc ms k n pc lv (.int (nI j) :: .retAddr x :: st) S Q := by
  intro l κ p e s m args below meth c H locs ls hfl hC hS hR hlv
  show W p l e (rmO μ mc ms) s m args below meth c H locs k n _ (F0 m pc ls (.int (nI j) :: cv κ (.retAddr x) :: cvs κ st))
  rw [cv_scr κ hx]
  refine va_sld (A := kF κ) hC.1.1 hC.1.2.1 hC.gd.2.2.2.2.2.1 hC.gd.2.2.2.2.2.2.1 hC.gd.2.2.2.2.2.2.2 hS (vin hj hn) (hC.dk h) ?_
  rw [nI_clamp (Nat.lt_trans hj hn)]
  exact kk l κ p e s m args below meth c H locs ls hfl hC hS hR hlv
