/-! Rows that give a new state a name: its size, what stands where it was written, and that nothing else changed. -/
abbrev oI0 (t nn : Nat) (f : Nat → Int32) : AE := .inl (t, nn, f)
abbrev oL (nn : Nat) (f : Nat → Int64) : AE := .inr (.inl (nn, f))
abbrev oQ (nn : Nat) (V : Nat → Value) : AE := .inr (.inr (100 + nn, V))
abbrev oO (ci : Nat) (V : Nat → Value) : AE := .inr (.inr (ci, V))
/-- a place written -/
def Wr (S : AS) (o : Nat) (e : AE) (S' : AS) : Prop := S'.2.1 = S.2.1 ∧ S'.2.2 = true ∧ S'.1 o = e ∧ ∀ i, i ≠ o → S'.1 i = S.1 i
/-- a place made -/
def Nw (S : AS) (e : AE) (S' : AS) : Prop := S'.2.1 = S.2.1 + 1 ∧ S'.2.2 = true ∧ S'.1 S.2.1 = e ∧ ∀ i, i < S.2.1 → S'.1 i = S.1 i
theorem Wr.of {S : AS} {o : Nat} {e : AE} (hx : S.2.2 = true) : Wr S o e (aup S.1 o e, S.2) := ⟨rfl, hx, aup_s _ _ _, fun _ hi => aup_n _ _ hi⟩
theorem Nw.of (S : AS) (e : AE) : Nw S e (aup S.1 S.2.1 e, S.2.1 + 1, true) := ⟨rfl, rfl, aup_s _ _ _, fun _ hi => aup_n _ _ (Nat.ne_of_lt hi)⟩
theorem t_iast {sc : SC} {μ : MI} {mc ms k n pc : Nat} {lv : List (Nat × Value)} {st : List Value} {S : AS} {Q : Out → AS → Prop} {o j nn : Nat} {f : Nat → Int32} {x : Int32} (h : cf (mCd μ) pc = some (.iastore, 1)) (hx : S.2.2 = true) (hlt : o < S.2.1) (ho : S.1 o = oI0 0 nn f) (hj : j < nn) (hn : nn < 2147483648) (kk : ∀ S', Wr S o (oI0 0 nn (aup f j x)) S' → Wp sc μ mc ms k n (pc + 1) lv st S' Q) : Wp sc μ mc ms k n pc lv (.int x :: .int (nI j) :: .ref o :: st) S Q := r_iast h hlt ho hj hn (kk _ (Wr.of hx))
theorem t_bast {sc : SC} {μ : MI} {mc ms k n pc : Nat} {lv : List (Nat × Value)} {st : List Value} {S : AS} {Q : Out → AS → Prop} {o j nn : Nat} {f : Nat → Int32} {x : Int32} (h : cf (mCd μ) pc = some (.bastore, 1)) (hx : S.2.2 = true) (hlt : o < S.2.1) (ho : S.1 o = oI0 1 nn f) (hj : j < nn) (hn : nn < 2147483648) (kk : ∀ S', Wr S o (oI0 1 nn (aup f j (vp_nar .byte x))) S' → Wp sc μ mc ms k n (pc + 1) lv st S' Q) : Wp sc μ mc ms k n pc lv (.int x :: .int (nI j) :: .ref o :: st) S Q := r_bast h hlt ho hj hn (kk _ (Wr.of hx))
theorem t_zast {sc : SC} {μ : MI} {mc ms k n pc : Nat} {lv : List (Nat × Value)} {st : List Value} {S : AS} {Q : Out → AS → Prop} {o j nn : Nat} {f : Nat → Int32} {x : Int32} (h : cf (mCd μ) pc = some (.bastore, 1)) (hx : S.2.2 = true) (hlt : o < S.2.1) (ho : S.1 o = oI0 2 nn f) (hj : j < nn) (hn : nn < 2147483648) (hz : vp_nar .boolean x = x) (kk : ∀ S', Wr S o (oI0 2 nn (aup f j x)) S' → Wp sc μ mc ms k n (pc + 1) lv st S' Q) : Wp sc μ mc ms k n pc lv (.int x :: .int (nI j) :: .ref o :: st) S Q := by
  refine r_zast h hlt ho hj hn ?_
  rw [hz]
  exact kk _ (Wr.of hx)
theorem t_last {sc : SC} {μ : MI} {mc ms k n pc : Nat} {lv : List (Nat × Value)} {st : List Value} {S : AS} {Q : Out → AS → Prop} {o j nn : Nat} {f : Nat → Int64} {x : Int64} (h : cf (mCd μ) pc = some (.lastore, 1)) (hx : S.2.2 = true) (hlt : o < S.2.1) (ho : S.1 o = oL nn f) (hj : j < nn) (hn : nn < 2147483648) (kk : ∀ S', Wr S o (oL nn (aup f j x)) S' → Wp sc μ mc ms k n (pc + 1) lv st S' Q) : Wp sc μ mc ms k n pc lv (.long x :: .int (nI j) :: .ref o :: st) S Q := r_last h hlt ho hj hn (kk _ (Wr.of hx))
theorem t_aast {sc : SC} {μ : MI} {mc ms k n pc : Nat} {lv : List (Nat × Value)} {st : List Value} {S : AS} {Q : Out → AS → Prop} {o j nn v vn : Nat} {V : Nat → Value} {f : Nat → Int32} (h : cf (mCd μ) pc = some (.aastore, 1)) (hx : S.2.2 = true) (hlt : o < S.2.1) (ho : S.1 o = oQ nn V) (hv : v < S.2.1) (hvv : S.1 v = oI0 0 vn f) (hj : j < nn) (hn : nn < 2147483648) (kk : ∀ S', Wr S o (oQ nn (aup V j (.ref v))) S' → Wp sc μ mc ms k n (pc + 1) lv st S' Q) : Wp sc μ mc ms k n pc lv (.ref v :: .int (nI j) :: .ref o :: st) S Q := r_aast h hlt ho hv hvv hj hn (kk _ (Wr.of hx))
theorem t_putf {sc : SC} {μ : MI} {mc ms k n pc : Nat} {lv : List (Nat × Value)} {st : List Value} {S : AS} {Q : Out → AS → Prop} {idx o ci kf : Nat} {t : FieldType} {V : Nat → Value} {v : Value} (h : cf (mCd μ) pc = some (.putfield idx, 3)) (hf : FL (mNm μ).cls idx ci kf false t) (hv : okv t v) (hx : S.2.2 = true) (hlt : o < S.2.1) (ho : S.1 o = oO ci V) (kk : ∀ S', Wr S o (oO ci (aup V kf v)) S' → Wp sc μ mc ms k n (pc + 3) lv st S' Q) : Wp sc μ mc ms k n pc lv (v :: .ref o :: st) S Q := r_putf h hf hv hlt ho (kk _ (Wr.of hx))
theorem t_putfN {sc : SC} {μ : MI} {mc ms k n pc : Nat} {lv : List (Nat × Value)} {st : List Value} {S : AS} {Q : Out → AS → Prop} {idx o ci kf : Nat} {t : FieldType} {V : Nat → Value} {v : Value} (h : cf (mCd μ) pc = some (.putfield idx, 3)) (hf : FLN (mNm μ).cls idx ci kf t) (hv : okv t v) (hx : S.2.2 = true) (hlt : o < S.2.1) (ho : S.1 o = oO ci V) (kk : ∀ S', Wr S o (oO ci (aup V kf v)) S' → Wp sc μ mc ms k n (pc + 3) lv st S' Q) : Wp sc μ mc ms k n pc lv (v :: .ref o :: st) S Q := r_putfN h hf hv hlt ho (kk _ (Wr.of hx))
theorem t_putF {sc : SC} {μ : MI} {mc ms k n pc : Nat} {lv : List (Nat × Value)} {st : List Value} {S : AS} {Q : Out → AS → Prop} {idx o ci kf : Nat} {t : FieldType} {V : Nat → Value} {v : Value} (h : cf (mCd μ) pc = some (.putfield idx, 3)) (hf : FL (mNm μ).cls idx ci kf true t) (hdecl : ∀ r : vw_C, vwCl[ci]? = some r → (r.2.1 kf).1 = (mNm μ).cls) (hni : (mNm μ).name = "<init>") (hv : okv t v) (hx : S.2.2 = true) (hlt : o < S.2.1) (ho : S.1 o = oO ci V) (kk : ∀ S', Wr S o (oO ci (aup V kf v)) S' → Wp sc μ mc ms k n (pc + 3) lv st S' Q) : Wp sc μ mc ms k n pc lv (v :: .ref o :: st) S Q := r_putF h hf hdecl hni hv hlt ho (kk _ (Wr.of hx))
theorem t_newa0 {sc : SC} {μ : MI} {mc ms k n pc : Nat} {lv : List (Nat × Value)} {st : List Value} {S : AS} {Q : Out → AS → Prop} {nn : Nat} (h : cf (mCd μ) pc = some (.newarray .int, 2)) (hx : S.2.2 = true) (hn : nn < 65536) (hk : k + 1 ≤ mc) (hs : n + nn ≤ ms) (kk : ∀ S', Nw S (oI0 0 nn (fun _ => 0)) S' → Wp sc μ mc ms (k + 1) (n + nn) (pc + 2) lv (.ref S.2.1 :: st) S' Q) : Wp sc μ mc ms k n pc lv (.int (nI nn) :: st) S Q := r_newa0 h ac_int hn hx hk hs (kk _ (Nw.of S _))
theorem t_newa1 {sc : SC} {μ : MI} {mc ms k n pc : Nat} {lv : List (Nat × Value)} {st : List Value} {S : AS} {Q : Out → AS → Prop} {nn : Nat} (h : cf (mCd μ) pc = some (.newarray .byte, 2)) (hx : S.2.2 = true) (hn : nn < 65536) (hk : k + 1 ≤ mc) (hs : n + nn ≤ ms) (kk : ∀ S', Nw S (oI0 1 nn (fun _ => 0)) S' → Wp sc μ mc ms (k + 1) (n + nn) (pc + 2) lv (.ref S.2.1 :: st) S' Q) : Wp sc μ mc ms k n pc lv (.int (nI nn) :: st) S Q := r_newa1 h ac_byte hn hx hk hs (kk _ (Nw.of S _))
theorem t_newa2 {sc : SC} {μ : MI} {mc ms k n pc : Nat} {lv : List (Nat × Value)} {st : List Value} {S : AS} {Q : Out → AS → Prop} {nn : Nat} (h : cf (mCd μ) pc = some (.newarray .boolean, 2)) (hx : S.2.2 = true) (hn : nn < 65536) (hk : k + 1 ≤ mc) (hs : n + nn ≤ ms) (kk : ∀ S', Nw S (oI0 2 nn (fun _ => 0)) S' → Wp sc μ mc ms (k + 1) (n + nn) (pc + 2) lv (.ref S.2.1 :: st) S' Q) : Wp sc μ mc ms k n pc lv (.int (nI nn) :: st) S Q := r_newa2 h ac_boolean hn hx hk hs (kk _ (Nw.of S _))
theorem t_newa3 {sc : SC} {μ : MI} {mc ms k n pc : Nat} {lv : List (Nat × Value)} {st : List Value} {S : AS} {Q : Out → AS → Prop} {nn : Nat} (h : cf (mCd μ) pc = some (.newarray .long, 2)) (hx : S.2.2 = true) (hn : nn < 65536) (hk : k + 1 ≤ mc) (hs : n + nn ≤ ms) (kk : ∀ S', Nw S (oL nn (fun _ => 0)) S' → Wp sc μ mc ms (k + 1) (n + nn) (pc + 2) lv (.ref S.2.1 :: st) S' Q) : Wp sc μ mc ms k n pc lv (.int (nI nn) :: st) S Q := r_newa3 h ac_long hn hx hk hs (kk _ (Nw.of S _))
theorem t_anewQ {sc : SC} {μ : MI} {mc ms k n pc : Nat} {lv : List (Nat × Value)} {st : List Value} {S : AS} {Q : Out → AS → Prop} {idx nn : Nat} (h : cf (mCd μ) pc = some (.anewarray idx, 3)) (hw : Cond.classLink (mNm μ).cls idx "[I" ∈ lw_gd) (hx : S.2.2 = true) (hn : nn < 65536) (hk : k + 1 ≤ mc) (hs : n + nn ≤ ms) (kk : ∀ S', Nw S (oQ nn (fun _ => .null)) S' → Wp sc μ mc ms (k + 1) (n + nn) (pc + 3) lv (.ref S.2.1 :: st) S' Q) : Wp sc μ mc ms k n pc lv (.int (nI nn) :: st) S Q := r_anewQ h hw hn hx hk hs (kk _ (Nw.of S _))
theorem t_new {sc : SC} {μ : MI} {mc ms k n pc : Nat} {lv : List (Nat × Value)} {st : List Value} {S : AS} {Q : Out → AS → Prop} {idx ci N : Nat} {C : String} {T : u_T} {ty : Nat → FieldType} {V : Nat → Value} (h : cf (mCd μ) pc = some (.new idx, 3)) (hci : CI ci C T N ty) (hw : Cond.classLink (mNm μ).cls idx C ∈ lw_gd ∧ Cond.instantiable C N ∈ lw_gd ∧ Cond.initialized C ∈ lw_gd) (hV : ∀ (κ : KX) (j : Nat), j < N → defaultValue (ty j) = cv κ (V j)) (hx : S.2.2 = true) (hk : k + 1 ≤ mc) (hs : n + N ≤ ms) (kk : ∀ S', Nw S (oO ci V) S' → Wp sc μ mc ms (k + 1) (n + N) (pc + 3) lv (.ref S.2.1 :: st) S' Q) : Wp sc μ mc ms k n pc lv st S Q := r_new h hci hw.1 hw.2.1 hw.2.2 hV hx hk hs (kk _ (Nw.of S _))
theorem t_cpyb {sc : SC} {μ : MI} {mc ms k n pc : Nat} {lv : List (Nat × Value)} {st : List Value} {S : AS} {Q : Out → AS → Prop} {idx a b sp dp w na nb : Nat} {f g : Nat → Int32} (h : cf (mCd μ) pc = some (.invokestatic idx, 3)) (hw : Cond.methodLink (mNm μ).cls idx arraycopyName ∈ lw_gd) (hx : S.2.2 = true) (ha : a < S.2.1) (hb : b < S.2.1) (hga : S.1 a = oI0 1 na f) (hgb : S.1 b = oI0 1 nb g) (h1 : sp + w ≤ na) (h2 : dp + w ≤ nb) (hna : na < 2147483648) (hnb : nb < 2147483648) (hfit : bFit f) (hfr : Nat.ble 1 (mFr μ) = true) (hlo : Nat.ble ((st.map fun v => v.category).sum + 40) (mLo μ) = true)
    (kk : ∀ S', Wr S b (oI0 1 nb (va_cpy f g sp dp w)) S' → Wp sc μ mc ms k n (pc + 3) lv st S' Q) : Wp sc μ mc ms k n pc lv (.int (nI w) :: .int (nI dp) :: .ref b :: .int (nI sp) :: .ref a :: st) S Q := r_cpyb h hw ha hb hga hgb h1 h2 hna hnb hfit hfr hlo (kk _ (Wr.of hx))
theorem t_cpyT {sc : SC} {μ : MI} {mc ms k n pc : Nat} {lv : List (Nat × Value)} {st : List Value} {S : AS} {Q : Out → AS → Prop} {idx i b sp dp w nb : Nat} {x : String × Nat × String × List Int32} {g : Nat → Int32} (h : cf (mCd μ) pc = some (.invokestatic idx, 3)) (hw : Cond.methodLink (mNm μ).cls idx arraycopyName ∈ lw_gd) (hx : S.2.2 = true) (hs : strJ[i]? = some x) (hb : b < S.2.1) (hgb : S.1 b = oI0 1 nb g) (h1 : sp + w ≤ x.2.2.2.length) (h2 : dp + w ≤ nb) (hna : x.2.2.2.length < 2147483648) (hnb : nb < 2147483648) (hfit : bFit (fun j => x.2.2.2.getD j 0)) (hfr : Nat.ble 1 (mFr μ) = true) (hlo : Nat.ble ((st.map fun v => v.category).sum + 40) (mLo μ) = true)
    (kk : ∀ S', Wr S b (oI0 1 nb (va_cpy (fun j => x.2.2.2.getD j 0) g sp dp w)) S' → Wp sc μ mc ms k n (pc + 3) lv st S' Q) : Wp sc μ mc ms k n pc lv (.int (nI w) :: .int (nI dp) :: .ref b :: .int (nI sp) :: .retAddr (50 + i) :: st) S Q := r_cpyT h hw hs hb hgb h1 h2 hna hnb hfit hfr hlo (kk _ (Wr.of hx))
/-- how a contract tells the state behind: nothing old changed but what is named -/
def Fr (S S' : AS) (X : Nat → Prop) : Prop := S.2.1 ≤ S'.2.1 ∧ S'.2.2 = true ∧ ∀ i, i < S.2.1 → ¬ X i → S'.1 i = S.1 i
abbrev Xno : Nat → Prop := fun _ => False
abbrev Xat (o : Nat) : Nat → Prop := fun i => i = o
theorem Fr.rf {S : AS} {X : Nat → Prop} (hx : S.2.2 = true) : Fr S S X := ⟨Nat.le_refl _, hx, fun _ _ _ => rfl⟩
theorem Fr.tr {S S' S'' : AS} {X Y : Nat → Prop} (h : Fr S S' X) (g : Fr S' S'' Y) (hX : ∀ i, i < S.2.1 → X i → Y i) : Fr S S'' Y := ⟨Nat.le_trans h.1 g.1, g.2.1, fun i hi hn => (g.2.2 i (Nat.lt_of_lt_of_le hi h.1) hn).trans (h.2.2 i hi (fun z => hn (hX i hi z)))⟩
theorem Fr.wr {S S' S'' : AS} {X : Nat → Prop} {o : Nat} {e : AE} (h : Fr S S' X) (g : Wr S' o e S'') (ho : o < S.2.1 → X o) : Fr S S'' X := ⟨by rw [g.1]; exact h.1, g.2.1, fun i hi hn => (g.2.2.2 i (fun z => hn (by rw [z]; exact ho (by rw [← z]; exact hi)))).trans (h.2.2 i hi hn)⟩
theorem Fr.nw {S S' S'' : AS} {X : Nat → Prop} {e : AE} (h : Fr S S' X) (g : Nw S' e S'') : Fr S S'' X := ⟨by have := h.1; have := g.1; omega, g.2.1, fun i hi hn => (g.2.2.2 i (Nat.lt_of_lt_of_le hi h.1)).trans (h.2.2 i hi hn)⟩
/-- a contract's answers: a value and the state -/
def AR (P : Value → AS → Prop) : Out → AS → Prop := fun o S' => ∃ v, o = .inl (some v) ∧ P v S'
def AV0 (P : AS → Prop) : Out → AS → Prop := fun o S' => o = .inl none ∧ P S'
theorem AR_no {P : Value → AS → Prop} : ∀ ec S', ¬ AR P (.inr ec) S' := fun _ _ ⟨_, h, _⟩ => nomatch h
theorem AV0_no {P : AS → Prop} : ∀ ec S', ¬ AV0 P (.inr ec) S' := fun _ _ ⟨h, _⟩ => nomatch h
theorem t_clone {sc : SC} {μ : MI} {mc ms k n pc : Nat} {lv : List (Nat × Value)} {st : List Value} {S : AS} {Q : Out → AS → Prop} {idx a na : Nat} {f : Nat → Int32} (h : cf (mCd μ) pc = some (.invokevirtual idx, 3)) (hw : Cond.methodLink (mNm μ).cls idx clN ∈ lw_gd) (hx : S.2.2 = true) (ha : a < S.2.1) (hga : S.1 a = oI0 1 na f) (hfit : bFit f) (hfr : Nat.ble 1 (mFr μ) = true) (hlo : Nat.ble ((st.map fun v => v.category).sum + 40) (mLo μ) = true) (hk : k + 1 ≤ mc) (hn : n + na ≤ ms)
    (kk : ∀ S', Nw S (oI0 1 na f) S' → Wp sc μ mc ms (k + 1) (n + na) (pc + 3) lv (.ref S.2.1 :: st) S' Q) : Wp sc μ mc ms k n pc lv (.ref a :: st) S Q := r_clone h hw cl_1 cl_2 cl_3 cl_4 ha hga hfit hx hfr hlo hk hn (kk _ (Nw.of S _))
def dW (ty : Nat → FieldType) (k : Nat) : Value := defaultValue (ty k)
theorem dW_cv (κ : KX) (ty : Nat → FieldType) (j : Nat) : defaultValue (ty j) = cv κ (dW ty j) := by
  unfold dW
  cases ty j <;> rfl
theorem okv_b0 : okv .byte (.int (nI 0)) := fun _ => ⟨rfl, rfl⟩
theorem c_staA {sc : SC} {μ ν : MI} {mc ms k n mc1 ms1 pc : Nat} {lv : List (Nat × Value)} {st : List Value} {S : AS} {Q : Out → AS → Prop} {idx : Nat} {P : Value → AS → Prop} (as rest : List Value) (h : cf (mCd μ) pc = some (.invokestatic idx, 3)) (hL : LS9 (mNm μ).cls idx ν as.length) (hcal : Cal sc ν mc1 ms1 as S (AR P)) (hst : st = as.reverse ++ rest) (hrm : rmB μ ν rest = true) (hmc : k + mc1 ≤ mc) (hms : n + ms1 ≤ ms) (hh : mHh μ = []) 
    (kk : ∀ v S', P v S' → Wp sc μ mc ms (k + mc1) (n + ms1) (pc + 3) lv (v :: rest) S' Q) : Wp sc μ mc ms k n pc lv st S Q := by
  refine r_sta as rest h hL hcal hst hrm hmc hms hh (fun ec S' q => (AR_no ec S' q).elim) ?_
  rintro r S' ⟨v, z, hp⟩
  cases z
  exact kk v S' hp
theorem c_staV {sc : SC} {μ ν : MI} {mc ms k n mc1 ms1 pc : Nat} {lv : List (Nat × Value)} {st : List Value} {S : AS} {Q : Out → AS → Prop} {idx : Nat} {P : AS → Prop} (as rest : List Value) (h : cf (mCd μ) pc = some (.invokestatic idx, 3)) (hL : LS9 (mNm μ).cls idx ν as.length) (hcal : Cal sc ν mc1 ms1 as S (AV0 P)) (hst : st = as.reverse ++ rest) (hrm : rmB μ ν rest = true) (hmc : k + mc1 ≤ mc) (hms : n + ms1 ≤ ms) (hh : mHh μ = []) 
    (kk : ∀ S', P S' → Wp sc μ mc ms (k + mc1) (n + ms1) (pc + 3) lv rest S' Q) : Wp sc μ mc ms k n pc lv st S Q := by
  refine r_sta as rest h hL hcal hst hrm hmc hms hh (fun ec S' q => (AV0_no ec S' q).elim) ?_
  rintro r S' ⟨z, hp⟩
  cases z
  exact kk S' hp
theorem c_staNA {sc : SC} {μ ν : MI} {mc ms k n mc1 ms1 pc : Nat} {lv : List (Nat × Value)} {st : List Value} {S : AS} {Q : Out → AS → Prop} {idx : Nat} {P : Value → AS → Prop} (as rest : List Value) (h : cf (mCd μ) pc = some (.invokestatic idx, 3)) (hL : LSN (mNm μ).cls idx ν as.length) (hcal : Cal sc ν mc1 ms1 as S (AR P)) (hst : st = as.reverse ++ rest) (hrm : rmB μ ν rest = true) (hmc : k + mc1 ≤ mc) (hms : n + ms1 ≤ ms) 
    (kk : ∀ v S', P v S' → Wp sc μ mc ms (k + mc1) (n + ms1) (pc + 3) lv (v :: rest) S' Q) : Wp sc μ mc ms k n pc lv st S Q := by
  refine r_staN as rest h hL hcal AR_no hst hrm hmc hms ?_
  rintro r S' ⟨v, z, hp⟩
  cases z
  exact kk v S' hp
theorem c_staNV {sc : SC} {μ ν : MI} {mc ms k n mc1 ms1 pc : Nat} {lv : List (Nat × Value)} {st : List Value} {S : AS} {Q : Out → AS → Prop} {idx : Nat} {P : AS → Prop} (as rest : List Value) (h : cf (mCd μ) pc = some (.invokestatic idx, 3)) (hL : LSN (mNm μ).cls idx ν as.length) (hcal : Cal sc ν mc1 ms1 as S (AV0 P)) (hst : st = as.reverse ++ rest) (hrm : rmB μ ν rest = true) (hmc : k + mc1 ≤ mc) (hms : n + ms1 ≤ ms) 
    (kk : ∀ S', P S' → Wp sc μ mc ms (k + mc1) (n + ms1) (pc + 3) lv rest S' Q) : Wp sc μ mc ms k n pc lv st S Q := by
  refine r_staN as rest h hL hcal AV0_no hst hrm hmc hms ?_
  rintro r S' ⟨z, hp⟩
  cases z
  exact kk S' hp
theorem c_virA {sc : SC} {μ ν : MI} {mc ms k n mc1 ms1 pc : Nat} {lv : List (Nat × Value)} {st : List Value} {S : AS} {Q : Out → AS → Prop} {idx : Nat} {P : Value → AS → Prop} {o ci : Nat} {V : Nat → Value} {r : vw_C} (as rest : List Value) (h : cf (mCd μ) pc = some (.invokevirtual idx, 3)) (hL : LV (mNm μ).cls idx ν as.length) (hlt : o < S.2.1) (ho : S.1 o = .inr (.inr (ci, V))) (hc9 : vwCl[ci]? = some r) (hc : r.1 = (mNm ν).cls) (hcal : Cal sc ν mc1 ms1 (.ref o :: as) S (AR P)) (hst : st = as.reverse ++ .ref o :: rest) (hrm : rmB μ ν rest = true) (hmc : k + mc1 ≤ mc) (hms : n + ms1 ≤ ms) (hh : mHh μ = []) 
    (kk : ∀ v S', P v S' → Wp sc μ mc ms (k + mc1) (n + ms1) (pc + 3) lv (v :: rest) S' Q) : Wp sc μ mc ms k n pc lv st S Q := by
  refine r_vir as rest h hL hlt ho hc9 hc hcal hst hrm hmc hms hh (fun ec S' q => (AR_no ec S' q).elim) ?_
  rintro r S' ⟨v, z, hp⟩
  cases z
  exact kk v S' hp
theorem c_virV {sc : SC} {μ ν : MI} {mc ms k n mc1 ms1 pc : Nat} {lv : List (Nat × Value)} {st : List Value} {S : AS} {Q : Out → AS → Prop} {idx : Nat} {P : AS → Prop} {o ci : Nat} {V : Nat → Value} {r : vw_C} (as rest : List Value) (h : cf (mCd μ) pc = some (.invokevirtual idx, 3)) (hL : LV (mNm μ).cls idx ν as.length) (hlt : o < S.2.1) (ho : S.1 o = .inr (.inr (ci, V))) (hc9 : vwCl[ci]? = some r) (hc : r.1 = (mNm ν).cls) (hcal : Cal sc ν mc1 ms1 (.ref o :: as) S (AV0 P)) (hst : st = as.reverse ++ .ref o :: rest) (hrm : rmB μ ν rest = true) (hmc : k + mc1 ≤ mc) (hms : n + ms1 ≤ ms) (hh : mHh μ = []) 
    (kk : ∀ S', P S' → Wp sc μ mc ms (k + mc1) (n + ms1) (pc + 3) lv rest S' Q) : Wp sc μ mc ms k n pc lv st S Q := by
  refine r_vir as rest h hL hlt ho hc9 hc hcal hst hrm hmc hms hh (fun ec S' q => (AV0_no ec S' q).elim) ?_
  rintro r S' ⟨z, hp⟩
  cases z
  exact kk S' hp
theorem c_virNA {sc : SC} {μ ν : MI} {mc ms k n mc1 ms1 pc : Nat} {lv : List (Nat × Value)} {st : List Value} {S : AS} {Q : Out → AS → Prop} {idx : Nat} {P : Value → AS → Prop} {o ci : Nat} {V : Nat → Value} {r : vw_C} (as rest : List Value) (h : cf (mCd μ) pc = some (.invokevirtual idx, 3)) (hL : LVN (mNm μ).cls idx ν as.length) (hlt : o < S.2.1) (ho : S.1 o = .inr (.inr (ci, V))) (hc9 : vwCl[ci]? = some r) (hc : r.1 = (mNm ν).cls) (hcal : Cal sc ν mc1 ms1 (.ref o :: as) S (AR P)) (hst : st = as.reverse ++ .ref o :: rest) (hrm : rmB μ ν rest = true) (hmc : k + mc1 ≤ mc) (hms : n + ms1 ≤ ms) 
    (kk : ∀ v S', P v S' → Wp sc μ mc ms (k + mc1) (n + ms1) (pc + 3) lv (v :: rest) S' Q) : Wp sc μ mc ms k n pc lv st S Q := by
  refine r_virN as rest h hL hlt ho hc9 hc hcal AR_no hst hrm hmc hms ?_
  rintro r S' ⟨v, z, hp⟩
  cases z
  exact kk v S' hp
theorem c_virNV {sc : SC} {μ ν : MI} {mc ms k n mc1 ms1 pc : Nat} {lv : List (Nat × Value)} {st : List Value} {S : AS} {Q : Out → AS → Prop} {idx : Nat} {P : AS → Prop} {o ci : Nat} {V : Nat → Value} {r : vw_C} (as rest : List Value) (h : cf (mCd μ) pc = some (.invokevirtual idx, 3)) (hL : LVN (mNm μ).cls idx ν as.length) (hlt : o < S.2.1) (ho : S.1 o = .inr (.inr (ci, V))) (hc9 : vwCl[ci]? = some r) (hc : r.1 = (mNm ν).cls) (hcal : Cal sc ν mc1 ms1 (.ref o :: as) S (AV0 P)) (hst : st = as.reverse ++ .ref o :: rest) (hrm : rmB μ ν rest = true) (hmc : k + mc1 ≤ mc) (hms : n + ms1 ≤ ms) 
    (kk : ∀ S', P S' → Wp sc μ mc ms (k + mc1) (n + ms1) (pc + 3) lv rest S' Q) : Wp sc μ mc ms k n pc lv st S Q := by
  refine r_virN as rest h hL hlt ho hc9 hc hcal AV0_no hst hrm hmc hms ?_
  rintro r S' ⟨z, hp⟩
  cases z
  exact kk S' hp
theorem c_virSA {sc : SC} {μ ν : MI} {mc ms k n mc1 ms1 pc : Nat} {lv : List (Nat × Value)} {st : List Value} {S : AS} {Q : Out → AS → Prop} {idx : Nat} {P : Value → AS → Prop} {o ci : Nat} {V : Nat → Value} {r : vw_C} (as rest : List Value) (h : cf (mCd μ) pc = some (.invokevirtual idx, 3)) (hL : LVS (mNm μ).cls idx r.1 ν as.length) (hlt : o < S.2.1) (ho : S.1 o = .inr (.inr (ci, V))) (hc9 : vwCl[ci]? = some r) (hcal : Cal sc ν mc1 ms1 (.ref o :: as) S (AR P)) (hst : st = as.reverse ++ .ref o :: rest) (hrm : rmB μ ν rest = true) (hmc : k + mc1 ≤ mc) (hms : n + ms1 ≤ ms) 
    (kk : ∀ v S', P v S' → Wp sc μ mc ms (k + mc1) (n + ms1) (pc + 3) lv (v :: rest) S' Q) : Wp sc μ mc ms k n pc lv st S Q := by
  refine r_virS as rest h hL hlt ho hc9 hcal AR_no hst hrm hmc hms ?_
  rintro r S' ⟨v, z, hp⟩
  cases z
  exact kk v S' hp
theorem c_virSV {sc : SC} {μ ν : MI} {mc ms k n mc1 ms1 pc : Nat} {lv : List (Nat × Value)} {st : List Value} {S : AS} {Q : Out → AS → Prop} {idx : Nat} {P : AS → Prop} {o ci : Nat} {V : Nat → Value} {r : vw_C} (as rest : List Value) (h : cf (mCd μ) pc = some (.invokevirtual idx, 3)) (hL : LVS (mNm μ).cls idx r.1 ν as.length) (hlt : o < S.2.1) (ho : S.1 o = .inr (.inr (ci, V))) (hc9 : vwCl[ci]? = some r) (hcal : Cal sc ν mc1 ms1 (.ref o :: as) S (AV0 P)) (hst : st = as.reverse ++ .ref o :: rest) (hrm : rmB μ ν rest = true) (hmc : k + mc1 ≤ mc) (hms : n + ms1 ≤ ms) 
    (kk : ∀ S', P S' → Wp sc μ mc ms (k + mc1) (n + ms1) (pc + 3) lv rest S' Q) : Wp sc μ mc ms k n pc lv st S Q := by
  refine r_virS as rest h hL hlt ho hc9 hcal AV0_no hst hrm hmc hms ?_
  rintro r S' ⟨z, hp⟩
  cases z
  exact kk S' hp
theorem c_virOA {sc : SC} {μ ν : MI} {mc ms k n mc1 ms1 pc : Nat} {lv : List (Nat × Value)} {st : List Value} {S : AS} {Q : Out → AS → Prop} {idx : Nat} {P : Value → AS → Prop} {o ci : Nat} {V : Nat → Value} {r : vw_C} {x : MethodName} (as rest : List Value) (h : cf (mCd μ) pc = some (.invokevirtual idx, 3)) (hL : LVO (mNm μ).cls idx r.1 x ν as.length) (hlt : o < S.2.1) (ho : S.1 o = .inr (.inr (ci, V))) (hc9 : vwCl[ci]? = some r) (hcal : Cal sc ν mc1 ms1 (.ref o :: as) S (AR P)) (hst : st = as.reverse ++ .ref o :: rest) (hrm : rmB μ ν rest = true) (hmc : k + mc1 ≤ mc) (hms : n + ms1 ≤ ms) 
    (kk : ∀ v S', P v S' → Wp sc μ mc ms (k + mc1) (n + ms1) (pc + 3) lv (v :: rest) S' Q) : Wp sc μ mc ms k n pc lv st S Q := by
  refine r_virO as rest h hL hlt ho hc9 hcal AR_no hst hrm hmc hms ?_
  rintro r S' ⟨v, z, hp⟩
  cases z
  exact kk v S' hp
theorem c_virOV {sc : SC} {μ ν : MI} {mc ms k n mc1 ms1 pc : Nat} {lv : List (Nat × Value)} {st : List Value} {S : AS} {Q : Out → AS → Prop} {idx : Nat} {P : AS → Prop} {o ci : Nat} {V : Nat → Value} {r : vw_C} {x : MethodName} (as rest : List Value) (h : cf (mCd μ) pc = some (.invokevirtual idx, 3)) (hL : LVO (mNm μ).cls idx r.1 x ν as.length) (hlt : o < S.2.1) (ho : S.1 o = .inr (.inr (ci, V))) (hc9 : vwCl[ci]? = some r) (hcal : Cal sc ν mc1 ms1 (.ref o :: as) S (AV0 P)) (hst : st = as.reverse ++ .ref o :: rest) (hrm : rmB μ ν rest = true) (hmc : k + mc1 ≤ mc) (hms : n + ms1 ≤ ms) 
    (kk : ∀ S', P S' → Wp sc μ mc ms (k + mc1) (n + ms1) (pc + 3) lv rest S' Q) : Wp sc μ mc ms k n pc lv st S Q := by
  refine r_virO as rest h hL hlt ho hc9 hcal AV0_no hst hrm hmc hms ?_
  rintro r S' ⟨z, hp⟩
  cases z
  exact kk S' hp
theorem c_superA {sc : SC} {μ ν : MI} {mc ms k n mc1 ms1 pc : Nat} {lv : List (Nat × Value)} {st : List Value} {S : AS} {Q : Out → AS → Prop} {idx : Nat} {P : Value → AS → Prop} {o ci : Nat} {V : Nat → Value} {r : vw_C} (as rest : List Value) (h : cf (mCd μ) pc = some (.invokespecial idx, 3)) (hL : LSU (mNm μ).cls idx ν as.length) (hlt : o < S.2.1) (ho : S.1 o = .inr (.inr (ci, V))) (hc9 : vwCl[ci]? = some r) (hcal : Cal sc ν mc1 ms1 (.ref o :: as) S (AR P)) (hst : st = as.reverse ++ .ref o :: rest) (hrm : rmB μ ν rest = true) (hmc : k + mc1 ≤ mc) (hms : n + ms1 ≤ ms) 
    (kk : ∀ v S', P v S' → Wp sc μ mc ms (k + mc1) (n + ms1) (pc + 3) lv (v :: rest) S' Q) : Wp sc μ mc ms k n pc lv st S Q := by
  refine r_super as rest h hL hlt ho hc9 hcal AR_no hst hrm hmc hms ?_
  rintro r S' ⟨v, z, hp⟩
  cases z
  exact kk v S' hp
theorem c_superV {sc : SC} {μ ν : MI} {mc ms k n mc1 ms1 pc : Nat} {lv : List (Nat × Value)} {st : List Value} {S : AS} {Q : Out → AS → Prop} {idx : Nat} {P : AS → Prop} {o ci : Nat} {V : Nat → Value} {r : vw_C} (as rest : List Value) (h : cf (mCd μ) pc = some (.invokespecial idx, 3)) (hL : LSU (mNm μ).cls idx ν as.length) (hlt : o < S.2.1) (ho : S.1 o = .inr (.inr (ci, V))) (hc9 : vwCl[ci]? = some r) (hcal : Cal sc ν mc1 ms1 (.ref o :: as) S (AV0 P)) (hst : st = as.reverse ++ .ref o :: rest) (hrm : rmB μ ν rest = true) (hmc : k + mc1 ≤ mc) (hms : n + ms1 ≤ ms) 
    (kk : ∀ S', P S' → Wp sc μ mc ms (k + mc1) (n + ms1) (pc + 3) lv rest S' Q) : Wp sc μ mc ms k n pc lv st S Q := by
  refine r_super as rest h hL hlt ho hc9 hcal AV0_no hst hrm hmc hms ?_
  rintro r S' ⟨z, hp⟩
  cases z
  exact kk S' hp
theorem c_iniA {sc : SC} {μ ν : MI} {mc ms k n mc1 ms1 pc : Nat} {lv : List (Nat × Value)} {st : List Value} {S : AS} {Q : Out → AS → Prop} {idx : Nat} {P : Value → AS → Prop} {o : Nat} (as rest : List Value) (h : cf (mCd μ) pc = some (.invokespecial idx, 3)) (hL : LI (mNm μ).cls idx ν as.length) (hcal : Cal sc ν mc1 ms1 (.ref o :: as) S (AR P)) (hst : st = as.reverse ++ .ref o :: rest) (hrm : rmB μ ν rest = true) (hmc : k + mc1 ≤ mc) (hms : n + ms1 ≤ ms) 
    (kk : ∀ v S', P v S' → Wp sc μ mc ms (k + mc1) (n + ms1) (pc + 3) lv (v :: rest) S' Q) : Wp sc μ mc ms k n pc lv st S Q := by
  refine r_ini as rest h hL hcal AR_no hst hrm hmc hms ?_
  rintro r S' ⟨v, z, hp⟩
  cases z
  exact kk v S' hp
theorem c_iniV {sc : SC} {μ ν : MI} {mc ms k n mc1 ms1 pc : Nat} {lv : List (Nat × Value)} {st : List Value} {S : AS} {Q : Out → AS → Prop} {idx : Nat} {P : AS → Prop} {o : Nat} (as rest : List Value) (h : cf (mCd μ) pc = some (.invokespecial idx, 3)) (hL : LI (mNm μ).cls idx ν as.length) (hcal : Cal sc ν mc1 ms1 (.ref o :: as) S (AV0 P)) (hst : st = as.reverse ++ .ref o :: rest) (hrm : rmB μ ν rest = true) (hmc : k + mc1 ≤ mc) (hms : n + ms1 ≤ ms) 
    (kk : ∀ S', P S' → Wp sc μ mc ms (k + mc1) (n + ms1) (pc + 3) lv rest S' Q) : Wp sc μ mc ms k n pc lv st S Q := by
  refine r_ini as rest h hL hcal AV0_no hst hrm hmc hms ?_
  rintro r S' ⟨z, hp⟩
  cases z
  exact kk S' hp
theorem c_iniNA {sc : SC} {μ ν : MI} {mc ms k n mc1 ms1 pc : Nat} {lv : List (Nat × Value)} {st : List Value} {S : AS} {Q : Out → AS → Prop} {idx : Nat} {P : Value → AS → Prop} {o : Nat} (as rest : List Value) (h : cf (mCd μ) pc = some (.invokespecial idx, 3)) (hL : LIN (mNm μ).cls idx ν as.length) (hcal : Cal sc ν mc1 ms1 (.ref o :: as) S (AR P)) (hst : st = as.reverse ++ .ref o :: rest) (hrm : rmB μ ν rest = true) (hmc : k + mc1 ≤ mc) (hms : n + ms1 ≤ ms) 
    (kk : ∀ v S', P v S' → Wp sc μ mc ms (k + mc1) (n + ms1) (pc + 3) lv (v :: rest) S' Q) : Wp sc μ mc ms k n pc lv st S Q := by
  refine r_iniN as rest h hL hcal AR_no hst hrm hmc hms ?_
  rintro r S' ⟨v, z, hp⟩
  cases z
  exact kk v S' hp
theorem c_iniNV {sc : SC} {μ ν : MI} {mc ms k n mc1 ms1 pc : Nat} {lv : List (Nat × Value)} {st : List Value} {S : AS} {Q : Out → AS → Prop} {idx : Nat} {P : AS → Prop} {o : Nat} (as rest : List Value) (h : cf (mCd μ) pc = some (.invokespecial idx, 3)) (hL : LIN (mNm μ).cls idx ν as.length) (hcal : Cal sc ν mc1 ms1 (.ref o :: as) S (AV0 P)) (hst : st = as.reverse ++ .ref o :: rest) (hrm : rmB μ ν rest = true) (hmc : k + mc1 ≤ mc) (hms : n + ms1 ≤ ms) 
    (kk : ∀ S', P S' → Wp sc μ mc ms (k + mc1) (n + ms1) (pc + 3) lv rest S' Q) : Wp sc μ mc ms k n pc lv st S Q := by
  refine r_iniN as rest h hL hcal AV0_no hst hrm hmc hms ?_
  rintro r S' ⟨z, hp⟩
  cases z
  exact kk S' hp
theorem c_virKA {sc : SC} {μ ν : MI} {mc ms k n mc1 ms1 pc : Nat} {lv : List (Nat × Value)} {st : List Value} {S : AS} {Q : Out → AS → Prop} {idx : Nat} {P : Value → AS → Prop} {i : Nat} {x : String × Nat × String × List Int32} (as rest : List Value) (h : cf (mCd μ) pc = some (.invokevirtual idx, 3)) (hL : LV (mNm μ).cls idx ν as.length) (hs : strJ[i]? = some x) (hc : "java/lang/String" = (mNm ν).cls) (hcal : Cal sc ν mc1 ms1 (.retAddr i :: as) S (AR P)) (hst : st = as.reverse ++ .retAddr i :: rest) (hrm : rmB μ ν rest = true) (hmc : k + mc1 ≤ mc) (hms : n + ms1 ≤ ms) 
    (kk : ∀ v S', P v S' → Wp sc μ mc ms (k + mc1) (n + ms1) (pc + 3) lv (v :: rest) S' Q) : Wp sc μ mc ms k n pc lv st S Q := by
  refine r_virK as rest h hL hs hc hcal AR_no hst hrm hmc hms ?_
  rintro r S' ⟨v, z, hp⟩
  cases z
  exact kk v S' hp
theorem c_virKV {sc : SC} {μ ν : MI} {mc ms k n mc1 ms1 pc : Nat} {lv : List (Nat × Value)} {st : List Value} {S : AS} {Q : Out → AS → Prop} {idx : Nat} {P : AS → Prop} {i : Nat} {x : String × Nat × String × List Int32} (as rest : List Value) (h : cf (mCd μ) pc = some (.invokevirtual idx, 3)) (hL : LV (mNm μ).cls idx ν as.length) (hs : strJ[i]? = some x) (hc : "java/lang/String" = (mNm ν).cls) (hcal : Cal sc ν mc1 ms1 (.retAddr i :: as) S (AV0 P)) (hst : st = as.reverse ++ .retAddr i :: rest) (hrm : rmB μ ν rest = true) (hmc : k + mc1 ≤ mc) (hms : n + ms1 ≤ ms) 
    (kk : ∀ S', P S' → Wp sc μ mc ms (k + mc1) (n + ms1) (pc + 3) lv rest S' Q) : Wp sc μ mc ms k n pc lv st S Q := by
  refine r_virK as rest h hL hs hc hcal AV0_no hst hrm hmc hms ?_
  rintro r S' ⟨z, hp⟩
  cases z
  exact kk S' hp
