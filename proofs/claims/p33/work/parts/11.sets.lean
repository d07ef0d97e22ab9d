/-! States as a base and the rows that are new. -/
theorem nbq_f {a b : Nat} (h : ¬ a = b) : Nat.beq a b = false := by
  cases e : Nat.beq a b with
  | false => rfl
  | true => exact absurd (Nat.eq_of_beq_eq_true e) h
def gt {α : Type} : List (Nat × (Nat → α)) → (Nat → Nat → α) → Nat → Nat → α
  | [], f => f
  | e :: t, f => fun o => cond (Nat.beq o e.1) e.2 (gt t f o)
def rp {α : Type} : List (Nat × (Nat → α)) → Nat → (Nat → α) → List (Nat × (Nat → α))
  | [], o, f => [(o, f)]
  | e :: t, o, f => cond (Nat.beq e.1 o) ((e.1, f) :: t) (e :: rp t o f)
def rps {α : Type} (L : List (Nat × (Nat → α))) : List (Nat × (Nat → α)) → List (Nat × (Nat → α))
  | [] => L
  | e :: t => rp (rps L t) e.1 e.2
def mz (σ : SS) (L : List (Nat × (Nat → Int32))) (M : List (Nat × (Nat → Int64))) : SS := (gt L σ.1, gt M σ.2)
theorem gt_rp {α : Type} (L : List (Nat × (Nat → α))) (f : Nat → Nat → α) (o : Nat) (g : Nat → α) : gt (rp L o g) f = fun a => if a = o then g else gt L f a := by
  induction L with
  | nil =>
    funext a
    show cond (Nat.beq a o) g (f a) = if a = o then g else f a
    by_cases h : a = o
    · rw [if_pos h, h, Nat.beq_refl]; rfl
    · rw [if_neg h, nbq_f h]; rfl
  | cons e t ih =>
    funext a
    show gt (cond (Nat.beq e.1 o) ((e.1, g) :: t) (e :: rp t o g)) f a = if a = o then g else cond (Nat.beq a e.1) e.2 (gt t f a)
    by_cases h : e.1 = o
    · rw [h, Nat.beq_refl]
      show cond (Nat.beq a o) g (gt t f a) = if a = o then g else cond (Nat.beq a o) e.2 (gt t f a)
      by_cases h2 : a = o
      · rw [if_pos h2, h2, Nat.beq_refl]; rfl
      · rw [if_neg h2, nbq_f h2]; rfl
    · rw [nbq_f h]
      show cond (Nat.beq a e.1) e.2 (gt (rp t o g) f a) = _
      rw [ih]
      by_cases h2 : a = e.1
      · have h3 : ¬ a = o := fun q => h (h2 ▸ q)
        rw [if_neg h3]
        rw [h2, Nat.beq_refl]; rfl
      · rw [nbq_f h2]; rfl
theorem gt_rps {α : Type} (L L1 : List (Nat × (Nat → α))) (f : Nat → Nat → α) : gt (rps L L1) f = gt L1 (gt L f) := by
  induction L1 with
  | nil => rfl
  | cons e t ih =>
    show gt (rp (rps L t) e.1 e.2) f = _
    rw [gt_rp]
    funext a
    show _ = cond (Nat.beq a e.1) e.2 (gt t (gt L f) a)
    by_cases h : a = e.1
    · rw [if_pos h, h, Nat.beq_refl]; rfl
    · rw [if_neg h, nbq_f h, ih]; rfl
theorem mz_I (σ : SS) (L : List (Nat × (Nat → Int32))) (M : List (Nat × (Nat → Int64))) (o : Nat) (g : Nat → Int32) : setI (mz σ L M) o g = mz σ (rp L o g) M := by
  unfold mz
  rw [gt_rp]
  rfl
theorem mz_L (σ : SS) (L : List (Nat × (Nat → Int32))) (M : List (Nat × (Nat → Int64))) (o : Nat) (g : Nat → Int64) : setL (mz σ L M) o g = mz σ L (rp M o g) := by
  unfold mz
  rw [gt_rp]
  rfl
theorem mz_mz (σ : SS) (L L1 : List (Nat × (Nat → Int32))) (M M1 : List (Nat × (Nat → Int64))) : mz (mz σ L M) L1 M1 = mz σ (rps L L1) (rps M M1) := by
  unfold mz
  rw [gt_rps, gt_rps]
/-- a truth as a number -/
def tb (c : Bool) : Nat := cond c 1 0
theorem tb_ne {c : Bool} (h : tb c ≠ 0) : c = true := by cases c <;> first | rfl | exact absurd rfl h
theorem tb_z {c : Bool} (h : tb c = 0) : c = false := by cases c <;> first | rfl | exact absurd h (by decide)
theorem tb_le (c : Bool) : tb c < 2 := by cases c <;> decide
/-- a place, or none: 0 is none -/
def oI (k : Nat) : Int32 := nI k - 1
theorem oI_s (k : Nat) : oI (k + 1) = nI k := by
  unfold oI
  exact nI_s (a := k + 1) (b := 1) (by omega)
theorem oI_0 : oI 0 = -1 := by decide
theorem oI_eq {a b : Nat} (ha : a < 1000) (hb : b < 1000) : oI a = oI b ↔ a = b := by
  unfold oI
  constructor
  · intro h
    have h1 : nI a = nI b := by
      have h2 := congrArg (· + 1) h
      simpa using h2
    exact (nI_inj (by omega) (by omega)).mp h1
  · intro h; rw [h]
theorem m_putI {z : SZ} {sc : SC} {μ : MI} {mc ms k n pc : Nat} {lv : List (Nat × Value)} {st : List Value} {σ : SS} {L L' : List (Nat × (Nat → Int32))} {M : List (Nat × (Nat → Int64))} {Q : Out → SS → Prop} {idx o ci kf : Nat} {t : FieldType} {x : Int32} (h : cf (mCd μ) pc = some (.putfield idx, 3)) (hf : FL (mNm μ).cls idx ci kf false t) (hs : shp z o = (0, ci)) (ht : kdf (tyOf ci kf) = 0) (hv : okv t (.int x)) (hl : rp L o (aup (gt L σ.1 o) kf x) = L') (kk : Ws z sc μ mc ms k n (pc + 3) lv st (mz σ L' M) Q) : Ws z sc μ mc ms k n pc lv (.int x :: .ref o :: st) (mz σ L M) Q := by
  refine s_putI h hf hs ht hv ?_
  rw [mz_I]
  rw [← hl] at kk
  exact kk
theorem m_putL {z : SZ} {sc : SC} {μ : MI} {mc ms k n pc : Nat} {lv : List (Nat × Value)} {st : List Value} {σ : SS} {L : List (Nat × (Nat → Int32))} {M M' : List (Nat × (Nat → Int64))} {Q : Out → SS → Prop} {idx o ci kf : Nat} {t : FieldType} {x : Int64} (h : cf (mCd μ) pc = some (.putfield idx, 3)) (hf : FL (mNm μ).cls idx ci kf false t) (hs : shp z o = (0, ci)) (ht : kdf (tyOf ci kf) = 1) (hv : okv t (.long x)) (hl : rp M o (aup (gt M σ.2 o) kf x) = M') (kk : Ws z sc μ mc ms k n (pc + 3) lv st (mz σ L M') Q) : Ws z sc μ mc ms k n pc lv (.long x :: .ref o :: st) (mz σ L M) Q := by
  refine s_putL h hf hs ht hv ?_
  rw [mz_L]
  rw [← hl] at kk
  exact kk
theorem m_iast {z : SZ} {sc : SC} {μ : MI} {mc ms k n pc : Nat} {lv : List (Nat × Value)} {st : List Value} {σ : SS} {L L' : List (Nat × (Nat → Int32))} {M : List (Nat × (Nat → Int64))} {Q : Out → SS → Prop} {o j nn : Nat} {x : Int32} (h : cf (mCd μ) pc = some (.iastore, 1)) (hs : shp z o = (1, nn)) (hj : j < nn) (hl : rp L o (aup (gt L σ.1 o) j x) = L') (kk : Ws z sc μ mc ms k n (pc + 1) lv st (mz σ L' M) Q) : Ws z sc μ mc ms k n pc lv (.int x :: .int (nI j) :: .ref o :: st) (mz σ L M) Q := by
  refine s_iast h hs hj ?_
  rw [mz_I]
  rw [← hl] at kk
  exact kk
theorem m_bast {z : SZ} {sc : SC} {μ : MI} {mc ms k n pc : Nat} {lv : List (Nat × Value)} {st : List Value} {σ : SS} {L L' : List (Nat × (Nat → Int32))} {M : List (Nat × (Nat → Int64))} {Q : Out → SS → Prop} {o j nn : Nat} {x : Int32} (h : cf (mCd μ) pc = some (.bastore, 1)) (hs : shp z o = (2, nn)) (hj : j < nn) (hl : rp L o (aup (gt L σ.1 o) j (vp_nar .byte x)) = L') (kk : Ws z sc μ mc ms k n (pc + 1) lv st (mz σ L' M) Q) : Ws z sc μ mc ms k n pc lv (.int x :: .int (nI j) :: .ref o :: st) (mz σ L M) Q := by
  refine s_bast h hs hj ?_
  rw [mz_I]
  rw [← hl] at kk
  exact kk
theorem m_zast {z : SZ} {sc : SC} {μ : MI} {mc ms k n pc : Nat} {lv : List (Nat × Value)} {st : List Value} {σ : SS} {L L' : List (Nat × (Nat → Int32))} {M : List (Nat × (Nat → Int64))} {Q : Out → SS → Prop} {o j nn : Nat} {x : Int32} (h : cf (mCd μ) pc = some (.bastore, 1)) (hs : shp z o = (3, nn)) (hj : j < nn) (hl : rp L o (aup (gt L σ.1 o) j (vp_nar .boolean x)) = L') (kk : Ws z sc μ mc ms k n (pc + 1) lv st (mz σ L' M) Q) : Ws z sc μ mc ms k n pc lv (.int x :: .int (nI j) :: .ref o :: st) (mz σ L M) Q := by
  refine s_zast h hs hj ?_
  rw [mz_I]
  rw [← hl] at kk
  exact kk
theorem m_last {z : SZ} {sc : SC} {μ : MI} {mc ms k n pc : Nat} {lv : List (Nat × Value)} {st : List Value} {σ : SS} {L : List (Nat × (Nat → Int32))} {M M' : List (Nat × (Nat → Int64))} {Q : Out → SS → Prop} {o j nn : Nat} {x : Int64} (h : cf (mCd μ) pc = some (.lastore, 1)) (hs : shp z o = (4, nn)) (hj : j < nn) (hl : rp M o (aup (gt M σ.2 o) j x) = M') (kk : Ws z sc μ mc ms k n (pc + 1) lv st (mz σ L M') Q) : Ws z sc μ mc ms k n pc lv (.long x :: .int (nI j) :: .ref o :: st) (mz σ L M) Q := by
  refine s_last h hs hj ?_
  rw [mz_L]
  rw [← hl] at kk
  exact kk
theorem m_cpyi {z : SZ} {sc : SC} {μ : MI} {mc ms k n pc : Nat} {lv : List (Nat × Value)} {st : List Value} {σ : SS} {L L' : List (Nat × (Nat → Int32))} {M : List (Nat × (Nat → Int64))} {Q : Out → SS → Prop} {idx a b sp dp w na nb : Nat} (h : cf (mCd μ) pc = some (.invokestatic idx, 3)) (hw : Cond.methodLink (mNm μ).cls idx arraycopyName ∈ lw_gd) (ha : shp z a = (1, na)) (hb : shp z b = (1, nb)) (h1 : sp + w ≤ na) (h2 : dp + w ≤ nb) (hfr : Nat.ble 1 (mFr μ) = true) (hlo : Nat.ble ((st.map fun v => v.category).sum + 40) (mLo μ) = true) (hl : rp L b (va_cpy (gt L σ.1 a) (gt L σ.1 b) sp dp w) = L') (kk : Ws z sc μ mc ms k n (pc + 3) lv st (mz σ L' M) Q) : Ws z sc μ mc ms k n pc lv (.int (nI w) :: .int (nI dp) :: .ref b :: .int (nI sp) :: .ref a :: st) (mz σ L M) Q := by
  refine s_cpyi h hw ha hb h1 h2 hfr hlo ?_
  rw [mz_I]
  rw [← hl] at kk
  exact kk
theorem m_cpyl {z : SZ} {sc : SC} {μ : MI} {mc ms k n pc : Nat} {lv : List (Nat × Value)} {st : List Value} {σ : SS} {L : List (Nat × (Nat → Int32))} {M M' : List (Nat × (Nat → Int64))} {Q : Out → SS → Prop} {idx a b sp dp w na nb : Nat} (h : cf (mCd μ) pc = some (.invokestatic idx, 3)) (hw : Cond.methodLink (mNm μ).cls idx arraycopyName ∈ lw_gd) (ha : shp z a = (4, na)) (hb : shp z b = (4, nb)) (h1 : sp + w ≤ na) (h2 : dp + w ≤ nb) (hfr : Nat.ble 1 (mFr μ) = true) (hlo : Nat.ble ((st.map fun v => v.category).sum + 40) (mLo μ) = true) (hl : rp M b (va_cpy (gt M σ.2 a) (gt M σ.2 b) sp dp w) = M') (kk : Ws z sc μ mc ms k n (pc + 3) lv st (mz σ L M') Q) : Ws z sc μ mc ms k n pc lv (.int (nI w) :: .int (nI dp) :: .ref b :: .int (nI sp) :: .ref a :: st) (mz σ L M) Q := by
  refine s_cpyl h hw ha hb h1 h2 hfr hlo ?_
  rw [mz_L]
  rw [← hl] at kk
  exact kk
theorem m_mz {z : SZ} {sc : SC} {μ : MI} {mc ms k n pc : Nat} {lv : List (Nat × Value)} {st : List Value} {σ : SS} {L L' : List (Nat × (Nat → Int32))} {M M' : List (Nat × (Nat → Int64))} {Q : Out → SS → Prop} {L1 : List (Nat × (Nat → Int32))} {M1 : List (Nat × (Nat → Int64))} (hl : rps L L1 = L') (hm : rps M M1 = M') (kk : Ws z sc μ mc ms k n pc lv st (mz σ L' M') Q) : Ws z sc μ mc ms k n pc lv st (mz (mz σ L M) L1 M1) Q := by
  rw [mz_mz, hl, hm]
  exact kk
/-- an answer that is told, and a state that is told -/
def PI (e : Int32) (σ1 : SS) : Out → SS → Prop := RI (fun v σ' => v = e ∧ σ' = σ1)
def PL (e : Int64) (σ1 : SS) : Out → SS → Prop := RL9 (fun v σ' => v = e ∧ σ' = σ1)
def PV (σ1 : SS) : Out → SS → Prop := RV (fun σ' => σ' = σ1)
theorem rI {z : SZ} {sc : SC} {μ : MI} {mc ms k n pc : Nat} {lv : List (Nat × Value)} {Q : Out → SS → Prop} {σ1 : SS} {rest : List Value} {e e1 : Int32} (he : e = e1) (h : Ws z sc μ mc ms k n pc lv (.int e1 :: rest) σ1 Q) : ∀ v σ', (v = e ∧ σ' = σ1) → Ws z sc μ mc ms k n pc lv (.int v :: rest) σ' Q := by
  rintro v σ' ⟨rfl, rfl⟩
  rw [he]
  exact h
theorem rL {z : SZ} {sc : SC} {μ : MI} {mc ms k n pc : Nat} {lv : List (Nat × Value)} {Q : Out → SS → Prop} {σ1 : SS} {rest : List Value} {e e1 : Int64} (he : e = e1) (h : Ws z sc μ mc ms k n pc lv (.long e1 :: rest) σ1 Q) : ∀ v σ', (v = e ∧ σ' = σ1) → Ws z sc μ mc ms k n pc lv (.long v :: rest) σ' Q := by
  rintro v σ' ⟨rfl, rfl⟩
  rw [he]
  exact h
theorem rV {z : SZ} {sc : SC} {μ : MI} {mc ms k n pc : Nat} {lv : List (Nat × Value)} {Q : Out → SS → Prop} {σ1 : SS} {rest : List Value} (h : Ws z sc μ mc ms k n pc lv rest σ1 Q) : ∀ σ', σ' = σ1 → Ws z sc μ mc ms k n pc lv rest σ' Q := by
  rintro σ' rfl
  exact h
theorem pI {e v : Int32} {σ1 σ2 : SS} (h : v = e) (h2 : σ2 = σ1) : PI e σ1 (.inl (some (.int v))) σ2 := ⟨v, rfl, h, h2⟩
theorem pL {e v : Int64} {σ1 σ2 : SS} (h : v = e) (h2 : σ2 = σ1) : PL e σ1 (.inl (some (.long v))) σ2 := ⟨v, rfl, h, h2⟩
theorem pV {σ1 σ2 : SS} (h : σ2 = σ1) : PV σ1 (.inl none) σ2 := ⟨rfl, h⟩
theorem n_mmin {z : SZ} {sc : SC} {μ : MI} {mc ms pc : Nat} {lv : List (Nat × Value)} {st : List Value} {σ : SS} {Q : Out → SS → Prop} {a b idx : Nat} (h : cf (mCd μ) pc = some (.invokestatic idx, 3)) (hw : Cond.methodLink (mNm μ).cls idx Lib.Math.min.name ∈ lw_gd) (hw2 : Cond.static Lib.Math.min.name ∈ lw_gd) (hw3 : Cond.initialized "java/lang/Math" ∈ lw_gd) (hw4 : Cond.code Lib.Math.min.name Lib.Math.min.code 2 (some .int) ∈ lw_gd) (hfr : Nat.ble 1 (mFr μ) = true) (hlo : Nat.ble ((st.map fun v => v.category).sum + 13) (mLo μ) = true) (ha : a < 2147483648) (hb : b < 2147483648) (kk : Ws z sc μ mc ms 0 0 (pc + 3) lv (.int (nI (min a b)) :: st) σ Q) : Ws z sc μ mc ms 0 0 pc lv (.int (nI b) :: .int (nI a) :: st) σ Q := by
  refine r_mmin h hw hw2 hw3 hw4 hfr hlo (Nat.zero_le _) (Nat.zero_le _) ?_
  have e : (if nI b < nI a then nI b else nI a) = nI (min a b) := by
    by_cases q : b < a
    · rw [if_pos ((nI_ltI hb ha).mpr q)]; congr 1; omega
    · rw [if_neg (fun z => q ((nI_ltI hb ha).mp z))]; congr 1; omega
  rw [e]
  exact kk
theorem n_mmax {z : SZ} {sc : SC} {μ : MI} {mc ms pc : Nat} {lv : List (Nat × Value)} {st : List Value} {σ : SS} {Q : Out → SS → Prop} {a b idx : Nat} (h : cf (mCd μ) pc = some (.invokestatic idx, 3)) (hw : Cond.methodLink (mNm μ).cls idx Lib.Math.max.name ∈ lw_gd) (hw2 : Cond.static Lib.Math.max.name ∈ lw_gd) (hw3 : Cond.initialized "java/lang/Math" ∈ lw_gd) (hw4 : Cond.code Lib.Math.max.name Lib.Math.max.code 2 (some .int) ∈ lw_gd) (hfr : Nat.ble 1 (mFr μ) = true) (hlo : Nat.ble ((st.map fun v => v.category).sum + 13) (mLo μ) = true) (ha : a < 2147483648) (hb : b < 2147483648) (kk : Ws z sc μ mc ms 0 0 (pc + 3) lv (.int (nI (max a b)) :: st) σ Q) : Ws z sc μ mc ms 0 0 pc lv (.int (nI b) :: .int (nI a) :: st) σ Q := by
  refine r_mmax h hw hw2 hw3 hw4 hfr hlo (Nat.zero_le _) (Nat.zero_le _) ?_
  have e : (if nI a < nI b then nI b else nI a) = nI (max a b) := by
    by_cases q : a < b
    · rw [if_pos ((nI_ltI ha hb).mpr q)]; congr 1; omega
    · rw [if_neg (fun z => q ((nI_ltI ha hb).mp z))]; congr 1; omega
  rw [e]
  exact kk
theorem m_newI {z : SZ} {sc : SC} {μ : MI} {mc ms k n pc : Nat} {lv : List (Nat × Value)} {st : List Value} {σ : SS} {Q : Out → SS → Prop} {L L' : List (Nat × (Nat → Int32))} {M : List (Nat × (Nat → Int64))} (o : Nat) (hl : rp L o (gt L σ.1 o) = L') (kk : Ws z sc μ mc ms k n pc lv st (mz σ L' M) Q) : Ws z sc μ mc ms k n pc lv st (mz σ L M) Q := by
  have e : mz σ L' M = mz σ L M := by
    rw [← hl]
    unfold mz
    rw [gt_rp]
    refine Prod.ext (funext fun a => ?_) rfl
    show (if a = o then gt L σ.1 o else gt L σ.1 a) = gt L σ.1 a
    split
    · rename_i h; rw [h]
    · rfl
  rw [← e]
  exact kk
theorem m_newL {z : SZ} {sc : SC} {μ : MI} {mc ms k n pc : Nat} {lv : List (Nat × Value)} {st : List Value} {σ : SS} {Q : Out → SS → Prop} {L : List (Nat × (Nat → Int32))} {M M' : List (Nat × (Nat → Int64))} (o : Nat) (hl : rp M o (gt M σ.2 o) = M') (kk : Ws z sc μ mc ms k n pc lv st (mz σ L M') Q) : Ws z sc μ mc ms k n pc lv st (mz σ L M) Q := by
  have e : mz σ L M' = mz σ L M := by
    rw [← hl]
    unfold mz
    rw [gt_rp]
    refine Prod.ext rfl (funext fun a => ?_)
    show (if a = o then gt M σ.2 o else gt M σ.2 a) = gt M σ.2 a
    split
    · rename_i h; rw [h]
    · rfl
  rw [← e]
  exact kk
