/-- the heap behind the constructors: its shape never changes; ints and longs do -/
abbrev SS : Type := (Nat → Nat → Int32) × (Nat → Nat → Int64)
def shT : List (Nat × Nat) := [(0, 9), (0, 5), (0, 1), (2, 700), (0, 0), (4, 12), (1, 12), (1, 8), (1, 8), (1, 8), (0, 8), (1, 79), (0, 0), (4, 12), (1, 12), (1, 8), (1, 8), (1, 8), (0, 8), (1, 79), (0, 7), (0, 2), (1, 8), (1, 8), (1, 8), (1, 8), (0, 3), (1, 13), (1, 12), (1, 12), (0, 6), (1, 12), (1, 12), (1, 12), (0, 8), (1, 79), (0, 7), (0, 2), (1, 8), (1, 8), (1, 8), (1, 8), (0, 3), (1, 13), (1, 12), (1, 12), (0, 6), (1, 12), (1, 12), (1, 12), (0, 4), (1, 790), (1, 158)]
/-- a stage: whether the model's things are there, whether the law's row is there -/
abbrev SZ : Type := Bool × Bool
def shp (z : SZ) (i : Nat) : Nat × Nat := cond (Nat.blt i 53) (shT.getD i (9, 0)) (cond (Nat.blt i 76) (cond z.1 (shT.getD i (9, 0)) (9, 0)) (cond z.1 (cond z.2 (shT.getD i (9, 0)) (9, 0)) (9, 0)))
def nZ (z : SZ) : Nat := cond z.1 (cond z.2 77 76) 53
def rfT : List (Nat × Nat × Nat) := [(0, 0, 1), (0, 1, 12), (0, 2, 18), (0, 3, 20), (0, 4, 34), (0, 5, 36), (0, 6, 50), (1, 0, 2), (1, 1, 4), (1, 2, 10), (2, 0, 3), (4, 1, 5), (4, 2, 6), (4, 5, 7), (4, 7, 8), (4, 8, 9), (10, 0, 11), (12, 1, 13), (12, 2, 14), (12, 5, 15), (12, 7, 16), (12, 8, 17), (18, 0, 19), (20, 0, 21), (20, 1, 26), (20, 2, 30), (21, 5, 22), (21, 6, 23), (21, 7, 24), (21, 8, 25), (26, 2, 27), (26, 3, 28), (26, 4, 29), (30, 3, 31), (30, 4, 32), (30, 5, 33), (34, 0, 35), (36, 0, 37), (36, 1, 42), (36, 2, 46), (37, 5, 38), (37, 6, 39), (37, 7, 40), (37, 8, 41), (42, 2, 43), (42, 3, 44), (42, 4, 45), (46, 3, 47), (46, 4, 48), (46, 5, 49), (50, 0, 51), (50, 1, 52)]
def rfa : List (Nat × Nat × Nat) → Nat → Nat → Nat
  | [], _, _ => 0
  | e :: t, i, k => if e.1 = i ∧ e.2.1 = k then e.2.2 else rfa t i k
def tyL : List (Nat → FieldType) := [tyX0, tyX1, tyX2, tyX3, tyX4, tyX5, tyX6, tyX7, tyX8, tyX9, tyX10, tyJ0, tyJ4]
def tyOf (ci kf : Nat) : FieldType := (tyL.getD ci tyX0) kf
/-- what a field is: 0 int, 1 long, 2 a reference -/
def kdf : FieldType → Nat
  | .int => 0
  | .boolean => 0
  | .long => 1
  | _ => 2
def fv (σ : SS) (i ci k : Nat) : Value := match kdf (tyOf ci k) with
  | 0 => .int (σ.1 i k)
  | 1 => .long (σ.2 i k)
  | _ => .ref (rfa rfT i k)
def mkG (z : SZ) (σ : SS) (i : Nat) : AE := match shp z i with
  | (0, ci) => .inr (.inr (ci, fv σ i ci))
  | (1, nn) => .inl (0, nn, σ.1 i)
  | (2, nn) => .inl (1, nn, σ.1 i)
  | (3, nn) => .inl (2, nn, σ.1 i)
  | (_, nn) => .inr (.inl (nn, σ.2 i))
def stF (z : SZ) (σ : SS) : AS := (mkG z σ, nZ z, false)
theorem sh_lt : ∀ x ∈ shT, x.2 < 2000 := by decide +kernel
theorem shT_lt {i t nn : Nat} (h : shT.getD i (9, 0) = (t, nn)) : nn < 2147483648 := by
  rw [List.getD_eq_getElem?_getD] at h
  cases hq : shT[i]? with
  | none => rw [hq] at h; cases h; decide
  | some x => rw [hq] at h; have h1 := sh_lt x (List.mem_of_getElem? hq); have h2 : x = (t, nn) := h; rw [h2] at h1; exact Nat.lt_trans h1 (by decide)
theorem shT_in {i t nn : Nat} (h : shT.getD i (9, 0) = (t, nn)) (ht : t < 9) : i < 77 := by
  rw [List.getD_eq_getElem?_getD] at h
  cases hq : shT[i]? with
  | none => rw [hq] at h; cases h; exact absurd ht (by decide)
  | some x => exact Nat.lt_of_lt_of_le (List.getElem?_eq_some_iff.mp hq).1 (by decide)
theorem shp_lt {z : SZ} {i t nn : Nat} (h : shp z i = (t, nn)) : nn < 2147483648 := by
  have h9 : ((9, 0) : Nat × Nat) = (t, nn) → nn < 2147483648 := fun q => by cases q; decide
  unfold shp at h
  revert h
  cases Nat.blt i 53 <;> cases Nat.blt i 76 <;> cases z.1 <;> cases z.2 <;> intro h <;> first | exact shT_lt h | exact h9 h
theorem shp_in {z : SZ} {i t nn : Nat} (h : shp z i = (t, nn)) (ht : t < 9) : i < nZ z := by
  have h9 : ((9, 0) : Nat × Nat) = (t, nn) → False := fun q => by cases q; exact absurd ht (by decide)
  unfold shp at h
  unfold nZ
  have b1 : Nat.blt i 53 = true → i < 53 := fun q => Nat.le_of_ble_eq_true q
  have b2 : Nat.blt i 76 = true → i < 76 := fun q => Nat.le_of_ble_eq_true q
  revert h b1 b2
  cases Nat.blt i 53 <;> cases Nat.blt i 76 <;> cases z.1 <;> cases z.2 <;> intro h b1 b2 <;> first
    | exact (h9 h).elim
    | exact b1 rfl
    | exact b2 rfl
    | exact shT_in h ht
    | (have := b1 rfl; show i < _; simp only [cond_true, cond_false]; omega)
    | (have := b2 rfl; show i < _; simp only [cond_true, cond_false]; omega)
theorem mkG_o {z : SZ} {σ : SS} {o ci : Nat} (h : shp z o = (0, ci)) : mkG z σ o = .inr (.inr (ci, fv σ o ci)) := by
  unfold mkG
  rw [h]
  rfl
theorem mkG_i {z : SZ} {σ : SS} {o nn : Nat} (h : shp z o = (1, nn)) : mkG z σ o = .inl (0, nn, σ.1 o) := by
  unfold mkG
  rw [h]
  rfl
theorem mkG_b {z : SZ} {σ : SS} {o nn : Nat} (h : shp z o = (2, nn)) : mkG z σ o = .inl (1, nn, σ.1 o) := by
  unfold mkG
  rw [h]
  rfl
theorem mkG_z {z : SZ} {σ : SS} {o nn : Nat} (h : shp z o = (3, nn)) : mkG z σ o = .inl (2, nn, σ.1 o) := by
  unfold mkG
  rw [h]
  rfl
theorem mkG_l {z : SZ} {σ : SS} {o nn : Nat} (h : shp z o = (4, nn)) : mkG z σ o = .inr (.inl (nn, σ.2 o)) := by
  unfold mkG
  rw [h]
  rfl
def setI (σ : SS) (o : Nat) (f : Nat → Int32) : SS := (aup σ.1 o f, σ.2)
def setL (σ : SS) (o : Nat) (f : Nat → Int64) : SS := (σ.1, aup σ.2 o f)
theorem setI_s (σ : SS) (o : Nat) (f : Nat → Int32) : (setI σ o f).1 o = f := aup_s _ _ _
theorem setL_s (σ : SS) (o : Nat) (f : Nat → Int64) : (setL σ o f).2 o = f := aup_s _ _ _
theorem mkG_n {z : SZ} {σ σ' : SS} {j : Nat} (h1 : σ'.1 j = σ.1 j) (h2 : σ'.2 j = σ.2 j) : mkG z σ' j = mkG z σ j := by
  unfold mkG
  have e : ∀ ci, fv σ' j ci = fv σ j ci := fun ci => by
    funext k
    unfold fv
    rw [h1, h2]
  split <;> simp only [h1, h2, e]
theorem aup_mk {z : SZ} {σ σ' : SS} {o : Nat} {e : AE} (ho : e = mkG z σ' o) (h : ∀ j, j ≠ o → σ'.1 j = σ.1 j ∧ σ'.2 j = σ.2 j) : aup (mkG z σ) o e = mkG z σ' := by
  funext j
  by_cases hj : j = o
  · subst hj
    rw [aup_s, ho]
  · rw [aup_n _ _ hj]
    exact (mkG_n (h j hj).1 (h j hj).2).symm
theorem setI_n (σ : SS) (o : Nat) (f : Nat → Int32) : ∀ j, j ≠ o → (setI σ o f).1 j = σ.1 j ∧ (setI σ o f).2 j = σ.2 j := fun j hj => ⟨aup_n _ _ hj, rfl⟩
theorem setL_n (σ : SS) (o : Nat) (f : Nat → Int64) : ∀ j, j ≠ o → (setL σ o f).1 j = σ.1 j ∧ (setL σ o f).2 j = σ.2 j := fun j hj => ⟨rfl, aup_n _ _ hj⟩
theorem mk_fI {z : SZ} {σ : SS} {o ci kf : Nat} {x : Int32} (h : shp z o = (0, ci)) (hk : kdf (tyOf ci kf) = 0) : aup (mkG z σ) o (.inr (.inr (ci, aup (fv σ o ci) kf (.int x)))) = mkG z (setI σ o (aup (σ.1 o) kf x)) := by
  refine aup_mk ?_ (setI_n _ _ _)
  rw [mkG_o h]
  congr 3
  funext k
  by_cases hkk : k = kf
  · subst hkk
    rw [aup_s]
    unfold fv
    rw [hk]
    show Value.int x = .int (aup σ.1 o (aup (σ.1 o) k x) o k)
    rw [aup_s, aup_s]
  · rw [aup_n _ _ hkk]
    unfold fv
    show _ = match kdf (tyOf ci k) with | 0 => Value.int (aup σ.1 o (aup (σ.1 o) kf x) o k) | 1 => .long (σ.2 o k) | _ => .ref (rfa rfT o k)
    rw [aup_s, aup_n _ _ hkk]
theorem mk_fL {z : SZ} {σ : SS} {o ci kf : Nat} {x : Int64} (h : shp z o = (0, ci)) (hk : kdf (tyOf ci kf) = 1) : aup (mkG z σ) o (.inr (.inr (ci, aup (fv σ o ci) kf (.long x)))) = mkG z (setL σ o (aup (σ.2 o) kf x)) := by
  refine aup_mk ?_ (setL_n _ _ _)
  rw [mkG_o h]
  congr 3
  funext k
  by_cases hkk : k = kf
  · subst hkk
    rw [aup_s]
    unfold fv
    rw [hk]
    show Value.long x = .long (aup σ.2 o (aup (σ.2 o) k x) o k)
    rw [aup_s, aup_s]
  · rw [aup_n _ _ hkk]
    unfold fv
    show _ = match kdf (tyOf ci k) with | 0 => Value.int (σ.1 o k) | 1 => .long (aup σ.2 o (aup (σ.2 o) kf x) o k) | _ => .ref (rfa rfT o k)
    rw [aup_s, aup_n _ _ hkk]
def qS (z : SZ) (Q : Out → SS → Prop) : Out → AS → Prop := fun o S' => ∃ σ', S' = stF z σ' ∧ Q o σ'
abbrev Ws (z : SZ) (sc : SC) (μ : MI) (mc ms k n pc : Nat) (lv : List (Nat × Value)) (st : List Value) (σ : SS) (Q : Out → SS → Prop) : Prop := Wp sc μ mc ms k n pc lv st (stF z σ) (qS z Q)
abbrev Cs (z : SZ) (sc : SC) (μ : MI) (mc ms : Nat) (as : List Value) (σ : SS) (Q : Out → SS → Prop) : Prop := Cal sc μ mc ms as (stF z σ) (qS z Q)
theorem Cs.of {z : SZ} {sc : SC} {μ : MI} {mc ms : Nat} {as : List Value} {σ : SS} {Q : Out → SS → Prop} (hg : GM μ) (hl : (lg_sl as).length ≤ mMl μ) (h : Ws z sc μ mc ms 0 0 0 (lv_args 0 as) [] σ Q) : Cs z sc μ mc ms as σ Q := Cal.of hg hl h
theorem Cs.mono {z : SZ} {sc : SC} {μ : MI} {mc ms : Nat} {as : List Value} {σ : SS} {Q Q' : Out → SS → Prop} (h : Cs z sc μ mc ms as σ Q) (hq : ∀ o σ', Q o σ' → Q' o σ') : Cs z sc μ mc ms as σ Q' := Cal.mono h (fun o S' ⟨σ', h1, h2⟩ => ⟨σ', h1, hq o σ' h2⟩)
theorem Ws.mono {z : SZ} {sc : SC} {μ : MI} {mc ms k n pc : Nat} {lv : List (Nat × Value)} {st : List Value} {σ : SS} {Q Q' : Out → SS → Prop} (h : Ws z sc μ mc ms k n pc lv st σ Q) (hq : ∀ o σ', Q o σ' → Q' o σ') : Ws z sc μ mc ms k n pc lv st σ Q' := Wp.mono h (fun o S' ⟨σ', h1, h2⟩ => ⟨σ', h1, hq o σ' h2⟩)
/-- the answers: an int, a long, none, a throw -/
def RI (P : Int32 → SS → Prop) : Out → SS → Prop := fun o σ' => ∃ v, o = .inl (some (.int v)) ∧ P v σ'
def RL9 (P : Int64 → SS → Prop) : Out → SS → Prop := fun o σ' => ∃ v, o = .inl (some (.long v)) ∧ P v σ'
def RV (P : SS → Prop) : Out → SS → Prop := fun o σ' => o = .inl none ∧ P σ'
def RX (ec : Nat) (P : SS → Prop) : Out → SS → Prop := fun o σ' => o = .inr ec ∧ P σ'
theorem RI_no {z : SZ} {P : Int32 → SS → Prop} : ∀ ec S', ¬ qS z (RI P) (.inr ec) S' := by
  rintro ec S' ⟨σ', -, v, h, -⟩
  cases h
theorem RL_no {z : SZ} {P : Int64 → SS → Prop} : ∀ ec S', ¬ qS z (RL9 P) (.inr ec) S' := by
  rintro ec S' ⟨σ', -, v, h, -⟩
  cases h
theorem RV_no {z : SZ} {P : SS → Prop} : ∀ ec S', ¬ qS z (RV P) (.inr ec) S' := by
  rintro ec S' ⟨σ', -, h, -⟩
  cases h
theorem s_getI {z : SZ} {sc : SC} {μ : MI} {mc ms k n pc : Nat} {lv : List (Nat × Value)} {st : List Value} {σ : SS} {Q : Out → SS → Prop} {idx o ci kf : Nat} {fin : Bool} {t : FieldType} {x : Int32} (h : cf (mCd μ) pc = some (.getfield idx, 3)) (hf : FL (mNm μ).cls idx ci kf fin t) (hs : shp z o = (0, ci)) (ht : kdf (tyOf ci kf) = 0) (hx : σ.1 o kf = x) (kk : Ws z sc μ mc ms k n (pc + 3) lv (.int x :: st) σ Q) : Ws z sc μ mc ms k n pc lv (.ref o :: st) σ Q :=
  r_getf h hf (shp_in hs (by decide)) (mkG_o hs) (by unfold fv; rw [ht, ← hx]; rfl) kk
theorem s_getL {z : SZ} {sc : SC} {μ : MI} {mc ms k n pc : Nat} {lv : List (Nat × Value)} {st : List Value} {σ : SS} {Q : Out → SS → Prop} {idx o ci kf : Nat} {fin : Bool} {t : FieldType} {x : Int64} (h : cf (mCd μ) pc = some (.getfield idx, 3)) (hf : FL (mNm μ).cls idx ci kf fin t) (hs : shp z o = (0, ci)) (ht : kdf (tyOf ci kf) = 1) (hx : σ.2 o kf = x) (kk : Ws z sc μ mc ms k n (pc + 3) lv (.long x :: st) σ Q) : Ws z sc μ mc ms k n pc lv (.ref o :: st) σ Q :=
  r_getf h hf (shp_in hs (by decide)) (mkG_o hs) (by unfold fv; rw [ht, ← hx]; rfl) kk
theorem s_getR {z : SZ} {sc : SC} {μ : MI} {mc ms k n pc : Nat} {lv : List (Nat × Value)} {st : List Value} {σ : SS} {Q : Out → SS → Prop} {idx o ci kf r : Nat} {fin : Bool} {t : FieldType} (h : cf (mCd μ) pc = some (.getfield idx, 3)) (hf : FL (mNm μ).cls idx ci kf fin t) (hs : shp z o = (0, ci)) (hv : fv σ o ci kf = .ref r) (kk : Ws z sc μ mc ms k n (pc + 3) lv (.ref r :: st) σ Q) : Ws z sc μ mc ms k n pc lv (.ref o :: st) σ Q :=
  r_getf h hf (shp_in hs (by decide)) (mkG_o hs) hv kk
theorem s_putI {z : SZ} {sc : SC} {μ : MI} {mc ms k n pc : Nat} {lv : List (Nat × Value)} {st : List Value} {σ : SS} {Q : Out → SS → Prop} {idx o ci kf : Nat} {t : FieldType} {x : Int32} (h : cf (mCd μ) pc = some (.putfield idx, 3)) (hf : FL (mNm μ).cls idx ci kf false t) (hs : shp z o = (0, ci)) (ht : kdf (tyOf ci kf) = 0) (hv : okv t (.int x)) (kk : Ws z sc μ mc ms k n (pc + 3) lv st (setI σ o (aup (σ.1 o) kf x)) Q) : Ws z sc μ mc ms k n pc lv (.int x :: .ref o :: st) σ Q := by
  refine r_putf h hf hv (shp_in hs (by decide)) (mkG_o hs) ?_
  show Wp sc μ mc ms k n (pc + 3) lv st (aup (mkG z σ) o _, _) _
  rw [mk_fI hs ht]
  exact kk
theorem s_putL {z : SZ} {sc : SC} {μ : MI} {mc ms k n pc : Nat} {lv : List (Nat × Value)} {st : List Value} {σ : SS} {Q : Out → SS → Prop} {idx o ci kf : Nat} {t : FieldType} {x : Int64} (h : cf (mCd μ) pc = some (.putfield idx, 3)) (hf : FL (mNm μ).cls idx ci kf false t) (hs : shp z o = (0, ci)) (ht : kdf (tyOf ci kf) = 1) (hv : okv t (.long x)) (kk : Ws z sc μ mc ms k n (pc + 3) lv st (setL σ o (aup (σ.2 o) kf x)) Q) : Ws z sc μ mc ms k n pc lv (.long x :: .ref o :: st) σ Q := by
  refine r_putf h hf hv (shp_in hs (by decide)) (mkG_o hs) ?_
  show Wp sc μ mc ms k n (pc + 3) lv st (aup (mkG z σ) o _, _) _
  rw [mk_fL hs ht]
  exact kk
theorem s_iald {z : SZ} {sc : SC} {μ : MI} {mc ms k n pc : Nat} {lv : List (Nat × Value)} {st : List Value} {σ : SS} {Q : Out → SS → Prop} {o j nn : Nat} {x : Int32} (h : cf (mCd μ) pc = some (.iaload, 1)) (hs : shp z o = (1, nn)) (hj : j < nn) (hx : σ.1 o j = x) (kk : Ws z sc μ mc ms k n (pc + 1) lv (.int x :: st) σ Q) : Ws z sc μ mc ms k n pc lv (.int (nI j) :: .ref o :: st) σ Q :=
  r_iald h (shp_in hs (by decide)) (mkG_i hs) hj (shp_lt hs) (by rw [hx]; exact kk)
theorem s_bald {z : SZ} {sc : SC} {μ : MI} {mc ms k n pc : Nat} {lv : List (Nat × Value)} {st : List Value} {σ : SS} {Q : Out → SS → Prop} {o j nn : Nat} {x : Int32} (h : cf (mCd μ) pc = some (.baload, 1)) (hs : shp z o = (2, nn)) (hj : j < nn) (hx : σ.1 o j = x) (kk : Ws z sc μ mc ms k n (pc + 1) lv (.int x :: st) σ Q) : Ws z sc μ mc ms k n pc lv (.int (nI j) :: .ref o :: st) σ Q :=
  r_bald h (shp_in hs (by decide)) (mkG_b hs) hj (shp_lt hs) (by rw [hx]; exact kk)
theorem s_zald {z : SZ} {sc : SC} {μ : MI} {mc ms k n pc : Nat} {lv : List (Nat × Value)} {st : List Value} {σ : SS} {Q : Out → SS → Prop} {o j nn : Nat} {x : Int32} (h : cf (mCd μ) pc = some (.baload, 1)) (hs : shp z o = (3, nn)) (hj : j < nn) (hx : σ.1 o j = x) (kk : Ws z sc μ mc ms k n (pc + 1) lv (.int x :: st) σ Q) : Ws z sc μ mc ms k n pc lv (.int (nI j) :: .ref o :: st) σ Q :=
  r_zald h (shp_in hs (by decide)) (mkG_z hs) hj (shp_lt hs) (by rw [hx]; exact kk)
theorem s_lald {z : SZ} {sc : SC} {μ : MI} {mc ms k n pc : Nat} {lv : List (Nat × Value)} {st : List Value} {σ : SS} {Q : Out → SS → Prop} {o j nn : Nat} {x : Int64} (h : cf (mCd μ) pc = some (.laload, 1)) (hs : shp z o = (4, nn)) (hj : j < nn) (hx : σ.2 o j = x) (kk : Ws z sc μ mc ms k n (pc + 1) lv (.long x :: st) σ Q) : Ws z sc μ mc ms k n pc lv (.int (nI j) :: .ref o :: st) σ Q :=
  r_lald h (shp_in hs (by decide)) (mkG_l hs) hj (shp_lt hs) (by rw [hx]; exact kk)
theorem s_alen {z : SZ} {sc : SC} {μ : MI} {mc ms k n pc : Nat} {lv : List (Nat × Value)} {st : List Value} {σ : SS} {Q : Out → SS → Prop} {o nn : Nat} (h : cf (mCd μ) pc = some (.arraylength, 1)) (hs : shp z o = (1, nn)) (kk : Ws z sc μ mc ms k n (pc + 1) lv (.int (nI nn) :: st) σ Q) : Ws z sc μ mc ms k n pc lv (.ref o :: st) σ Q :=
  r_alen h (shp_in hs (by decide)) (mkG_i hs) (by decide) kk
theorem s_alenB {z : SZ} {sc : SC} {μ : MI} {mc ms k n pc : Nat} {lv : List (Nat × Value)} {st : List Value} {σ : SS} {Q : Out → SS → Prop} {o nn : Nat} (h : cf (mCd μ) pc = some (.arraylength, 1)) (hs : shp z o = (2, nn)) (kk : Ws z sc μ mc ms k n (pc + 1) lv (.int (nI nn) :: st) σ Q) : Ws z sc μ mc ms k n pc lv (.ref o :: st) σ Q :=
  r_alen h (shp_in hs (by decide)) (mkG_b hs) (by decide) kk
theorem s_iast {z : SZ} {sc : SC} {μ : MI} {mc ms k n pc : Nat} {lv : List (Nat × Value)} {st : List Value} {σ : SS} {Q : Out → SS → Prop} {o j nn : Nat} {x : Int32} (h : cf (mCd μ) pc = some (.iastore, 1)) (hs : shp z o = (1, nn)) (hj : j < nn) (kk : Ws z sc μ mc ms k n (pc + 1) lv st (setI σ o (aup (σ.1 o) j x)) Q) : Ws z sc μ mc ms k n pc lv (.int x :: .int (nI j) :: .ref o :: st) σ Q := by
  refine r_iast h (shp_in hs (by decide)) (mkG_i hs) hj (shp_lt hs) ?_
  show Wp sc μ mc ms k n (pc + 1) lv st (aup (mkG z σ) o _, _) _
  rw [aup_mk (σ' := setI σ o (aup (σ.1 o) j x)) (by rw [mkG_i hs]; rw [setI_s]) (setI_n _ _ _)]
  exact kk
theorem s_bast {z : SZ} {sc : SC} {μ : MI} {mc ms k n pc : Nat} {lv : List (Nat × Value)} {st : List Value} {σ : SS} {Q : Out → SS → Prop} {o j nn : Nat} {x : Int32} (h : cf (mCd μ) pc = some (.bastore, 1)) (hs : shp z o = (2, nn)) (hj : j < nn) (kk : Ws z sc μ mc ms k n (pc + 1) lv st (setI σ o (aup (σ.1 o) j (vp_nar .byte x))) Q) : Ws z sc μ mc ms k n pc lv (.int x :: .int (nI j) :: .ref o :: st) σ Q := by
  refine r_bast h (shp_in hs (by decide)) (mkG_b hs) hj (shp_lt hs) ?_
  show Wp sc μ mc ms k n (pc + 1) lv st (aup (mkG z σ) o _, _) _
  rw [aup_mk (σ' := setI σ o (aup (σ.1 o) j (vp_nar .byte x))) (by rw [mkG_b hs]; rw [setI_s]) (setI_n _ _ _)]
  exact kk
theorem s_zast {z : SZ} {sc : SC} {μ : MI} {mc ms k n pc : Nat} {lv : List (Nat × Value)} {st : List Value} {σ : SS} {Q : Out → SS → Prop} {o j nn : Nat} {x : Int32} (h : cf (mCd μ) pc = some (.bastore, 1)) (hs : shp z o = (3, nn)) (hj : j < nn) (kk : Ws z sc μ mc ms k n (pc + 1) lv st (setI σ o (aup (σ.1 o) j (vp_nar .boolean x))) Q) : Ws z sc μ mc ms k n pc lv (.int x :: .int (nI j) :: .ref o :: st) σ Q := by
  refine r_zast h (shp_in hs (by decide)) (mkG_z hs) hj (shp_lt hs) ?_
  show Wp sc μ mc ms k n (pc + 1) lv st (aup (mkG z σ) o _, _) _
  rw [aup_mk (σ' := setI σ o (aup (σ.1 o) j (vp_nar .boolean x))) (by rw [mkG_z hs]; rw [setI_s]) (setI_n _ _ _)]
  exact kk
theorem s_last {z : SZ} {sc : SC} {μ : MI} {mc ms k n pc : Nat} {lv : List (Nat × Value)} {st : List Value} {σ : SS} {Q : Out → SS → Prop} {o j nn : Nat} {x : Int64} (h : cf (mCd μ) pc = some (.lastore, 1)) (hs : shp z o = (4, nn)) (hj : j < nn) (kk : Ws z sc μ mc ms k n (pc + 1) lv st (setL σ o (aup (σ.2 o) j x)) Q) : Ws z sc μ mc ms k n pc lv (.long x :: .int (nI j) :: .ref o :: st) σ Q := by
  refine r_last h (shp_in hs (by decide)) (mkG_l hs) hj (shp_lt hs) ?_
  show Wp sc μ mc ms k n (pc + 1) lv st (aup (mkG z σ) o _, _) _
  rw [aup_mk (σ' := setL σ o (aup (σ.2 o) j x)) (by rw [mkG_l hs]; rw [setL_s]) (setL_n _ _ _)]
  exact kk
theorem s_cpyi {z : SZ} {sc : SC} {μ : MI} {mc ms k n pc : Nat} {lv : List (Nat × Value)} {st : List Value} {σ : SS} {Q : Out → SS → Prop} {idx a b sp dp w na nb : Nat} (h : cf (mCd μ) pc = some (.invokestatic idx, 3)) (hw : Cond.methodLink (mNm μ).cls idx arraycopyName ∈ lw_gd) (ha : shp z a = (1, na)) (hb : shp z b = (1, nb)) (h1 : sp + w ≤ na) (h2 : dp + w ≤ nb) (hfr : Nat.ble 1 (mFr μ) = true) (hlo : Nat.ble ((st.map fun v => v.category).sum + 40) (mLo μ) = true) (kk : Ws z sc μ mc ms k n (pc + 3) lv st (setI σ b (va_cpy (σ.1 a) (σ.1 b) sp dp w)) Q) : Ws z sc μ mc ms k n pc lv (.int (nI w) :: .int (nI dp) :: .ref b :: .int (nI sp) :: .ref a :: st) σ Q := by
  refine r_cpyi h hw syN syS syI (shp_in ha (by decide)) (shp_in hb (by decide)) (mkG_i ha) (mkG_i hb) h1 h2 (shp_lt ha) (shp_lt hb) hfr hlo ?_
  show Wp sc μ mc ms k n (pc + 3) lv st (aup (mkG z σ) b _, _) _
  rw [aup_mk (σ' := setI σ b (va_cpy (σ.1 a) (σ.1 b) sp dp w)) (by rw [mkG_i hb]; rw [setI_s]) (setI_n _ _ _)]
  exact kk
theorem s_cpyl {z : SZ} {sc : SC} {μ : MI} {mc ms k n pc : Nat} {lv : List (Nat × Value)} {st : List Value} {σ : SS} {Q : Out → SS → Prop} {idx a b sp dp w na nb : Nat} (h : cf (mCd μ) pc = some (.invokestatic idx, 3)) (hw : Cond.methodLink (mNm μ).cls idx arraycopyName ∈ lw_gd) (ha : shp z a = (4, na)) (hb : shp z b = (4, nb)) (h1 : sp + w ≤ na) (h2 : dp + w ≤ nb) (hfr : Nat.ble 1 (mFr μ) = true) (hlo : Nat.ble ((st.map fun v => v.category).sum + 40) (mLo μ) = true) (kk : Ws z sc μ mc ms k n (pc + 3) lv st (setL σ b (va_cpy (σ.2 a) (σ.2 b) sp dp w)) Q) : Ws z sc μ mc ms k n pc lv (.int (nI w) :: .int (nI dp) :: .ref b :: .int (nI sp) :: .ref a :: st) σ Q := by
  refine r_cpyl h hw syN syS syI (shp_in ha (by decide)) (shp_in hb (by decide)) (mkG_l ha) (mkG_l hb) h1 h2 (shp_lt ha) (shp_lt hb) hfr hlo ?_
  show Wp sc μ mc ms k n (pc + 3) lv st (aup (mkG z σ) b _, _) _
  rw [aup_mk (σ' := setL σ b (va_cpy (σ.2 a) (σ.2 b) sp dp w)) (by rw [mkG_l hb]; rw [setL_s]) (setL_n _ _ _)]
  exact kk
theorem s_virI {z : SZ} {sc : SC} {μ : MI} {mc ms k n pc : Nat} {lv : List (Nat × Value)} {st : List Value} {σ : SS} {Q : Out → SS → Prop} {ν : MI} {mc1 ms1 idx : Nat} {P : Int32 → SS → Prop} {o ci : Nat} {r : vw_C} (as rest : List Value) (h : cf (mCd μ) pc = some (.invokevirtual idx, 3)) (hL : LV (mNm μ).cls idx ν as.length) (hs : shp z o = (0, ci)) (hc9 : vwCl[ci]? = some r) (hc : r.1 = (mNm ν).cls) (hcal : Cs z sc ν mc1 ms1 (.ref o :: as) σ (RI P)) (hst : st = as.reverse ++ .ref o :: rest) (hrm : rmB μ ν rest = true) (hmc : k + mc1 ≤ mc) (hms : n + ms1 ≤ ms) (hh : mHh μ = []) (kk : ∀ v σ', P v σ' → Ws z sc μ mc ms (k + mc1) (n + ms1) (pc + 3) lv (.int v :: rest) σ' Q) : Ws z sc μ mc ms k n pc lv st σ Q := by
  refine r_vir as rest h hL (shp_in hs (by decide)) (mkG_o hs) hc9 hc hcal hst hrm hmc hms hh (fun ec S' q => (RI_no ec S' q).elim) ?_
  rintro r0 S' ⟨σ', rfl, v, q9, hp⟩
  cases q9
  exact kk v σ' hp
theorem s_virL {z : SZ} {sc : SC} {μ : MI} {mc ms k n pc : Nat} {lv : List (Nat × Value)} {st : List Value} {σ : SS} {Q : Out → SS → Prop} {ν : MI} {mc1 ms1 idx : Nat} {P : Int64 → SS → Prop} {o ci : Nat} {r : vw_C} (as rest : List Value) (h : cf (mCd μ) pc = some (.invokevirtual idx, 3)) (hL : LV (mNm μ).cls idx ν as.length) (hs : shp z o = (0, ci)) (hc9 : vwCl[ci]? = some r) (hc : r.1 = (mNm ν).cls) (hcal : Cs z sc ν mc1 ms1 (.ref o :: as) σ (RL9 P)) (hst : st = as.reverse ++ .ref o :: rest) (hrm : rmB μ ν rest = true) (hmc : k + mc1 ≤ mc) (hms : n + ms1 ≤ ms) (hh : mHh μ = []) (kk : ∀ v σ', P v σ' → Ws z sc μ mc ms (k + mc1) (n + ms1) (pc + 3) lv (.long v :: rest) σ' Q) : Ws z sc μ mc ms k n pc lv st σ Q := by
  refine r_vir as rest h hL (shp_in hs (by decide)) (mkG_o hs) hc9 hc hcal hst hrm hmc hms hh (fun ec S' q => (RL_no ec S' q).elim) ?_
  rintro r0 S' ⟨σ', rfl, v, q9, hp⟩
  cases q9
  exact kk v σ' hp
theorem s_virV {z : SZ} {sc : SC} {μ : MI} {mc ms k n pc : Nat} {lv : List (Nat × Value)} {st : List Value} {σ : SS} {Q : Out → SS → Prop} {ν : MI} {mc1 ms1 idx : Nat} {P : SS → Prop} {o ci : Nat} {r : vw_C} (as rest : List Value) (h : cf (mCd μ) pc = some (.invokevirtual idx, 3)) (hL : LV (mNm μ).cls idx ν as.length) (hs : shp z o = (0, ci)) (hc9 : vwCl[ci]? = some r) (hc : r.1 = (mNm ν).cls) (hcal : Cs z sc ν mc1 ms1 (.ref o :: as) σ (RV P)) (hst : st = as.reverse ++ .ref o :: rest) (hrm : rmB μ ν rest = true) (hmc : k + mc1 ≤ mc) (hms : n + ms1 ≤ ms) (hh : mHh μ = []) (kk : ∀ σ', P σ' → Ws z sc μ mc ms (k + mc1) (n + ms1) (pc + 3) lv rest σ' Q) : Ws z sc μ mc ms k n pc lv st σ Q := by
  refine r_vir as rest h hL (shp_in hs (by decide)) (mkG_o hs) hc9 hc hcal hst hrm hmc hms hh (fun ec S' q => (RV_no ec S' q).elim) ?_
  rintro r0 S' ⟨σ', rfl, q9, hp⟩
  cases q9
  exact kk σ' hp
theorem s_staI {z : SZ} {sc : SC} {μ : MI} {mc ms k n pc : Nat} {lv : List (Nat × Value)} {st : List Value} {σ : SS} {Q : Out → SS → Prop} {ν : MI} {mc1 ms1 idx : Nat} {P : Int32 → SS → Prop}  (as rest : List Value) (h : cf (mCd μ) pc = some (.invokestatic idx, 3)) (hL : LS9 (mNm μ).cls idx ν as.length) (hcal : Cs z sc ν mc1 ms1 as σ (RI P)) (hst : st = as.reverse ++ rest) (hrm : rmB μ ν rest = true) (hmc : k + mc1 ≤ mc) (hms : n + ms1 ≤ ms) (hh : mHh μ = []) (kk : ∀ v σ', P v σ' → Ws z sc μ mc ms (k + mc1) (n + ms1) (pc + 3) lv (.int v :: rest) σ' Q) : Ws z sc μ mc ms k n pc lv st σ Q := by
  refine r_sta as rest h hL hcal hst hrm hmc hms hh (fun ec S' q => (RI_no ec S' q).elim) ?_
  rintro r0 S' ⟨σ', rfl, v, q9, hp⟩
  cases q9
  exact kk v σ' hp
theorem s_staL {z : SZ} {sc : SC} {μ : MI} {mc ms k n pc : Nat} {lv : List (Nat × Value)} {st : List Value} {σ : SS} {Q : Out → SS → Prop} {ν : MI} {mc1 ms1 idx : Nat} {P : Int64 → SS → Prop}  (as rest : List Value) (h : cf (mCd μ) pc = some (.invokestatic idx, 3)) (hL : LS9 (mNm μ).cls idx ν as.length) (hcal : Cs z sc ν mc1 ms1 as σ (RL9 P)) (hst : st = as.reverse ++ rest) (hrm : rmB μ ν rest = true) (hmc : k + mc1 ≤ mc) (hms : n + ms1 ≤ ms) (hh : mHh μ = []) (kk : ∀ v σ', P v σ' → Ws z sc μ mc ms (k + mc1) (n + ms1) (pc + 3) lv (.long v :: rest) σ' Q) : Ws z sc μ mc ms k n pc lv st σ Q := by
  refine r_sta as rest h hL hcal hst hrm hmc hms hh (fun ec S' q => (RL_no ec S' q).elim) ?_
  rintro r0 S' ⟨σ', rfl, v, q9, hp⟩
  cases q9
  exact kk v σ' hp
theorem s_staV {z : SZ} {sc : SC} {μ : MI} {mc ms k n pc : Nat} {lv : List (Nat × Value)} {st : List Value} {σ : SS} {Q : Out → SS → Prop} {ν : MI} {mc1 ms1 idx : Nat} {P : SS → Prop}  (as rest : List Value) (h : cf (mCd μ) pc = some (.invokestatic idx, 3)) (hL : LS9 (mNm μ).cls idx ν as.length) (hcal : Cs z sc ν mc1 ms1 as σ (RV P)) (hst : st = as.reverse ++ rest) (hrm : rmB μ ν rest = true) (hmc : k + mc1 ≤ mc) (hms : n + ms1 ≤ ms) (hh : mHh μ = []) (kk : ∀ σ', P σ' → Ws z sc μ mc ms (k + mc1) (n + ms1) (pc + 3) lv rest σ' Q) : Ws z sc μ mc ms k n pc lv st σ Q := by
  refine r_sta as rest h hL hcal hst hrm hmc hms hh (fun ec S' q => (RV_no ec S' q).elim) ?_
  rintro r0 S' ⟨σ', rfl, q9, hp⟩
  cases q9
  exact kk σ' hp
theorem s_staNI {z : SZ} {sc : SC} {μ : MI} {mc ms k n pc : Nat} {lv : List (Nat × Value)} {st : List Value} {σ : SS} {Q : Out → SS → Prop} {ν : MI} {mc1 ms1 idx : Nat} {P : Int32 → SS → Prop}  (as rest : List Value) (h : cf (mCd μ) pc = some (.invokestatic idx, 3)) (hL : LSN (mNm μ).cls idx ν as.length) (hcal : Cs z sc ν mc1 ms1 as σ (RI P)) (hst : st = as.reverse ++ rest) (hrm : rmB μ ν rest = true) (hmc : k + mc1 ≤ mc) (hms : n + ms1 ≤ ms) (kk : ∀ v σ', P v σ' → Ws z sc μ mc ms (k + mc1) (n + ms1) (pc + 3) lv (.int v :: rest) σ' Q) : Ws z sc μ mc ms k n pc lv st σ Q := by
  refine r_staN as rest h hL hcal RI_no hst hrm hmc hms ?_
  rintro r0 S' ⟨σ', rfl, v, q9, hp⟩
  cases q9
  exact kk v σ' hp
theorem s_staNL {z : SZ} {sc : SC} {μ : MI} {mc ms k n pc : Nat} {lv : List (Nat × Value)} {st : List Value} {σ : SS} {Q : Out → SS → Prop} {ν : MI} {mc1 ms1 idx : Nat} {P : Int64 → SS → Prop}  (as rest : List Value) (h : cf (mCd μ) pc = some (.invokestatic idx, 3)) (hL : LSN (mNm μ).cls idx ν as.length) (hcal : Cs z sc ν mc1 ms1 as σ (RL9 P)) (hst : st = as.reverse ++ rest) (hrm : rmB μ ν rest = true) (hmc : k + mc1 ≤ mc) (hms : n + ms1 ≤ ms) (kk : ∀ v σ', P v σ' → Ws z sc μ mc ms (k + mc1) (n + ms1) (pc + 3) lv (.long v :: rest) σ' Q) : Ws z sc μ mc ms k n pc lv st σ Q := by
  refine r_staN as rest h hL hcal RL_no hst hrm hmc hms ?_
  rintro r0 S' ⟨σ', rfl, v, q9, hp⟩
  cases q9
  exact kk v σ' hp
theorem s_staNV {z : SZ} {sc : SC} {μ : MI} {mc ms k n pc : Nat} {lv : List (Nat × Value)} {st : List Value} {σ : SS} {Q : Out → SS → Prop} {ν : MI} {mc1 ms1 idx : Nat} {P : SS → Prop}  (as rest : List Value) (h : cf (mCd μ) pc = some (.invokestatic idx, 3)) (hL : LSN (mNm μ).cls idx ν as.length) (hcal : Cs z sc ν mc1 ms1 as σ (RV P)) (hst : st = as.reverse ++ rest) (hrm : rmB μ ν rest = true) (hmc : k + mc1 ≤ mc) (hms : n + ms1 ≤ ms) (kk : ∀ σ', P σ' → Ws z sc μ mc ms (k + mc1) (n + ms1) (pc + 3) lv rest σ' Q) : Ws z sc μ mc ms k n pc lv st σ Q := by
  refine r_staN as rest h hL hcal RV_no hst hrm hmc hms ?_
  rintro r0 S' ⟨σ', rfl, q9, hp⟩
  cases q9
  exact kk σ' hp
theorem s_staWI {z : SZ} {sc : SC} {μ : MI} {mc ms k n pc : Nat} {lv : List (Nat × Value)} {st : List Value} {σ : SS} {Q : Out → SS → Prop} {ν : MI} {mc1 ms1 idx : Nat} {P : Int32 → SS → Prop}  (as rest : List Value) (h : cf (mCd μ) pc = some (.invokestatic idx, 3)) (hL : LSW (mNm μ).cls idx ν as.length) (hcal : Cs z sc ν mc1 ms1 as σ (RI P)) (hst : st = as.reverse ++ rest) (hrm : rmB μ ν rest = true) (hmc : k + mc1 ≤ mc) (hms : n + ms1 ≤ ms) (kk : ∀ v σ', P v σ' → Ws z sc μ mc ms (k + mc1) (n + ms1) (pc + 3) lv (.int v :: rest) σ' Q) : Ws z sc μ mc ms k n pc lv st σ Q := by
  refine r_staW as rest h hL hcal RI_no hst hrm hmc hms ?_
  rintro r0 S' ⟨σ', rfl, v, q9, hp⟩
  cases q9
  exact kk v σ' hp
/-- a call that throws -/
theorem s_virX {z : SZ} {sc : SC} {μ : MI} {mc ms k n pc : Nat} {lv : List (Nat × Value)} {st : List Value} {σ : SS} {Q : Out → SS → Prop} {ν : MI} {mc1 ms1 idx : Nat} {P : SS → Prop} {o ci ec : Nat} {r : vw_C} (as rest : List Value) (h : cf (mCd μ) pc = some (.invokevirtual idx, 3)) (hL : LV (mNm μ).cls idx ν as.length) (hs : shp z o = (0, ci)) (hc9 : vwCl[ci]? = some r) (hc : r.1 = (mNm ν).cls) (hcal : Cs z sc ν mc1 ms1 (.ref o :: as) σ (RX ec P)) (hst : st = as.reverse ++ .ref o :: rest) (hrm : rmB μ ν rest = true) (hmc : k + mc1 ≤ mc) (hms : n + ms1 ≤ ms) (hh : mHh μ = []) (kk : ∀ σ', P σ' → Q (.inr ec) σ') : Ws z sc μ mc ms k n pc lv st σ Q := by
  refine r_vir as rest h hL (shp_in hs (by decide)) (mkG_o hs) hc9 hc hcal hst hrm hmc hms hh ?_ ?_
  · rintro e9 S' ⟨σ', rfl, h1, hp⟩
    cases h1
    exact ⟨σ', rfl, kk σ' hp⟩
  · rintro r0 S' ⟨σ', rfl, h1, hp⟩
    cases h1
theorem s_staX {z : SZ} {sc : SC} {μ : MI} {mc ms k n pc : Nat} {lv : List (Nat × Value)} {st : List Value} {σ : SS} {Q : Out → SS → Prop} {ν : MI} {mc1 ms1 idx : Nat} {P : SS → Prop} {ec : Nat} (as rest : List Value) (h : cf (mCd μ) pc = some (.invokestatic idx, 3)) (hL : LS9 (mNm μ).cls idx ν as.length) (hcal : Cs z sc ν mc1 ms1 as σ (RX ec P)) (hst : st = as.reverse ++ rest) (hrm : rmB μ ν rest = true) (hmc : k + mc1 ≤ mc) (hms : n + ms1 ≤ ms) (hh : mHh μ = []) (kk : ∀ σ', P σ' → Q (.inr ec) σ') : Ws z sc μ mc ms k n pc lv st σ Q := by
  refine r_sta as rest h hL hcal hst hrm hmc hms hh ?_ ?_
  · rintro e9 S' ⟨σ', rfl, h1, hp⟩
    cases h1
    exact ⟨σ', rfl, kk σ' hp⟩
  · rintro r0 S' ⟨σ', rfl, h1, hp⟩
    cases h1
theorem s_ret {z : SZ} {sc : SC} {μ : MI} {mc ms k n pc : Nat} {lv : List (Nat × Value)} {st : List Value} {σ : SS} {Q : Out → SS → Prop} {x : Int32} {t : FieldType} (h : cf (mCd μ) pc = some (.ireturn, 1)) (hrt : mRt μ = some t) (hn : narrow t (.int x) = .int x) (hk : k ≤ mc) (hs : n ≤ ms) (hq : Q (.inl (some (.int x))) σ) : Ws z sc μ mc ms k n pc lv [.int x] σ Q := r_ret h hrt hn hk hs ⟨σ, rfl, hq⟩
theorem s_lret {z : SZ} {sc : SC} {μ : MI} {mc ms k n pc : Nat} {lv : List (Nat × Value)} {st : List Value} {σ : SS} {Q : Out → SS → Prop} {x : Int64} (h : cf (mCd μ) pc = some (.lreturn, 1)) (hrt : mRt μ = some .long) (hk : k ≤ mc) (hs : n ≤ ms) (hq : Q (.inl (some (.long x))) σ) : Ws z sc μ mc ms k n pc lv [.long x] σ Q := r_lret h hrt hk hs ⟨σ, rfl, hq⟩
theorem s_vret {z : SZ} {sc : SC} {μ : MI} {mc ms k n pc : Nat} {lv : List (Nat × Value)} {st : List Value} {σ : SS} {Q : Out → SS → Prop} (h : cf (mCd μ) pc = some (.return_, 1)) (hrt : mRt μ = none) (hk : k ≤ mc) (hs : n ≤ ms) (hq : Q (.inl none) σ) : Ws z sc μ mc ms k n pc lv [] σ Q := r_vret h hrt hk hs ⟨σ, rfl, hq⟩
theorem s_throw {z : SZ} {sc : SC} {μ : MI} {mc ms k n pc : Nat} {lv : List (Nat × Value)} {st : List Value} {σ : SS} {Q : Out → SS → Prop} {ik is ic i ec : Nat} {tx : String} {bs : List Int32} (d0 : cf (mCd μ) pc = some (.new ik, 3)) (d3 : cf (mCd μ) (pc + 3) = some (.dup, 1)) (d4 : cf (mCd μ) (pc + 4) = some (.ldc is, 2)) (d6 : cf (mCd μ) (pc + 6) = some (.invokespecial ic, 3)) (d9 : cf (mCd μ) (pc + 9) = some (.athrow, 1)) (he : ec < 3) (hT : TH (mNm μ).cls ik ic ec) (hs : strJ[i]? = some ((mNm μ).cls, is, tx, bs)) (hh : mHh μ = []) (hfr : Nat.ble 6 (mFr μ) = true) (hlo : Nat.ble ((st.map fun v => v.category).sum + 82) (mLo μ) = true) (hk : k + 1 ≤ mc) (hn : n + 6 ≤ ms) (hq : Q (.inr ec) σ) : Ws z sc μ mc ms k n pc lv st σ Q := r_throw d0 d3 d4 d6 d9 he hT hs hh hfr hlo hk hn ⟨σ, rfl, hq⟩
theorem s_throwW {z : SZ} {sc : SC} {μ : MI} {mc ms k n pc : Nat} {lv : List (Nat × Value)} {st : List Value} {σ : SS} {Q : Out → SS → Prop} {ik is ic i ec : Nat} {tx : String} {bs : List Int32} (d0 : cf (mCd μ) pc = some (.new ik, 3)) (d3 : cf (mCd μ) (pc + 3) = some (.dup, 1)) (d4 : cf (mCd μ) (pc + 4) = some (.ldc_w is, 3)) (d6 : cf (mCd μ) (pc + 7) = some (.invokespecial ic, 3)) (d9 : cf (mCd μ) (pc + 10) = some (.athrow, 1)) (he : ec < 3) (hT : TH (mNm μ).cls ik ic ec) (hs : strJ[i]? = some ((mNm μ).cls, is, tx, bs)) (hh : mHh μ = []) (hfr : Nat.ble 6 (mFr μ) = true) (hlo : Nat.ble ((st.map fun v => v.category).sum + 82) (mLo μ) = true) (hk : k + 1 ≤ mc) (hn : n + 6 ≤ ms) (hq : Q (.inr ec) σ) : Ws z sc μ mc ms k n pc lv st σ Q := r_throwW d0 d3 d4 d6 d9 he hT hs hh hfr hlo hk hn ⟨σ, rfl, hq⟩
