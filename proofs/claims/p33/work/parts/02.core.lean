/-! The layer between the kit's rows and the contracts of this claim. A heap is a function from places (the order of making) to things; a place is the base plus its number. -/
abbrev AE : Type := (Nat × Nat × (Nat → Int32)) ⊕ ((Nat × (Nat → Int64)) ⊕ (Nat × (Nat → Value)))
abbrev AS : Type := (Nat → AE) × Nat × Bool
abbrev Out : Type := Option Value ⊕ Nat
/-- name, code, words of locals, return, frames below, words below, handlers, instructions -/
abbrev MI : Type := MethodName × ByteArray × Nat × Option FieldType × Nat × Nat × List (Nat × Nat × Nat × Nat) × List (Nat × Instr × Nat)
abbrev mNm (μ : MI) : MethodName := μ.1
abbrev mBs (μ : MI) : ByteArray := μ.2.1
abbrev mMl (μ : MI) : Nat := μ.2.2.1
abbrev mRt (μ : MI) : Option FieldType := μ.2.2.2.1
abbrev mFr (μ : MI) : Nat := μ.2.2.2.2.1
abbrev mLo (μ : MI) : Nat := μ.2.2.2.2.2.1
abbrev mHh (μ : MI) : List (Nat × Nat × Nat × Nat) := μ.2.2.2.2.2.2.1
abbrev mCd (μ : MI) : List (Nat × Instr × Nat) := μ.2.2.2.2.2.2.2
/-- the instruction at a place -/
def cf : List (Nat × Instr × Nat) → Nat → Option (Instr × Nat)
  | [], _ => none
  | e :: t, q => if e.1 = q then some e.2 else cf t q
theorem cf_mem : ∀ (l : List (Nat × Instr × Nat)) (q : Nat) (x : Instr × Nat), cf l q = some x → (q, x) ∈ l
  | [], _, _, h => by cases h
  | e :: t, q, x, h => by
    unfold cf at h
    by_cases he : e.1 = q
    · rw [if_pos he] at h
      cases h
      subst he
      exact List.mem_cons_self
    · rw [if_neg he] at h
      exact List.mem_cons_of_mem _ (cf_mem t q x h)
def DK (μ : MI) : Prop := ∀ (q : Nat) (x : Instr × Nat), cf (mCd μ) q = some x → decode (mBs μ) q = .ok x
def dkB (b : ByteArray) (l : List (Nat × Instr × Nat)) : Bool := l.all (fun e => decide (decode b e.1 = .ok e.2))
theorem dk_of {μ : MI} (h : dkB (mBs μ) (mCd μ) = true) : DK μ := by
  intro q x hx
  have h1 := List.all_eq_true.mp h _ (cf_mem _ _ _ hx)
  exact of_decide_eq_true h1
/-- private methods of the class above, on a receiver of the class below: words made of the tables' -/
def lw_xw : List MethodName := [⟨"java/lang/AbstractStringBuilder", "ensureCapacityInternal", "(I)V"⟩, ⟨"java/lang/AbstractStringBuilder", "newCapacity", "(I)I"⟩, ⟨"java/lang/AbstractStringBuilder", "putStringAt", "(ILjava/lang/String;)V"⟩, ⟨"java/lang/AbstractStringBuilder", "inflateIfNeededFor", "(Ljava/lang/String;)V"⟩]
def lw_sx : List Cond := lw_xw.map (fun y => Cond.selects "java/lang/StringBuilder" y y)
def lw_gd : List Cond := lw_sx ++ lw_tbl.filter goodWord
theorem lw_gd_of {w : Cond} (h : w ∈ lw_tbl) (g : goodWord w = true) : w ∈ lw_gd := List.mem_append_right _ (List.mem_filter.mpr ⟨h, g⟩)
theorem lw_gd_sx {y : MethodName} (h : y ∈ lw_xw) : Cond.selects "java/lang/StringBuilder" y y ∈ lw_gd := List.mem_append_left _ (List.mem_map.mpr ⟨y, h, rfl⟩)
theorem lw_gd_good {w : Cond} (h : w ∈ lw_gd) : (w.onTables && w.keeps) = true ∨ ∃ ty, w = .arrayClass ty := by
  rcases List.mem_append.mp h with h | h
  · obtain ⟨y, -, rfl⟩ := List.mem_map.mp h
    exact Or.inl rfl
  · exact good_of_word (List.mem_filter.mp h).2
def cdW (μ : MI) : Cond := match mHh μ with
  | [] => .code (mNm μ) (mBs μ) (mMl μ) (mRt μ)
  | h :: t => .codeWith (mNm μ) (mBs μ) (mMl μ) (mRt μ) (h :: t)
def wsO (μ : MI) : List Cond := cdW μ :: lw_gd
def GM (μ : MI) : Prop := plainName (mNm μ).cls = true ∧ cdW μ ∈ lw_gd ∧ DK μ ∧ ((mNm μ).cls ≠ "java/lang/invoke/MethodHandle" ∧ (mNm μ).cls ≠ "java/lang/invoke/VarHandle") ∧ Cond.initialized (mNm μ).cls ∈ lw_gd
theorem gin_O {μ ν : MI} (h : cdW ν ∈ lw_gd) : GoodIn (wsO μ) (wsO ν) := by
  intro w hw
  rcases List.mem_cons.mp hw with e | e
  · subst e
    exact ⟨List.mem_cons_of_mem _ h, lw_gd_good h⟩
  · exact ⟨List.mem_cons_of_mem _ e, lw_gd_good e⟩
def rmO (μ : MI) (mc ms : Nat) : Room := { frames := mFr μ, cells := mc, slots := ms, locals := mLo μ }
/-- a launch's numbers: classes, slots, array classes; base; strings: object and row; script -/
abbrev KX : Type := (va_G × (Nat → ClassId)) × (Nat × (Nat → Nat) × (Nat → Nat) × Nat × Option Nat × Nat × (Nat → Nat))
/-- the script: its length and its numbers -/
abbrev SC : Type := Nat × (Nat → Int32)
abbrev kD (κ : KX) : va_G := κ.1.1
abbrev kA (κ : KX) : Nat → ClassId := κ.1.2
abbrev kB (κ : KX) : Nat := κ.2.1
abbrev kSK (κ : KX) : Nat → Nat := κ.2.2.1
abbrev kSV (κ : KX) : Nat → Nat := κ.2.2.2.1
abbrev kSb (κ : KX) : Nat := κ.2.2.2.2.1
abbrev kZ (κ : KX) : Option Nat := κ.2.2.2.2.2.1
/-- from here on a place is free; below it only the class's 53 are -/
abbrev kU (κ : KX) : Nat := κ.2.2.2.2.2.2.1
/-- the two rows of digits -/
abbrev kDT (κ : KX) : Nat → Nat := κ.2.2.2.2.2.2.2
def kF (κ : KX) : Nat → Prop := fun q => kB κ ≤ q ∧ (kU κ ≤ q ∨ q < kB κ + 53)
/-- strings 0 to 49, their rows 50 to 98, the formatter of the checks 99, the script 100 -/
def cvK (κ : KX) (i : Nat) : Value := if i < 50 then .ref (kSK κ i) else if i < 99 then .ref (kSV κ (i - 50)) else if i < 100 then (match kZ κ with | some t => .ref t | none => .null) else if i < 101 then .ref (kSb κ) else .ref (kDT κ (i - 101))
def cv (κ : KX) : Value → Value
  | .ref i => .ref (kB κ + i)
  | .retAddr i => cvK κ i
  | .int x => .int x
  | .long x => .long x
  | .float x => .float x
  | .double x => .double x
  | .null => .null
theorem cv_cat (κ : KX) (v : Value) : (cv κ v).category = v.category := by
  cases v with
  | retAddr i =>
    show (cvK κ i).category = 1
    unfold cvK
    split
    · rfl
    · split
      · rfl
      · split
        · split <;> rfl
        · split <;> rfl
  | _ => rfl
def nfs (ci : Nat) : Nat := match vwCl[ci]? with
  | some r => r.2.2
  | none => 0
/-- an address, or null -/
def adr (κ : KX) : Value → Option Nat
  | .ref i => some (kB κ + i)
  | _ => none
/-- objects: below 50 by their class; 50 to 99: nothing is known of the place; from 100 on: rows of references, their length behind 100 -/
def conv (κ : KX) : AE → va_E
  | .inl a => .inl (kA κ a.1, a.2.1, .inl a.2.2)
  | .inr (.inl a) => .inl (kA κ 3, a.1, .inr (.inl a.2))
  | .inr (.inr o) => if o.1 < 50 then .inr (o.1, (List.range (nfs o.1)).map (fun k => cv κ (o.2 k))) else .inl (kA κ 4, o.1 - 100, .inr (.inr (.inr (.inr (fun j => adr κ (o.2 j))))))
def jk : AE → Bool
  | .inr (.inr o) => Nat.ble 50 o.1 && Nat.ble o.1 99
  | _ => false
def aup {α : Type} (G : Nat → α) (i : Nat) (e : α) : Nat → α := fun j => if j = i then e else G j
theorem aup_s {α : Type} (G : Nat → α) (i : Nat) (e : α) : aup G i e i = e := if_pos rfl
theorem aup_n {α : Type} (G : Nat → α) {i j : Nat} (e : α) (h : j ≠ i) : aup G i e j = G j := if_neg h
/-- the places of which something is known -/
def lvs (G : Nat → AE) (n : Nat) : List Nat := (List.range n).filter (fun i => !jk (G i))
def wsL (κ : KX) (G : Nat → AE) (n : Nat) : va_W := (lvs G n).map fun i => (kB κ + i, conv κ (G i))
theorem lvs_mem {G : Nat → AE} {n i : Nat} : i ∈ lvs G n ↔ i < n ∧ jk (G i) = false := by
  unfold lvs
  rw [List.mem_filter, List.mem_range]
  simp
theorem wsL_get {κ : KX} {G : Nat → AE} {n k : Nat} {q : Nat × va_E} (h : (wsL κ G n)[k]? = some q) : ∃ i, (lvs G n)[k]? = some i ∧ i < n ∧ jk (G i) = false ∧ q = (kB κ + i, conv κ (G i)) := by
  unfold wsL at h
  rw [List.getElem?_map] at h
  cases hi : (lvs G n)[k]? with
  | none => rw [hi] at h; cases h
  | some i =>
    rw [hi] at h
    have h1 := lvs_mem.mp (List.mem_of_getElem? hi)
    exact ⟨i, rfl, h1.1, h1.2, (Option.some.inj h).symm⟩
theorem wsL_pos (κ : KX) {G : Nat → AE} {n i : Nat} (h : i < n) (hj : jk (G i) = false) : ∃ k : Nat, (lvs G n)[k]? = some i ∧ (wsL κ G n)[k]? = some (kB κ + i, conv κ (G i)) := by
  obtain ⟨k, hk⟩ : ∃ k : Nat, (lvs G n)[k]? = some i := List.mem_iff_getElem?.mp (lvs_mem.mpr ⟨h, hj⟩)
  refine ⟨k, hk, ?_⟩
  unfold wsL
  rw [List.getElem?_map, hk]
  rfl
theorem lvs_nd (G : Nat → AE) (n : Nat) : (lvs G n).Nodup := List.Pairwise.filter _ List.nodup_range
theorem lvs_inj {G : Nat → AE} {n a b i : Nat} (ha : (lvs G n)[a]? = some i) (hb : (lvs G n)[b]? = some i) : a = b :=
  (List.getElem?_inj (List.getElem?_eq_some_iff.mp ha).1 (lvs_nd G n)).mp (ha.trans hb.symm)
theorem wsL_D (κ : KX) (G : Nat → AE) (n : Nat) (hF : ∀ i, i < n → kF κ (kB κ + i)) : va_D (kF κ) (wsL κ G n) := by
  refine ⟨fun a b p q ha hb e => ?_, fun k q hk => ?_⟩
  · obtain ⟨i, h1, -, -, rfl⟩ := wsL_get ha
    obtain ⟨j, g1, -, -, rfl⟩ := wsL_get hb
    have e2 : kB κ + i = kB κ + j := e
    have e3 : i = j := by omega
    subst e3
    exact lvs_inj h1 g1
  · obtain ⟨i, h1, h2, -, rfl⟩ := wsL_get hk
    exact hF i h2
def Rep (κ : KX) (S : AS) (H : Heap) : Prop := (∀ i, i < S.2.1 → jk (S.1 i) = false → va_at (kD κ) vwCl (kB κ + i, conv κ (S.1 i)) H) ∧ (kB κ + S.2.1 ≤ H.size ∧ (S.2.2 = true → H.size = kB κ + S.2.1)) ∧ (∀ i, i < S.2.1 → kF κ (kB κ + i))
theorem va1 {D : va_G} {cl : List vw_C} {q : Nat × va_E} {H : Heap} (h : va_at D cl q H) : va_P D cl [q] H := by
  intro k x hx
  match k, hx with
  | 0, hx => cases hx; exact h
  | k + 1, hx => cases hx
theorem Rep.kept {κ : KX} {S : AS} {H H1 : Heap} (hR : Rep κ S H) (hk : ∀ q, q < H.size → H1[q]? = H[q]?) : ∀ i, i < S.2.1 → jk (S.1 i) = false → va_at (kD κ) vwCl (kB κ + i, conv κ (S.1 i)) H1 :=
  fun i hi hj => (hR.1 i hi hj).kept (hk _ (hR.1 i hi hj).lt)
theorem Rep.P {κ : KX} {S : AS} {H : Heap} (hR : Rep κ S H) : va_P (kD κ) vwCl (wsL κ S.1 S.2.1) H := fun k q hk => by
  obtain ⟨i, -, h1, h2, rfl⟩ := wsL_get hk
  exact hR.1 i h1 h2
theorem repSet {κ : KX} {S : AS} {H1 : Heap} {b pb : Nat} {e : AE} {x : va_E} (hpb : (lvs S.1 S.2.1)[pb]? = some b) (he : conv κ e = x) (hP : va_P (kD κ) vwCl ((wsL κ S.1 S.2.1).set pb (kB κ + b, x)) H1) : ∀ i, i < S.2.1 → jk (aup S.1 b e i) = false → va_at (kD κ) vwCl (kB κ + i, conv κ (aup S.1 b e i)) H1 := by
  intro i hi hji
  by_cases hib : i = b
  · subst hib
    rw [aup_s, he]
    have h9 : (wsL κ S.1 S.2.1)[pb]? = some (kB κ + i, conv κ (S.1 i)) := by
      unfold wsL
      rw [List.getElem?_map, hpb]
      rfl
    exact hP pb _ (List.getElem?_set_self (List.getElem?_eq_some_iff.mp h9).1)
  · rw [aup_n _ _ hib] at hji ⊢
    obtain ⟨k, hk, hk2⟩ := wsL_pos κ hi hji
    have hne : pb ≠ k := fun q => by
      subst q
      exact hib (Option.some.inj (hk.symm.trans hpb))
    exact hP k _ (by rw [List.getElem?_set_ne hne]; exact hk2)
/-- one place is written, or a new one is made -/
theorem Rep.put {κ : KX} {S : AS} {H H1 : Heap} {o : Nat} {e : AE} (hR : Rep κ S H) (hlt : o < S.2.1) (hz : H1.size = H.size) (hP : va_at (kD κ) vwCl (kB κ + o, conv κ e) H1) (oq : ∀ q, q ≠ kB κ + o → H1[q]? = H[q]?) : Rep κ (aup S.1 o e, S.2) H1 := by
  refine ⟨fun i hi hj => ?_, ⟨by rw [hz]; exact hR.2.1.1, fun q => by rw [hz]; exact hR.2.1.2 q⟩, hR.2.2⟩
  by_cases hio : i = o
  · subst hio
    show va_at _ _ (_, conv κ (aup S.1 i e i)) H1
    rw [aup_s]
    exact hP
  · show va_at _ _ (_, conv κ (aup S.1 o e i)) H1
    rw [aup_n _ _ hio]
    refine (hR.1 i hi ?_).kept (oq _ (by show kB κ + i ≠ kB κ + o; omega))
    rw [← hj]
    show _ = jk (aup S.1 o e i)
    rw [aup_n _ _ hio]
theorem Rep.push {κ : KX} {S : AS} {H H1 : Heap} {e : AE} (hR : Rep κ S H) (hU : kU κ ≤ H.size) (hex : S.2.2 = true) (hz : H1.size = H.size + 1) (hP : va_at (kD κ) vwCl (H.size, conv κ e) H1) (oq : ∀ q, q < H.size → H1[q]? = H[q]?) (b : Bool) : Rep κ (aup S.1 S.2.1 e, S.2.1 + 1, b) H1 := by
  have hz0 := hR.2.1.2 hex
  refine ⟨fun i hi hj => ?_, ⟨by show kB κ + (S.2.1 + 1) ≤ H1.size; omega, fun q => by show H1.size = kB κ + (S.2.1 + 1); omega⟩, fun i hi => ?_⟩
  · by_cases hio : i = S.2.1
    · subst hio
      show va_at _ _ (_, conv κ (aup S.1 S.2.1 e S.2.1)) H1
      rw [aup_s, ← hz0]
      exact hP
    · have hi2 : i < S.2.1 + 1 := hi
      show va_at _ _ (_, conv κ (aup S.1 S.2.1 e i)) H1
      rw [aup_n _ _ hio]
      refine hR.kept oq i (by omega) ?_
      rw [← hj]
      show _ = jk (aup S.1 S.2.1 e i)
      rw [aup_n _ _ hio]
  · have hi2 : i < S.2.1 + 1 := hi
    by_cases hio : i = S.2.1
    · subst hio
      exact ⟨Nat.le_add_right _ _, Or.inl (by omega)⟩
    · exact hR.2.2 i (by omega)
def tysK (κ : KX) : List (ClassId × FieldType) := [(kA κ 0, .int), (kA κ 1, .byte), (kA κ 2, .boolean), (kA κ 3, .long), (kA κ 4, .array .int)]
/-- a string constant: class, entry, text's bytes -/
def SK (κ : KX) (i : Nat) (byt : List Int32) (U : State) : Prop :=
  va_O "java/lang/String" (kSK κ i) (kF κ) U U.heap ∧ va_OF "java/lang/String" "coder" "B" (.int 0) (kSK κ i) (kF κ) U U.heap ∧ va_OF "java/lang/String" "value" "[B" (.ref (kSV κ i)) (kSK κ i) (kF κ) U U.heap ∧ va_T .byte (kSV κ i) byt.length (fun j => .int (byt.getD j 0)) (kF κ) U U.heap
/-- the words that move by laws of their own -/
def lw_nest : List (String × Nat × MethodName × String) := [("EstateSettlement", 9, ⟨"EstateSettlement$Parser", "<init>", "()V"⟩, "EstateSettlement"), ("EstateSettlement$Parser", 11, ⟨"EstateSettlement$Input", "<init>", "()V"⟩, "EstateSettlement"), ("EstateSettlement$Parser", 20, ⟨"EstateSettlement$Estate", "<init>", "()V"⟩, "EstateSettlement"), ("EstateSettlement", 18, ⟨"EstateSettlement$Estate", "<init>", "()V"⟩, "EstateSettlement"), ("EstateSettlement", 32, ⟨"EstateSettlement$Settlement", "<init>", "()V"⟩, "EstateSettlement"), ("EstateSettlement$Settlement", 11, ⟨"EstateSettlement$Inventory", "<init>", "()V"⟩, "EstateSettlement"), ("EstateSettlement$Settlement", 20, ⟨"EstateSettlement$Lines", "<init>", "()V"⟩, "EstateSettlement"), ("EstateSettlement$Settlement", 27, ⟨"EstateSettlement$Portions", "<init>", "()V"⟩, "EstateSettlement"), ("EstateSettlement", 45, ⟨"EstateSettlement$Memory", "<init>", "()V"⟩, "EstateSettlement"), ("EstateSettlement$Inventory", 51, ⟨"EstateSettlement", "at", "([II)I"⟩, "EstateSettlement"), ("EstateSettlement$Inventory", 55, ⟨"EstateSettlement", "portion", "(III)I"⟩, "EstateSettlement"), ("EstateSettlement$Inventory", 70, ⟨"EstateSettlement", "sumOf", "([I)I"⟩, "EstateSettlement"), ("EstateSettlement$Inventory", 80, ⟨"EstateSettlement", "split", "(I[I[I)V"⟩, "EstateSettlement"), ("EstateSettlement$Lines", 42, ⟨"EstateSettlement", "at", "([II)I"⟩, "EstateSettlement"), ("EstateSettlement$Lines", 60, ⟨"EstateSettlement", "hasBit", "(II)Z"⟩, "EstateSettlement"), ("EstateSettlement$Lines", 64, ⟨"EstateSettlement", "leastCommonMultiple", "(II)I"⟩, "EstateSettlement"), ("EstateSettlement$Settlement", 128, ⟨"EstateSettlement", "portion", "(III)I"⟩, "EstateSettlement"), ("EstateSettlement$Portions", 69, ⟨"EstateSettlement", "sumOf", "([I)I"⟩, "EstateSettlement"), ("EstateSettlement$Portions", 62, ⟨"EstateSettlement", "portion", "(III)I"⟩, "EstateSettlement"), ("EstateSettlement$Portions", 54, ⟨"EstateSettlement", "split", "(I[I[I)V"⟩, "EstateSettlement"), ("EstateSettlementLaw", 51, ⟨"EstateSettlementLaw$Estate", "<init>", "()V"⟩, "EstateSettlementLaw"), ("EstateSettlement$State", 33, ⟨"EstateSettlement", "asInt", "(Z)I"⟩, "EstateSettlement"), ("EstateSettlement$Settlement", 100, ⟨"EstateSettlement", "at", "([II)I"⟩, "EstateSettlement"), ("EstateSettlementLaw", 225, ⟨"EstateSettlementLaw$Estate", "isEmpty", "(I)Z"⟩, "EstateSettlementLaw")]
def lw_fnest : List (String × Nat × String × String × String × String) := [("EstateSettlementLaw", 52, "EstateSettlementLaw$Estate", "persons", "I", "EstateSettlementLaw"), ("EstateSettlementLaw", 61, "EstateSettlementLaw$Estate", "spouse", "I", "EstateSettlementLaw"), ("EstateSettlementLaw", 106, "EstateSettlementLaw$Estate", "whole", "I", "EstateSettlementLaw"), ("EstateSettlementLaw", 109, "EstateSettlementLaw$Estate", "part", "I", "EstateSettlementLaw"), ("EstateSettlementLaw", 114, "EstateSettlementLaw$Estate", "life", "I", "EstateSettlementLaw"), ("EstateSettlementLaw", 119, "EstateSettlementLaw$Estate", "line", "Z", "EstateSettlementLaw"), ("EstateSettlementLaw", 58, "EstateSettlementLaw$Estate", "parent", "[I", "EstateSettlementLaw"), ("EstateSettlementLaw", 66, "EstateSettlementLaw$Estate", "age", "[I", "EstateSettlementLaw"), ("EstateSettlementLaw", 73, "EstateSettlementLaw$Estate", "dead", "[Z", "EstateSettlementLaw"), ("EstateSettlementLaw", 259, "EstateSettlementLaw$Estate", "refuses", "[Z", "EstateSettlementLaw"), ("EstateSettlementLaw", 79, "EstateSettlementLaw$Estate", "assets", "[[I", "EstateSettlementLaw"), ("EstateSettlementLaw", 93, "EstateSettlementLaw$Estate", "debts", "[[I", "EstateSettlementLaw"), ("EstateSettlementLaw", 98, "EstateSettlementLaw$Estate", "gifts", "[[I", "EstateSettlementLaw"), ("EstateSettlementLaw", 103, "EstateSettlementLaw$Estate", "legacies", "[[I", "EstateSettlementLaw"), ("EstateSettlementLaw", 166, "EstateSettlementLaw$Estate", "paid", "[I", "EstateSettlementLaw"), ("EstateSettlementLaw", 171, "EstateSettlementLaw$Estate", "bequeathed", "[I", "EstateSettlementLaw"), ("EstateSettlementLaw", 235, "EstateSettlementLaw$Estate", "divisors", "[I", "EstateSettlementLaw"), ("EstateSettlementLaw", 253, "EstateSettlementLaw$Estate", "got", "[I", "EstateSettlementLaw"), ("EstateSettlementLaw", 241, "EstateSettlementLaw$Estate", "weights", "[I", "EstateSettlementLaw"), ("EstateSettlementLaw", 247, "EstateSettlementLaw$Estate", "dues", "[I", "EstateSettlementLaw"), ("EstateSettlementLaw", 238, "EstateSettlementLaw$Estate", "out", "[Z", "EstateSettlementLaw"), ("EstateSettlementLaw", 250, "EstateSettlementLaw$Estate", "cents", "[Z", "EstateSettlementLaw"), ("EstateSettlementLaw", 178, "EstateSettlementLaw$Estate", "net", "J", "EstateSettlementLaw"), ("EstateSettlementLaw", 182, "EstateSettlementLaw$Estate", "owed", "J", "EstateSettlementLaw"), ("EstateSettlementLaw", 185, "EstateSettlementLaw$Estate", "residue", "J", "EstateSettlementLaw"), ("EstateSettlementLaw", 188, "EstateSettlementLaw$Estate", "widow", "J", "EstateSettlementLaw"), ("EstateSettlementLaw", 191, "EstateSettlementLaw$Estate", "burden", "J", "EstateSettlementLaw"), ("EstateSettlementLaw", 194, "EstateSettlementLaw$Estate", "worth", "J", "EstateSettlementLaw"), ("EstateSettlementLaw", 197, "EstateSettlementLaw$Estate", "fund", "J", "EstateSettlementLaw"), ("EstateSettlementLaw", 200, "EstateSettlementLaw$Estate", "state", "J", "EstateSettlementLaw"), ("EstateSettlementLaw", 244, "EstateSettlementLaw$Estate", "pot", "J", "EstateSettlementLaw")]
def lw_cst : List (String × String) := [("java/lang/IllegalArgumentException", "java/lang/IllegalArgumentException"), ("java/lang/IndexOutOfBoundsException", "java/lang/IndexOutOfBoundsException"), ("java/lang/IllegalStateException", "java/lang/IllegalStateException"), ("[B", "java/lang/Cloneable")]
def lw_ncst : List (String × String) := []
def lw_dcl : List MethodName := [Bundle.initS "java/lang/RuntimeException", Bundle.initS "java/lang/Exception", Bundle.initS Bundle.tN]
def strJ : List (String × Nat × String × List Int32) := [("EstateSettlement", 77, "length", [108, 101, 110, 103, 116, 104]), ("EstateSettlement$Parser", 76, "person", [112, 101, 114, 115, 111, 110]), ("EstateSettlement$Parser", 138, "under", [117, 110, 100, 101, 114]), ("EstateSettlement$Parser", 146, "age", [97, 103, 101]), ("EstateSettlement$Parser", 163, "dead", [100, 101, 97, 100]), ("EstateSettlement$Parser", 168, "spouse", [115, 112, 111, 117, 115, 101]), ("EstateSettlement$Parser", 85, "asset", [97, 115, 115, 101, 116]), ("EstateSettlement$Parser", 173, "charge", [99, 104, 97, 114, 103, 101]), ("EstateSettlement$Parser", 90, "debt", [100, 101, 98, 116]), ("EstateSettlement$Parser", 95, "gift", [103, 105, 102, 116]), ("EstateSettlement$Parser", 100, "legacy", [108, 101, 103, 97, 99, 121]), ("EstateSettlement$Parser", 105, "share", [115, 104, 97, 114, 101]), ("EstateSettlement$Parser", 110, "life", [108, 105, 102, 101]), ("EstateSettlement$Parser", 115, "accrue", [97, 99, 99, 114, 117, 101]), ("EstateSettlement$Parser", 208, "line", [108, 105, 110, 101]), ("EstateSettlement$Parser", 210, "others", [111, 116, 104, 101, 114, 115]), ("EstateSettlement", 388, "what", [119, 104, 97, 116]), ("EstateSettlement", 382, "person", [112, 101, 114, 115, 111, 110]), ("EstateSettlement", 384, "asset", [97, 115, 115, 101, 116]), ("EstateSettlement", 194, "debt", [100, 101, 98, 116]), ("EstateSettlement", 210, "legacy", [108, 101, 103, 97, 99, 121]), ("EstateSettlement", 390, "out of range", [111, 117, 116, 32, 111, 102, 32, 114, 97, 110, 103, 101]), ("EstateSettlement", 344, "gifts", [103, 105, 102, 116, 115]), ("EstateSettlementLaw", 56, "person ", [112, 101, 114, 115, 111, 110, 32]), ("EstateSettlementLaw", 64, " under ", [32, 117, 110, 100, 101, 114, 32]), ("EstateSettlementLaw", 69, " age ", [32, 97, 103, 101, 32]), ("EstateSettlementLaw", 71, " spouse", [32, 115, 112, 111, 117, 115, 101]), ("EstateSettlementLaw", 77, " dead", [32, 100, 101, 97, 100]), ("EstateSettlementLaw", 83, "asset ", [97, 115, 115, 101, 116, 32]), ("EstateSettlementLaw", 85, " charge ", [32, 99, 104, 97, 114, 103, 101, 32]), ("EstateSettlementLaw", 87, "debt", [100, 101, 98, 116]), ("EstateSettlementLaw", 96, "gift", [103, 105, 102, 116]), ("EstateSettlementLaw", 101, "legacy", [108, 101, 103, 97, 99, 121]), ("EstateSettlementLaw", 112, "share ", [115, 104, 97, 114, 101, 32]), ("EstateSettlementLaw", 117, "life ", [108, 105, 102, 101, 32]), ("EstateSettlementLaw", 123, "accrue ", [97, 99, 99, 114, 117, 101, 32]), ("EstateSettlementLaw", 125, "line", [108, 105, 110, 101]), ("EstateSettlementLaw", 126, "others", [111, 116, 104, 101, 114, 115])]
def nmD (i : Nat) : String := if i = 0 then "DigitTens" else "DigitOnes"
def tbD (i j : Nat) : Nat := if i = 0 then 48 + j / 10 else 48 + j % 10
/-- the two rows of digits -/
def DG (κ : KX) (U : State) : Prop := ∀ i, i < 2 → va_Z "java/lang/Integer" (nmD i) "[B" (.ref (kDT κ i)) (kF κ) U U.heap ∧ va_T .byte (kDT κ i) 100 (fun j => .int (nI (tbD i j))) (kF κ) U U.heap
/-- what holds at every method's start -/
def Gd (κ : KX) (sc : SC) (U : State) : Prop :=
  (va_K (kD κ) vwCl (tysK κ) U ∧ (kB κ ≤ U.heap.size ∧ kU κ ≤ U.heap.size)) ∧
  (∀ (i : Nat) (x : String × Nat × String × List Int32), strJ[i]? = some x → SK κ i x.2.2.2 U ∧ vk_R x.1 x.2.1 x.2.2.1 (kSK κ i) U) ∧
  (vx_Zq Bundle.tN "UNASSIGNED_STACK" Bundle.steD (kF κ) U U.heap ∧ vx_Zq Bundle.tN "SUPPRESSED_SENTINEL" Bundle.listD (kF κ) U U.heap ∧ DG κ U ∧ (Cond.arrayOver (.array .int)).before #[] U = true ∧ ∀ x ∈ lw_fnest, va_Nw (.fieldLinkNest x.1 x.2.1 x.2.2.1 x.2.2.2.1 x.2.2.2.2.1 x.2.2.2.2.2) U) ∧
  (va_Z "java/lang/String" "COMPACT_STRINGS" "Z" (.int 1) (kF κ) U U.heap ∧ va_Z "jdk/internal/util/Preconditions" "SIOOBE_FORMATTER" "Ljava/util/function/BiFunction;" (cvK κ 99) (kF κ) U U.heap) ∧
  ((∀ x ∈ lw_nest, va_Nw (.methodLinkNest x.1 x.2.1 x.2.2.1 x.2.2.2) U) ∧ (∀ x ∈ lw_cst, va_Nw (.castable x.1 x.2) U) ∧ (∀ x ∈ lw_ncst, va_Nc x.1 x.2 U) ∧ (∀ x ∈ lw_dcl, va_Nw (.declares x) U)) ∧
  (va_X (kSb κ) sc.1 sc.2 U U.heap ∧ kSb κ < U.heap.size ∧ ¬ kF κ (kSb κ))
theorem SK.next {κ : KX} {i : Nat} {byt : List Int32} {s U : State} {H : Heap} {locs : List Loc} (h : SK κ i byt s) (hW : s.WarmedH U.vm) (hh : U.heap = H) (hS : va_S (kF κ) s.heap H locs) : SK κ i byt U := by
  obtain ⟨h1, h2, h3, h4⟩ := h
  subst hh
  exact ⟨va_O.moved hW.alike (h1.kept hS.2.1), va_OF.moved hW.alike (h2.kept hS.2.1), va_OF.moved hW.alike (h3.kept hS.2.1), va_T.moved hW.alike (h4.kept hS.2.1)⟩
theorem Gd.next {κ : KX} {sc : SC} {s U : State} {H : Heap} {locs : List Loc} (h : Gd κ sc s) (hW : s.WarmedH U.vm) (hh : U.heap = H) (hS : va_S (kF κ) s.heap H locs) : Gd κ sc U := by
  obtain ⟨⟨g1, g1b⟩, g2, ⟨g3, g4, g4b, g4c, g4d⟩, ⟨g5, g6⟩, ⟨g7, g8, g9, g9b⟩, ⟨g10, g11, g12⟩⟩ := h
  subst hh
  refine ⟨⟨va_K.moved hW.alike g1, Nat.le_trans g1b.1 hS.1, Nat.le_trans g1b.2 hS.1⟩, fun i x hx => ⟨(g2 i x hx).1.next hW rfl hS, vk_R.warm hW (g2 i x hx).2⟩, ⟨vx_Zq.moved hW.alike (g3.kept hS.2.1), vx_Zq.moved hW.alike (g4.kept hS.2.1), fun i hi => ⟨va_Z.moved hW.alike ((g4b i hi).1.kept hS.2.1), va_T.moved hW.alike ((g4b i hi).2.kept hS.2.1)⟩, over_moved hW.alike g4c, fun x hx => va_Nw.warmF hW (g4d x hx)⟩, ⟨va_Z.moved hW.alike (g5.kept hS.2.1), va_Z.moved hW.alike (g6.kept hS.2.1)⟩, ⟨fun x hx => va_Nw.warmM hW (g7 x hx), fun x hx => va_Nw.warmC hW (g8 x hx), fun x hx => (g9 x hx).moved hW.alike, fun x hx => va_Nw.warmD hW (g9b x hx)⟩, ⟨?_, Nat.lt_of_lt_of_le g11 hS.1, g12⟩⟩
  exact va_X.moved hW.alike (g10.kept (hS.2.1 _ g11 g12))
theorem Gd.calling {κ : KX} {sc : SC} {U : State} {g : JFrame} {mk : MethodId} {a : Array Value} (h : Gd κ sc U) : Gd κ sc (U.calling g mk a) :=
  h.next (U := U.calling g mk a) (H := U.heap) (locs := []) (State.WarmedH.refl U) rfl va_S.rf
def exN : Nat → String
  | 0 => "java/lang/IndexOutOfBoundsException"
  | 1 => "java/lang/IllegalArgumentException"
  | _ => "java/lang/IllegalStateException"
def QO (κ : KX) (Q : Out → AS → Prop) : Array Value → State → Outcome → State → Prop := fun _ st o t => (∃ (r : Option Value) (S : AS), o = .returned (r.map (cv κ)) ∧ Q (.inl r) S ∧ Rep κ S t.heap) ∧ va_F (kF κ) st t
def XO (κ : KX) (Q : Out → AS → Prop) : String → State → State → Prop := fun E st t => (∃ (ec : Nat) (S : AS), exN ec = E ∧ ec < 3 ∧ Q (.inr ec) S ∧ Rep κ S t.heap) ∧ va_F (kF κ) st t
def cvs (κ : KX) (st : List Value) : List Value := st.map (cv κ)
def cvl (κ : KX) (lv : List (Nat × Value)) : List (Nat × Value) := lv.map fun q => (q.1, cv κ q.2)
/-- a frame of the method μ stands in the state s at whose start it was entered -/
def Cx (κ : KX) (sc : SC) (μ : MI) (p : Program) (s : State) (m : MethodId) (args : Array Value) (meth : Method) (c : Code) : Prop :=
  (p.tables.exec = Jvm.exec ∧ c.code = mBs μ ∧ meth.sig.returnType = mRt μ ∧ c.maxLocals = mMl μ ∧ s.vm.findClass (mNm μ).cls = some m.cls) ∧ (∀ w ∈ wsO μ, w.before args s = true) ∧ meth.locks = false ∧ c.exceptionTable.toList = tableOf (mHh μ) ∧ Gd κ sc s ∧ DK μ ∧ (mNm μ).name = meth.name
def Wp (sc : SC) (μ : MI) (mc ms k n : Nat) (pc : Nat) (lv : List (Nat × Value)) (st : List Value) (S : AS) (Q : Out → AS → Prop) : Prop :=
  ∀ (l : Launch) (κ : KX) (p : Program) (e : Env) (s : State) (m : MethodId) (args : Array Value) (below : List Frame) (meth : Method) (c : Code) (H : Heap) (locs : List Loc) (ls : Array Slot), l.stackTraces = false →
    Cx κ sc μ p s m args meth c → va_S (kF κ) s.heap H locs → Rep κ S H → lv_has ls (mMl μ) (cvl κ lv) →
    W p l e (rmO μ mc ms) s m args below meth c H locs k n (vx_MQ below (QO κ Q) (XO κ Q) args s mc ms (kF κ)) (F0 m pc ls (cvs κ st))
def Pc0 (κ : KX) (sc : SC) (as : List Value) (S : AS) : Array Value → State → Prop := va_Pc (cvs κ as) (fun U => Gd κ sc U ∧ Rep κ S U.heap)
def Cal (sc : SC) (μ : MI) (mc ms : Nat) (as : List Value) (S : AS) (Q : Out → AS → Prop) : Prop :=
  ∀ (l : Launch) (κ : KX), l.stackTraces = false → vx_Met l (mNm μ) (wsO μ) (rmO μ mc ms) (Pc0 κ sc as S) (QO κ Q) (XO κ Q) mc ms (kF κ)
theorem Pc0_blind (κ : KX) (sc : SC) (as : List Value) (S : AS) : FrameBlind (Pc0 κ sc as S) := by
  intro a U g mk h
  obtain ⟨h1, h2, h3⟩ := h
  exact ⟨h1, h2.calling, h3⟩
theorem cvl_args (κ : KX) : ∀ (as : List Value) (i : Nat), lv_args i (cvs κ as) = cvl κ (lv_args i as)
  | [], _ => rfl
  | v :: vs, i => by
    show (i, cv κ v) :: lv_args (if (cv κ v).category = 2 then i + 2 else i + 1) (cvs κ vs) = (i, cv κ v) :: cvl κ (lv_args (if v.category = 2 then i + 2 else i + 1) vs)
    rw [cv_cat, cvl_args κ vs]
theorem lg_len (κ : KX) (as : List Value) : (lg_sl (cvs κ as)).length = (lg_sl as).length := by
  induction as with
  | nil => rfl
  | cons v vs ih =>
    simp only [cvs, List.map_cons, lg_sl, List.flatMap_cons, List.length_append] at ih ⊢
    rw [ih]
    congr 1
    simp only [cv_cat]
    split <;> rfl
theorem Cal.of {sc : SC} {μ : MI} {mc ms : Nat} {as : List Value} {S : AS} {Q : Out → AS → Prop} (hg : GM μ) (hl : (lg_sl as).length ≤ mMl μ) (h : Wp sc μ mc ms 0 0 0 (lv_args 0 as) [] S Q) : Cal sc μ mc ms as S Q := by
  intro l κ hfl
  have key : ∀ (p : Program) (e : Env) (s : State) (m : MethodId) (args : Array Value) (below : List Frame) (meth : Method) (c : Code) (s₁ : State), BodyLoose p l (mNm μ) (headSpec (wsO μ) (rmO μ mc ms)) (mBs μ) (mMl μ) (mRt μ) e s m args below meth c s₁ → c.maxLocals = mMl μ → c.exceptionTable.toList = tableOf (mHh μ) → Pc0 κ sc as S args s →
      W p l e (headSpec (wsO μ) (rmO μ mc ms)).room s m args below meth c s.heap [] 0 0 (vx_MQ below (QO κ Q) (XO κ Q) args s mc ms (kF κ)) (entryFrame m args (mMl μ)) := by
    intro p e s m args below meth c s₁ B hml ht hP
    obtain ⟨rfl, hGd, hR⟩ := hP
    have hlv := lv_entry (cvs κ as) (n := mMl μ) (by rw [lg_len]; exact hl)
    rw [lg_entry_eq]
    rw [cvl_args] at hlv
    have hts := atoms_spec (ws := wsO μ) B.pre
    exact h l κ p e s m _ below meth c s.heap [] _ hfl ⟨⟨B.exec, B.bytes, B.returns, hml, findClass_of_methodNamed B.named⟩, hts, B.notSynchronized, ht, hGd, hg.2.2.1, (name_of_methodNamed B.named B.method).1.symm⟩ va_S.rf hR hlv
  cases hh : mHh μ with
  | nil =>
    have hw : wsO μ = Cond.code (mNm μ) (mBs μ) (mMl μ) (mRt μ) :: lw_gd := by
      unfold wsO cdW
      rw [hh]
    refine vx_ofW hg.1 hw ?_
    intro p e s m args below meth c s₁ B hml ht hP
    refine key p e s m args below meth c s₁ B hml ?_ hP
    rw [hh]
    cases hq : c.exceptionTable.toList with
    | nil => rfl
    | cons x t => exact (ht x (by rw [hq]; exact List.mem_cons_self)).elim
  | cons x t =>
    have hw : wsO μ = Cond.codeWith (mNm μ) (mBs μ) (mMl μ) (mRt μ) (x :: t) :: lw_gd := by
      unfold wsO cdW
      rw [hh]
    refine vx_ofWH hg.1 hw ?_
    intro p e s m args below meth c s₁ B hml hP
    refine key p e s m args below meth c s₁ B hml ?_ hP
    rw [hh]
    exact vx_table (x := mNm μ) B (atoms_spec (ws := wsO μ) B.pre _ (by rw [hw]; exact List.mem_cons_self))
theorem Wp.mono {sc : SC} {μ : MI} {mc ms k n pc : Nat} {lv : List (Nat × Value)} {st : List Value} {S : AS} {Q Q' : Out → AS → Prop} (h : Wp sc μ mc ms k n pc lv st S Q) (hq : ∀ o S', Q o S' → Q' o S') : Wp sc μ mc ms k n pc lv st S Q' := by
  intro l κ p e s m args below meth c H locs ls hfl hC hS hR hlv T hT X
  obtain ⟨t, a1, o, b1, b2, b3⟩ := h l κ p e s m args below meth c H locs ls hfl hC hS hR hlv T hT X
  refine ⟨t, a1, o, b1, b2, ?_⟩
  rcases b3 with ⟨⟨⟨r, S', e1, e2, e3⟩, hF⟩, hL⟩ | ⟨q, e1, E, ce, L, ⟨⟨ec, S', f1, f2, f3, f4⟩, hF⟩, hr⟩
  · exact Or.inl ⟨⟨⟨r, S', e1, hq _ _ e2, e3⟩, hF⟩, hL⟩
  · exact Or.inr ⟨q, e1, E, ce, L, ⟨⟨ec, S', f1, f2, hq _ _ f3, f4⟩, hF⟩, hr⟩
theorem Rep.congr {κ : KX} {S S' : AS} {H : Heap} (h : Rep κ S H) (h1 : S'.2 = S.2) (h2 : ∀ i, i < S.2.1 → S'.1 i = S.1 i) : Rep κ S' H := by
  obtain ⟨a, b, c⟩ := h
  refine ⟨fun i hi hj => ?_, ?_, ?_⟩
  · rw [h1] at hi
    rw [h2 i hi] at hj ⊢
    exact a i hi hj
  · rw [h1]
    exact b
  · rw [h1]
    exact c
theorem Wp.congr {sc : SC} {μ : MI} {mc ms k n pc : Nat} {lv : List (Nat × Value)} {st : List Value} {S S' : AS} {Q : Out → AS → Prop} (h1 : S'.2 = S.2) (h2 : ∀ i, i < S.2.1 → S'.1 i = S.1 i) (h : Wp sc μ mc ms k n pc lv st S' Q) : Wp sc μ mc ms k n pc lv st S Q :=
  fun l κ p e s m args below meth c H locs ls hfl hC hS hR hlv => h l κ p e s m args below meth c H locs ls hfl hC hS (hR.congr h1 h2) hlv
theorem Cal.mono {sc : SC} {μ : MI} {mc ms : Nat} {as : List Value} {S : AS} {Q Q' : Out → AS → Prop} (h : Cal sc μ mc ms as S Q) (hq : ∀ o S', Q o S' → Q' o S') : Cal sc μ mc ms as S Q' := by
  intro l κ hfl p e ha hc hk s m args below hf happ hP hK
  obtain ⟨n, o, h1, h2, h3, h4⟩ := h l κ hfl p e ha hc hk s m args below hf happ hP hK
  refine ⟨n, o, h1, h2, h3, ?_⟩
  rcases h4 with ⟨⟨⟨r, S', e1, e2, e3⟩, hF⟩, hL⟩ | ⟨q, e1, E, ce, L, ⟨⟨ec, S', f1, f2, f3, f4⟩, hF⟩, hr⟩
  · exact Or.inl ⟨⟨⟨r, S', e1, hq _ _ e2, e3⟩, hF⟩, hL⟩
  · exact Or.inr ⟨q, e1, E, ce, L, ⟨⟨ec, S', f1, f2, hq _ _ f3, f4⟩, hF⟩, hr⟩
