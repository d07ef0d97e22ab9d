/-! What the model's rows need. -/
theorem m_zastN {z : SZ} {sc : SC} {μ : MI} {mc ms k n pc : Nat} {lv : List (Nat × Value)} {st : List Value} {σ : SS} {L L' : List (Nat × (Nat → Int32))} {M : List (Nat × (Nat → Int64))} {Q : Out → SS → Prop} {o j nn : Nat} {x : Int32} (h : cf (mCd μ) pc = some (.bastore, 1)) (hs : shp z o = (3, nn)) (hj : j < nn) (hx : vp_nar .boolean x = x) (hl : rp L o (aup (gt L σ.1 o) j x) = L') (kk : Ws z sc μ mc ms k n (pc + 1) lv st (mz σ L' M) Q) : Ws z sc μ mc ms k n pc lv (.int x :: .int (nI j) :: .ref o :: st) (mz σ L M) Q := m_zast h hs hj (by rw [hx]; exact hl) kk
theorem n_lconst0 {sc : SC} {μ : MI} {mc ms k n pc : Nat} {lv : List (Nat × Value)} {st : List Value} {S : AS} {Q : Out → AS → Prop} (h : cf (mCd μ) pc = some (.lconst 0, 1)) (kk : Wp sc μ mc ms k n (pc + 1) lv (.long (lN 0) :: st) S Q) : Wp sc μ mc ms k n pc lv st S Q := r_lconst h rfl kk
theorem n_lconst1 {sc : SC} {μ : MI} {mc ms k n pc : Nat} {lv : List (Nat × Value)} {st : List Value} {S : AS} {Q : Out → AS → Prop} (h : cf (mCd μ) pc = some (.lconst 1, 1)) (kk : Wp sc μ mc ms k n (pc + 1) lv (.long (lN 1) :: st) S Q) : Wp sc μ mc ms k n pc lv st S Q := r_lconst h rfl kk
theorem nar_b (c : Bool) : vp_nar .boolean (nI (tb c)) = nI (tb c) := by cases c <;> decide
theorem M0 {f : Nat → Int32} {d : D} (h : MR f d) {p : Nat} (hp : p < 12) : f (10 + 4 * p + 0) = oI (d 1 p) := MRat h 1 p (by omega) (mPp hp (by decide))
theorem M1 {f : Nat → Int32} {d : D} (h : MR f d) {p : Nat} (hp : p < 12) : f (10 + 4 * p + 1) = nI (d 2 p) := MRat h 2 p (by omega) (mPp hp (by decide))
theorem M2 {f : Nat → Int32} {d : D} (h : MR f d) {p : Nat} (hp : p < 12) : f (10 + 4 * p + 2) = nI (d 3 p) := MRat h 3 p (by omega) (mPp hp (by decide))
theorem M3 {f : Nat → Int32} {d : D} (h : MR f d) {p : Nat} (hp : p < 12) : f (10 + 4 * p + 3) = nI (d 4 p) := MRat h 4 p (by omega) (mPp hp (by decide))
theorem Ma0 {f : Nat → Int32} {d : D} (h : MR f d) {p : Nat} (hp : p < 8) : f (58 + 2 * p) = nI (d 5 p) := MRat h 5 p (by omega) (mPa (w := 0) hp (by decide))
theorem Ma1 {f : Nat → Int32} {d : D} (h : MR f d) {p : Nat} (hp : p < 8) : f (58 + 2 * p + 1) = nI (d 6 p) := MRat h 6 p (by omega) (mPa hp (by decide))
theorem Md0 {f : Nat → Int32} {d : D} (h : MR f d) {p : Nat} (hp : p < 8) : f (74 + 2 * p) = nI (d 7 p) := MRat h 7 p (by omega) (mPd (w := 0) hp (by decide))
theorem Md1 {f : Nat → Int32} {d : D} (h : MR f d) {p : Nat} (hp : p < 8) : f (74 + 2 * p + 1) = nI (d 8 p) := MRat h 8 p (by omega) (mPd hp (by decide))
theorem Mg0 {f : Nat → Int32} {d : D} (h : MR f d) {p : Nat} (hp : p < 8) : f (90 + 2 * p) = nI (d 9 p) := MRat h 9 p (by omega) (mPg (w := 0) hp (by decide))
theorem Mg1 {f : Nat → Int32} {d : D} (h : MR f d) {p : Nat} (hp : p < 8) : f (90 + 2 * p + 1) = nI (d 10 p) := MRat h 10 p (by omega) (mPg hp (by decide))
theorem Ml0 {f : Nat → Int32} {d : D} (h : MR f d) {p : Nat} (hp : p < 8) : f (106 + 2 * p) = nI (d 11 p) := MRat h 11 p (by omega) (mPl (w := 0) hp (by decide))
theorem Ml1 {f : Nat → Int32} {d : D} (h : MR f d) {p : Nat} (hp : p < 8) : f (106 + 2 * p + 1) = nI (d 12 p) := MRat h 12 p (by omega) (mPl hp (by decide))
theorem lst_sp {d : D} {k : Nat} (h : d 0 5 = k + 1) : ∀ j, lst d j k = false
  | 0 => rfl
  | j + 1 => by
    show aup (lst d j) (d 0 0 - 1 - j) (lnF d (lst d j) (d 0 0 - 1 - j)) k = false
    by_cases e : k = d 0 0 - 1 - j
    · rw [← e, aup_s]
      unfold lnF
      rw [h, beq_self_eq_true]
      rfl
    · rw [aup_n _ _ e]
      exact lst_sp h j
/-- whether the share of a line comes to a person -/
def cm (d : D) (p : Nat) : Bool := isL d p && (d 1 p == 0 || (decide (0 < dv d (d 1 p - 1)) && !(he d (d 1 p - 1))))
theorem cm_dv {d : D} (hV : Vd d) {p : Nat} (hp : p < d 0 0) : dv d p = if cm d p = true then (if d 1 p = 0 then 1 else dv d (d 1 p - 1)) * cu d (d 1 p) else 0 := by
  rw [dv_eq hV hp]
  unfold dvF
  by_cases hL : isL d p = true
  · by_cases h0 : d 1 p = 0
    · have h1 : cm d p = true := by unfold cm; rw [hL, h0]; rfl
      rw [if_pos ⟨hL, Or.inl h0⟩, if_pos h1, h0]
    · by_cases hz : 0 < dv d (d 1 p - 1)
      · by_cases ht : tk d (d 1 p - 1) = true
        · have h1 : cm d p = false := by unfold cm he; rw [hL, beq_false_of_ne h0, ht, decide_eq_true hz]; rfl
          rw [if_neg (by rw [ht]; intro z; rcases z.2 with z | z; exact h0 z; exact absurd z.2 (by decide)), h1]
          rfl
        · have ht2 : tk d (d 1 p - 1) = false := by revert ht; cases tk d (d 1 p - 1) <;> simp
          have h1 : cm d p = true := by unfold cm he; rw [hL, beq_false_of_ne h0, ht2, decide_eq_true hz]; rfl
          rw [if_pos ⟨hL, Or.inr ⟨hz, ht2⟩⟩, if_pos h1, if_neg h0]
      · have h1 : cm d p = false := by unfold cm; rw [hL, beq_false_of_ne h0, decide_eq_false hz]; rfl
        rw [if_neg (by intro z; rcases z.2 with z | z; exact h0 z; exact hz z.1), h1]
        rfl
  · have h1 : cm d p = false := by unfold cm; cases e : isL d p with | false => rfl | true => exact absurd e hL
    rw [if_neg (fun z => hL z.1), h1]
    rfl
theorem cm_he {d : D} (hV : Vd d) {p : Nat} (hp : p < d 0 0) : he d p = (cm d p && tk d p) := by
  unfold he
  by_cases h : cm d p = true
  · have hL : isL d p = true := by unfold cm at h; exact (Bool.and_eq_true_iff.mp h).1
    have h1 : 0 < dv d p := by
      rw [cm_dv hV hp, if_pos h]
      refine Nat.mul_pos ?_ (cu_pos hL)
      by_cases h0 : d 1 p = 0
      · rw [if_pos h0]; omega
      · rw [if_neg h0]
        unfold cm at h
        rw [hL, beq_false_of_ne h0] at h
        exact of_decide_eq_true (Bool.and_eq_true_iff.mp (Bool.and_eq_true_iff.mp h).2).1
    rw [decide_eq_true h1, h]
  · have h2 : cm d p = false := by revert h; cases cm d p <;> simp
    rw [cm_dv hV hp, if_neg h, h2]
    rfl
theorem dv_le {d : D} (hV : Vd d) (p : Nat) : dv d p ≤ 4096 := by
  cases e : isL d p with
  | false => rw [dv_L hV e]; omega
  | true => rw [← dc_dv hV p e]; exact dc_le hV p
theorem sm_ext {f : Nat → Nat} {a b : Nat} (h : a ≤ b) (hz : ∀ i, a ≤ i → i < b → f i = 0) : sm f b = sm f a := by
  induction b with
  | zero => rw [Nat.le_zero.mp h]
  | succ b ih =>
    by_cases e : a = b + 1
    · rw [e]
    · show sm f b + f b = _
      rw [hz b (by omega) (by omega), Nat.add_zero]
      exact ih (by omega) (fun i h1 h2 => hz i h1 (by omega))
theorem ws_ext {o : Nat → Nat} {a b : Nat} (h : a ≤ b) (hz : ∀ i, a ≤ i → i < b → o i = 0) : ws o b = ws o a := by
  induction b with
  | zero => rw [Nat.le_zero.mp h]
  | succ b ih =>
    by_cases e : a = b + 1
    · rw [e]
    · show (if (ws o b).2 < o b then (b + 1, o b) else ws o b) = _
      rw [hz b (by omega) (by omega), if_neg (by omega)]
      exact ih (by omega) (fun i h1 h2 => hz i h1 (by omega))
/-- what is too much, as a long -/
def lov (F : Nat) (G w : Nat → Nat) (p : Nat) : Int64 := if 0 < w p then lN (G p) - lN (pt F G w * w p / sm w 12) else lN 0
theorem subL_lt {a b g : Nat} (ha : a < 2147483648) (hb : b < 2147483648) (hg : g < 2147483648) : lN g < lN a - lN b ↔ g < a - b := by
  by_cases h : b ≤ a
  · rw [lN_sub h]
    exact pk_lLT (by omega) (by omega)
  · constructor
    · intro q
      exfalso
      have h1 := Int64.lt_iff_toInt_lt.mp q
      rw [Int64.toInt_sub, pk_lT (by omega), pk_lT (by omega), pk_lT (by omega), Int.bmod_eq_of_le] at h1
      · omega
      · omega
      · omega
    · omega
theorem lov_lt {F : Nat} {G w : Nat → Nat} {p g : Nat} (hG : G p < 2147483648) (hp : pt F G w * w p / sm w 12 < 2147483648) (hg : g < 2147483648) : lN g < lov F G w p ↔ g < ov F G w p := by
  unfold lov ov
  by_cases h : 0 < w p
  · rw [if_pos h, if_pos h]
    exact subL_lt hG hp hg
  · rw [if_neg h, if_neg h]
    exact pk_lLT (by omega) (by omega)
theorem lov_ov {F : Nat} {G w : Nat → Nat} {p g : Nat} (h : g < ov F G w p) : lov F G w p = lN (ov F G w p) := by
  unfold lov
  unfold ov at h ⊢
  by_cases q : 0 < w p
  · rw [if_pos q] at h ⊢
    rw [if_pos q, lN_sub (by omega)]
  · rw [if_neg q] at h
    omega
theorem lgc_le {a b : Int64} : lg_cmp a b ≤ 0 ↔ ¬ b < a := by
  unfold lg_cmp
  by_cases h : b < a
  · rw [if_pos h]
    exact ⟨fun q => absurd q (by decide), fun q => absurd h q⟩
  · rw [if_neg h]
    constructor
    · intro _; exact h
    · intro _
      split <;> decide
theorem l_lcmp_le {sc : SC} {μ : MI} {mc ms k n pc : Nat} {lv : List (Nat × Value)} {st : List Value} {S : AS} {Q : Out → AS → Prop} {x y : Int64} {off : Int} {tgt : Nat} (h : cf (mCd μ) pc = some (.lcmp, 1)) (h2 : cf (mCd μ) (pc + 1) = some (.ifCond .le off, 3)) (ht : (pc : Int) + 1 + off = (tgt : Int)) (kt : ¬ y < x → Wp sc μ mc ms k n tgt lv st S Q) (kf : y < x → Wp sc μ mc ms k n (pc + 4) lv st S Q) : Wp sc μ mc ms k n pc lv (.long y :: .long x :: st) S Q := by
  refine r_lcmp h (r_if_le h2 (by rw [← ht]; rfl) (fun q => kt (lgc_le.mp q)) (fun q => kf ?_))
  apply Classical.byContradiction
  intro z
  exact q (lgc_le.mpr z)
