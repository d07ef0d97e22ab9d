/-! The whole of what a run has done so far: data, undo rows, slots, text, error's place, names. -/
abbrev AB : Type := D × (Nat × (Nat → D)) × ((Nat → Bool) × (Nat → D)) × (Nat × (Nat → Nat)) × Nat × (Nat → List Nat)
abbrev aD (a : AB) : D := a.1
abbrev aU (a : AB) : Nat := a.2.1.1
abbrev aS (a : AB) : Nat → D := a.2.1.2
abbrev bS (a : AB) : Nat → Bool := a.2.2.1.1
abbrev bR (a : AB) : Nat → D := a.2.2.1.2
abbrev aL (a : AB) : Nat := a.2.2.2.1.1
abbrev aT (a : AB) : Nat → Nat := a.2.2.2.1.2
abbrev aE (a : AB) : Nat := a.2.2.2.2.1
abbrev aN (a : AB) : Nat → List Nat := a.2.2.2.2.2
/-- what no change alters -/
def Sm (d e : D) : Prop := (e 0 0 = d 0 0 ∧ e 0 1 = d 0 1 ∧ e 0 4 = d 0 4 ∧ e 0 5 = d 0 5 ∧ e 0 6 = d 0 6 ∧ e 0 7 = d 0 7 ∧ e 0 8 = d 0 8) ∧ e 1 = d 1 ∧ e 6 = d 6 ∧ e 11 = d 11 ∧ e 12 = d 12
theorem Sm.rf (d : D) : Sm d d := ⟨⟨rfl, rfl, rfl, rfl, rfl, rfl, rfl⟩, rfl, rfl, rfl, rfl⟩
theorem Sm.sy {d e : D} (h : Sm d e) : Sm e d := ⟨⟨h.1.1.symm, h.1.2.1.symm, h.1.2.2.1.symm, h.1.2.2.2.1.symm, h.1.2.2.2.2.1.symm, h.1.2.2.2.2.2.1.symm, h.1.2.2.2.2.2.2.symm⟩, h.2.1.symm, h.2.2.1.symm, h.2.2.2.1.symm, h.2.2.2.2.symm⟩
theorem Sm.tr {d e f : D} (h : Sm d e) (g : Sm e f) : Sm d f := ⟨⟨g.1.1.trans h.1.1, g.1.2.1.trans h.1.2.1, g.1.2.2.1.trans h.1.2.2.1, g.1.2.2.2.1.trans h.1.2.2.2.1, g.1.2.2.2.2.1.trans h.1.2.2.2.2.1, g.1.2.2.2.2.2.1.trans h.1.2.2.2.2.2.1, g.1.2.2.2.2.2.2.trans h.1.2.2.2.2.2.2⟩, g.2.1.trans h.2.1, g.2.2.1.trans h.2.2.1, g.2.2.2.1.trans h.2.2.2.1, g.2.2.2.2.trans h.2.2.2.2⟩
theorem SmEE {σ : SS} {d e : D} (h : Sm d e) (hE : EE σ d) : EE σ e := by
  obtain ⟨⟨h1, h2, h3, h4, h5, h6, h7⟩, h8, h9, h10, h11⟩ := h
  obtain ⟨⟨e1, e2, e3, e4, e5, e6, e7⟩, e8, e9, e10, e11⟩ := hE
  refine ⟨⟨by rw [h1]; exact e1, by rw [h4]; exact e2, by rw [h2]; exact e3, by rw [h3]; exact e4, by rw [h6]; exact e5, by rw [h5]; exact e6, by rw [h7]; exact e7⟩, ?_, ?_, ?_, ?_⟩
  · rw [h1, h8]; exact e8
  · rw [h2, h9]; exact e9
  · rw [h3, h10]; exact e10
  · rw [h3, h11]; exact e11
/-- a change of a number that changes can change -/
def dyn (a i : Nat) : Bool := (a == 0 && (i == 2 || (i == 3 || i == 9))) || ((a == 2 || (a == 3 || (a == 4 || a == 5))) || (a == 7 || (a == 8 || (a == 9 || a == 10))))
theorem Smup {d : D} {a i v : Nat} (h : dyn a i = true) : Sm d (up d a i v) := by
  have n0 : ∀ k, dyn 0 k = false → up d a i v 0 k = d 0 k := fun k hk => up_n d v (fun q => by rw [← q.1, ← q.2, hk] at h; exact absurd h (by decide))
  have n1 : ∀ b, dyn b i = false → b ≠ 0 → up d a i v b = d b := fun b hb _ => funext fun j => up_n d v (fun q => by rw [← q.1, hb] at h; exact absurd h (by decide))
  have x1 : ∀ i, dyn 1 i = false := fun i => rfl
  have x6 : ∀ i, dyn 6 i = false := fun i => rfl
  have x11 : ∀ i, dyn 11 i = false := fun i => rfl
  have x12 : ∀ i, dyn 12 i = false := fun i => rfl
  exact ⟨⟨n0 0 rfl, n0 1 rfl, n0 4 rfl, n0 5 rfl, n0 6 rfl, n0 7 rfl, n0 8 rfl⟩, n1 1 (x1 i) (by decide), n1 6 (x6 i) (by decide), n1 11 (x11 i) (by decide), n1 12 (x12 i) (by decide)⟩
/-- bounds of what is altered -/
def okN (d : D) (a i v : Nat) : Prop := (a = 2 → v ≤ 120) ∧ (a = 3 → v ≤ 1) ∧ (a = 4 → v ≤ 1) ∧ (a = 5 → v ≤ 9999999) ∧ (a = 7 → 1 ≤ v ∧ v ≤ 5) ∧ (a = 8 → v ≤ 9999999) ∧ (a = 9 → v < 12) ∧ (a = 10 → v ≤ 9999999) ∧ (a = 0 → (i = 9 → v ≤ 1) ∧ (i = 3 → v ≤ 8) ∧ (i = 2 → v ≤ 8 ∧ ∀ k, k < v → 1 ≤ d 7 k))
theorem up_pr {d : D} {a i v b j : Nat} {P : Nat → Prop} (h1 : a = b → P v) (h2 : P (d b j)) : P (up d a i v b j) := by
  by_cases q : b = a ∧ j = i
  · obtain ⟨q1, q2⟩ := q
    subst q1 q2
    rw [up_s]
    exact h1 rfl
  · rw [up_n d v q]
    exact h2
theorem Vdup {d : D} (hV : Vd d) {a i v : Nat} (hd : dyn a i = true) (ho : okN d a i v) : Vd (up d a i v) := by
  have hS := (Smup (d := d) (a := a) (i := i) (v := v) hd)
  obtain ⟨⟨s1, s2, s3, s4, s5, s6, s7⟩, s8, s9, s10, s11⟩ := hS
  have hC := vC hV
  obtain ⟨o2, o3, o4, o5, o7, o8, o9, o10, o0⟩ := ho
  have x2 : up d a i v 0 2 ≤ 8 := by
    by_cases q : 0 = a ∧ 2 = i
    · obtain ⟨q1, q2⟩ := q
      subst q1 q2
      rw [up_s]; exact ((o0 rfl).2.2 rfl).1
    · rw [up_n d v q]; exact hC.2.2.1
  have x3 : up d a i v 0 3 ≤ 8 := by
    by_cases q : 0 = a ∧ 3 = i
    · obtain ⟨q1, q2⟩ := q
      subst q1 q2
      rw [up_s]; exact (o0 rfl).2.1 rfl
    · rw [up_n d v q]; exact hC.2.2.2.1
  have x9 : up d a i v 0 9 ≤ 1 := by
    by_cases q : 0 = a ∧ 9 = i
    · obtain ⟨q1, q2⟩ := q
      subst q1 q2
      rw [up_s]; exact (o0 rfl).1 rfl
    · rw [up_n d v q]; exact hC.2.2.2.2.2.2.2.2.2.2
  refine ⟨⟨by rw [s1]; exact hC.1, by rw [s2]; exact hC.2.1, x2, x3, by rw [s3]; exact hC.2.2.2.2.1, by rw [s4, s1]; exact hC.2.2.2.2.2.1, by rw [s5, s6]; exact hC.2.2.2.2.2.2.1, by rw [s6]; exact hC.2.2.2.2.2.2.2.1, by rw [s6]; exact hC.2.2.2.2.2.2.2.2.1, by rw [s7]; exact hC.2.2.2.2.2.2.2.2.2.1, x9⟩, ?_, ?_, ?_, ?_, ?_, ?_, ?_, ?_, ?_⟩
  · rw [s1, s8]; exact vQ hV
  · intro p
    have := vA hV p
    exact ⟨up_pr (P := fun x => x ≤ 120) o2 this.1, up_pr (P := fun x => x ≤ 1) o3 this.2.1, up_pr (P := fun x => x ≤ 1) o4 this.2.2⟩
  · intro p
    have := vV hV p
    exact ⟨up_pr (P := fun x => x ≤ 9999999) o5 this.1, by rw [s9]; exact this.2⟩
  · intro p
    have := vD hV p
    exact ⟨up_pr (P := fun x => x ≤ 5) (fun q => (o7 q).2) this.1, up_pr (P := fun x => x ≤ 9999999) o8 this.2⟩
  · intro k hk
    refine up_pr (P := fun x => 1 ≤ x) (fun q => (o7 q).1) ?_
    by_cases q : 0 = a ∧ 2 = i
    · obtain ⟨q1, q2⟩ := q
      subst q1 q2
      rw [up_s] at hk
      exact ((o0 rfl).2.2 rfl).2 k hk
    · rw [up_n d v q] at hk
      exact vR hV k hk
  · intro g
    have := vG hV g
    exact ⟨up_pr (P := fun x => x < 12) o9 this.1, up_pr (P := fun x => x ≤ 9999999) o10 this.2⟩
  · rw [s10, s11]; exact vL hV
  · rw [s3, s10, s1]; exact vN hV
  · rw [s8]; exact vP hV
/-- names in numbers -/
def w27 : List Nat → Nat → Nat
  | [], x => x
  | c :: t, x => w27 t (x * 27 + c)
def w256 : List Nat → Nat → Nat
  | [], x => x
  | c :: t, x => w256 t (x * 256 + (c + 96))
/-- a byte as an int -/
def bI (t : Nat) : Int32 := if t < 128 then nI t else nI t - nI 256
def AV (a : AB) : Prop := Vd (aD a) ∧ aU a ≤ 10 ∧ (∀ i, i < aU a → Vd (aS a i) ∧ Sm (aD a) (aS a i)) ∧ (∀ i, i < 2 → bS a i = true → Vd (bR a i) ∧ Sm (aD a) (bR a i)) ∧ (aL a ≤ 700 ∧ (∀ k, aT a k < 256) ∧ aE a ≤ 701) ∧ ∀ p, p < aD a 0 0 → (1 ≤ (aN a p).length ∧ (aN a p).length ≤ 8) ∧ ∀ c ∈ aN a p, 1 ≤ c ∧ c ≤ 26
/-- what the class holds -/
def CM (σ : SS) (a : AB) : Prop := (SR (σ.1 19) (aD a) ∧ EE σ (aD a)) ∧ (σ.1 50 2 = nI (aU a) ∧ σ.1 50 3 = nI (mk (bS a) 2)) ∧ (∀ i, i < aU a → ∀ j, j < 79 → σ.1 51 (i * 79 + j) = sR (aS a i) j) ∧ (∀ i, i < 2 → bS a i = true → ∀ j, j < 79 → σ.1 52 (i * 79 + j) = sR (bR a i) j) ∧ (σ.1 2 1 = nI (aL a) ∧ ∀ k, k < aL a → σ.1 3 k = bI (aT a k)) ∧ σ.1 0 7 = oI (aE a) ∧ ∀ p, p < aD a 0 0 → σ.2 13 p = lN (w27 (aN a p) 0)
def CI9 (σ : SS) (a : AB) : Prop := CM σ a ∧ SEA σ (aD a)
/-- what the model holds -/
def MI9 (σ : SS) (a : AB) : Prop := MR (σ.1 54) (aD a) ∧ (σ.1 53 32 = nI (aU a) ∧ σ.1 53 6 = nI (aL a) ∧ σ.1 53 14 = oI (aE a)) ∧ (∀ i, i < aU a → ∀ j, j < 122 → σ.1 73 (122 * i + j) = mR (aS a i) j) ∧ (∀ i, i < 2 → σ.1 75 i = nI (tb (bS a i))) ∧ (∀ i, i < 2 → bS a i = true → ∀ j, j < 122 → σ.1 74 (122 * i + j) = mR (bR a i) j) ∧ (∀ k, k < aL a → σ.1 58 k = bI (aT a k)) ∧ ∀ p, p < aD a 0 0 → σ.2 56 p = lN (w256 (aN a p) 0)
/-- the class's places stay, the model's places stay -/
def FrD (σ σ' : SS) : Prop := ∀ o, o < 53 → σ'.1 o = σ.1 o ∧ σ'.2 o = σ.2 o
def FrC (σ σ' : SS) : Prop := ∀ o, o < 53 ∨ o = 76 → σ'.1 o = σ.1 o ∧ σ'.2 o = σ.2 o
theorem FrC.D {σ σ' : SS} (h : FrC σ σ') : FrD σ σ' := fun o ho => h o (Or.inl ho)
def FrM (σ σ' : SS) : Prop := ∀ o, 53 ≤ o → o < 76 → σ'.1 o = σ.1 o ∧ σ'.2 o = σ.2 o
theorem FrC.rf (σ : SS) : FrC σ σ := fun _ _ => ⟨rfl, rfl⟩
theorem FrM.rf (σ : SS) : FrM σ σ := fun _ _ _ => ⟨rfl, rfl⟩
theorem gt_no {α : Type} {f : Nat → Nat → α} {o : Nat} : ∀ {L : List (Nat × (Nat → α))}, (∀ e ∈ L, e.1 ≠ o) → gt L f o = f o
  | [], _ => rfl
  | e :: t, h => by
    show cond (Nat.beq o e.1) e.2 (gt t f o) = f o
    rw [nbq_f (fun q => h e List.mem_cons_self q.symm)]
    exact gt_no (fun x hx => h x (List.mem_cons_of_mem _ hx))
theorem FrD_mz {σ : SS} {L : List (Nat × (Nat → Int32))} {M : List (Nat × (Nat → Int64))} (h1 : L.all (fun e => Nat.ble 53 e.1) = true) (h2 : M.all (fun e => Nat.ble 53 e.1) = true) : FrD σ (mz σ L M) := by
  intro o ho
  refine ⟨gt_no (fun e he q => ?_), gt_no (fun e he q => ?_)⟩
  · have := Nat.le_of_ble_eq_true (List.all_eq_true.mp h1 e he); omega
  · have := Nat.le_of_ble_eq_true (List.all_eq_true.mp h2 e he); omega
def inM (o : Nat) : Bool := Nat.ble 53 o && Nat.ble o 75
theorem inM_b {o : Nat} (h : inM o = true) : 53 ≤ o ∧ o ≤ 75 := by
  unfold inM at h
  rw [Bool.and_eq_true] at h
  exact ⟨Nat.le_of_ble_eq_true h.1, Nat.le_of_ble_eq_true h.2⟩
theorem FrC_mz {σ : SS} {L : List (Nat × (Nat → Int32))} {M : List (Nat × (Nat → Int64))} (h1 : L.all (fun e => inM e.1) = true) (h2 : M.all (fun e => inM e.1) = true) : FrC σ (mz σ L M) := by
  intro o ho
  refine ⟨gt_no (fun e he q => ?_), gt_no (fun e he q => ?_)⟩
  · have := inM_b (List.all_eq_true.mp h1 e he); omega
  · have := inM_b (List.all_eq_true.mp h2 e he); omega
theorem FrM_mz {σ : SS} {L : List (Nat × (Nat → Int32))} {M : List (Nat × (Nat → Int64))} (h1 : L.all (fun e => !(inM e.1)) = true) (h2 : M.all (fun e => !(inM e.1)) = true) : FrM σ (mz σ L M) := by
  intro o ho1 ho2
  have hm : inM o = true := by unfold inM; rw [Nat.ble_eq_true_of_le ho1, Nat.ble_eq_true_of_le (show o ≤ 75 by omega)]; rfl
  refine ⟨gt_no (fun e he q => ?_), gt_no (fun e he q => ?_)⟩
  · have := List.all_eq_true.mp h1 e he
    rw [q, hm] at this; exact absurd this (by decide)
  · have := List.all_eq_true.mp h2 e he
    rw [q, hm] at this; exact absurd this (by decide)
theorem FrC.tr {σ σ' σ2 : SS} (h : FrC σ σ') (g : FrC σ' σ2) : FrC σ σ2 := fun o ho => ⟨(g o ho).1.trans (h o ho).1, (g o ho).2.trans (h o ho).2⟩
theorem FrM.tr {σ σ' σ2 : SS} (h : FrM σ σ') (g : FrM σ' σ2) : FrM σ σ2 := fun o h1 h2 => ⟨(g o h1 h2).1.trans (h o h1 h2).1, (g o h1 h2).2.trans (h o h1 h2).2⟩
theorem EE_fr {σ σ' : SS} {d : D} (h : FrD σ σ') (g : EE σ d) : EE σ' d := by
  unfold EE at g ⊢
  rw [(h 12 (by decide)).1, (h 14 (by decide)).1, (h 15 (by decide)).1, (h 16 (by decide)).1, (h 17 (by decide)).1]
  exact g
theorem CM_fr {σ σ' : SS} {a : AB} (h : FrD σ σ') (g : CM σ a) : CM σ' a := by
  obtain ⟨⟨g1, g2⟩, g3⟩ := g
  have e2 := EE_fr h g2
  unfold CM
  rw [(h 19 (by decide)).1, (h 50 (by decide)).1, (h 51 (by decide)).1, (h 52 (by decide)).1, (h 2 (by decide)).1, (h 3 (by decide)).1, (h 0 (by decide)).1, (h 13 (by decide)).2]
  exact ⟨⟨g1, e2⟩, g3⟩
theorem CI9_fr {σ σ' : SS} {a : AB} (h : FrD σ σ') (g : CI9 σ a) : CI9 σ' a := by
  refine ⟨CM_fr h g.1, ?_⟩
  have g2 := g.2
  unfold SEA at g2 ⊢
  rw [(h 20 (by decide)).1, (h 21 (by decide)).1, (h 22 (by decide)).1, (h 23 (by decide)).1, (h 26 (by decide)).1, (h 28 (by decide)).1, (h 29 (by decide)).1, (h 30 (by decide)).1, (h 31 (by decide)).1, (h 32 (by decide)).1, (h 33 (by decide)).1]
  exact g2
theorem MI9_fr {σ σ' : SS} {a : AB} (h : FrM σ σ') (g : MI9 σ a) : MI9 σ' a := by
  unfold MI9 at g ⊢
  rw [(h 54 (by decide) (by decide)).1, (h 53 (by decide) (by decide)).1, (h 73 (by decide) (by decide)).1, (h 75 (by decide) (by decide)).1, (h 74 (by decide) (by decide)).1, (h 58 (by decide) (by decide)).1, (h 56 (by decide) (by decide)).2]
  exact g
/-- an int is a number below a bound, or it isn't -/
theorem i_in {m : Nat} (hm : m < 2147483648) (x : Int32) : (∃ p, p < m ∧ x = nI p) ∨ (x < 0 ∨ (¬ x < 0 ∧ nI m ≤ x)) := by
  by_cases h : x < 0
  · exact Or.inr (Or.inl h)
  · have h0 : 0 ≤ x.toInt := by
      have := Int32.not_lt.mp h
      have h2 := Int32.le_iff_toInt_le.mp this
      exact h2
    have hx : x = nI x.toInt.toNat := by
      apply Int32.toInt_inj.mp
      have h3 := Int32.toInt_lt x
      rw [nI_toInt (by omega)]
      omega
    by_cases q : x.toInt.toNat < m
    · exact Or.inl ⟨_, q, hx⟩
    · refine Or.inr (Or.inr ⟨h, ?_⟩)
      rw [hx]
      have h3 := Int32.toInt_lt x
      exact (nI_leI hm (by omega)).mpr (by omega)
/-! answers -/
def szv (d : D) (k : Nat) : Int32 := if k = 5 then oI (d 0 5) else nI (d 0 k)
def pev (d : D) (p : Nat) : Nat → Int32
  | 0 => oI (d 1 p)
  | 1 => nI (d 2 p)
  | 2 => nI (d 3 p)
  | 3 => nI (d 4 p)
  | 4 => nI (ch d p)
  | _ => nI (gf d p)
def asv (d : D) (p : Nat) : Nat → Int32
  | 0 => nI (d 5 p)
  | _ => nI (nt d p)
def dbv (d : D) (i : Nat) : Nat → Int32
  | 0 => nI (d 7 i)
  | 1 => nI (d 8 i)
  | _ => nI (pd d i)
def lgv (d : D) (k : Nat) : Nat → Int32
  | 0 => nI (d 11 k)
  | 1 => nI (d 12 k)
  | 2 => nI (lp d k)
  | _ => nI (tb (!(tk d (d 11 k))))
def acv (d : D) : Nat → Int32
  | 0 => nI (nts d)
  | 1 => nI (nts d - lf d 5)
  | 2 => nI (du d 5 - (nts d - lf d 5))
  | 3 => nI (lu9 d)
  | 4 => nI (rs d)
  | 5 => nI (a5 d)
  | 6 => nI (a6 d)
  | 7 => nI (a7 d)
  | 8 => nI (a8 d)
  | _ => nI (a9 d)
def stv (d : D) (p : Nat) : Nat → Int32
  | 0 => nI (dv d p)
  | 1 => nI (wt d p)
  | 2 => nI (gf d p)
  | 3 => if ou d p = true then -1 else nI (po d)
  | 4 => if ou d p = true then -1 else nI (bs (po d) (sm (w9 d) 12) (w9 d) p)
  | 5 => if ou d p = true then -1 else nI (tb (ce (po d) (sm (w9 d) 12) (w9 d) 12 p))
  | _ => sv d p
def stw (d : D) (p k : Nat) : Int32 := if he d p = true then stv d p k else -1
def gvs (d : D) : Nat → Int32
  | 0 => nI (nts d - lf d 5) + nI (a9 d)
  | j + 1 => gvs d j + gv d j
def bal (d : D) : Bool := gvs d (d 0 0) == nI (nts d)
/-- the helper: (the place + 1, how much) -/
def hp9 (d : D) (p : Nat) : Nat → Nat × Int32
  | 0 => (0, gv d p)
  | j + 1 => if (hp9 d p j).2 < gv (up d 4 j 1) p then (j + 1, gv (up d 4 j 1) p) else hp9 d p j
/-- kept for undo -/
def pu (u : Nat) (s : Nat → D) (d : D) : Nat × (Nat → D) := if u < 10 then (u + 1, aup s u d) else (10, aup (fun i => s (i + 1)) 9 d)
/-- the run after a change of the data -/
def nx (a : AB) (d : D) : AB := (d, pu (aU a) (aS a) (aD a), a.2.2)
theorem pu_ok {a : AB} (h : AV a) {e : D} (hV : Vd e) (hS : Sm (aD a) e) : AV (nx a e) := by
  obtain ⟨h1, h2, h3, h4, h5, h6⟩ := h
  refine ⟨hV, ?_, ?_, ?_, h5, ?_⟩
  · show (pu (aU a) (aS a) (aD a)).1 ≤ 10
    unfold pu
    split
    · show aU a + 1 ≤ 10; omega
    · exact Nat.le_refl 10
  · intro i hi
    show Vd ((pu (aU a) (aS a) (aD a)).2 i) ∧ Sm e ((pu (aU a) (aS a) (aD a)).2 i)
    have hi2 : i < (pu (aU a) (aS a) (aD a)).1 := hi
    unfold pu at hi2 ⊢
    by_cases q : aU a < 10
    · rw [if_pos q] at hi2 ⊢
      have hi3 : i < aU a + 1 := hi2
      show Vd (aup (aS a) (aU a) (aD a) i) ∧ Sm e (aup (aS a) (aU a) (aD a) i)
      by_cases z : i = aU a
      · rw [z, aup_s]; exact ⟨h1, hS.sy⟩
      · rw [aup_n _ _ z]
        have := h3 i (by omega)
        exact ⟨this.1, hS.sy.tr this.2⟩
    · rw [if_neg q] at hi2 ⊢
      have hi3 : i < 10 := hi2
      show Vd (aup (fun j => aS a (j + 1)) 9 (aD a) i) ∧ Sm e (aup (fun j => aS a (j + 1)) 9 (aD a) i)
      by_cases z : i = 9
      · rw [z, aup_s]; exact ⟨h1, hS.sy⟩
      · rw [aup_n _ _ z]
        have := h3 (i + 1) (by omega)
        exact ⟨this.1, hS.sy.tr this.2⟩
  · intro i hi hb
    have := h4 i hi hb
    exact ⟨this.1, hS.sy.tr this.2⟩
  · intro p hp
    have hp2 : p < e 0 0 := hp
    rw [hS.1.1] at hp2
    exact h6 p hp2
