/-! The text's grammar, as a function. -/
def Wperson : List Nat := [16, 5, 18, 19, 15, 14]
def Wunder : List Nat := [21, 14, 4, 5, 18]
def Wage : List Nat := [1, 7, 5]
def Wdead : List Nat := [4, 5, 1, 4]
def Wspouse : List Nat := [19, 16, 15, 21, 19, 5]
def Wasset : List Nat := [1, 19, 19, 5, 20]
def Wcharge : List Nat := [3, 8, 1, 18, 7, 5]
def Wdebt : List Nat := [4, 5, 2, 20]
def Wgift : List Nat := [7, 9, 6, 20]
def Wlegacy : List Nat := [12, 5, 7, 1, 3, 25]
def Wshare : List Nat := [19, 8, 1, 18, 5]
def Wlife : List Nat := [12, 9, 6, 5]
def Waccrue : List Nat := [1, 3, 3, 18, 21, 5]
def Wline : List Nat := [12, 9, 14, 5]
def Wothers : List Nat := [15, 20, 8, 5, 18, 19]
/-- whether the token is this word -/
def iw (x : TX) (j : Nat) (w : List Nat) : Bool := decide (tK x j = 1 ∧ wl x j = w)
/-- an earlier person, but not this one: (code, place, person + 1) -/
def kp (x : TX) (j : Nat) (m : Nat) (u : Nat → List Nat) (e : Nat) : Nat × Nat × Nat := if tK x j = 1 then (if nmd u m (wl x j) = 0 ∨ nmd u m (wl x j) = e then (4, j, 0) else (0, tE x j, nmd u m (wl x j))) else (1, j, 0)
/-- a number from l to m: (code, place, number) -/
def nu (x : TX) (j l m : Nat) : Nat × Nat × Nat := if tK x j = 2 then (if vl x j < l ∨ m < vl x j then (3, j, 0) else (0, tE x j, vl x j)) else (1, j, 0)
/-- where a parser stands: place, data, names, what was told once -/
abbrev PS : Type := Nat × D × (Nat → List Nat) × (Nat → Bool)
abbrev PR : Type := Nat × PS
def pst3 (x : TX) (j par n : Nat) (d : D) (u : Nat → List Nat) (o : Nat → Bool) : PR :=
  if iw x j Wdead = true then (0, tE x j, up d 3 n 1, u, o) else if iw x j Wspouse = true ∧ par = 0 then (if d 0 5 = 0 then (0, tE x j, up d 0 5 (n + 1), u, o) else (2, j, d, u, o)) else (0, j, d, u, o)
def unr (x : TX) (j : Nat) (d : D) (u : Nat → List Nat) : Nat × Nat × Nat := if iw x j Wunder = true then kp x (tE x j) (d 0 0) u (d 0 5) else (0, j, 0)
def agr (x : TX) (j : Nat) : Nat × Nat × Nat := if iw x j Wage = true then nu x (tE x j) 0 120 else (0, j, 50)
def chr (x : TX) (j : Nat) : Nat × Nat × Nat := if iw x j Wcharge = true then nu x (tE x j) 0 100 else (0, j, 0)
/-- a person's data laid -/
def upP (d : D) (par age : Nat) : D := up (up (up d 1 (d 0 0) par) 2 (d 0 0) age) 0 0 (d 0 0 + 1)
def pst2 (x : TX) (j : Nat) (w : List Nat) (d : D) (u : Nat → List Nat) (o : Nat → Bool) : PR :=
  if (unr x j d u).1 ≠ 0 then ((unr x j d u).1, (unr x j d u).2.1, d, u, o) else
  if (agr x (unr x j d u).2.1).1 ≠ 0 then ((agr x (unr x j d u).2.1).1, (agr x (unr x j d u).2.1).2.1, d, u, o) else
  pst3 x (agr x (unr x j d u).2.1).2.1 (unr x j d u).2.2 (d 0 0) (upP d (unr x j d u).2.2 (agr x (unr x j d u).2.1).2.2) (aup u (d 0 0) w) o
def sPer (x : TX) (s : PS) : PR :=
  if 12 ≤ s.2.1 0 0 then (5, s) else if tK x (tE x s.1) ≠ 1 then (1, tE x s.1, s.2) else if nmd s.2.2.1 (s.2.1 0 0) (wl x (tE x s.1)) ≠ 0 then (2, tE x s.1, s.2) else pst2 x (tE x (tE x s.1)) (wl x (tE x s.1)) s.2.1 s.2.2.1 s.2.2.2
/-- three numbers laid: one, another, the count -/
def up3 (d : D) (a b i v w : Nat) : D := up (up (up d a (d 0 i) v) b (d 0 i) w) 0 i (d 0 i + 1)
def sAss (x : TX) (s : PS) : PR :=
  if 8 ≤ s.2.1 0 1 then (5, s) else
  if (nu x (tE x s.1) 0 9999999).1 ≠ 0 then ((nu x (tE x s.1) 0 9999999).1, (nu x (tE x s.1) 0 9999999).2.1, s.2) else
  if (chr x (nu x (tE x s.1) 0 9999999).2.1).1 ≠ 0 then ((chr x (nu x (tE x s.1) 0 9999999).2.1).1, (chr x (nu x (tE x s.1) 0 9999999).2.1).2.1, s.2) else
  (0, (chr x (nu x (tE x s.1) 0 9999999).2.1).2.1, up3 s.2.1 5 6 1 (nu x (tE x s.1) 0 9999999).2.2 (chr x (nu x (tE x s.1) 0 9999999).2.1).2.2, s.2.2)
/-- two items, the second a number -/
def two (x : TX) (s : PS) (r : Nat × Nat × Nat) (m : Nat) (f : Nat → Nat → D) (o : Nat → Bool) : PR :=
  if r.1 ≠ 0 then (r.1, r.2.1, s.2) else if (nu x r.2.1 0 m).1 ≠ 0 then ((nu x r.2.1 0 m).1, (nu x r.2.1 0 m).2.1, s.2) else (0, (nu x r.2.1 0 m).2.1, f r.2.2 (nu x r.2.1 0 m).2.2, s.2.2.1, o)
def sDeb (x : TX) (s : PS) : PR := if 8 ≤ s.2.1 0 2 then (5, s) else two x s (nu x (tE x s.1) 1 5) 9999999 (fun v w => up3 s.2.1 7 8 2 v w) s.2.2.2
def sGif (x : TX) (s : PS) : PR := if 8 ≤ s.2.1 0 3 then (5, s) else two x s (kp x (tE x s.1) (s.2.1 0 0) s.2.2.1 0) 9999999 (fun v w => up3 s.2.1 9 10 3 (v - 1) w) s.2.2.2
def sLeg (x : TX) (s : PS) : PR := if 8 ≤ s.2.1 0 4 then (5, s) else two x s (kp x (tE x s.1) (s.2.1 0 0) s.2.2.1 0) 9999999 (fun v w => up3 s.2.1 11 12 4 (v - 1) w) s.2.2.2
def sSha (x : TX) (s : PS) : PR := if s.2.2.2 0 = true then (2, s) else two x s (nu x (tE x s.1) 1 99) (nu x (tE x s.1) 1 99).2.2 (fun v w => up (up s.2.1 0 7 v) 0 6 w) (aup s.2.2.2 0 true)
def sLif (x : TX) (s : PS) : PR := if s.2.2.2 1 = true then (2, s) else
  if (nu x (tE x s.1) 0 100).1 ≠ 0 then ((nu x (tE x s.1) 0 100).1, (nu x (tE x s.1) 0 100).2.1, s.2) else (0, (nu x (tE x s.1) 0 100).2.1, up s.2.1 0 8 (nu x (tE x s.1) 0 100).2.2, s.2.2.1, aup s.2.2.2 1 true)
def sAcc (x : TX) (s : PS) : PR := if s.2.2.2 2 = true then (2, s) else
  if iw x (tE x s.1) Wline = true then (0, tE x (tE x s.1), up s.2.1 0 9 1, s.2.2.1, aup s.2.2.2 2 true) else if iw x (tE x s.1) Wothers = true then (0, tE x (tE x s.1), up s.2.1 0 9 0, s.2.2.1, aup s.2.2.2 2 true) else (1, tE x s.1, s.2)
/-- a statement -/
def stm (x : TX) (s : PS) : PR :=
  if iw x s.1 Wperson = true then sPer x s else if iw x s.1 Wasset = true then sAss x s else if iw x s.1 Wdebt = true then sDeb x s else if iw x s.1 Wgift = true then sGif x s else if iw x s.1 Wlegacy = true then sLeg x s else
  if iw x s.1 Wshare = true then sSha x s else if iw x s.1 Wlife = true then sLif x s else if iw x s.1 Waccrue = true then sAcc x s else (1, s)
/-- a statement and its semicolon -/
def sm1 (x : TX) (s : PS) : PR := if (stm x s).1 ≠ 0 then stm x s else if tK x (stm x s).2.1 = 3 then (0, tE x (stm x s).2.1, (stm x s).2.2) else (1, (stm x s).2)
def pl (x : TX) : Nat → PS → PR
  | 0, s => (0, s)
  | f + 1, s => if tK x s.1 = 0 then (0, s) else if (sm1 x s).1 ≠ 0 then sm1 x s else pl x f (sm1 x s).2
def pa (x : TX) : PR := pl x 700 (0, dE, fun _ => [], fun _ => false)
/-- what holds while a text is read -/
def VP (x : TX) (s : PS) : Prop := Vd s.2.1 ∧ (∀ i, s.2.1 0 1 ≤ i → s.2.1 6 i = 0) ∧ (∀ p, p < s.2.1 0 0 → okW (s.2.2.1 p)) ∧ s.1 ≤ x.1
/-- a step forward: what holds then, and how far -/
def fw (x : TX) (s : PS) (r : PR) : Prop := (r.1 = 0 → VP x r.2 ∧ s.1 < r.2.1) ∧ r.2.1 ≤ x.1 ∧ r.1 ≤ 5
theorem nu_sp {x : TX} {j l m : Nat} (h : (nu x j l m).1 = 0) : tK x j = 2 ∧ (nu x j l m).2.1 = tE x j ∧ (nu x j l m).2.2 = vl x j ∧ l ≤ vl x j ∧ vl x j ≤ m := by
  unfold nu at h ⊢
  by_cases h1 : tK x j = 2
  · rw [if_pos h1] at h ⊢
    by_cases h2 : vl x j < l ∨ m < vl x j
    · rw [if_pos h2] at h; exact absurd (show (3 : Nat) = 0 from h) (by decide)
    · rw [if_neg h2]; exact ⟨h1, rfl, rfl, by omega, by omega⟩
  · rw [if_neg h1] at h; exact absurd (show (1 : Nat) = 0 from h) (by decide)
theorem nu_fw {x : TX} {j l m : Nat} (h : (nu x j l m).1 = 0) : j < (nu x j l m).2.1 ∧ (nu x j l m).2.1 ≤ x.1 ∧ l ≤ (nu x j l m).2.2 ∧ (nu x j l m).2.2 ≤ m := by
  obtain ⟨h1, h2, h3, h4, h5⟩ := nu_sp h
  rw [h2, h3]
  exact ⟨tE_j x j, tE_le (by omega), h4, h5⟩
theorem kp_sp {x : TX} {j m e : Nat} {u : Nat → List Nat} (h : (kp x j m u e).1 = 0) : tK x j = 1 ∧ (kp x j m u e).2.1 = tE x j ∧ (kp x j m u e).2.2 = nmd u m (wl x j) ∧ nmd u m (wl x j) ≠ 0 ∧ nmd u m (wl x j) ≠ e := by
  unfold kp at h ⊢
  by_cases h1 : tK x j = 1
  · rw [if_pos h1] at h ⊢
    by_cases h2 : nmd u m (wl x j) = 0 ∨ nmd u m (wl x j) = e
    · rw [if_pos h2] at h; exact absurd (show (4 : Nat) = 0 from h) (by decide)
    · rw [if_neg h2]; exact ⟨h1, rfl, rfl, by omega, by omega⟩
  · rw [if_neg h1] at h; exact absurd (show (1 : Nat) = 0 from h) (by decide)
theorem kp_fw {x : TX} {j m e : Nat} {u : Nat → List Nat} (h : (kp x j m u e).1 = 0) : j < (kp x j m u e).2.1 ∧ (kp x j m u e).2.1 ≤ x.1 ∧ 1 ≤ (kp x j m u e).2.2 ∧ (kp x j m u e).2.2 ≤ m := by
  obtain ⟨h1, h2, h3, h4, h5⟩ := kp_sp h
  have := nmd_le u m (wl x j)
  rw [h2, h3]
  exact ⟨tE_j x j, tE_le (by omega), by omega, this⟩
theorem iw_1 {x : TX} {j : Nat} {w : List Nat} (h : iw x j w = true) : tK x j = 1 := (of_decide_eq_true h).1
theorem unr_fw {x : TX} {j : Nat} {d : D} {u : Nat → List Nat} (hj : j ≤ x.1) (h : (unr x j d u).1 = 0) : j ≤ (unr x j d u).2.1 ∧ (unr x j d u).2.1 ≤ x.1 ∧ (unr x j d u).2.2 ≤ d 0 0 := by
  unfold unr at h ⊢
  by_cases h1 : iw x j Wunder = true
  · rw [if_pos h1] at h ⊢
    have h2 := kp_fw h
    have h3 := tE_j x j
    omega
  · rw [if_neg h1]; exact ⟨Nat.le_refl _, hj, Nat.zero_le _⟩
theorem agr_fw {x : TX} {j : Nat} (hj : j ≤ x.1) (h : (agr x j).1 = 0) : j ≤ (agr x j).2.1 ∧ (agr x j).2.1 ≤ x.1 ∧ (agr x j).2.2 ≤ 120 := by
  unfold agr at h ⊢
  by_cases h1 : iw x j Wage = true
  · rw [if_pos h1] at h ⊢
    have h2 := nu_fw h
    have h3 := tE_j x j
    omega
  · rw [if_neg h1]; exact ⟨Nat.le_refl _, hj, by show 50 ≤ 120; omega⟩
theorem chr_fw {x : TX} {j : Nat} (hj : j ≤ x.1) (h : (chr x j).1 = 0) : j ≤ (chr x j).2.1 ∧ (chr x j).2.1 ≤ x.1 ∧ (chr x j).2.2 ≤ 100 := by
  unfold chr at h ⊢
  by_cases h1 : iw x j Wcharge = true
  · rw [if_pos h1] at h ⊢
    have h2 := nu_fw h
    have h3 := tE_j x j
    omega
  · rw [if_neg h1]; exact ⟨Nat.le_refl _, hj, Nat.zero_le _⟩
/-- any number altered: what is asked of it -/
def okU (d : D) (a i v : Nat) : Prop := (a = 1 → v ≤ 12 ∧ (i < d 0 0 → v ≤ i)) ∧ (a = 2 → v ≤ 120) ∧ (a = 3 → v ≤ 1) ∧ (a = 4 → v ≤ 1) ∧ (a = 5 → v ≤ 9999999) ∧ (a = 6 → v ≤ 100) ∧ (a = 7 → 1 ≤ v ∧ v ≤ 5) ∧ (a = 8 → v ≤ 9999999) ∧ (a = 9 → v < 12) ∧ (a = 10 → v ≤ 9999999) ∧ (a = 11 → v < 12 ∧ (i < d 0 4 → v < d 0 0)) ∧ (a = 12 → v ≤ 9999999)
theorem Vd_up {d : D} (hV : Vd d) {a i v : Nat} (ha : a ≠ 0) (ho : okU d a i v) : Vd (up d a i v) := by
  obtain ⟨o1, o2, o3, o4, o5, o6, o7, o8, o9, o10, o11, o12⟩ := ho
  have z : ∀ k, up d a i v 0 k = d 0 k := fun k => up_n1 d v (fun q => ha q.symm)
  unfold Vd
  rw [z, z, z, z, z, z, z, z, z, z]
  have pr2 : ∀ {b j : Nat} {P : Nat → Prop}, (a = b → i = j → P v) → P (d b j) → P (up d a i v b j) := by
    intro b j P h1 h2
    by_cases q : b = a ∧ j = i
    · obtain ⟨q1, q2⟩ := q
      subst q1 q2
      rw [up_s]; exact h1 rfl rfl
    · rw [up_n d v q]; exact h2
  refine ⟨vC hV, ?_, ?_, ?_, ?_, ?_, ?_, ?_, ?_, ?_⟩
  · intro p hp
    exact pr2 (P := fun y => y ≤ p) (fun q1 q2 => by subst q2; exact (o1 q1).2 hp) (vQ hV p hp)
  · intro p
    have := vA hV p
    exact ⟨pr2 (P := fun y => y ≤ 120) (fun q _ => o2 q) this.1, pr2 (P := fun y => y ≤ 1) (fun q _ => o3 q) this.2.1, pr2 (P := fun y => y ≤ 1) (fun q _ => o4 q) this.2.2⟩
  · intro p
    have := vV hV p
    exact ⟨pr2 (P := fun y => y ≤ 9999999) (fun q _ => o5 q) this.1, pr2 (P := fun y => y ≤ 100) (fun q _ => o6 q) this.2⟩
  · intro p
    have := vD hV p
    exact ⟨pr2 (P := fun y => y ≤ 5) (fun q _ => (o7 q).2) this.1, pr2 (P := fun y => y ≤ 9999999) (fun q _ => o8 q) this.2⟩
  · intro k hk
    exact pr2 (P := fun y => 1 ≤ y) (fun q _ => (o7 q).1) (vR hV k hk)
  · intro g
    have := vG hV g
    exact ⟨pr2 (P := fun y => y < 12) (fun q _ => o9 q) this.1, pr2 (P := fun y => y ≤ 9999999) (fun q _ => o10 q) this.2⟩
  · intro k
    have := vL hV k
    exact ⟨pr2 (P := fun y => y < 12) (fun q _ => (o11 q).1) this.1, pr2 (P := fun y => y ≤ 9999999) (fun q _ => o12 q) this.2⟩
  · intro k hk
    exact pr2 (P := fun y => y < d 0 0) (fun q1 q2 => by subst q2; exact (o11 q1).2 hk) (vN hV k hk)
  · intro p
    exact pr2 (P := fun y => y ≤ 12) (fun q _ => (o1 q).1) (vP hV p)
/-- a count or a single number altered -/
def ok0 (d : D) (i v : Nat) : Prop := (i = 0 → v ≤ 12 ∧ d 0 0 ≤ v ∧ ∀ p, p < v → d 1 p ≤ p) ∧ (i = 1 → v ≤ 8) ∧ (i = 2 → v ≤ 8 ∧ ∀ k, k < v → 1 ≤ d 7 k) ∧ (i = 3 → v ≤ 8) ∧ (i = 4 → v ≤ 8 ∧ ∀ k, k < v → d 11 k < d 0 0) ∧ (i = 5 → v ≤ d 0 0) ∧ (i = 6 → v ≤ d 0 7) ∧ (i = 7 → d 0 6 ≤ v ∧ 1 ≤ v ∧ v ≤ 99) ∧ (i = 8 → v ≤ 100) ∧ (i = 9 → v ≤ 1)
theorem Vd_up0 {d : D} (hV : Vd d) {i v : Nat} (ho : ok0 d i v) : Vd (up d 0 i v) := by
  obtain ⟨o0, o1, o2, o3, o4, o5, o6, o7, o8, o9⟩ := ho
  obtain ⟨c0, c1, c2, c3, c4, c5, c6, c7, c8, c9, c10⟩ := vC hV
  have n1 : ∀ b, b ≠ 0 → ∀ j, up d 0 i v b j = d b j := fun b hb j => up_n1 d v hb
  have e : ∀ k, up d 0 i v 0 k = if k = i then v else d 0 k := by
    intro k
    by_cases q : k = i
    · rw [q, up_s, if_pos rfl]
    · rw [up_n2 d v q, if_neg q]
  unfold Vd
  simp only [n1 1 (by decide), n1 2 (by decide), n1 3 (by decide), n1 4 (by decide), n1 5 (by decide), n1 6 (by decide), n1 7 (by decide), n1 8 (by decide), n1 9 (by decide), n1 10 (by decide), n1 11 (by decide), n1 12 (by decide), e]
  refine ⟨?_, ?_, vA hV, vV hV, vD hV, ?_, vG hV, vL hV, ?_, vP hV⟩
  · by_cases q0 : i = 0
    · subst q0; have := o0 rfl; simp; omega
    · by_cases q1 : i = 1
      · subst q1; have := o1 rfl; simp; omega
      · by_cases q2 : i = 2
        · subst q2; have := o2 rfl; simp; omega
        · by_cases q3 : i = 3
          · subst q3; have := o3 rfl; simp; omega
          · by_cases q4 : i = 4
            · subst q4; have := o4 rfl; simp; omega
            · by_cases q5 : i = 5
              · subst q5; have := o5 rfl; simp; omega
              · by_cases q6 : i = 6
                · subst q6; have := o6 rfl; simp; omega
                · by_cases q7 : i = 7
                  · subst q7; have := o7 rfl; simp; omega
                  · by_cases q8 : i = 8
                    · subst q8; have := o8 rfl; simp; omega
                    · by_cases q9 : i = 9
                      · subst q9; have := o9 rfl; simp; omega
                      · simp only [if_neg (Ne.symm q0), if_neg (Ne.symm q1), if_neg (Ne.symm q2), if_neg (Ne.symm q3), if_neg (Ne.symm q4), if_neg (Ne.symm q5), if_neg (Ne.symm q6), if_neg (Ne.symm q7), if_neg (Ne.symm q8), if_neg (Ne.symm q9)]; omega
  · intro p hp
    by_cases q : 0 = i
    · rw [if_pos q] at hp; exact (o0 q.symm).2.2 p hp
    · rw [if_neg q] at hp; exact vQ hV p hp
  · intro k hk
    by_cases q : 2 = i
    · rw [if_pos q] at hk; exact (o2 q.symm).2 k hk
    · rw [if_neg q] at hk; exact vR hV k hk
  · intro k hk
    have h0 : d 11 k < d 0 0 := by
      by_cases q : 4 = i
      · rw [if_pos q] at hk; exact (o4 q.symm).2 k hk
      · rw [if_neg q] at hk; exact vN hV k hk
    by_cases q : 0 = i
    · rw [if_pos q]; have := o0 q.symm; omega
    · rw [if_neg q]; exact h0
def Z6 (d : D) : Prop := ∀ i, d 0 1 ≤ i → d 6 i = 0
theorem Z6_up {d : D} (h : Z6 d) {a i v : Nat} (h0 : a ≠ 0) (h6 : a ≠ 6) : Z6 (up d a i v) := by
  intro k hk
  rw [up_n1 d v h0.symm] at hk
  rw [up_n1 d v h6.symm]
  exact h k hk
theorem Z6_up0 {d : D} (h : Z6 d) {i v : Nat} (h1 : i ≠ 1) : Z6 (up d 0 i v) := by
  intro k hk
  rw [up_n2 d v h1.symm] at hk
  rw [up_n1 d v (by decide)]
  exact h k hk
theorem nu_b {x : TX} {j l m : Nat} (hj : j ≤ x.1) : (nu x j l m).1 ≤ 3 ∧ (nu x j l m).2.1 ≤ x.1 := by
  unfold nu
  by_cases h1 : tK x j = 2
  · rw [if_pos h1]
    have := tE_le (x := x) (j := j) (by omega)
    split
    · exact ⟨Nat.le_refl _, hj⟩
    · exact ⟨Nat.zero_le _, this⟩
  · rw [if_neg h1]; exact ⟨by show 1 ≤ 3; omega, hj⟩
theorem kp_b {x : TX} {j m e : Nat} {u : Nat → List Nat} (hj : j ≤ x.1) : (kp x j m u e).1 ≤ 4 ∧ (kp x j m u e).2.1 ≤ x.1 := by
  unfold kp
  by_cases h1 : tK x j = 1
  · rw [if_pos h1]
    have := tE_le (x := x) (j := j) (by omega)
    split
    · exact ⟨Nat.le_refl _, hj⟩
    · exact ⟨Nat.zero_le _, this⟩
  · rw [if_neg h1]; exact ⟨by show 1 ≤ 4; omega, hj⟩
theorem iw_E {x : TX} {j : Nat} {w : List Nat} (h : iw x j w = true) : tE x j ≤ x.1 := tE_le (by rw [iw_1 h]; decide)
theorem unr_b {x : TX} {j : Nat} {d : D} {u : Nat → List Nat} (hj : j ≤ x.1) : (unr x j d u).1 ≤ 4 ∧ (unr x j d u).2.1 ≤ x.1 := by
  unfold unr
  by_cases h1 : iw x j Wunder = true
  · rw [if_pos h1]; exact kp_b (iw_E h1)
  · rw [if_neg h1]; exact ⟨Nat.zero_le _, hj⟩
theorem agr_b {x : TX} {j : Nat} (hj : j ≤ x.1) : (agr x j).1 ≤ 3 ∧ (agr x j).2.1 ≤ x.1 := by
  unfold agr
  by_cases h1 : iw x j Wage = true
  · rw [if_pos h1]; exact nu_b (iw_E h1)
  · rw [if_neg h1]; exact ⟨Nat.zero_le _, hj⟩
theorem chr_b {x : TX} {j : Nat} (hj : j ≤ x.1) : (chr x j).1 ≤ 3 ∧ (chr x j).2.1 ≤ x.1 := by
  unfold chr
  by_cases h1 : iw x j Wcharge = true
  · rw [if_pos h1]; exact nu_b (iw_E h1)
  · rw [if_neg h1]; exact ⟨Nat.zero_le _, hj⟩
theorem fw_no {x : TX} {s : PS} {c j : Nat} {q : D × (Nat → List Nat) × (Nat → Bool)} (hc : c ≠ 0) (hc5 : c ≤ 5) (hj : j ≤ x.1) : fw x s (c, j, q) := ⟨fun h => absurd h hc, hj, hc5⟩
theorem fw_ok {x : TX} {s : PS} {j : Nat} {d : D} {u : Nat → List Nat} {o : Nat → Bool} (hV : Vd d) (h6 : Z6 d) (hu : ∀ p, p < d 0 0 → okW (u p)) (hj : j ≤ x.1) (hs : s.1 < j) : fw x s (0, j, d, u, o) := ⟨fun _ => ⟨⟨hV, h6, hu, hj⟩, hs⟩, hj, Nat.zero_le _⟩
theorem two_fw {x : TX} {s : PS} {r : Nat × Nat × Nat} {m : Nat} {f : Nat → Nat → D} {o : Nat → Bool} (hb : r.1 ≤ 4 ∧ r.2.1 ≤ x.1) (hr : r.1 = 0 → s.1 < r.2.1) (hf : r.1 = 0 → ∀ w, w ≤ m → Vd (f r.2.2 w) ∧ Z6 (f r.2.2 w) ∧ (f r.2.2 w) 0 0 = s.2.1 0 0) (hu : ∀ p, p < s.2.1 0 0 → okW (s.2.2.1 p)) : fw x s (two x s r m f o) := by
  unfold two
  by_cases h1 : r.1 ≠ 0
  · rw [if_pos h1]; exact fw_no h1 (by omega) hb.2
  · rw [if_neg h1]
    have h1 : r.1 = 0 := by omega
    have hn := nu_b (x := x) (l := 0) (m := m) hb.2
    by_cases h2 : (nu x r.2.1 0 m).1 ≠ 0
    · rw [if_pos h2]; exact fw_no h2 (by omega) hn.2
    · rw [if_neg h2]
      have h3 := nu_fw (x := x) (j := r.2.1) (l := 0) (m := m) (by omega)
      have h4 := hr h1
      obtain ⟨f1, f2, f3⟩ := hf h1 _ h3.2.2.2
      exact fw_ok f1 f2 (by rw [f3]; exact hu) hn.2 (by omega)
theorem up3_z (d : D) {a b i v w k : Nat} (ha : a ≠ 0) (hb : b ≠ 0) (hk : k ≠ i) : up3 d a b i v w 0 k = d 0 k := by
  unfold up3
  rw [up_n2 _ _ hk, up_n1 _ _ hb.symm, up_n1 _ _ ha.symm]
theorem Z6_up3 {d : D} (h : Z6 d) {a b i v w : Nat} (ha : a ≠ 0) (hb : b ≠ 0) (ha6 : a ≠ 6) (hb6 : b ≠ 6) (hi : i ≠ 1) : Z6 (up3 d a b i v w) := Z6_up0 (Z6_up (Z6_up h ha ha6) hb hb6) hi
theorem Vd_deb {d : D} (hV : Vd d) {v w : Nat} (hn : d 0 2 < 8) (h1 : 1 ≤ v) (h2 : v ≤ 5) (h3 : w ≤ 9999999) : Vd (up3 d 7 8 2 v w) := by
  have e1 := Vd_up hV (a := 7) (i := d 0 2) (v := v) (by decide) ⟨fun z => absurd z (by decide), fun z => absurd z (by decide), fun z => absurd z (by decide), fun z => absurd z (by decide), fun z => absurd z (by decide), fun z => absurd z (by decide), fun _ => ⟨h1, h2⟩, fun z => absurd z (by decide), fun z => absurd z (by decide), fun z => absurd z (by decide), fun z => absurd z (by decide), fun z => absurd z (by decide)⟩
  have e2 := Vd_up e1 (a := 8) (i := d 0 2) (v := w) (by decide) ⟨fun z => absurd z (by decide), fun z => absurd z (by decide), fun z => absurd z (by decide), fun z => absurd z (by decide), fun z => absurd z (by decide), fun z => absurd z (by decide), fun z => absurd z (by decide), fun _ => h3, fun z => absurd z (by decide), fun z => absurd z (by decide), fun z => absurd z (by decide), fun z => absurd z (by decide)⟩
  refine Vd_up0 e2 ⟨fun z => absurd z (by decide), fun z => absurd z (by decide), fun _ => ⟨by omega, ?_⟩, fun z => absurd z (by decide), fun z => absurd z (by decide), fun z => absurd z (by decide), fun z => absurd z (by decide), fun z => absurd z (by decide), fun z => absurd z (by decide), fun z => absurd z (by decide)⟩
  intro k hk
  rw [up_n1 _ _ (by decide)]
  by_cases q : k = d 0 2
  · rw [q, up_s]; exact h1
  · rw [up_n2 _ _ q]; exact vR hV k (by omega)
theorem Vd_gif {d : D} (hV : Vd d) {v w : Nat} (hn : d 0 3 < 8) (h1 : v < 12) (h3 : w ≤ 9999999) : Vd (up3 d 9 10 3 v w) := by
  have e1 := Vd_up hV (a := 9) (i := d 0 3) (v := v) (by decide) ⟨fun z => absurd z (by decide), fun z => absurd z (by decide), fun z => absurd z (by decide), fun z => absurd z (by decide), fun z => absurd z (by decide), fun z => absurd z (by decide), fun z => absurd z (by decide), fun z => absurd z (by decide), fun _ => h1, fun z => absurd z (by decide), fun z => absurd z (by decide), fun z => absurd z (by decide)⟩
  have e2 := Vd_up e1 (a := 10) (i := d 0 3) (v := w) (by decide) ⟨fun z => absurd z (by decide), fun z => absurd z (by decide), fun z => absurd z (by decide), fun z => absurd z (by decide), fun z => absurd z (by decide), fun z => absurd z (by decide), fun z => absurd z (by decide), fun z => absurd z (by decide), fun z => absurd z (by decide), fun _ => h3, fun z => absurd z (by decide), fun z => absurd z (by decide)⟩
  exact Vd_up0 e2 ⟨fun z => absurd z (by decide), fun z => absurd z (by decide), fun z => absurd z (by decide), fun _ => by omega, fun z => absurd z (by decide), fun z => absurd z (by decide), fun z => absurd z (by decide), fun z => absurd z (by decide), fun z => absurd z (by decide), fun z => absurd z (by decide)⟩
theorem Vd_leg {d : D} (hV : Vd d) {v w : Nat} (hn : d 0 4 < 8) (h1 : v < d 0 0) (h3 : w ≤ 9999999) : Vd (up3 d 11 12 4 v w) := by
  have hC := vC hV
  have e1 := Vd_up hV (a := 11) (i := d 0 4) (v := v) (by decide) ⟨fun z => absurd z (by decide), fun z => absurd z (by decide), fun z => absurd z (by decide), fun z => absurd z (by decide), fun z => absurd z (by decide), fun z => absurd z (by decide), fun z => absurd z (by decide), fun z => absurd z (by decide), fun z => absurd z (by decide), fun z => absurd z (by decide), fun _ => ⟨by omega, fun z => absurd z (Nat.lt_irrefl _)⟩, fun z => absurd z (by decide)⟩
  have e2 := Vd_up e1 (a := 12) (i := d 0 4) (v := w) (by decide) ⟨fun z => absurd z (by decide), fun z => absurd z (by decide), fun z => absurd z (by decide), fun z => absurd z (by decide), fun z => absurd z (by decide), fun z => absurd z (by decide), fun z => absurd z (by decide), fun z => absurd z (by decide), fun z => absurd z (by decide), fun z => absurd z (by decide), fun z => absurd z (by decide), fun _ => h3⟩
  refine Vd_up0 e2 ⟨fun z => absurd z (by decide), fun z => absurd z (by decide), fun z => absurd z (by decide), fun z => absurd z (by decide), fun _ => ⟨by omega, ?_⟩, fun z => absurd z (by decide), fun z => absurd z (by decide), fun z => absurd z (by decide), fun z => absurd z (by decide), fun z => absurd z (by decide)⟩
  intro k hk
  rw [up_n1 _ _ (by decide), up_n1 (up d 11 (d 0 4) v) w (show 0 ≠ 12 by decide), up_n1 d v (show 0 ≠ 11 by decide)]
  by_cases q : k = d 0 4
  · rw [q, up_s]; exact h1
  · rw [up_n2 _ _ q]; exact vN hV k (by omega)
theorem Vd_ass {d : D} (hV : Vd d) {v w : Nat} (hn : d 0 1 < 8) (h1 : v ≤ 9999999) (h3 : w ≤ 100) : Vd (up3 d 5 6 1 v w) := by
  have e1 := Vd_up hV (a := 5) (i := d 0 1) (v := v) (by decide) ⟨fun z => absurd z (by decide), fun z => absurd z (by decide), fun z => absurd z (by decide), fun z => absurd z (by decide), fun _ => h1, fun z => absurd z (by decide), fun z => absurd z (by decide), fun z => absurd z (by decide), fun z => absurd z (by decide), fun z => absurd z (by decide), fun z => absurd z (by decide), fun z => absurd z (by decide)⟩
  have e2 := Vd_up e1 (a := 6) (i := d 0 1) (v := w) (by decide) ⟨fun z => absurd z (by decide), fun z => absurd z (by decide), fun z => absurd z (by decide), fun z => absurd z (by decide), fun z => absurd z (by decide), fun _ => h3, fun z => absurd z (by decide), fun z => absurd z (by decide), fun z => absurd z (by decide), fun z => absurd z (by decide), fun z => absurd z (by decide), fun z => absurd z (by decide)⟩
  exact Vd_up0 e2 ⟨fun z => absurd z (by decide), fun _ => by omega, fun z => absurd z (by decide), fun z => absurd z (by decide), fun z => absurd z (by decide), fun z => absurd z (by decide), fun z => absurd z (by decide), fun z => absurd z (by decide), fun z => absurd z (by decide), fun z => absurd z (by decide)⟩
theorem Vd_per {d : D} (hV : Vd d) {par age : Nat} (hn : d 0 0 < 12) (h1 : par ≤ d 0 0) (h2 : age ≤ 120) : Vd (upP d par age) := by
  have e1 := Vd_up hV (a := 1) (i := d 0 0) (v := par) (by decide) ⟨fun _ => ⟨by omega, fun z => absurd z (Nat.lt_irrefl _)⟩, fun z => absurd z (by decide), fun z => absurd z (by decide), fun z => absurd z (by decide), fun z => absurd z (by decide), fun z => absurd z (by decide), fun z => absurd z (by decide), fun z => absurd z (by decide), fun z => absurd z (by decide), fun z => absurd z (by decide), fun z => absurd z (by decide), fun z => absurd z (by decide)⟩
  have e2 := Vd_up e1 (a := 2) (i := d 0 0) (v := age) (by decide) ⟨fun z => absurd z (by decide), fun _ => h2, fun z => absurd z (by decide), fun z => absurd z (by decide), fun z => absurd z (by decide), fun z => absurd z (by decide), fun z => absurd z (by decide), fun z => absurd z (by decide), fun z => absurd z (by decide), fun z => absurd z (by decide), fun z => absurd z (by decide), fun z => absurd z (by decide)⟩
  refine Vd_up0 e2 ⟨fun _ => ⟨by omega, by rw [up_n1 _ _ (by decide), up_n1 _ _ (by decide)]; omega, ?_⟩, fun z => absurd z (by decide), fun z => absurd z (by decide), fun z => absurd z (by decide), fun z => absurd z (by decide), fun z => absurd z (by decide), fun z => absurd z (by decide), fun z => absurd z (by decide), fun z => absurd z (by decide), fun z => absurd z (by decide)⟩
  intro p hp
  rw [up_n1 _ _ (by decide)]
  by_cases q : p = d 0 0
  · rw [q, up_s]; exact h1
  · rw [up_n2 _ _ q]; exact vQ hV p (by omega)
theorem pst3_fw {x : TX} {s : PS} {j par n : Nat} {d : D} {u : Nat → List Nat} {o : Nat → Bool} (hV : Vd d) (h6 : Z6 d) (hu : ∀ p, p < d 0 0 → okW (u p)) (hn : n < d 0 0) (hj : j ≤ x.1) (hs : s.1 < j) : fw x s (pst3 x j par n d u o) := by
  unfold pst3
  by_cases h1 : iw x j Wdead = true
  · rw [if_pos h1]
    have := tE_j x j
    exact fw_ok (Vd_up hV (by decide) ⟨fun z => absurd z (by decide), fun z => absurd z (by decide), fun _ => Nat.le_refl 1, fun z => absurd z (by decide), fun z => absurd z (by decide), fun z => absurd z (by decide), fun z => absurd z (by decide), fun z => absurd z (by decide), fun z => absurd z (by decide), fun z => absurd z (by decide), fun z => absurd z (by decide), fun z => absurd z (by decide)⟩) (Z6_up h6 (by decide) (by decide)) (by rw [up_n1 _ _ (by decide)]; exact hu) (iw_E h1) (by omega)
  · rw [if_neg h1]
    by_cases h2 : iw x j Wspouse = true ∧ par = 0
    · rw [if_pos h2]
      by_cases h3 : d 0 5 = 0
      · rw [if_pos h3]
        have := tE_j x j
        exact fw_ok (Vd_up0 hV ⟨fun z => absurd z (by decide), fun z => absurd z (by decide), fun z => absurd z (by decide), fun z => absurd z (by decide), fun z => absurd z (by decide), fun _ => by omega, fun z => absurd z (by decide), fun z => absurd z (by decide), fun z => absurd z (by decide), fun z => absurd z (by decide)⟩) (Z6_up0 h6 (by decide)) (by rw [up_n2 _ _ (by decide)]; exact hu) (iw_E h2.1) (by omega)
      · rw [if_neg h3]; exact fw_no (by decide) (by decide) hj
    · rw [if_neg h2]; exact fw_ok hV h6 hu hj hs
theorem upP_0 (d : D) (par age : Nat) : upP d par age 0 0 = d 0 0 + 1 := up_s _ _ _ _
theorem Z6_upP {d : D} (h : Z6 d) (par age : Nat) : Z6 (upP d par age) := Z6_up0 (Z6_up (Z6_up h (by decide) (by decide)) (by decide) (by decide)) (by decide)
theorem pst2_fw {x : TX} {s : PS} {j : Nat} {w : List Nat} {d : D} {u : Nat → List Nat} {o : Nat → Bool} (hV : Vd d) (h6 : Z6 d) (hu : ∀ p, p < d 0 0 → okW (u p)) (hw : okW w) (hn : d 0 0 < 12) (hj : j ≤ x.1) (hs : s.1 < j) : fw x s (pst2 x j w d u o) := by
  unfold pst2
  have b1 := unr_b (d := d) (u := u) hj
  by_cases h1 : (unr x j d u).1 ≠ 0
  · rw [if_pos h1]; exact fw_no h1 (by omega) b1.2
  · rw [if_neg h1]
    have f1 := unr_fw (d := d) (u := u) hj (by omega)
    have b2 := agr_b (x := x) f1.2.1
    by_cases h2 : (agr x (unr x j d u).2.1).1 ≠ 0
    · rw [if_pos h2]; exact fw_no h2 (by omega) b2.2
    · rw [if_neg h2]
      have f2 := agr_fw (x := x) f1.2.1 (by omega)
      refine pst3_fw (Vd_per hV hn f1.2.2 f2.2.2) (Z6_upP h6 _ _) ?_ (by rw [upP_0]; omega) b2.2 (by omega)
      intro p hp
      rw [upP_0] at hp
      by_cases q : p = d 0 0
      · rw [q, aup_s]; exact hw
      · rw [aup_n _ _ q]; exact hu p (by omega)
theorem sPer_fw {x : TX} {s : PS} (h : VP x s) (hk : tK x s.1 = 1) : fw x s (sPer x s) := by
  obtain ⟨hV, h6, hu, hj⟩ := h
  have g1 := tE_le (x := x) (j := s.1) (by omega)
  have g2 := tE_j x s.1
  unfold sPer
  by_cases h1 : 12 ≤ s.2.1 0 0
  · rw [if_pos h1]; exact fw_no (by decide) (by decide) hj
  · rw [if_neg h1]
    by_cases h2 : tK x (tE x s.1) ≠ 1
    · rw [if_pos h2]; exact fw_no (by decide) (by decide) g1
    · rw [if_neg h2]
      have h2 : tK x (tE x s.1) = 1 := by omega
      by_cases h3 : nmd s.2.2.1 (s.2.1 0 0) (wl x (tE x s.1)) ≠ 0
      · rw [if_pos h3]; exact fw_no (by decide) (by decide) g1
      · rw [if_neg h3]
        have g3 := tE_j x (tE x s.1)
        exact pst2_fw hV h6 hu (wl_ok h2) (by omega) (tE_le (by omega)) (by omega)
theorem sAss_fw {x : TX} {s : PS} (h : VP x s) (hk : tK x s.1 = 1) : fw x s (sAss x s) := by
  obtain ⟨hV, h6, hu, hj⟩ := h
  have g1 := tE_le (x := x) (j := s.1) (by omega)
  have g2 := tE_j x s.1
  unfold sAss
  by_cases h1 : 8 ≤ s.2.1 0 1
  · rw [if_pos h1]; exact fw_no (by decide) (by decide) hj
  · rw [if_neg h1]
    have b1 := nu_b (x := x) (l := 0) (m := 9999999) g1
    by_cases h2 : (nu x (tE x s.1) 0 9999999).1 ≠ 0
    · rw [if_pos h2]; exact fw_no h2 (by omega) b1.2
    · rw [if_neg h2]
      have f1 := nu_fw (x := x) (j := tE x s.1) (l := 0) (m := 9999999) (by omega)
      have b2 := chr_b (x := x) b1.2
      by_cases h3 : (chr x (nu x (tE x s.1) 0 9999999).2.1).1 ≠ 0
      · rw [if_pos h3]; exact fw_no h3 (by omega) b2.2
      · rw [if_neg h3]
        have f2 := chr_fw (x := x) b1.2 (by omega)
        refine fw_ok (Vd_ass hV (by omega) f1.2.2.2 f2.2.2) ?_ (by rw [up3_z _ (by decide) (by decide) (by decide)]; exact hu) b2.2 (by omega)
        intro i hi
        have hi2 : s.2.1 0 1 + 1 ≤ i := by
          have e : up3 s.2.1 5 6 1 (nu x (tE x s.1) 0 9999999).2.2 (chr x (nu x (tE x s.1) 0 9999999).2.1).2.2 0 1 = s.2.1 0 1 + 1 := up_s _ _ _ _
          rw [e] at hi; exact hi
        show up (up (up s.2.1 5 (s.2.1 0 1) _) 6 (s.2.1 0 1) _) 0 1 _ 6 i = 0
        rw [up_n1 _ _ (by decide), up_n2 _ _ (by omega), up_n1 _ _ (by decide)]
        exact h6 i (by omega)
theorem sDeb_fw {x : TX} {s : PS} (h : VP x s) (hk : tK x s.1 = 1) : fw x s (sDeb x s) := by
  obtain ⟨hV, h6, hu, hj⟩ := h
  have g1 := tE_le (x := x) (j := s.1) (by omega)
  have g2 := tE_j x s.1
  unfold sDeb
  by_cases h1 : 8 ≤ s.2.1 0 2
  · rw [if_pos h1]; exact fw_no (by decide) (by decide) hj
  · rw [if_neg h1]
    have b1 := nu_b (x := x) (l := 1) (m := 5) g1
    refine two_fw ⟨by omega, b1.2⟩ (fun z => by have := nu_fw z; omega) (fun z w hw => ?_) hu
    have f1 := nu_fw z
    exact ⟨Vd_deb hV (by omega) f1.2.2.1 f1.2.2.2 hw, Z6_up3 h6 (by decide) (by decide) (by decide) (by decide) (by decide), up3_z _ (by decide) (by decide) (by decide)⟩
theorem sGif_fw {x : TX} {s : PS} (h : VP x s) (hk : tK x s.1 = 1) : fw x s (sGif x s) := by
  obtain ⟨hV, h6, hu, hj⟩ := h
  have g1 := tE_le (x := x) (j := s.1) (by omega)
  have g2 := tE_j x s.1
  have hC := vC hV
  unfold sGif
  by_cases h1 : 8 ≤ s.2.1 0 3
  · rw [if_pos h1]; exact fw_no (by decide) (by decide) hj
  · rw [if_neg h1]
    refine two_fw (kp_b g1) (fun z => by have := kp_fw z; omega) (fun z w hw => ?_) hu
    have f1 := kp_fw z
    exact ⟨Vd_gif hV (by omega) (by omega) hw, Z6_up3 h6 (by decide) (by decide) (by decide) (by decide) (by decide), up3_z _ (by decide) (by decide) (by decide)⟩
theorem sLeg_fw {x : TX} {s : PS} (h : VP x s) (hk : tK x s.1 = 1) : fw x s (sLeg x s) := by
  obtain ⟨hV, h6, hu, hj⟩ := h
  have g1 := tE_le (x := x) (j := s.1) (by omega)
  have g2 := tE_j x s.1
  have hC := vC hV
  unfold sLeg
  by_cases h1 : 8 ≤ s.2.1 0 4
  · rw [if_pos h1]; exact fw_no (by decide) (by decide) hj
  · rw [if_neg h1]
    refine two_fw (kp_b g1) (fun z => by have := kp_fw z; omega) (fun z w hw => ?_) hu
    have f1 := kp_fw z
    exact ⟨Vd_leg hV (by omega) (by omega) hw, Z6_up3 h6 (by decide) (by decide) (by decide) (by decide) (by decide), up3_z _ (by decide) (by decide) (by decide)⟩
theorem Vd_sha {d : D} (hV : Vd d) {v w : Nat} (h1 : 1 ≤ v) (h2 : v ≤ 99) (h3 : w ≤ v) : Vd (up (up d 0 7 v) 0 6 w) := by
  have hC := vC hV
  obtain ⟨c0, c1, c2, c3, c4, c5, c6, c7, c8, c9, c10⟩ := hC
  have e6 : up (up d 0 7 v) 0 6 w 0 6 = w := up_s _ _ _ _
  have e7 : up (up d 0 7 v) 0 6 w 0 7 = v := by rw [up_n2 _ _ (by decide), up_s]
  have ek : ∀ k, k ≠ 6 → k ≠ 7 → up (up d 0 7 v) 0 6 w 0 k = d 0 k := fun k a b => by rw [up_n2 _ _ a, up_n2 _ _ b]
  have en : ∀ b, b ≠ 0 → up (up d 0 7 v) 0 6 w b = d b := fun b hb => funext fun j => by rw [up_n1 _ _ hb, up_n1 _ _ hb]
  unfold Vd
  rw [e6, e7, ek 0 (by decide) (by decide), ek 1 (by decide) (by decide), ek 2 (by decide) (by decide), ek 3 (by decide) (by decide), ek 4 (by decide) (by decide), ek 5 (by decide) (by decide), ek 8 (by decide) (by decide), ek 9 (by decide) (by decide), en 1 (by decide), en 2 (by decide), en 3 (by decide), en 4 (by decide), en 5 (by decide), en 6 (by decide), en 7 (by decide), en 8 (by decide), en 9 (by decide), en 10 (by decide), en 11 (by decide), en 12 (by decide)]
  exact ⟨⟨c0, c1, c2, c3, c4, c5, h3, h1, h2, c9, c10⟩, hV.2⟩
theorem sSha_fw {x : TX} {s : PS} (h : VP x s) (hk : tK x s.1 = 1) : fw x s (sSha x s) := by
  obtain ⟨hV, h6, hu, hj⟩ := h
  have g1 := tE_le (x := x) (j := s.1) (by omega)
  have g2 := tE_j x s.1
  unfold sSha
  by_cases h1 : s.2.2.2 0 = true
  · rw [if_pos h1]; exact fw_no (by decide) (by decide) hj
  · rw [if_neg h1]
    have b1 := nu_b (x := x) (l := 1) (m := 99) g1
    refine two_fw ⟨by omega, b1.2⟩ (fun z => by have := nu_fw z; omega) (fun z w hw => ?_) hu
    have f1 := nu_fw z
    exact ⟨Vd_sha hV f1.2.2.1 f1.2.2.2 hw, Z6_up0 (Z6_up0 h6 (by decide)) (by decide), by rw [up_n2 _ _ (by decide), up_n2 _ _ (by decide)]⟩
theorem sLif_fw {x : TX} {s : PS} (h : VP x s) (hk : tK x s.1 = 1) : fw x s (sLif x s) := by
  obtain ⟨hV, h6, hu, hj⟩ := h
  have g1 := tE_le (x := x) (j := s.1) (by omega)
  have g2 := tE_j x s.1
  unfold sLif
  by_cases h1 : s.2.2.2 1 = true
  · rw [if_pos h1]; exact fw_no (by decide) (by decide) hj
  · rw [if_neg h1]
    have b1 := nu_b (x := x) (l := 0) (m := 100) g1
    by_cases h2 : (nu x (tE x s.1) 0 100).1 ≠ 0
    · rw [if_pos h2]; exact fw_no h2 (by omega) b1.2
    · rw [if_neg h2]
      have f1 := nu_fw (x := x) (j := tE x s.1) (l := 0) (m := 100) (by omega)
      exact fw_ok (Vd_up0 hV ⟨fun z => absurd z (by decide), fun z => absurd z (by decide), fun z => absurd z (by decide), fun z => absurd z (by decide), fun z => absurd z (by decide), fun z => absurd z (by decide), fun z => absurd z (by decide), fun z => absurd z (by decide), fun _ => f1.2.2.2, fun z => absurd z (by decide)⟩) (Z6_up0 h6 (by decide)) (by rw [up_n2 _ _ (by decide)]; exact hu) b1.2 (by omega)
theorem sAcc_fw {x : TX} {s : PS} (h : VP x s) (hk : tK x s.1 = 1) : fw x s (sAcc x s) := by
  obtain ⟨hV, h6, hu, hj⟩ := h
  have g1 := tE_le (x := x) (j := s.1) (by omega)
  have g2 := tE_j x s.1
  have g3 := tE_j x (tE x s.1)
  unfold sAcc
  by_cases h1 : s.2.2.2 2 = true
  · rw [if_pos h1]; exact fw_no (by decide) (by decide) hj
  · rw [if_neg h1]
    by_cases h2 : iw x (tE x s.1) Wline = true
    · rw [if_pos h2]
      exact fw_ok (Vd_up0 hV ⟨fun z => absurd z (by decide), fun z => absurd z (by decide), fun z => absurd z (by decide), fun z => absurd z (by decide), fun z => absurd z (by decide), fun z => absurd z (by decide), fun z => absurd z (by decide), fun z => absurd z (by decide), fun z => absurd z (by decide), fun _ => by decide⟩) (Z6_up0 h6 (by decide)) (by rw [up_n2 _ _ (by decide)]; exact hu) (iw_E h2) (by omega)
    · rw [if_neg h2]
      by_cases h3 : iw x (tE x s.1) Wothers = true
      · rw [if_pos h3]
        exact fw_ok (Vd_up0 hV ⟨fun z => absurd z (by decide), fun z => absurd z (by decide), fun z => absurd z (by decide), fun z => absurd z (by decide), fun z => absurd z (by decide), fun z => absurd z (by decide), fun z => absurd z (by decide), fun z => absurd z (by decide), fun z => absurd z (by decide), fun _ => by decide⟩) (Z6_up0 h6 (by decide)) (by rw [up_n2 _ _ (by decide)]; exact hu) (iw_E h3) (by omega)
      · rw [if_neg h3]; exact fw_no (by decide) (by decide) g1
theorem stm_fw {x : TX} {s : PS} (h : VP x s) : fw x s (stm x s) := by
  unfold stm
  by_cases h1 : iw x s.1 Wperson = true
  · rw [if_pos h1]; exact sPer_fw h (iw_1 h1)
  · rw [if_neg h1]
    by_cases h2 : iw x s.1 Wasset = true
    · rw [if_pos h2]; exact sAss_fw h (iw_1 h2)
    · rw [if_neg h2]
      by_cases h3 : iw x s.1 Wdebt = true
      · rw [if_pos h3]; exact sDeb_fw h (iw_1 h3)
      · rw [if_neg h3]
        by_cases h4 : iw x s.1 Wgift = true
        · rw [if_pos h4]; exact sGif_fw h (iw_1 h4)
        · rw [if_neg h4]
          by_cases h5 : iw x s.1 Wlegacy = true
          · rw [if_pos h5]; exact sLeg_fw h (iw_1 h5)
          · rw [if_neg h5]
            by_cases h6 : iw x s.1 Wshare = true
            · rw [if_pos h6]; exact sSha_fw h (iw_1 h6)
            · rw [if_neg h6]
              by_cases h7 : iw x s.1 Wlife = true
              · rw [if_pos h7]; exact sLif_fw h (iw_1 h7)
              · rw [if_neg h7]
                by_cases h8 : iw x s.1 Waccrue = true
                · rw [if_pos h8]; exact sAcc_fw h (iw_1 h8)
                · rw [if_neg h8]; exact fw_no (by decide) (by decide) h.2.2.2
theorem sm1_fw {x : TX} {s : PS} (h : VP x s) : fw x s (sm1 x s) := by
  have h1 := stm_fw h
  unfold sm1
  by_cases h2 : (stm x s).1 ≠ 0
  · rw [if_pos h2]; exact h1
  · rw [if_neg h2]
    have h3 := h1.1 (by omega)
    by_cases h4 : tK x (stm x s).2.1 = 3
    · rw [if_pos h4]
      have := tE_j x (stm x s).2.1
      exact fw_ok h3.1.1 h3.1.2.1 h3.1.2.2.1 (tE_le (by omega)) (by omega)
    · rw [if_neg h4]; exact fw_no (by decide) (by decide) h1.2.1
theorem pl_fw {x : TX} : ∀ {f : Nat} {s : PS}, VP x s → ((pl x f s).1 = 0 → VP x (pl x f s).2) ∧ (pl x f s).2.1 ≤ x.1 ∧ (pl x f s).1 ≤ 5
  | 0, s, h => ⟨fun _ => h, h.2.2.2, Nat.zero_le _⟩
  | f + 1, s, h => by
    have h1 := sm1_fw h
    show ((if tK x s.1 = 0 then (0, s) else if (sm1 x s).1 ≠ 0 then sm1 x s else pl x f (sm1 x s).2).1 = 0 → VP x (if tK x s.1 = 0 then (0, s) else if (sm1 x s).1 ≠ 0 then sm1 x s else pl x f (sm1 x s).2).2) ∧ (if tK x s.1 = 0 then (0, s) else if (sm1 x s).1 ≠ 0 then sm1 x s else pl x f (sm1 x s).2).2.1 ≤ x.1 ∧ (if tK x s.1 = 0 then (0, s) else if (sm1 x s).1 ≠ 0 then sm1 x s else pl x f (sm1 x s).2).1 ≤ 5
    by_cases h2 : tK x s.1 = 0
    · rw [if_pos h2]; exact ⟨fun _ => h, h.2.2.2, Nat.zero_le _⟩
    · rw [if_neg h2]
      by_cases h3 : (sm1 x s).1 ≠ 0
      · rw [if_pos h3]; exact ⟨fun z => absurd z h3, h1.2⟩
      · rw [if_neg h3]; exact pl_fw (h1.1 (by omega)).1
theorem VdE : Vd dE := by
  refine ⟨by decide, ?_, ?_, ?_, ?_, ?_, ?_, ?_, ?_, ?_⟩
  · intro p hp; exact absurd hp (Nat.not_lt_zero _)
  · intro p; exact ⟨Nat.zero_le _, Nat.zero_le _, Nat.zero_le _⟩
  · intro p; exact ⟨Nat.zero_le _, Nat.zero_le _⟩
  · intro p; exact ⟨Nat.zero_le _, Nat.zero_le _⟩
  · intro p hp; exact absurd hp (Nat.not_lt_zero _)
  · intro p; exact ⟨by show 0 < 12; decide, Nat.zero_le _⟩
  · intro p; exact ⟨by show 0 < 12; decide, Nat.zero_le _⟩
  · intro p hp; exact absurd hp (Nat.not_lt_zero _)
  · intro p; show 1 ≤ 12; decide
theorem VP0 (x : TX) : VP x (0, dE, fun _ => [], fun _ => false) := ⟨VdE, fun _ _ => rfl, fun p hp => absurd hp (Nat.not_lt_zero _), Nat.zero_le _⟩
theorem pa_fw (x : TX) : ((pa x).1 = 0 → VP x (pa x).2) ∧ (pa x).2.1 ≤ x.1 ∧ (pa x).1 ≤ 5 := pl_fw (VP0 x)
