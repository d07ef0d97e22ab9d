theorem sq1 : strJ[1]? = some ("EstateSettlement$Parser", 76, "person", [112, 101, 114, 115, 111, 110]) := rfl
theorem sv1 : isS ("EstateSettlement$Parser", 76, "person", [112, 101, 114, 115, 111, 110]) Wperson := ⟨rfl, by decide, by decide +kernel⟩
theorem sq2 : strJ[2]? = some ("EstateSettlement$Parser", 138, "under", [117, 110, 100, 101, 114]) := rfl
theorem sv2 : isS ("EstateSettlement$Parser", 138, "under", [117, 110, 100, 101, 114]) Wunder := ⟨rfl, by decide, by decide +kernel⟩
theorem sq3 : strJ[3]? = some ("EstateSettlement$Parser", 146, "age", [97, 103, 101]) := rfl
theorem sv3 : isS ("EstateSettlement$Parser", 146, "age", [97, 103, 101]) Wage := ⟨rfl, by decide, by decide +kernel⟩
theorem sq4 : strJ[4]? = some ("EstateSettlement$Parser", 163, "dead", [100, 101, 97, 100]) := rfl
theorem sv4 : isS ("EstateSettlement$Parser", 163, "dead", [100, 101, 97, 100]) Wdead := ⟨rfl, by decide, by decide +kernel⟩
theorem sq5 : strJ[5]? = some ("EstateSettlement$Parser", 168, "spouse", [115, 112, 111, 117, 115, 101]) := rfl
theorem sv5 : isS ("EstateSettlement$Parser", 168, "spouse", [115, 112, 111, 117, 115, 101]) Wspouse := ⟨rfl, by decide, by decide +kernel⟩
theorem sq6 : strJ[6]? = some ("EstateSettlement$Parser", 85, "asset", [97, 115, 115, 101, 116]) := rfl
theorem sv6 : isS ("EstateSettlement$Parser", 85, "asset", [97, 115, 115, 101, 116]) Wasset := ⟨rfl, by decide, by decide +kernel⟩
theorem sq7 : strJ[7]? = some ("EstateSettlement$Parser", 173, "charge", [99, 104, 97, 114, 103, 101]) := rfl
theorem sv7 : isS ("EstateSettlement$Parser", 173, "charge", [99, 104, 97, 114, 103, 101]) Wcharge := ⟨rfl, by decide, by decide +kernel⟩
theorem sq8 : strJ[8]? = some ("EstateSettlement$Parser", 90, "debt", [100, 101, 98, 116]) := rfl
theorem sv8 : isS ("EstateSettlement$Parser", 90, "debt", [100, 101, 98, 116]) Wdebt := ⟨rfl, by decide, by decide +kernel⟩
theorem sq9 : strJ[9]? = some ("EstateSettlement$Parser", 95, "gift", [103, 105, 102, 116]) := rfl
theorem sv9 : isS ("EstateSettlement$Parser", 95, "gift", [103, 105, 102, 116]) Wgift := ⟨rfl, by decide, by decide +kernel⟩
theorem sq10 : strJ[10]? = some ("EstateSettlement$Parser", 100, "legacy", [108, 101, 103, 97, 99, 121]) := rfl
theorem sv10 : isS ("EstateSettlement$Parser", 100, "legacy", [108, 101, 103, 97, 99, 121]) Wlegacy := ⟨rfl, by decide, by decide +kernel⟩
theorem sq11 : strJ[11]? = some ("EstateSettlement$Parser", 105, "share", [115, 104, 97, 114, 101]) := rfl
theorem sv11 : isS ("EstateSettlement$Parser", 105, "share", [115, 104, 97, 114, 101]) Wshare := ⟨rfl, by decide, by decide +kernel⟩
theorem sq12 : strJ[12]? = some ("EstateSettlement$Parser", 110, "life", [108, 105, 102, 101]) := rfl
theorem sv12 : isS ("EstateSettlement$Parser", 110, "life", [108, 105, 102, 101]) Wlife := ⟨rfl, by decide, by decide +kernel⟩
theorem sq13 : strJ[13]? = some ("EstateSettlement$Parser", 115, "accrue", [97, 99, 99, 114, 117, 101]) := rfl
theorem sv13 : isS ("EstateSettlement$Parser", 115, "accrue", [97, 99, 99, 114, 117, 101]) Waccrue := ⟨rfl, by decide, by decide +kernel⟩
theorem sq14 : strJ[14]? = some ("EstateSettlement$Parser", 208, "line", [108, 105, 110, 101]) := rfl
theorem sv14 : isS ("EstateSettlement$Parser", 208, "line", [108, 105, 110, 101]) Wline := ⟨rfl, by decide, by decide +kernel⟩
theorem sq15 : strJ[15]? = some ("EstateSettlement$Parser", 210, "others", [111, 116, 104, 101, 114, 115]) := rfl
theorem sv15 : isS ("EstateSettlement$Parser", 210, "others", [111, 116, 104, 101, 114, 115]) Wothers := ⟨rfl, by decide, by decide +kernel⟩
theorem tb_no {c : Nat} (h : c ≠ 0) : nI 0 = nI (tb (c == 0)) := by rw [beq_false_of_ne h]; rfl
theorem tb_nr {c : Nat} (h : (c == 0) = false) : nI 0 = nI (tb (c == 0)) := by rw [h]; rfl
theorem tbq_n {c : Nat} (h : tb (c == 0) = 0) : c ≠ 0 := by
  intro z
  rw [z] at h
  exact absurd h (by decide)
theorem tbq_y {c : Nat} (h : tb (c == 0) ≠ 0) : c = 0 := by
  apply Classical.byContradiction
  intro z
  rw [beq_false_of_ne z] at h
  exact h rfl
theorem oI_pr {k : Nat} (h : 1 ≤ k) : oI k = nI (k - 1) := by
  obtain ⟨m, rfl⟩ : ∃ m, k = m + 1 := ⟨k - 1, by omega⟩
  rw [oI_s, Nat.add_sub_cancel]
theorem oI_z {k : Nat} (hk : k < 1000) (h : oI k = -1) : k = 0 := by
  rw [← oI_0] at h
  exact (oI_eq hk (by decide)).mp h
theorem oI_nz {k : Nat} (h : ¬ oI k = -1) : k ≠ 0 := by
  intro z
  rw [z] at h
  exact h oI_0
/-- the places of the parser -/
def inP (o : Nat) : Bool := Nat.beq o 1 || (Nat.beq o 2 || (Nat.beq o 4 || (Nat.beq o 6 || (Nat.beq o 7 || (Nat.beq o 8 || (Nat.beq o 9 || Nat.beq o 11))))))
def FrP (σ σ' : SS) : Prop := (∀ o, inP o = false → σ'.1 o = σ.1 o) ∧ (∀ o, o ≠ 5 → σ'.2 o = σ.2 o) ∧ σ'.1 2 1 = σ.1 2 1
theorem FrP.rf (σ : SS) : FrP σ σ := ⟨fun _ _ => rfl, fun _ _ => rfl, rfl⟩
theorem FrP.tr {σ σ' σ2 : SS} (h : FrP σ σ') (g : FrP σ' σ2) : FrP σ σ2 := ⟨fun o q => (g.1 o q).trans (h.1 o q), fun o q => (g.2.1 o q).trans (h.2.1 o q), g.2.2.trans h.2.2⟩
theorem FrP_mz {σ : SS} {L : List (Nat × (Nat → Int32))} {M : List (Nat × (Nat → Int64))} (h1 : L.all (fun e => inP e.1) = true) (h2 : M.all (fun e => Nat.beq e.1 5) = true) (h3 : (mz σ L M).1 2 1 = σ.1 2 1) : FrP σ (mz σ L M) := by
  refine ⟨fun o ho => gt_no (fun e he q => ?_), fun o ho => gt_no (fun e he q => ?_), h3⟩
  · have := List.all_eq_true.mp h1 e he
    rw [q, ho] at this; exact absurd this (by decide)
  · have := Nat.eq_of_beq_eq_true (List.all_eq_true.mp h2 e he)
    exact ho (q.symm.trans this)
theorem FrP.T {σ σ' : SS} (h : FrP σ σ') : σ'.1 3 = σ.1 3 := h.1 3 rfl
/-- what the parser holds -/
def NM (g : Nat → Int64) (m : Nat) (u : Nat → List Nat) : Prop := ∀ p, p < m → g p = lN (w27 (u p) 0)
def FL5 (f : Nat → Int32) (o : Nat → Bool) : Prop := f 4 = nI 0 ∧ f 3 = -1 ∧ f 5 = nI (tb (o 0)) ∧ f 6 = nI (tb (o 1)) ∧ f 7 = nI (tb (o 2))
def CP (σ : SS) (x : TX) (s : PS) : Prop := CT (σ.1 2) x s.1 ∧ EE4 σ s.2.1 ∧ SR (σ.1 11) s.2.1 ∧ NM (σ.2 5) (s.2.1 0 0) s.2.2.1 ∧ FL5 (σ.1 1) s.2.2.2
def CR (σ : SS) (x : TX) (r : PR) : Prop := (r.1 = 0 → CP σ x r.2) ∧ (r.1 ≠ 0 → σ.1 1 4 = nI r.1 ∧ σ.1 1 3 = nI (tS x r.2.1))
theorem CR_no {σ : SS} {x : TX} {c j : Nat} {q : D × (Nat → List Nat) × (Nat → Bool)} (hc : c ≠ 0) (h4 : σ.1 1 4 = nI c) (h3 : σ.1 1 3 = nI (tS x j)) : CR σ x (c, j, q) := ⟨fun z => absurd z hc, fun _ => ⟨h4, h3⟩⟩
theorem CR_ok {σ : SS} {x : TX} {s : PS} (h : CP σ x s) : CR σ x (0, s) := ⟨fun _ => h, fun z => absurd rfl z⟩
/-- a number read, a person read -/
def RD (f1 f2 e1 e2 : Nat → Int32) (x : TX) (kf : Nat) (val : Int32) (r : Nat × Nat × Nat) : Prop := e2 1 = f2 1 ∧ (r.1 = 0 → CT e2 x r.2.1 ∧ e1 kf = val ∧ ∀ k, k ≠ kf → e1 k = f1 k) ∧ (r.1 ≠ 0 → e1 4 = nI r.1 ∧ e1 3 = nI (tS x r.2.1))
theorem FL5_k {f g : Nat → Int32} {o : Nat → Bool} {kf : Nat} (h : FL5 f o) (hk : ∀ k, k ≠ kf → g k = f k) (h8 : 8 ≤ kf) : FL5 g o := by
  obtain ⟨a, b, c, d, e⟩ := h
  exact ⟨(hk 4 (by omega)).trans a, (hk 3 (by omega)).trans b, (hk 5 (by omega)).trans c, (hk 6 (by omega)).trans d, (hk 7 (by omega)).trans e⟩
theorem nu_1 {x : TX} {j l m : Nat} (h : tK x j ≠ 2) : nu x j l m = (1, j, 0) := if_neg h
theorem nu_3 {x : TX} {j l m : Nat} (h : tK x j = 2) (h2 : vl x j < l ∨ m < vl x j) : nu x j l m = (3, j, 0) := (if_pos h).trans (if_pos h2)
theorem nu_0 {x : TX} {j l m : Nat} (h : tK x j = 2) (h2 : ¬ (vl x j < l ∨ m < vl x j)) : nu x j l m = (0, tE x j, vl x j) := (if_pos h).trans (if_neg h2)
theorem kp_1 {x : TX} {j m e : Nat} {u : Nat → List Nat} (h : tK x j ≠ 1) : kp x j m u e = (1, j, 0) := if_neg h
theorem kp_4 {x : TX} {j m e : Nat} {u : Nat → List Nat} (h : tK x j = 1) (h2 : nmd u m (wl x j) = 0 ∨ nmd u m (wl x j) = e) : kp x j m u e = (4, j, 0) := (if_pos h).trans (if_pos h2)
theorem kp_0 {x : TX} {j m e : Nat} {u : Nat → List Nat} (h : tK x j = 1) (h2 : ¬ (nmd u m (wl x j) = 0 ∨ nmd u m (wl x j) = e)) : kp x j m u e = (0, tE x j, nmd u m (wl x j)) := (if_pos h).trans (if_neg h2)
theorem two_1 {x : TX} {s : PS} {r : Nat × Nat × Nat} {m : Nat} {f : Nat → Nat → D} {o : Nat → Bool} (h : r.1 ≠ 0) : two x s r m f o = (r.1, r.2.1, s.2) := if_pos h
theorem two_2 {x : TX} {s : PS} {r : Nat × Nat × Nat} {m : Nat} {f : Nat → Nat → D} {o : Nat → Bool} (h : r.1 = 0) (h2 : (nu x r.2.1 0 m).1 ≠ 0) : two x s r m f o = ((nu x r.2.1 0 m).1, (nu x r.2.1 0 m).2.1, s.2) := (if_neg (by omega)).trans (if_pos h2)
theorem two_0 {x : TX} {s : PS} {r : Nat × Nat × Nat} {m : Nat} {f : Nat → Nat → D} {o : Nat → Bool} (h : r.1 = 0) (h2 : (nu x r.2.1 0 m).1 = 0) : two x s r m f o = (0, (nu x r.2.1 0 m).2.1, f r.2.2 (nu x r.2.1 0 m).2.2, s.2.2.1, o) := (if_neg (by omega)).trans (if_neg (by omega))
/-- the estate's rows under a change -/
theorem ER_cg {f fp fc fl fa : Nat → Int32} {d e : D} (h : ER f fp fc fl fa d) (h0 : e 0 0 = d 0 0 ∧ e 0 1 = d 0 1 ∧ e 0 4 = d 0 4 ∧ e 0 5 = d 0 5 ∧ e 0 6 = d 0 6 ∧ e 0 7 = d 0 7 ∧ e 0 8 = d 0 8) (h1 : e 1 = d 1) (h6 : e 6 = d 6) (h11 : e 11 = d 11) (h12 : e 12 = d 12) : ER f fp fc fl fa e := by
  obtain ⟨z0, z1, z4, z5, z6, z7, z8⟩ := h0
  unfold ER at h ⊢
  rw [z0, z1, z4, z5, z6, z7, z8, h1, h6, h11, h12]
  exact h
theorem up_row (d : D) {a i b : Nat} (v : Nat) (h : b ≠ a) : up d a i v b = d b := funext fun j => up_n1 d v h
theorem ER_dyn {f fp fc fl fa : Nat → Int32} {d : D} {a i v : Nat} (h : ER f fp fc fl fa d) (hd : dyn a i = true) : ER f fp fc fl fa (up d a i v) := by
  have s := Smup (d := d) (a := a) (i := i) (v := v) hd
  exact ER_cg h s.1 s.2.1 s.2.2.1 s.2.2.2.1 s.2.2.2.2
theorem ER_deb {f fp fc fl fa : Nat → Int32} {d : D} {v w : Nat} (h : ER f fp fc fl fa d) : ER f fp fc fl fa (up3 d 7 8 2 v w) := ER_dyn (ER_dyn (ER_dyn h rfl) rfl) rfl
theorem ER_gif {f fp fc fl fa : Nat → Int32} {d : D} {v w : Nat} (h : ER f fp fc fl fa d) : ER f fp fc fl fa (up3 d 9 10 3 v w) := ER_dyn (ER_dyn (ER_dyn h rfl) rfl) rfl
theorem ER_per {f fp fc fl fa : Nat → Int32} {d : D} {par age : Nat} (h : ER f fp fc fl fa d) : ER (aup f 0 (nI (d 0 0 + 1))) (aup fp (d 0 0) (oI par)) fc fl fa (upP d par age) := by
  obtain ⟨⟨e1, e2, e3, e4, e5, e6, e7⟩, e8, e9, e10, e11⟩ := h
  have z : ∀ k, k ≠ 0 → upP d par age 0 k = d 0 k := fun k hk => by unfold upP; rw [up_n2 _ _ hk, up_n1 _ _ (by decide), up_n1 _ _ (by decide)]
  have r : ∀ b, b ≠ 0 → b ≠ 1 → b ≠ 2 → upP d par age b = d b := fun b h0 h1 h2 => by unfold upP; rw [up_row _ _ h0, up_row _ _ h2, up_row _ _ h1]
  have r1 : upP d par age 1 = up d 1 (d 0 0) par 1 := by unfold upP; rw [up_row _ _ (by decide), up_row _ _ (by decide)]
  unfold ER
  rw [z 1 (by decide), z 4 (by decide), z 5 (by decide), z 6 (by decide), z 7 (by decide), z 8 (by decide), r 6 (by decide) (by decide) (by decide), r 11 (by decide) (by decide) (by decide), r 12 (by decide) (by decide) (by decide), r1, upP_0]
  refine ⟨⟨rfl, e2, e3, e4, e5, e6, e7⟩, ?_, e9, e10, e11⟩
  intro p hp
  by_cases q : p = d 0 0
  · rw [q, aup_s, up_s]
  · rw [aup_n _ _ q, up_n2 _ _ q]; exact e8 p (by omega)
theorem ER_ass {f fp fc fl fa : Nat → Int32} {d : D} {v w : Nat} (h : ER f fp fc fl fa d) : ER (aup f 4 (nI (d 0 1 + 1))) fp (aup fc (d 0 1) (nI w)) fl fa (up3 d 5 6 1 v w) := by
  obtain ⟨⟨e1, e2, e3, e4, e5, e6, e7⟩, e8, e9, e10, e11⟩ := h
  have z : ∀ k, k ≠ 1 → up3 d 5 6 1 v w 0 k = d 0 k := fun k hk => up3_z _ (by decide) (by decide) hk
  have z1 : up3 d 5 6 1 v w 0 1 = d 0 1 + 1 := up_s _ _ _ _
  have r : ∀ b, b ≠ 0 → b ≠ 5 → b ≠ 6 → up3 d 5 6 1 v w b = d b := fun b h0 h1 h2 => by unfold up3; rw [up_row _ _ h0, up_row _ _ h2, up_row _ _ h1]
  have r1 : up3 d 5 6 1 v w 6 = up (up d 5 (d 0 1) v) 6 (d 0 1) w 6 := by unfold up3; rw [up_row _ _ (by decide)]
  unfold ER
  rw [z1, z 0 (by decide), z 4 (by decide), z 5 (by decide), z 6 (by decide), z 7 (by decide), z 8 (by decide), r 1 (by decide) (by decide) (by decide), r 11 (by decide) (by decide) (by decide), r 12 (by decide) (by decide) (by decide), r1]
  refine ⟨⟨e1, e2, rfl, e4, e5, e6, e7⟩, e8, ?_, e10, e11⟩
  intro p hp
  by_cases q : p = d 0 1
  · rw [q, aup_s, up_s]
  · rw [aup_n _ _ q, up_n2 _ _ q, up_n1 _ _ (by decide)]; exact e9 p (by omega)
theorem ER_leg {f fp fc fl fa : Nat → Int32} {d : D} {v w : Nat} (h : ER f fp fc fl fa d) : ER (aup f 6 (nI (d 0 4 + 1))) fp fc (aup fl (d 0 4) (nI v)) (aup fa (d 0 4) (nI w)) (up3 d 11 12 4 v w) := by
  obtain ⟨⟨e1, e2, e3, e4, e5, e6, e7⟩, e8, e9, e10, e11⟩ := h
  have z : ∀ k, k ≠ 4 → up3 d 11 12 4 v w 0 k = d 0 k := fun k hk => up3_z _ (by decide) (by decide) hk
  have z1 : up3 d 11 12 4 v w 0 4 = d 0 4 + 1 := up_s _ _ _ _
  have r : ∀ b, b ≠ 0 → b ≠ 11 → b ≠ 12 → up3 d 11 12 4 v w b = d b := fun b h0 h1 h2 => by unfold up3; rw [up_row _ _ h0, up_row _ _ h2, up_row _ _ h1]
  have r1 : up3 d 11 12 4 v w 12 = up (up d 11 (d 0 4) v) 12 (d 0 4) w 12 := by unfold up3; rw [up_row _ _ (by decide)]
  have r2 : up3 d 11 12 4 v w 11 = up d 11 (d 0 4) v 11 := by unfold up3; rw [up_row _ _ (by decide), up_row _ _ (by decide)]
  unfold ER
  rw [z1, z 0 (by decide), z 1 (by decide), z 5 (by decide), z 6 (by decide), z 7 (by decide), z 8 (by decide), r 1 (by decide) (by decide) (by decide), r 6 (by decide) (by decide) (by decide), r1, r2]
  refine ⟨⟨e1, e2, e3, rfl, e5, e6, e7⟩, e8, e9, ?_, ?_⟩
  · intro p hp
    by_cases q : p = d 0 4
    · rw [q, aup_s, up_s]
    · rw [aup_n _ _ q, up_n2 _ _ q]; exact e10 p (by omega)
  · intro p hp
    by_cases q : p = d 0 4
    · rw [q, aup_s, up_s]
    · rw [aup_n _ _ q, up_n2 _ _ q, up_n1 _ _ (by decide)]; exact e11 p (by omega)
theorem ER_0 {f fp fc fl fa : Nat → Int32} {d : D} {i v k : Nat} {y : Int32} (h : ER f fp fc fl fa d) (hk : (i = 5 ∧ k = 3 ∧ y = oI v) ∨ (i = 7 ∧ k = 9 ∧ y = nI v) ∨ (i = 6 ∧ k = 10 ∧ y = nI v) ∨ (i = 8 ∧ k = 11 ∧ y = nI v)) : ER (aup f k y) fp fc fl fa (up d 0 i v) := by
  obtain ⟨⟨e1, e2, e3, e4, e5, e6, e7⟩, e8, e9, e10, e11⟩ := h
  have r : ∀ b, b ≠ 0 → up d 0 i v b = d b := fun b h0 => up_row _ _ h0
  unfold ER
  rw [r 1 (by decide), r 6 (by decide), r 11 (by decide), r 12 (by decide)]
  rcases hk with ⟨rfl, rfl, rfl⟩ | ⟨rfl, rfl, rfl⟩ | ⟨rfl, rfl, rfl⟩ | ⟨rfl, rfl, rfl⟩
  · exact ⟨⟨e1, rfl, e3, e4, e5, e6, e7⟩, e8, e9, e10, e11⟩
  · exact ⟨⟨e1, e2, e3, e4, rfl, e6, e7⟩, e8, e9, e10, e11⟩
  · exact ⟨⟨e1, e2, e3, e4, e5, rfl, e7⟩, e8, e9, e10, e11⟩
  · exact ⟨⟨e1, e2, e3, e4, e5, e6, rfl⟩, e8, e9, e10, e11⟩
theorem sP_no : ∀ k, k < 79 → (sP k).1 ≠ 1 ∧ (sP k).1 ≠ 6 ∧ (sP k).1 ≠ 11 ∧ (sP k).1 ≠ 12 ∧ ((sP k).1 = 0 → (sP k).2 = 2 ∨ (sP k).2 = 3 ∨ (sP k).2 = 9) := by decide +kernel
theorem SR_st {f : Nat → Int32} {d : D} {a i v : Nat} (h : SR f d) (ha : (a = 1 ∨ a = 6 ∨ a = 11 ∨ a = 12) ∨ (a = 0 ∧ i ≠ 2 ∧ i ≠ 3 ∧ i ≠ 9)) : SR f (up d a i v) := by
  refine SRno h (fun k hk e => ?_)
  have h1 := sP_no k hk
  rw [e] at h1
  have h2 : a ≠ 1 ∧ a ≠ 6 ∧ a ≠ 11 ∧ a ≠ 12 ∧ (a = 0 → i = 2 ∨ i = 3 ∨ i = 9) := h1
  omega
theorem ER_E {f fp fc fl fa : Nat → Int32} (h : f 0 = nI 0 ∧ f 3 = -1 ∧ f 4 = nI 0 ∧ f 6 = nI 0 ∧ f 9 = nI 4 ∧ f 10 = nI 1 ∧ f 11 = nI 0) : ER f fp fc fl fa dE := ⟨⟨h.1, h.2.1.trans oI_0.symm, h.2.2⟩, fun p hp => absurd hp (Nat.not_lt_zero _), fun p hp => absurd hp (Nat.not_lt_zero _), fun p hp => absurd hp (Nat.not_lt_zero _), fun p hp => absurd hp (Nat.not_lt_zero _)⟩
theorem ER_cpy {f f4 fp fc fl fa gp gc gl ga : Nat → Int32} {d : D} (h : ER f4 fp fc fl fa d) (hV : Vd d) (hf : f 0 = f4 0 ∧ f 3 = f4 3 ∧ f 4 = f4 4 ∧ f 6 = f4 6 ∧ f 9 = f4 9 ∧ f 10 = f4 10 ∧ f 11 = f4 11) : ER f (va_cpy fp gp 0 0 12) (va_cpy fc gc 0 0 8) (va_cpy fl gl 0 0 8) (va_cpy fa ga 0 0 8) d := by
  obtain ⟨⟨e1, e2, e3, e4, e5, e6, e7⟩, e8, e9, e10, e11⟩ := h
  obtain ⟨h1, h2, h3, h4, h5, h6, h7⟩ := hf
  have hC := vC hV
  exact ⟨⟨h1.trans e1, h2.trans e2, h3.trans e3, h4.trans e4, h5.trans e5, h6.trans e6, h7.trans e7⟩, fun p hp => (cpy_0 _ _ (by omega)).trans (e8 p hp), fun p hp => (cpy_0 _ _ (by omega)).trans (e9 p hp), fun p hp => (cpy_0 _ _ (by omega)).trans (e10 p hp), fun p hp => (cpy_0 _ _ (by omega)).trans (e11 p hp)⟩
theorem NM_cg {g : Nat → Int64} {m n : Nat} {u : Nat → List Nat} (h : NM g m u) (e : n = m) : NM g n u := by rw [e]; exact h
theorem NM_up {g : Nat → Int64} {m : Nat} {u : Nat → List Nat} {v : List Nat} (h : NM g m u) : NM (aup g m (lN (w27 v 0))) (m + 1) (aup u m v) := by
  intro p hp
  by_cases q : p = m
  · rw [q, aup_s, aup_s]
  · rw [aup_n _ _ q, aup_n _ _ q]; exact h p (by omega)
theorem c_eclear {z : SZ} {sc : SC} {σ : SS}  : Cs z sc mX0_clear 0 0 [.ref 4] σ (RV fun σ' => ∃ f, σ' = mz σ [(4, f)] [] ∧ ∀ fp fc fl fa, ER f fp fc fl fa dE) := by
  refine Cs.of gmX0_clear (Nat.le_of_ble_eq_true rfl) ?_
  show Ws z sc mX0_clear 0 0 0 0 0 [(0, .ref 4)] [] (mz σ [] []) (RV fun σ' => ∃ f, σ' = mz σ [(4, f)] [] ∧ ∀ fp fc fl fa, ER f fp fc fl fa dE)
  refine r_aload_n rfl rfl ?_
  refine n_iconst 0 rfl ?_
  refine m_putI (L' := [(4, (aup (σ.1 4) 0 (nI 0)))]) rfl flX0_9 rfl rfl (okv_i _) rfl ?_
  refine r_aload_n rfl rfl ?_
  refine n_m1 rfl ?_
  refine m_putI (L' := [(4, (aup (aup (σ.1 4) 0 (nI 0)) 3 (-1)))]) rfl flX0_23 rfl rfl (okv_i _) rfl ?_
  refine r_aload_n rfl rfl ?_
  refine n_iconst 0 rfl ?_
  refine m_putI (L' := [(4, (aup (aup (aup (σ.1 4) 0 (nI 0)) 3 (-1)) 4 (nI 0)))]) rfl flX0_26 rfl rfl (okv_i _) rfl ?_
  refine r_aload_n rfl rfl ?_
  refine n_iconst 0 rfl ?_
  refine m_putI (L' := [(4, (aup (aup (aup (aup (σ.1 4) 0 (nI 0)) 3 (-1)) 4 (nI 0)) 6 (nI 0)))]) rfl flX0_32 rfl rfl (okv_i _) rfl ?_
  refine r_aload_n rfl rfl ?_
  refine n_iconst 4 rfl ?_
  refine m_putI (L' := [(4, (aup (aup (aup (aup (aup (σ.1 4) 0 (nI 0)) 3 (-1)) 4 (nI 0)) 6 (nI 0)) 9 (nI 4)))]) rfl flX0_41 rfl rfl (okv_i _) rfl ?_
  refine r_aload_n rfl rfl ?_
  refine n_iconst 1 rfl ?_
  refine m_putI (L' := [(4, (aup (aup (aup (aup (aup (aup (σ.1 4) 0 (nI 0)) 3 (-1)) 4 (nI 0)) 6 (nI 0)) 9 (nI 4)) 10 (nI 1)))]) rfl flX0_44 rfl rfl (okv_i _) rfl ?_
  refine r_aload_n rfl rfl ?_
  refine n_iconst 0 rfl ?_
  refine m_putI (L' := [(4, (aup (aup (aup (aup (aup (aup (aup (σ.1 4) 0 (nI 0)) 3 (-1)) 4 (nI 0)) 6 (nI 0)) 9 (nI 4)) 10 (nI 1)) 11 (nI 0)))]) rfl flX0_47 rfl rfl (okv_i _) rfl ?_
  exact s_vret (st := []) rfl rfl (Nat.zero_le _) (Nat.zero_le _) (⟨rfl, _, rfl, fun fp fc fl fa => ER_E ⟨rfl, rfl, rfl, rfl, rfl, rfl, rfl⟩⟩)

theorem c_ecopy {z : SZ} {sc : SC} {σ : SS} {d : D} (hE : EE4 σ d) (hV : Vd d) : Cs z sc mX0_copy 0 0 [.ref 12, .ref 4] σ (RV fun σ' => ∃ f12 f14 f15 f16 f17 g13, σ' = mz σ [(12, f12), (14, f14), (15, f15), (16, f16), (17, f17)] [(13, g13)] ∧ ER f12 f14 f15 f16 f17 d ∧ ∀ p, p < 12 → g13 p = σ.2 5 p) := by
  refine Cs.of gmX0_copy (Nat.le_of_ble_eq_true rfl) ?_
  show Ws z sc mX0_copy 0 0 0 0 0 [(0, .ref 12), (1, .ref 4)] [] (mz σ [] []) (RV fun σ' => ∃ f12 f14 f15 f16 f17 g13, σ' = mz σ [(12, f12), (14, f14), (15, f15), (16, f16), (17, f17)] [(13, g13)] ∧ ER f12 f14 f15 f16 f17 d ∧ ∀ p, p < 12 → g13 p = σ.2 5 p)
  refine r_aload_n rfl rfl ?_
  refine r_aload_n rfl rfl ?_
  refine s_getI (x := σ.1 4 0) rfl flX0_9 rfl rfl rfl ?_
  refine m_putI (L' := [(12, (aup (σ.1 12) 0 (σ.1 4 0)))]) rfl flX0_9 rfl rfl (okv_i _) rfl ?_
  refine r_aload_n rfl rfl ?_
  refine s_getR (r := 5) rfl flX0_15 rfl rfl ?_
  refine n_iconst 0 rfl ?_
  refine r_aload_n rfl rfl ?_
  refine s_getR (r := 13) rfl flX0_15 rfl rfl ?_
  refine n_iconst 0 rfl ?_
  refine n_bipush 12 rfl (by decide) ?_
  refine m_cpyl (M' := [(13, (va_cpy (σ.2 5) (σ.2 13) 0 0 12))]) rfl syX0_50 rfl rfl (by omega) (by omega) rfl rfl rfl ?_
  refine r_aload_n rfl rfl ?_
  refine s_getR (r := 6) rfl flX0_19 rfl rfl ?_
  refine n_iconst 0 rfl ?_
  refine r_aload_n rfl rfl ?_
  refine s_getR (r := 14) rfl flX0_19 rfl rfl ?_
  refine n_iconst 0 rfl ?_
  refine n_bipush 12 rfl (by decide) ?_
  refine m_cpyi (L' := [(12, (aup (σ.1 12) 0 (σ.1 4 0))), (14, (va_cpy (σ.1 6) (σ.1 14) 0 0 12))]) rfl syX0_50 rfl rfl (by omega) (by omega) rfl rfl rfl ?_
  refine r_aload_n rfl rfl ?_
  refine r_aload_n rfl rfl ?_
  refine s_getI (x := σ.1 4 3) rfl flX0_23 rfl rfl rfl ?_
  refine m_putI (L' := [(12, (aup (aup (σ.1 12) 0 (σ.1 4 0)) 3 (σ.1 4 3))), (14, (va_cpy (σ.1 6) (σ.1 14) 0 0 12))]) rfl flX0_23 rfl rfl (okv_i _) rfl ?_
  refine r_aload_n rfl rfl ?_
  refine r_aload_n rfl rfl ?_
  refine s_getI (x := σ.1 4 4) rfl flX0_26 rfl rfl rfl ?_
  refine m_putI (L' := [(12, (aup (aup (aup (σ.1 12) 0 (σ.1 4 0)) 3 (σ.1 4 3)) 4 (σ.1 4 4))), (14, (va_cpy (σ.1 6) (σ.1 14) 0 0 12))]) rfl flX0_26 rfl rfl (okv_i _) rfl ?_
  refine r_aload_n rfl rfl ?_
  refine s_getR (r := 7) rfl flX0_29 rfl rfl ?_
  refine n_iconst 0 rfl ?_
  refine r_aload_n rfl rfl ?_
  refine s_getR (r := 15) rfl flX0_29 rfl rfl ?_
  refine n_iconst 0 rfl ?_
  refine n_bipush 8 rfl (by decide) ?_
  refine m_cpyi (L' := [(12, (aup (aup (aup (σ.1 12) 0 (σ.1 4 0)) 3 (σ.1 4 3)) 4 (σ.1 4 4))), (14, (va_cpy (σ.1 6) (σ.1 14) 0 0 12)), (15, (va_cpy (σ.1 7) (σ.1 15) 0 0 8))]) rfl syX0_50 rfl rfl (by omega) (by omega) rfl rfl rfl ?_
  refine r_aload_n rfl rfl ?_
  refine r_aload_n rfl rfl ?_
  refine s_getI (x := σ.1 4 6) rfl flX0_32 rfl rfl rfl ?_
  refine m_putI (L' := [(12, (aup (aup (aup (aup (σ.1 12) 0 (σ.1 4 0)) 3 (σ.1 4 3)) 4 (σ.1 4 4)) 6 (σ.1 4 6))), (14, (va_cpy (σ.1 6) (σ.1 14) 0 0 12)), (15, (va_cpy (σ.1 7) (σ.1 15) 0 0 8))]) rfl flX0_32 rfl rfl (okv_i _) rfl ?_
  refine r_aload_n rfl rfl ?_
  refine s_getR (r := 8) rfl flX0_35 rfl rfl ?_
  refine n_iconst 0 rfl ?_
  refine r_aload_n rfl rfl ?_
  refine s_getR (r := 16) rfl flX0_35 rfl rfl ?_
  refine n_iconst 0 rfl ?_
  refine n_bipush 8 rfl (by decide) ?_
  refine m_cpyi (L' := [(12, (aup (aup (aup (aup (σ.1 12) 0 (σ.1 4 0)) 3 (σ.1 4 3)) 4 (σ.1 4 4)) 6 (σ.1 4 6))), (14, (va_cpy (σ.1 6) (σ.1 14) 0 0 12)), (15, (va_cpy (σ.1 7) (σ.1 15) 0 0 8)), (16, (va_cpy (σ.1 8) (σ.1 16) 0 0 8))]) rfl syX0_50 rfl rfl (by omega) (by omega) rfl rfl rfl ?_
  refine r_aload_n rfl rfl ?_
  refine s_getR (r := 9) rfl flX0_38 rfl rfl ?_
  refine n_iconst 0 rfl ?_
  refine r_aload_n rfl rfl ?_
  refine s_getR (r := 17) rfl flX0_38 rfl rfl ?_
  refine n_iconst 0 rfl ?_
  refine n_bipush 8 rfl (by decide) ?_
  refine m_cpyi (L' := [(12, (aup (aup (aup (aup (σ.1 12) 0 (σ.1 4 0)) 3 (σ.1 4 3)) 4 (σ.1 4 4)) 6 (σ.1 4 6))), (14, (va_cpy (σ.1 6) (σ.1 14) 0 0 12)), (15, (va_cpy (σ.1 7) (σ.1 15) 0 0 8)), (16, (va_cpy (σ.1 8) (σ.1 16) 0 0 8)), (17, (va_cpy (σ.1 9) (σ.1 17) 0 0 8))]) rfl syX0_50 rfl rfl (by omega) (by omega) rfl rfl rfl ?_
  refine r_aload_n rfl rfl ?_
  refine r_aload_n rfl rfl ?_
  refine s_getI (x := σ.1 4 9) rfl flX0_41 rfl rfl rfl ?_
  refine m_putI (L' := [(12, (aup (aup (aup (aup (aup (σ.1 12) 0 (σ.1 4 0)) 3 (σ.1 4 3)) 4 (σ.1 4 4)) 6 (σ.1 4 6)) 9 (σ.1 4 9))), (14, (va_cpy (σ.1 6) (σ.1 14) 0 0 12)), (15, (va_cpy (σ.1 7) (σ.1 15) 0 0 8)), (16, (va_cpy (σ.1 8) (σ.1 16) 0 0 8)), (17, (va_cpy (σ.1 9) (σ.1 17) 0 0 8))]) rfl flX0_41 rfl rfl (okv_i _) rfl ?_
  refine r_aload_n rfl rfl ?_
  refine r_aload_n rfl rfl ?_
  refine s_getI (x := σ.1 4 10) rfl flX0_44 rfl rfl rfl ?_
  refine m_putI (L' := [(12, (aup (aup (aup (aup (aup (aup (σ.1 12) 0 (σ.1 4 0)) 3 (σ.1 4 3)) 4 (σ.1 4 4)) 6 (σ.1 4 6)) 9 (σ.1 4 9)) 10 (σ.1 4 10))), (14, (va_cpy (σ.1 6) (σ.1 14) 0 0 12)), (15, (va_cpy (σ.1 7) (σ.1 15) 0 0 8)), (16, (va_cpy (σ.1 8) (σ.1 16) 0 0 8)), (17, (va_cpy (σ.1 9) (σ.1 17) 0 0 8))]) rfl flX0_44 rfl rfl (okv_i _) rfl ?_
  refine r_aload_n rfl rfl ?_
  refine r_aload_n rfl rfl ?_
  refine s_getI (x := σ.1 4 11) rfl flX0_47 rfl rfl rfl ?_
  refine m_putI (L' := [(12, (aup (aup (aup (aup (aup (aup (aup (σ.1 12) 0 (σ.1 4 0)) 3 (σ.1 4 3)) 4 (σ.1 4 4)) 6 (σ.1 4 6)) 9 (σ.1 4 9)) 10 (σ.1 4 10)) 11 (σ.1 4 11))), (14, (va_cpy (σ.1 6) (σ.1 14) 0 0 12)), (15, (va_cpy (σ.1 7) (σ.1 15) 0 0 8)), (16, (va_cpy (σ.1 8) (σ.1 16) 0 0 8)), (17, (va_cpy (σ.1 9) (σ.1 17) 0 0 8))]) rfl flX0_47 rfl rfl (okv_i _) rfl ?_
  exact s_vret (st := []) rfl rfl (Nat.zero_le _) (Nat.zero_le _) (⟨rfl, _, _, _, _, _, _, rfl, ER_cpy hE hV ⟨rfl, rfl, rfl, rfl, rfl, rfl, rfl⟩, fun p hp => cpy_0 _ _ hp⟩)

theorem c_named_4 {z : SZ} {sc : SC} {σ : SS} {m v : Nat} {f : Nat → Nat} (hm : σ.1 4 0 = nI m) (hm12 : m ≤ 12) (hN : ∀ p, p < m → σ.2 5 p = lN (f p)) (hf : ∀ p, p < m → f p < 9223372036854775808) (hv : v < 9223372036854775808) : Cs z sc mX0_personNamed 0 0 [.ref 4, .long (lN v)] σ (PI (oI (nmv f v m)) σ) := by
  refine Cs.of gmX0_personNamed (Nat.le_of_ble_eq_true rfl) ?_
  show Ws z sc mX0_personNamed 0 0 0 0 0 [(0, .ref 4), (1, .long (lN v))] [] (mz σ [] []) (PI (oI (nmv f v m)) σ)
  refine n_iconst 0 rfl ?_
  refine r_istore_n (lv' := [(3, .int (nI 0)), (0, .ref 4), (1, .long (lN v))]) rfl rfl (Nat.le_of_ble_eq_true rfl) rfl ?_
  refine r_lv (lv' := [(3, .int (nI 0)), (0, .ref 4), (1, .long (lN v))]) [0, 1, 2] rfl ?_
  have loop : ∀ (m9 : Nat) (p : Nat) , m - p < m9 → (p ≤ m) → (nmv f v p = 0) → Ws z sc mX0_personNamed 0 0 0 0 2 [(3, .int (nI p)), (0, .ref 4), (1, .long (lN v))] [] (mz σ [] []) (PI (oI (nmv f v m)) σ) := by
    intro m9
    induction m9 with
    | zero => intro p  hme; exact absurd hme (Nat.not_lt_zero _)
    | succ m9 ih =>
      intro p  hme hp h0
      refine r_iload_n rfl rfl ?_
      refine r_aload_n rfl rfl ?_
      refine s_getI (x := nI m) rfl flX0_9 rfl rfl hm ?_
      refine n_icmp_ge (tgt := 35) rfl rfl (by omega) (by omega) (fun h1 => ?_) (fun h1 => ?_)
      · have hpm : p = m := by omega
        subst hpm
        refine n_m1 rfl ?_
        exact s_ret (st := []) rfl rfl rfl (Nat.zero_le _) (Nat.zero_le _) (pI (by rw [h0, oI_0]) rfl)
      · have hfp := hf p (by omega)
        refine r_iload_n rfl rfl ?_
        refine n_bipush 12 rfl (by decide) ?_
        refine n_icmp_ge (tgt := 35) rfl rfl (by omega) (by omega) (fun hq => absurd hq (by omega)) (fun _ => ?_)
        refine r_aload_n rfl rfl ?_
        refine s_getR (r := 5) rfl flX0_15 rfl rfl ?_
        refine r_iload_n rfl rfl ?_
        refine s_lald (x := lN (f p)) rfl rfl (by omega) (hN p (by omega)) ?_
        refine r_lload_n rfl rfl ?_
        refine n_lcmp_ne (tgt := 29) rfl rfl rfl (by omega) (by omega) (fun h3 => ?_) (fun h3 => ?_)
        · refine n_iinc (lv' := [(3, .int (nI (p + 1))), (0, .ref 4), (1, .long (lN v))]) 1 rfl rfl (Nat.le_of_ble_eq_true rfl) rfl ?_
          refine r_goto (tgt := 2) rfl rfl ?_
          refine r_lv (lv' := [(3, .int (nI (p + 1))), (0, .ref 4), (1, .long (lN v))]) [0, 1, 2] rfl ?_
          exact ih (p + 1) (by omega) (by omega) (nmv_no h0 h3)
        · refine r_iload_n rfl rfl ?_
          exact s_ret (st := []) rfl rfl rfl (Nat.zero_le _) (Nat.zero_le _) (pI (by rw [nmv_hit h0 h3 (by omega : p < m), oI_s]) rfl)
  exact loop (m + 1) 0 (by omega) (by omega) rfl

theorem c_named_12 {z : SZ} {sc : SC} {σ : SS} {m v : Nat} {f : Nat → Nat} (hm : σ.1 12 0 = nI m) (hm12 : m ≤ 12) (hN : ∀ p, p < m → σ.2 13 p = lN (f p)) (hf : ∀ p, p < m → f p < 9223372036854775808) (hv : v < 9223372036854775808) : Cs z sc mX0_personNamed 0 0 [.ref 12, .long (lN v)] σ (PI (oI (nmv f v m)) σ) := by
  refine Cs.of gmX0_personNamed (Nat.le_of_ble_eq_true rfl) ?_
  show Ws z sc mX0_personNamed 0 0 0 0 0 [(0, .ref 12), (1, .long (lN v))] [] (mz σ [] []) (PI (oI (nmv f v m)) σ)
  refine n_iconst 0 rfl ?_
  refine r_istore_n (lv' := [(3, .int (nI 0)), (0, .ref 12), (1, .long (lN v))]) rfl rfl (Nat.le_of_ble_eq_true rfl) rfl ?_
  refine r_lv (lv' := [(3, .int (nI 0)), (0, .ref 12), (1, .long (lN v))]) [0, 1, 2] rfl ?_
  have loop : ∀ (m9 : Nat) (p : Nat) , m - p < m9 → (p ≤ m) → (nmv f v p = 0) → Ws z sc mX0_personNamed 0 0 0 0 2 [(3, .int (nI p)), (0, .ref 12), (1, .long (lN v))] [] (mz σ [] []) (PI (oI (nmv f v m)) σ) := by
    intro m9
    induction m9 with
    | zero => intro p  hme; exact absurd hme (Nat.not_lt_zero _)
    | succ m9 ih =>
      intro p  hme hp h0
      refine r_iload_n rfl rfl ?_
      refine r_aload_n rfl rfl ?_
      refine s_getI (x := nI m) rfl flX0_9 rfl rfl hm ?_
      refine n_icmp_ge (tgt := 35) rfl rfl (by omega) (by omega) (fun h1 => ?_) (fun h1 => ?_)
      · have hpm : p = m := by omega
        subst hpm
        refine n_m1 rfl ?_
        exact s_ret (st := []) rfl rfl rfl (Nat.zero_le _) (Nat.zero_le _) (pI (by rw [h0, oI_0]) rfl)
      · have hfp := hf p (by omega)
        refine r_iload_n rfl rfl ?_
        refine n_bipush 12 rfl (by decide) ?_
        refine n_icmp_ge (tgt := 35) rfl rfl (by omega) (by omega) (fun hq => absurd hq (by omega)) (fun _ => ?_)
        refine r_aload_n rfl rfl ?_
        refine s_getR (r := 13) rfl flX0_15 rfl rfl ?_
        refine r_iload_n rfl rfl ?_
        refine s_lald (x := lN (f p)) rfl rfl (by omega) (hN p (by omega)) ?_
        refine r_lload_n rfl rfl ?_
        refine n_lcmp_ne (tgt := 29) rfl rfl rfl (by omega) (by omega) (fun h3 => ?_) (fun h3 => ?_)
        · refine n_iinc (lv' := [(3, .int (nI (p + 1))), (0, .ref 12), (1, .long (lN v))]) 1 rfl rfl (Nat.le_of_ble_eq_true rfl) rfl ?_
          refine r_goto (tgt := 2) rfl rfl ?_
          refine r_lv (lv' := [(3, .int (nI (p + 1))), (0, .ref 12), (1, .long (lN v))]) [0, 1, 2] rfl ?_
          exact ih (p + 1) (by omega) (by omega) (nmv_no h0 h3)
        · refine r_iload_n rfl rfl ?_
          exact s_ret (st := []) rfl rfl rfl (Nat.zero_le _) (Nat.zero_le _) (pI (by rw [nmv_hit h0 h3 (by omega : p < m), oI_s]) rfl)
  exact loop (m + 1) 0 (by omega) (by omega) rfl

theorem c_putPerson {z : SZ} {sc : SC} {σ : SS} {m v q : Nat} (hm : σ.1 4 0 = nI m) (hm12 : m < 12) : Cs z sc mX0_putPerson 0 0 [.ref 4, .long (lN v), .int (oI q)] σ (PV (mz σ [(6, aup (σ.1 6) m (oI q)), (4, aup (σ.1 4) 0 (nI (m + 1)))] [(5, aup (σ.2 5) m (lN v))])) := by
  refine Cs.of gmX0_putPerson (Nat.le_of_ble_eq_true rfl) ?_
  show Ws z sc mX0_putPerson 0 0 0 0 0 [(0, .ref 4), (1, .long (lN v)), (3, .int (oI q))] [] (mz σ [] []) (PV (mz σ [(6, aup (σ.1 6) m (oI q)), (4, aup (σ.1 4) 0 (nI (m + 1)))] [(5, aup (σ.2 5) m (lN v))]))
  refine r_aload_n rfl rfl ?_
  refine s_getI (x := nI m) rfl flX0_9 rfl rfl hm ?_
  refine n_if_lt (tgt := 46) rfl rfl (by omega) (fun hq => hq.elim) (fun _ => ?_)
  refine r_aload_n rfl rfl ?_
  refine s_getI (x := nI m) rfl flX0_9 rfl rfl hm ?_
  refine n_bipush 12 rfl (by decide) ?_
  refine n_icmp_ge (tgt := 46) rfl rfl (by omega) (by omega) (fun hq => absurd hq (by omega)) (fun _ => ?_)
  refine r_aload_n rfl rfl ?_
  refine s_getR (r := 5) rfl flX0_15 rfl rfl ?_
  refine r_aload_n rfl rfl ?_
  refine s_getI (x := nI m) rfl flX0_9 rfl rfl hm ?_
  refine r_lload_n rfl rfl ?_
  refine m_last (M' := [(5, (aup (σ.2 5) m (lN v)))]) rfl rfl (by omega) rfl ?_
  refine r_aload_n rfl rfl ?_
  refine s_getR (r := 6) rfl flX0_19 rfl rfl ?_
  refine r_aload_n rfl rfl ?_
  refine s_getI (x := nI m) rfl flX0_9 rfl rfl hm ?_
  refine r_iload_n rfl rfl ?_
  refine m_iast (L' := [(6, (aup (σ.1 6) m (oI q)))]) rfl rfl (by omega) rfl ?_
  refine r_aload_n rfl rfl ?_
  refine r_dup rfl rfl ?_
  refine s_getI (x := nI m) rfl flX0_9 rfl rfl hm ?_
  refine n_iconst 1 rfl ?_
  refine n_iadd rfl ?_
  refine m_putI (L' := [(6, (aup (σ.1 6) m (oI q))), (4, (aup (σ.1 4) 0 (nI (m + 1))))]) rfl flX0_9 rfl rfl (okv_i _) rfl ?_
  exact s_vret (st := []) rfl rfl (Nat.zero_le _) (Nat.zero_le _) (pV rfl)

theorem c_putAsset {z : SZ} {sc : SC} {σ : SS} {m v : Nat} (hm : σ.1 4 4 = nI m) (hm8 : m < 8) : Cs z sc mX0_putAsset 0 0 [.ref 4, .int (nI v)] σ (PV (mz σ [(7, aup (σ.1 7) m (nI v)), (4, aup (σ.1 4) 4 (nI (m + 1)))] [])) := by
  refine Cs.of gmX0_putAsset (Nat.le_of_ble_eq_true rfl) ?_
  show Ws z sc mX0_putAsset 0 0 0 0 0 [(0, .ref 4), (1, .int (nI v))] [] (mz σ [] []) (PV (mz σ [(7, aup (σ.1 7) m (nI v)), (4, aup (σ.1 4) 4 (nI (m + 1)))] []))
  refine r_aload_n rfl rfl ?_
  refine s_getI (x := nI m) rfl flX0_26 rfl rfl hm ?_
  refine n_if_lt (tgt := 36) rfl rfl (by omega) (fun hq => hq.elim) (fun _ => ?_)
  refine r_aload_n rfl rfl ?_
  refine s_getI (x := nI m) rfl flX0_26 rfl rfl hm ?_
  refine n_bipush 8 rfl (by decide) ?_
  refine n_icmp_ge (tgt := 36) rfl rfl (by omega) (by omega) (fun hq => absurd hq (by omega)) (fun _ => ?_)
  refine r_aload_n rfl rfl ?_
  refine s_getR (r := 7) rfl flX0_29 rfl rfl ?_
  refine r_aload_n rfl rfl ?_
  refine s_getI (x := nI m) rfl flX0_26 rfl rfl hm ?_
  refine r_iload_n rfl rfl ?_
  refine m_iast (L' := [(7, (aup (σ.1 7) m (nI v)))]) rfl rfl (by omega) rfl ?_
  refine r_aload_n rfl rfl ?_
  refine r_dup rfl rfl ?_
  refine s_getI (x := nI m) rfl flX0_26 rfl rfl hm ?_
  refine n_iconst 1 rfl ?_
  refine n_iadd rfl ?_
  refine m_putI (L' := [(7, (aup (σ.1 7) m (nI v))), (4, (aup (σ.1 4) 4 (nI (m + 1))))]) rfl flX0_26 rfl rfl (okv_i _) rfl ?_
  exact s_vret (st := []) rfl rfl (Nat.zero_le _) (Nat.zero_le _) (pV rfl)

theorem c_putLegacy {z : SZ} {sc : SC} {σ : SS} {m v q : Nat} (hm : σ.1 4 6 = nI m) (hm8 : m < 8) : Cs z sc mX0_putLegacy 0 0 [.ref 4, .int (nI q), .int (nI v)] σ (PV (mz σ [(8, aup (σ.1 8) m (nI q)), (9, aup (σ.1 9) m (nI v)), (4, aup (σ.1 4) 6 (nI (m + 1)))] [])) := by
  refine Cs.of gmX0_putLegacy (Nat.le_of_ble_eq_true rfl) ?_
  show Ws z sc mX0_putLegacy 0 0 0 0 0 [(0, .ref 4), (1, .int (nI q)), (2, .int (nI v))] [] (mz σ [] []) (PV (mz σ [(8, aup (σ.1 8) m (nI q)), (9, aup (σ.1 9) m (nI v)), (4, aup (σ.1 4) 6 (nI (m + 1)))] []))
  refine r_aload_n rfl rfl ?_
  refine s_getI (x := nI m) rfl flX0_32 rfl rfl hm ?_
  refine n_if_lt (tgt := 46) rfl rfl (by omega) (fun hq => hq.elim) (fun _ => ?_)
  refine r_aload_n rfl rfl ?_
  refine s_getI (x := nI m) rfl flX0_32 rfl rfl hm ?_
  refine n_bipush 8 rfl (by decide) ?_
  refine n_icmp_ge (tgt := 46) rfl rfl (by omega) (by omega) (fun hq => absurd hq (by omega)) (fun _ => ?_)
  refine r_aload_n rfl rfl ?_
  refine s_getR (r := 8) rfl flX0_35 rfl rfl ?_
  refine r_aload_n rfl rfl ?_
  refine s_getI (x := nI m) rfl flX0_32 rfl rfl hm ?_
  refine r_iload_n rfl rfl ?_
  refine m_iast (L' := [(8, (aup (σ.1 8) m (nI q)))]) rfl rfl (by omega) rfl ?_
  refine r_aload_n rfl rfl ?_
  refine s_getR (r := 9) rfl flX0_38 rfl rfl ?_
  refine r_aload_n rfl rfl ?_
  refine s_getI (x := nI m) rfl flX0_32 rfl rfl hm ?_
  refine r_iload_n rfl rfl ?_
  refine m_iast (L' := [(8, (aup (σ.1 8) m (nI q))), (9, (aup (σ.1 9) m (nI v)))]) rfl rfl (by omega) rfl ?_
  refine r_aload_n rfl rfl ?_
  refine r_dup rfl rfl ?_
  refine s_getI (x := nI m) rfl flX0_32 rfl rfl hm ?_
  refine n_iconst 1 rfl ?_
  refine n_iadd rfl ?_
  refine m_putI (L' := [(8, (aup (σ.1 8) m (nI q))), (9, (aup (σ.1 9) m (nI v))), (4, (aup (σ.1 4) 6 (nI (m + 1))))]) rfl flX0_32 rfl rfl (okv_i _) rfl ?_
  exact s_vret (st := []) rfl rfl (Nat.zero_le _) (Nat.zero_le _) (pV rfl)

theorem c_fail {z : SZ} {sc : SC} {σ : SS} {c j : Nat} (h : σ.1 2 4 = nI j) : Cs z sc mX5_fail 0 0 [.ref 1, .int (nI c)] σ (PI (nI 0) (mz σ [(1, aup (aup (σ.1 1) 4 (nI c)) 3 (nI j))] [])) := by
  refine Cs.of gmX5_fail (Nat.le_of_ble_eq_true rfl) ?_
  show Ws z sc mX5_fail 0 0 0 0 0 [(0, .ref 1), (1, .int (nI c))] [] (mz σ [] []) (PI (nI 0) (mz σ [(1, aup (aup (σ.1 1) 4 (nI c)) 3 (nI j))] []))
  refine r_aload_n rfl rfl ?_
  refine r_iload_n rfl rfl ?_
  refine m_putI (L' := [(1, (aup (σ.1 1) 4 (nI c)))]) rfl flX5_36 rfl rfl (okv_i _) rfl ?_
  refine r_aload_n rfl rfl ?_
  refine r_aload_n rfl rfl ?_
  refine s_getR (r := 2) rfl flX5_12 rfl rfl ?_
  refine s_getI (x := nI j) rfl flX5_73 rfl rfl h ?_
  refine m_putI (L' := [(1, (aup (aup (σ.1 1) 4 (nI c)) 3 (nI j)))]) rfl flX5_32 rfl rfl (okv_i _) rfl ?_
  refine n_iconst 0 rfl ?_
  exact s_ret (st := []) rfl rfl rfl (Nat.zero_le _) (Nat.zero_le _) (pI rfl rfl)

theorem c_rdNum {z : SZ} {sc : SC} {σ : SS} {j l m : Nat} {x : TX} (hx : x.1 ≤ 700) (hb : ∀ i, x.2 i < 256) (hT : ∀ i, i < x.1 → σ.1 3 i = bI (x.2 i)) (hC : CT (σ.1 2) x j) (hl : l < 1000000000) (hm : m < 1000000000) : Cs z sc mX5_readNumber 0 0 [.ref 1, .int (nI l), .int (nI m)] σ (RI fun v σ' => ∃ f1 f2, v = nI (tb ((nu x j l m).1 == 0)) ∧ σ' = mz σ [(1, f1), (2, f2)] [] ∧ RD (σ.1 1) (σ.1 2) f1 f2 x 8 (nI (nu x j l m).2.2) (nu x j l m)) := by
  refine Cs.of gmX5_readNumber (Nat.le_of_ble_eq_true rfl) ?_
  show Ws z sc mX5_readNumber 0 0 0 0 0 [(0, .ref 1), (1, .int (nI l)), (2, .int (nI m))] [] (mz σ [] []) (RI fun v σ' => ∃ f1 f2, v = nI (tb ((nu x j l m).1 == 0)) ∧ σ' = mz σ [(1, f1), (2, f2)] [] ∧ RD (σ.1 1) (σ.1 2) f1 f2 x 8 (nI (nu x j l m).2.2) (nu x j l m))
  have hkl := tK_le x j
  refine m_newI (L' := [(1, (σ.1 1))]) 1 rfl ?_
  refine m_newI (L' := [(1, (σ.1 1)), (2, (σ.1 2))]) 2 rfl ?_
  refine r_aload_n rfl rfl ?_
  refine s_getR (r := 2) rfl flX5_12 rfl rfl ?_
  refine s_getI (x := nI (tK x j)) rfl flX5_63 rfl rfl hC.2.1 ?_
  refine n_iconst 2 rfl ?_
  refine n_icmp_eq (tgt := 17) rfl rfl (by omega) (by omega) (fun h1 => ?_) (fun h1 => ?_)
  · refine r_aload_n rfl rfl ?_
    refine s_getR (r := 2) rfl flX5_12 rfl rfl ?_
    refine s_virI [] [] rfl lkX5_216 rfl rfl rfl (c_number hx hb hT hC h1) rfl rfl (Nat.le_refl _) (Nat.le_refl _) rfl (rI (e1 := nI (vl x j)) rfl ?_)
    refine r_istore_n (lv' := [(3, .int (nI (vl x j))), (0, .ref 1), (1, .int (nI l)), (2, .int (nI m))]) rfl rfl (Nat.le_of_ble_eq_true rfl) rfl ?_
    refine r_iload_n rfl rfl ?_
    refine r_iload_n rfl rfl ?_
    have hvl := vl_lt h1
    refine n_icmp_lt (tgt := 35) rfl rfl (by omega) (by omega) (fun h2 => ?_) (fun h2 => ?_)
    · refine r_aload_n rfl rfl ?_
      refine n_iconst 3 rfl ?_
      refine s_virI [.int (nI 3)] [] rfl lkX5_120 rfl rfl rfl (c_fail hC.2.2.1) rfl rfl (Nat.le_refl _) (Nat.le_refl _) rfl (rI (e1 := nI 0) rfl ?_)
      refine m_mz (L' := [(1, (aup (aup (σ.1 1) 4 (nI 3)) 3 (nI (tS x j)))), (2, (σ.1 2))]) (M' := []) rfl rfl ?_
      have e9 : nu x j l m = (3, j, 0) := nu_3 h1 (by omega)
      exact s_ret (st := []) rfl rfl rfl (Nat.zero_le _) (Nat.zero_le _) (⟨_, rfl, _, _, by rw [e9]; rfl, rfl, rfl, fun z => absurd (show (3 : Nat) = 0 from by rw [e9] at z; exact z) (by decide), fun _ => by rw [e9]; exact ⟨rfl, rfl⟩⟩)
    · refine r_iload_n rfl rfl ?_
      refine r_iload_n rfl rfl ?_
      refine n_icmp_le (tgt := 41) rfl rfl (by omega) (by omega) (fun h3 => ?_) (fun h3 => ?_)
      · refine r_aload_n rfl rfl ?_
        refine r_iload_n rfl rfl ?_
        refine m_putI (L' := [(1, (aup (σ.1 1) 8 (nI (vl x j)))), (2, (σ.1 2))]) rfl flX5_49 rfl rfl (okv_i _) rfl ?_
        refine r_aload_n rfl rfl ?_
        refine s_getR (r := 2) rfl flX5_12 rfl rfl ?_
        refine s_virV [] [] rfl lkX5_124 rfl rfl rfl (c_adv hx hb hT hC.1 hC.2.2.2 (Nat.le_succ_of_le (tE_le (by omega)))) rfl rfl (Nat.le_refl _) (Nat.le_refl _) rfl ?_
        rintro _ ⟨f2, rfl, g1, g2⟩
        refine m_mz (L' := [(1, (aup (σ.1 1) 8 (nI (vl x j)))), (2, f2)]) (M' := []) rfl rfl ?_
        refine n_iconst 1 rfl ?_
        have e9 : nu x j l m = (0, tE x j, vl x j) := nu_0 h1 (by omega)
        exact s_ret (st := []) rfl rfl rfl (Nat.zero_le _) (Nat.zero_le _) (⟨_, rfl, _, _, by rw [e9]; rfl, rfl, g1, fun _ => by rw [e9]; exact ⟨g2, rfl, fun k hk => aup_n _ _ hk⟩, fun z => absurd (by rw [e9]) z⟩)
      · refine r_aload_n rfl rfl ?_
        refine n_iconst 3 rfl ?_
        refine s_virI [.int (nI 3)] [] rfl lkX5_120 rfl rfl rfl (c_fail hC.2.2.1) rfl rfl (Nat.le_refl _) (Nat.le_refl _) rfl (rI (e1 := nI 0) rfl ?_)
        refine m_mz (L' := [(1, (aup (aup (σ.1 1) 4 (nI 3)) 3 (nI (tS x j)))), (2, (σ.1 2))]) (M' := []) rfl rfl ?_
        have e9 : nu x j l m = (3, j, 0) := nu_3 h1 (by omega)
        exact s_ret (st := []) rfl rfl rfl (Nat.zero_le _) (Nat.zero_le _) (⟨_, rfl, _, _, by rw [e9]; rfl, rfl, rfl, fun z => absurd (show (3 : Nat) = 0 from by rw [e9] at z; exact z) (by decide), fun _ => by rw [e9]; exact ⟨rfl, rfl⟩⟩)
  · refine r_aload_n rfl rfl ?_
    refine n_iconst 1 rfl ?_
    refine s_virI [.int (nI 1)] [] rfl lkX5_120 rfl rfl rfl (c_fail hC.2.2.1) rfl rfl (Nat.le_refl _) (Nat.le_refl _) rfl (rI (e1 := nI 0) rfl ?_)
    refine m_mz (L' := [(1, (aup (aup (σ.1 1) 4 (nI 1)) 3 (nI (tS x j)))), (2, (σ.1 2))]) (M' := []) rfl rfl ?_
    have e9 : nu x j l m = (1, j, 0) := nu_1 h1
    exact s_ret (st := []) rfl rfl rfl (Nat.zero_le _) (Nat.zero_le _) (⟨_, rfl, _, _, by rw [e9]; rfl, rfl, rfl, fun z => absurd (show (1 : Nat) = 0 from by rw [e9] at z; exact z) (by decide), fun _ => by rw [e9]; exact ⟨rfl, rfl⟩⟩)

theorem c_rdPer {z : SZ} {sc : SC} {σ : SS} {j m q : Nat} {u : Nat → List Nat} {x : TX} (hx : x.1 ≤ 700) (hb : ∀ i, x.2 i < 256) (hT : ∀ i, i < x.1 → σ.1 3 i = bI (x.2 i)) (hC : CT (σ.1 2) x j) (hm : σ.1 4 0 = nI m) (hm12 : m ≤ 12) (hN : NM (σ.2 5) m u) (hu : ∀ p, p < m → okW (u p)) (hq : q ≤ 12) : Cs z sc mX5_readKnownPerson 0 0 [.ref 1, .int (oI q)] σ (RI fun v σ' => ∃ f1 f2, v = nI (tb ((kp x j m u q).1 == 0)) ∧ σ' = mz σ [(1, f1), (2, f2)] [] ∧ RD (σ.1 1) (σ.1 2) f1 f2 x 9 (oI (kp x j m u q).2.2) (kp x j m u q)) := by
  refine Cs.of gmX5_readKnownPerson (Nat.le_of_ble_eq_true rfl) ?_
  show Ws z sc mX5_readKnownPerson 0 0 0 0 0 [(0, .ref 1), (1, .int (oI q))] [] (mz σ [] []) (RI fun v σ' => ∃ f1 f2, v = nI (tb ((kp x j m u q).1 == 0)) ∧ σ' = mz σ [(1, f1), (2, f2)] [] ∧ RD (σ.1 1) (σ.1 2) f1 f2 x 9 (oI (kp x j m u q).2.2) (kp x j m u q))
  have hkl := tK_le x j
  refine m_newI (L' := [(1, (σ.1 1))]) 1 rfl ?_
  refine m_newI (L' := [(1, (σ.1 1)), (2, (σ.1 2))]) 2 rfl ?_
  refine r_aload_n rfl rfl ?_
  refine s_getR (r := 2) rfl flX5_12 rfl rfl ?_
  refine s_getI (x := nI (tK x j)) rfl flX5_63 rfl rfl hC.2.1 ?_
  refine n_iconst 1 rfl ?_
  refine n_icmp_eq (tgt := 17) rfl rfl (by omega) (by omega) (fun h1 => ?_) (fun h1 => ?_)
  · have hnl := nmd_le u m (wl x j)
    refine r_aload_n rfl rfl ?_
    refine s_getR (r := 4) rfl flX5_21 rfl rfl ?_
    refine r_aload_n rfl rfl ?_
    refine s_getR (r := 2) rfl flX5_12 rfl rfl ?_
    refine s_virL [] [.ref 4] rfl lkX5_130 rfl rfl rfl (c_word hx hb hT hC h1) rfl rfl (Nat.le_refl _) (Nat.le_refl _) rfl (rL (e1 := lN (w27 (wl x j) 0)) rfl ?_)
    refine s_virI [.long (lN (w27 (wl x j) 0))] [] rfl lkX5_134 rfl rfl rfl (c_named_4 hm hm12 hN (fun p hp => w27_lt (hu p hp)) (w27_lt (wl_ok h1))) rfl rfl (Nat.le_refl _) (Nat.le_refl _) rfl (rI (e1 := oI (nmd u m (wl x j))) rfl ?_)
    refine r_istore_n (lv' := [(2, .int (oI (nmd u m (wl x j)))), (0, .ref 1), (1, .int (oI q))]) rfl rfl (Nat.le_of_ble_eq_true rfl) rfl ?_
    refine r_iload_n rfl rfl ?_
    refine n_m1 rfl ?_
    refine r_icmp_eq (tgt := 42) rfl rfl (fun h2 => ?_) (fun h2 => ?_)
    · refine r_aload_n rfl rfl ?_
      refine n_iconst 4 rfl ?_
      refine s_virI [.int (nI 4)] [] rfl lkX5_120 rfl rfl rfl (c_fail hC.2.2.1) rfl rfl (Nat.le_refl _) (Nat.le_refl _) rfl (rI (e1 := nI 0) rfl ?_)
      refine m_mz (L' := [(1, (aup (aup (σ.1 1) 4 (nI 4)) 3 (nI (tS x j)))), (2, (σ.1 2))]) (M' := []) rfl rfl ?_
      have e9 : kp x j m u q = (4, j, 0) := kp_4 h1 (Or.inl (oI_z (by omega) h2))
      exact s_ret (st := []) rfl rfl rfl (Nat.zero_le _) (Nat.zero_le _) (⟨_, rfl, _, _, by rw [e9]; rfl, rfl, rfl, fun z => absurd (show (4 : Nat) = 0 from by rw [e9] at z; exact z) (by decide), fun _ => by rw [e9]; exact ⟨rfl, rfl⟩⟩)
    · refine r_iload_n rfl rfl ?_
      refine r_iload_n rfl rfl ?_
      refine r_icmp_ne (tgt := 48) rfl rfl (fun h3 => ?_) (fun h3 => ?_)
      · refine r_aload_n rfl rfl ?_
        refine r_iload_n rfl rfl ?_
        refine m_putI (L' := [(1, (aup (σ.1 1) 9 (oI (nmd u m (wl x j))))), (2, (σ.1 2))]) rfl flX5_52 rfl rfl (okv_i _) rfl ?_
        refine r_aload_n rfl rfl ?_
        refine s_getR (r := 2) rfl flX5_12 rfl rfl ?_
        refine s_virV [] [] rfl lkX5_124 rfl rfl rfl (c_adv hx hb hT hC.1 hC.2.2.2 (Nat.le_succ_of_le (tE_le (by omega)))) rfl rfl (Nat.le_refl _) (Nat.le_refl _) rfl ?_
        rintro _ ⟨f2, rfl, g1, g2⟩
        refine m_mz (L' := [(1, (aup (σ.1 1) 9 (oI (nmd u m (wl x j))))), (2, f2)]) (M' := []) rfl rfl ?_
        refine n_iconst 1 rfl ?_
        have e9 : kp x j m u q = (0, tE x j, nmd u m (wl x j)) := kp_0 h1 (fun z => z.elim (oI_nz h2) (fun z => h3 (by rw [z])))
        exact s_ret (st := []) rfl rfl rfl (Nat.zero_le _) (Nat.zero_le _) (⟨_, rfl, _, _, by rw [e9]; rfl, rfl, g1, fun _ => by rw [e9]; exact ⟨g2, rfl, fun k hk => aup_n _ _ hk⟩, fun z => absurd (by rw [e9]) z⟩)
      · refine r_aload_n rfl rfl ?_
        refine n_iconst 4 rfl ?_
        refine s_virI [.int (nI 4)] [] rfl lkX5_120 rfl rfl rfl (c_fail hC.2.2.1) rfl rfl (Nat.le_refl _) (Nat.le_refl _) rfl (rI (e1 := nI 0) rfl ?_)
        refine m_mz (L' := [(1, (aup (aup (σ.1 1) 4 (nI 4)) 3 (nI (tS x j)))), (2, (σ.1 2))]) (M' := []) rfl rfl ?_
        have e9 : kp x j m u q = (4, j, 0) := kp_4 h1 (Or.inr ((oI_eq (by omega) (by omega)).mp h3))
        exact s_ret (st := []) rfl rfl rfl (Nat.zero_le _) (Nat.zero_le _) (⟨_, rfl, _, _, by rw [e9]; rfl, rfl, rfl, fun z => absurd (show (4 : Nat) = 0 from by rw [e9] at z; exact z) (by decide), fun _ => by rw [e9]; exact ⟨rfl, rfl⟩⟩)
  · refine r_aload_n rfl rfl ?_
    refine n_iconst 1 rfl ?_
    refine s_virI [.int (nI 1)] [] rfl lkX5_120 rfl rfl rfl (c_fail hC.2.2.1) rfl rfl (Nat.le_refl _) (Nat.le_refl _) rfl (rI (e1 := nI 0) rfl ?_)
    refine m_mz (L' := [(1, (aup (aup (σ.1 1) 4 (nI 1)) 3 (nI (tS x j)))), (2, (σ.1 2))]) (M' := []) rfl rfl ?_
    have e9 : kp x j m u q = (1, j, 0) := kp_1 h1
    exact s_ret (st := []) rfl rfl rfl (Nat.zero_le _) (Nat.zero_le _) (⟨_, rfl, _, _, by rw [e9]; rfl, rfl, rfl, fun z => absurd (show (1 : Nat) = 0 from by rw [e9] at z; exact z) (by decide), fun _ => by rw [e9]; exact ⟨rfl, rfl⟩⟩)

