/-! Texts as lists: tokens and statements. -/
/-- from a place on a text is this list -/
def TA (X : Nat → Nat) : Nat → List Nat → Prop
  | _, [] => True
  | i, c :: t => X i = c ∧ TA X (i + 1) t
theorem TA_app {X : Nat → Nat} : ∀ {l m : List Nat} {i : Nat}, TA X i (l ++ m) → TA X i l ∧ TA X (i + l.length) m
  | [], m, i, h => ⟨trivial, h⟩
  | c :: t, m, i, h => by
    obtain ⟨h1, h2⟩ := TA_app (l := t) (i := i + 1) h.2
    refine ⟨⟨h.1, h1⟩, ?_⟩
    rw [List.length_cons, show i + (t.length + 1) = i + 1 + t.length by omega]
    exact h2
theorem TA_of {X : Nat → Nat} : ∀ {l : List Nat} {i : Nat}, (∀ k, k < l.length → X (i + k) = l.getD k 0) → TA X i l
  | [], _, _ => trivial
  | c :: t, i, h => ⟨h 0 (Nat.succ_pos _), TA_of fun k hk => by
      have h1 := h (k + 1) (Nat.succ_lt_succ hk)
      rw [show i + 1 + k = i + (k + 1) by omega]
      exact h1⟩
theorem kd_l {N : Nat} {X : Nat → Nat} {i : Nat} (h : i < N) (h1 : 97 ≤ X i) (h2 : X i ≤ 122) : kd (N, X) i = 1 := by
  unfold kd
  rw [if_neg (by show ¬ N ≤ i; omega), if_pos ⟨h1, h2⟩]
theorem kd_d {N : Nat} {X : Nat → Nat} {i : Nat} (h : i < N) (h1 : 48 ≤ X i) (h2 : X i ≤ 57) : kd (N, X) i = 2 := by
  unfold kd
  rw [if_neg (by show ¬ N ≤ i; omega), if_neg (by show ¬ (97 ≤ X i ∧ X i ≤ 122); omega), if_pos ⟨h1, h2⟩]
theorem kd_s {N : Nat} {X : Nat → Nat} {i : Nat} (h : i < N) (h1 : X i = 59) : kd (N, X) i = 3 := by
  unfold kd
  rw [if_neg (by show ¬ N ≤ i; omega), if_neg (by show ¬ (97 ≤ X i ∧ X i ≤ 122); omega), if_neg (by show ¬ (48 ≤ X i ∧ X i ≤ 57); omega), if_neg (by show ¬ (X i = 32 ∨ X i = 10); omega), if_pos h1]
theorem kd_b {N : Nat} {X : Nat → Nat} {i : Nat} (h : i < N) (h1 : X i = 32) : kd (N, X) i = 4 := by
  unfold kd
  rw [if_neg (by show ¬ N ≤ i; omega), if_neg (by show ¬ (97 ≤ X i ∧ X i ≤ 122); omega), if_neg (by show ¬ (48 ≤ X i ∧ X i ≤ 57); omega), if_pos (Or.inl h1)]
theorem run_to {x : TX} {c : Nat} (hc : c ≠ 0) : ∀ {n a b : Nat}, b = a + n → (∀ k, a ≤ k → k < b → kd x k = c) → kd x b ≠ c → run x c a = b
  | 0, a, b, h, _, h2 => by
    have e : b = a := h
    subst e
    exact run_n h2
  | n + 1, a, b, h, h1, h2 => by
    rw [run_y hc (h1 a (Nat.le_refl _) (by omega))]
    exact run_to hc (n := n) (by omega) (fun k k1 k2 => h1 k (by omega) k2) h2
theorem tS0 {x : TX} {j : Nat} (h : kd x j ≠ 4) : tS x j = j := run_n h
theorem tS1 {x : TX} {j : Nat} (h : kd x j = 4) (h1 : kd x (j + 1) ≠ 4) : tS x j = j + 1 := (run_y (by decide) h).trans (run_n h1)
def WT (x : TX) (j e : Nat) (w : List Nat) : Prop := tK x j = 1 ∧ tE x j = e ∧ wl x j = w
def NT (x : TX) (j e v : Nat) : Prop := tK x j = 2 ∧ tE x j = e ∧ vl x j = v
def ZT (x : TX) (j e : Nat) : Prop := tK x j = 3 ∧ tE x j = e
def isw : List Nat → Prop
  | [] => True
  | c :: t => (97 ≤ c ∧ c ≤ 122) ∧ isw t
theorem isw_kd {N : Nat} {X : Nat → Nat} : ∀ {l : List Nat} {i : Nat}, isw l → TA X i l → i + l.length ≤ N → ∀ k, i ≤ k → k < i + l.length → kd (N, X) k = 1
  | [], i, _, _, _, k, h1, h2 => absurd h2 (by show ¬ k < i + 0; omega)
  | c :: t, i, hw, hT, hN, k, h1, h2 => by
    rw [List.length_cons] at hN h2
    by_cases e : k = i
    · subst e
      have h9 := hT.1
      exact kd_l (by omega) (by rw [h9]; exact hw.1.1) (by rw [h9]; exact hw.1.2)
    · exact isw_kd hw.2 hT.2 (by omega) k (by omega) (by omega)
theorem TA_get {X : Nat → Nat} : ∀ {l : List Nat} {i : Nat}, TA X i l → ∀ k, k < l.length → X (i + k) = l.getD k 0
  | [], _, _, k, h => absurd h (Nat.not_lt_zero _)
  | c :: t, i, hT, 0, _ => hT.1
  | c :: t, i, hT, k + 1, h => by
    have h1 := TA_get hT.2 k (Nat.lt_of_succ_lt_succ h)
    rw [show i + (k + 1) = i + 1 + k by omega]
    exact h1
theorem get_D {l : List Nat} {k : Nat} (hk : k < l.length) : l[k]? = some (l.getD k 0) := by
  rw [List.getD_eq_getElem?_getD, List.getElem?_eq_getElem hk]
  rfl
theorem ltr_TA {X : Nat → Nat} {l : List Nat} {i : Nat} (h : TA X i l) : ltr X i l.length = l.map (fun c => c - 96) := by
  apply List.ext_getElem?
  intro k
  rw [List.getElem?_map]
  by_cases hk : k < l.length
  · rw [ltr_get X i l.length k hk, TA_get h k hk, get_D hk]
    rfl
  · rw [List.getElem?_eq_none (by rw [ltr_len]; omega), List.getElem?_eq_none (by omega)]
    rfl
/-- a word's token, from its first letter -/
theorem tok_at {N : Nat} {X : Nat → Nat} {l : List Nat} {j s : Nat} (hs : tS (N, X) j = s) (hw : isw l) (h1 : 1 ≤ l.length) (h8 : l.length ≤ 8) (hT : TA X s l) (hN : s + l.length ≤ N) (he : kd (N, X) (s + l.length) ≠ 1) : WT (N, X) j (s + l.length) (l.map (fun c => c - 96)) := by
  have hk := isw_kd hw hT hN
  have hk0 : kd (N, X) s = 1 := hk s (Nat.le_refl _) (by omega)
  have e1 : tE (N, X) j = s + l.length := by
    unfold tE
    rw [hs, hk0, if_pos (Or.inl rfl)]
    exact run_to (by decide) (n := l.length - 1) (by omega) (fun k k1 k2 => hk k (by omega) k2) he
  refine ⟨?_, e1, ?_⟩
  · unfold tK
    rw [e1, hs, hk0, if_neg (by omega)]
  · unfold wl
    rw [e1, hs, show s + l.length - s = l.length by omega]
    exact ltr_TA hT
theorem kd_n1 {N : Nat} {X : Nat → Nat} {i c : Nat} (h : i < N) (hc : c = 32 ∨ c = 59) (h1 : X i = c) : kd (N, X) i ≠ 1 ∧ kd (N, X) i ≠ 2 := by
  rcases hc with rfl | rfl
  · rw [kd_b h h1]; exact ⟨by decide, by decide⟩
  · rw [kd_s h h1]; exact ⟨by decide, by decide⟩
theorem len_a {l m : List Nat} {c N i : Nat} (h : i + (l ++ c :: m).length ≤ N) : i + l.length < N ∧ i + l.length + (c :: m).length ≤ N := by
  rw [List.length_append, List.length_cons] at h
  rw [List.length_cons]
  omega
/-- a word at the very place -/
theorem tok_w {N : Nat} {X : Nat → Nat} {l m : List Nat} {c j : Nat} (hT : TA X j (l ++ c :: m)) (hN : j + (l ++ c :: m).length ≤ N) (hc : c = 32 ∨ c = 59) (hw : isw l) (h1 : 1 ≤ l.length) (h8 : l.length ≤ 8) : WT (N, X) j (j + l.length) (l.map (fun c => c - 96)) ∧ TA X (j + l.length) (c :: m) ∧ j + l.length + (c :: m).length ≤ N := by
  obtain ⟨h2, h3⟩ := TA_app hT
  obtain ⟨n1, n2⟩ := len_a hN
  have hk := isw_kd (N := N) hw h2 (by omega) j (Nat.le_refl _) (by omega)
  exact ⟨tok_at (tS0 (by rw [hk]; decide)) hw h1 h8 h2 (by omega) (kd_n1 n1 hc h3.1).1, h3, n2⟩
theorem len_b {l m : List Nat} {c N i : Nat} (h : i + (32 :: (l ++ c :: m)).length ≤ N) : i < N ∧ i + 1 + (l ++ c :: m).length ≤ N := by
  rw [List.length_cons] at h
  omega
/-- a word behind a blank -/
theorem tok_b {N : Nat} {X : Nat → Nat} {l m : List Nat} {c j : Nat} (hT : TA X j (32 :: (l ++ c :: m))) (hN : j + (32 :: (l ++ c :: m)).length ≤ N) (hc : c = 32 ∨ c = 59) (hw : isw l) (h1 : 1 ≤ l.length) (h8 : l.length ≤ 8) : WT (N, X) j (j + 1 + l.length) (l.map (fun c => c - 96)) ∧ TA X (j + 1 + l.length) (c :: m) ∧ j + 1 + l.length + (c :: m).length ≤ N := by
  obtain ⟨b1, b2⟩ := len_b hN
  obtain ⟨h2, h3⟩ := TA_app hT.2
  obtain ⟨n1, n2⟩ := len_a b2
  have hk := isw_kd (N := N) hw h2 (by omega) (j + 1) (Nat.le_refl _) (by omega)
  exact ⟨tok_at (tS1 (kd_b b1 hT.1) (by rw [hk]; decide)) hw h1 h8 h2 (by omega) (kd_n1 n1 hc h3.1).1, h3, n2⟩
/-- a number's digits -/
def digs (v : Nat) : List Nat := (List.range (dgs v)).map (dgc v)
theorem digs_len (v : Nat) : (digs v).length = dgs v := by
  unfold digs
  rw [List.length_map, List.length_range]
theorem digs_at {v k : Nat} (h : k < dgs v) : (digs v).getD k 0 = dgc v k := by
  unfold digs
  rw [List.getD_eq_getElem?_getD, List.getElem?_map, List.getElem?_range h]
  rfl
theorem dgt_dgs {X : Nat → Nat} {s v : Nat} (hv : v < 10000) (h : ∀ k, k < dgs v → X (s + k) = dgc v k) : dgt X s (dgs v) = v := by
  by_cases a1 : v < 10
  · rw [dgs_1 a1] at h ⊢
    have h0 := h 0 (by decide)
    unfold dgc at h0
    rw [dgs_1 a1] at h0
    show 0 * 10 + (X (s + 0) - 48) = v
    rw [h0]
    show 0 * 10 + (48 + v / 10 ^ 0 % 10 - 48) = v
    rw [Nat.pow_zero, Nat.div_one]
    omega
  · by_cases a2 : v < 100
    · rw [dgs_2 a1 a2] at h ⊢
      have h0 := h 0 (by decide)
      have h1 := h 1 (by decide)
      unfold dgc at h0 h1
      rw [dgs_2 a1 a2] at h0 h1
      show (0 * 10 + (X (s + 0) - 48)) * 10 + (X (s + 1) - 48) = v
      rw [h0, h1]
      show (0 * 10 + (48 + v / 10 ^ 1 % 10 - 48)) * 10 + (48 + v / 10 ^ 0 % 10 - 48) = v
      rw [Nat.pow_zero, Nat.pow_one, Nat.div_one]
      omega
    · by_cases a3 : v < 1000
      · rw [dgs_3 a2 a3] at h ⊢
        have h0 := h 0 (by decide)
        have h1 := h 1 (by decide)
        have h2 := h 2 (by decide)
        unfold dgc at h0 h1 h2
        rw [dgs_3 a2 a3] at h0 h1 h2
        show ((0 * 10 + (X (s + 0) - 48)) * 10 + (X (s + 1) - 48)) * 10 + (X (s + 2) - 48) = v
        rw [h0, h1, h2]
        show ((0 * 10 + (48 + v / 100 % 10 - 48)) * 10 + (48 + v / 10 % 10 - 48)) * 10 + (48 + v / 1 % 10 - 48) = v
        omega
      · rw [dgs_4 a3] at h ⊢
        have h0 := h 0 (by decide)
        have h1 := h 1 (by decide)
        have h2 := h 2 (by decide)
        have h3 := h 3 (by decide)
        unfold dgc at h0 h1 h2 h3
        rw [dgs_4 a3] at h0 h1 h2 h3
        show (((0 * 10 + (X (s + 0) - 48)) * 10 + (X (s + 1) - 48)) * 10 + (X (s + 2) - 48)) * 10 + (X (s + 3) - 48) = v
        rw [h0, h1, h2, h3]
        show (((0 * 10 + (48 + v / 1000 % 10 - 48)) * 10 + (48 + v / 100 % 10 - 48)) * 10 + (48 + v / 10 % 10 - 48)) * 10 + (48 + v / 1 % 10 - 48) = v
        omega
/-- a number behind a blank -/
theorem tok_n {N : Nat} {X : Nat → Nat} {m : List Nat} {c j v : Nat} (hv : v < 10000) (hT : TA X j (32 :: (digs v ++ c :: m))) (hN : j + (32 :: (digs v ++ c :: m)).length ≤ N) (hc : c = 32 ∨ c = 59) : NT (N, X) j (j + 1 + (digs v).length) v ∧ TA X (j + 1 + (digs v).length) (c :: m) ∧ j + 1 + (digs v).length + (c :: m).length ≤ N := by
  obtain ⟨b1, b2⟩ := len_b hN
  obtain ⟨h2, h3⟩ := TA_app hT.2
  obtain ⟨n1, n2⟩ := len_a b2
  have hg := TA_get h2
  rw [digs_len] at hg h3 n1 n2 ⊢
  have hd := dgs_b v
  have hX : ∀ k, k < dgs v → X (j + 1 + k) = dgc v k := fun k hk => (hg k hk).trans (digs_at hk)
  have hk : ∀ k, j + 1 ≤ k → k < j + 1 + dgs v → kd (N, X) k = 2 := fun k k1 k2 => by
    have h4 := hX (k - (j + 1)) (by omega)
    rw [show j + 1 + (k - (j + 1)) = k by omega] at h4
    have h5 := dgc_b v (k - (j + 1))
    exact kd_d (by omega) (by omega) (by omega)
  have hk0 : kd (N, X) (j + 1) = 2 := hk _ (Nat.le_refl _) (by omega)
  have hs : tS (N, X) j = j + 1 := tS1 (kd_b b1 hT.1) (by rw [hk0]; decide)
  have e1 : tE (N, X) j = j + 1 + dgs v := by
    unfold tE
    rw [hs, hk0, if_pos (Or.inr rfl)]
    exact run_to (by decide) (n := dgs v - 1) (by omega) (fun k k1 k2 => hk k (by omega) k2) (kd_n1 n1 hc h3.1).2
  refine ⟨⟨?_, e1, ?_⟩, h3, n2⟩
  · unfold tK
    rw [e1, hs, hk0, if_neg (by omega)]
  · unfold vl
    rw [e1, hs, show j + 1 + dgs v - (j + 1) = dgs v by omega]
    exact dgt_dgs hv hX
theorem tok_c {N : Nat} {X : Nat → Nat} {j : Nat} (hT : TA X j [59]) (hN : j + [59].length ≤ N) : ZT (N, X) j (j + 1) := by
  have hN2 : j + 1 ≤ N := hN
  have hk := kd_s (N := N) (X := X) (i := j) (by omega) hT.1
  have hs : tS (N, X) j = j := tS0 (by rw [hk]; decide)
  refine ⟨?_, ?_⟩
  · unfold tK
    rw [hs, hk, if_neg (by omega)]
  · unfold tE
    rw [hs, hk, if_neg (by omega)]
/-! parsing by tokens -/
theorem iw_t {x : TX} {j e : Nat} {w : List Nat} (h : WT x j e w) : iw x j w = true := decide_eq_true ⟨h.1, h.2.2⟩
theorem iw_f {x : TX} {j e : Nat} {w v : List Nat} (h : WT x j e w) (hn : w ≠ v) : ¬ iw x j v = true := fun z => hn (h.2.2.symm.trans (of_decide_eq_true z).2)
theorem iw_c {x : TX} {j e : Nat} {v : List Nat} (h : ZT x j e) : ¬ iw x j v = true := fun z => by
  have := (of_decide_eq_true z).1
  have := h.1
  omega
theorem nu_t {x : TX} {j e v l m : Nat} (h : NT x j e v) (h1 : l ≤ v) (h2 : v ≤ m) : nu x j l m = (0, e, v) := by
  unfold nu
  rw [if_pos h.1, h.2.2, if_neg (by omega), h.2.1]
theorem kp_t {x : TX} {j e m k z : Nat} {u : Nat → List Nat} {w : List Nat} (h : WT x j e w) (hk : nmd u m w = k) (h0 : k ≠ 0) (hz : k ≠ z) : kp x j m u z = (0, e, k) := by
  unfold kp
  rw [if_pos h.1, h.2.2, hk, if_neg (by omega), h.2.1]
theorem w27_one (a : Nat) : w27 [a] 0 = a := by
  show 0 * 27 + a = a
  omega
theorem nmd_1 {u : Nat → List Nat} {q : Nat} : ∀ {m : Nat}, (∀ p, p < m → u p = [p + 1]) → nmd u m [q + 1] = if q < m then q + 1 else 0
  | 0, _ => rfl
  | m + 1, h => by
    have ih := nmd_1 (u := u) (q := q) (m := m) (fun p hp => h p (by omega))
    unfold nmd at ih ⊢
    show (if nmv (fun p => w27 (u p) 0) (w27 [q + 1] 0) m ≠ 0 then nmv (fun p => w27 (u p) 0) (w27 [q + 1] 0) m else if w27 (u m) 0 = w27 [q + 1] 0 then m + 1 else 0) = _
    rw [ih, h m (Nat.lt_succ_self m), w27_one, w27_one]
    by_cases a : q < m
    · rw [if_pos a, if_pos (by omega), if_pos (by omega)]
    · rw [if_neg a, if_neg (by omega)]
      by_cases b : q = m
      · rw [if_pos (by omega), if_pos (by omega)]; omega
      · rw [if_neg (by omega), if_neg (by omega)]
theorem sm1_t {x : TX} {s : PS} {j e : Nat} {r : D × (Nat → List Nat) × (Nat → Bool)} (h : stm x s = (0, j, r)) (hc : ZT x j e) : sm1 x s = (0, e, r) := by
  unfold sm1
  rw [h]
  show (if (0 : Nat) ≠ 0 then _ else if tK x j = 3 then (0, tE x j, r) else _) = _
  rw [if_neg (by decide), if_pos hc.1, hc.2]
/-- a parser's way through a text, whatever follows -/
def PT (l : List Nat) (d : D) (u : Nat → List Nat) (o : Nat → Bool) : Prop := ∃ c, c ≤ l.length ∧ ∀ (N : Nat) (X : Nat → Nat), l.length ≤ N → TA X 0 l → ∀ f, pl (N, X) (c + f) (0, dE, fun _ => [], fun _ => false) = pl (N, X) f (l.length, d, u, o)
theorem PT_0 : PT [] dE (fun _ => []) (fun _ => false) := ⟨0, Nat.le_refl _, fun N X _ _ f => by rw [Nat.zero_add]; rfl⟩
/-- a statement's step -/
def SP (n : Nat) (t : List Nat) (d : D) (u : Nat → List Nat) (o : Nat → Bool) (d' : D) (u' : Nat → List Nat) (o' : Nat → Bool) : Prop := ∀ (N : Nat) (X : Nat → Nat), TA X n t → n + t.length ≤ N → tK (N, X) n ≠ 0 ∧ sm1 (N, X) (n, d, u, o) = (0, n + t.length, d', u', o')
theorem PT_s {l t : List Nat} {d d' : D} {u u' : Nat → List Nat} {o o' : Nat → Bool} (h : PT l d u o) (g : SP l.length t d u o d' u' o') (ht : 1 ≤ t.length) : PT (l ++ t) d' u' o' := by
  obtain ⟨c, hc, h⟩ := h
  refine ⟨c + 1, by rw [List.length_append]; omega, fun N X hN hT f => ?_⟩
  rw [List.length_append] at hN ⊢
  obtain ⟨t1, t2⟩ := TA_app hT
  rw [Nat.zero_add] at t2
  obtain ⟨g1, g2⟩ := g N X t2 hN
  rw [show c + 1 + f = c + (f + 1) by omega, h N X (by omega) t1 (f + 1)]
  show (if tK (N, X) l.length = 0 then _ else if (sm1 (N, X) (l.length, d, u, o)).1 ≠ 0 then sm1 (N, X) (l.length, d, u, o) else pl (N, X) f (sm1 (N, X) (l.length, d, u, o)).2) = _
  rw [if_neg g1, g2, if_neg (by show ¬ ((0 : Nat) ≠ 0); decide)]
theorem PT_e {l : List Nat} {d : D} {u : Nat → List Nat} {o : Nat → Bool} (h : PT l d u o) (hl : l.length ≤ 700) {X : Nat → Nat} (hT : TA X 0 l) : pa (l.length, X) = (0, l.length, d, u, o) := by
  obtain ⟨c, hc, h⟩ := h
  have h1 := h l.length X (Nat.le_refl _) hT (700 - c)
  unfold pa
  rw [show c + (700 - c) = 700 by omega] at h1
  rw [h1]
  cases 700 - c with
  | zero => rfl
  | succ f =>
    show (if tK (l.length, X) l.length = 0 then _ else _) = _
    have hk : kd (l.length, X) l.length = 0 := kd_end (Nat.le_refl _)
    rw [if_pos (tK_0.mpr (by rw [tS0 (by rw [hk]; decide)]; exact hk))]
