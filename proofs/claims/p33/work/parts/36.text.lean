/-! Text, tokens and names: what both parsers read. -/
abbrev TX : Type := Nat × (Nat → Nat)
/-- the kind of a byte: 0 the end, 1 a letter, 2 a digit, 3 a semicolon, 4 a blank, 5 another -/
def kd (x : TX) (i : Nat) : Nat := if x.1 ≤ i then 0 else if 97 ≤ x.2 i ∧ x.2 i ≤ 122 then 1 else if 48 ≤ x.2 i ∧ x.2 i ≤ 57 then 2 else if x.2 i = 32 ∨ x.2 i = 10 then 4 else if x.2 i = 59 then 3 else 5
def rn (x : TX) (c : Nat) : Nat → Nat → Nat
  | 0, i => i
  | f + 1, i => if kd x i = c then rn x c f (i + 1) else i
/-- the end of a run of one kind -/
def run (x : TX) (c i : Nat) : Nat := rn x c (x.1 - i) i
theorem kd_le (x : TX) (i : Nat) : kd x i ≤ 5 := by
  unfold kd
  repeat' split
  all_goals omega
theorem kd_end {x : TX} {i : Nat} (h : x.1 ≤ i) : kd x i = 0 := if_pos h
theorem kd_in {x : TX} {i : Nat} (h : kd x i ≠ 0) : i < x.1 := by
  apply Classical.byContradiction
  intro q
  exact h (kd_end (by omega))
theorem kd_0 {x : TX} {i : Nat} (h : kd x i = 0) : x.1 ≤ i := by
  apply Classical.byContradiction
  intro q
  unfold kd at h
  rw [if_neg q] at h
  revert h
  repeat' split
  all_goals omega
theorem kd_1 {x : TX} {i : Nat} (h : kd x i = 1) : 97 ≤ x.2 i ∧ x.2 i ≤ 122 := by
  unfold kd at h
  by_cases h0 : x.1 ≤ i
  · rw [if_pos h0] at h; omega
  · rw [if_neg h0] at h
    by_cases h1 : 97 ≤ x.2 i ∧ x.2 i ≤ 122
    · exact h1
    · rw [if_neg h1] at h
      revert h
      repeat' split
      all_goals omega
theorem kd_2 {x : TX} {i : Nat} (h : kd x i = 2) : 48 ≤ x.2 i ∧ x.2 i ≤ 57 := by
  unfold kd at h
  by_cases h0 : x.1 ≤ i
  · rw [if_pos h0] at h; omega
  · rw [if_neg h0] at h
    by_cases h1 : 97 ≤ x.2 i ∧ x.2 i ≤ 122
    · rw [if_pos h1] at h; omega
    · rw [if_neg h1] at h
      by_cases h2 : 48 ≤ x.2 i ∧ x.2 i ≤ 57
      · exact h2
      · rw [if_neg h2] at h
        revert h
        repeat' split
        all_goals omega
theorem rn_ge (x : TX) (c : Nat) : ∀ f i, i ≤ rn x c f i
  | 0, _ => Nat.le_refl _
  | f + 1, i => by
    show i ≤ if kd x i = c then rn x c f (i + 1) else i
    have := rn_ge x c f (i + 1)
    split <;> omega
theorem rn_le (x : TX) (c : Nat) : ∀ f i, rn x c f i ≤ i + f
  | 0, _ => Nat.le_refl _
  | f + 1, i => by
    show (if kd x i = c then rn x c f (i + 1) else i) ≤ _
    have := rn_le x c f (i + 1)
    split <;> omega
theorem rn_in {x : TX} {c k : Nat} : ∀ f i, i ≤ k → k < rn x c f i → kd x k = c
  | 0, i, h1, h2 => by
    have h3 : k < i := h2
    omega
  | f + 1, i, h1, h2 => by
    have h3 : k < if kd x i = c then rn x c f (i + 1) else i := h2
    by_cases q : kd x i = c
    · rw [if_pos q] at h3
      by_cases e : k = i
      · rw [e]; exact q
      · exact rn_in f (i + 1) (by omega) h3
    · rw [if_neg q] at h3; omega
theorem rn_out {x : TX} {c : Nat} (hc : c ≠ 0) : ∀ f i, x.1 ≤ i + f → kd x (rn x c f i) ≠ c
  | 0, i, h => by
    show kd x i ≠ c
    rw [kd_end (by omega)]
    exact fun q => hc q.symm
  | f + 1, i, h => by
    show kd x (if kd x i = c then rn x c f (i + 1) else i) ≠ c
    by_cases q : kd x i = c
    · rw [if_pos q]; exact rn_out hc f (i + 1) (by omega)
    · rw [if_neg q]; exact q
theorem run_n {x : TX} {c i : Nat} (h : kd x i ≠ c) : run x c i = i := by
  unfold run
  cases x.1 - i with
  | zero => rfl
  | succ f => exact if_neg h
theorem run_y {x : TX} {c i : Nat} (hc : c ≠ 0) (h : kd x i = c) : run x c i = run x c (i + 1) := by
  have h1 : i < x.1 := kd_in (by rw [h]; exact hc)
  unfold run
  rw [show x.1 - i = (x.1 - (i + 1)) + 1 by omega]
  exact if_pos h
theorem run_ge (x : TX) (c i : Nat) : i ≤ run x c i := rn_ge x c _ i
theorem run_le {x : TX} {c i : Nat} (h : i ≤ x.1) : run x c i ≤ x.1 := by
  have := rn_le x c (x.1 - i) i
  unfold run
  omega
theorem run_in {x : TX} {c i k : Nat} (h1 : i ≤ k) (h2 : k < run x c i) : kd x k = c := rn_in _ i h1 h2
theorem run_out {x : TX} {c i : Nat} (hc : c ≠ 0) : kd x (run x c i) ≠ c := rn_out hc _ i (by omega)
/-- the token behind a place: its start, its end, its kind -/
def tS (x : TX) (j : Nat) : Nat := run x 4 j
def tE (x : TX) (j : Nat) : Nat := if kd x (tS x j) = 1 ∨ kd x (tS x j) = 2 then run x (kd x (tS x j)) (tS x j + 1) else tS x j + 1
def tK (x : TX) (j : Nat) : Nat := if (kd x (tS x j) = 1 ∧ 8 < tE x j - tS x j) ∨ (kd x (tS x j) = 2 ∧ 7 < tE x j - tS x j) then 5 else kd x (tS x j)
theorem tS_ge (x : TX) (j : Nat) : j ≤ tS x j := run_ge x 4 j
theorem tS_le {x : TX} {j : Nat} (h : j ≤ x.1) : tS x j ≤ x.1 := run_le h
theorem tS_4 (x : TX) (j : Nat) : kd x (tS x j) ≠ 4 := run_out (by decide)
theorem tE_gt (x : TX) (j : Nat) : tS x j < tE x j := by
  unfold tE
  have := run_ge x (kd x (tS x j)) (tS x j + 1)
  split <;> omega
theorem tE_j (x : TX) (j : Nat) : j < tE x j := Nat.lt_of_le_of_lt (tS_ge x j) (tE_gt x j)
theorem tK_kd {x : TX} {j : Nat} (h : tK x j ≠ 5) : tK x j = kd x (tS x j) := by
  unfold tK at h ⊢
  split
  · rename_i q; rw [if_pos q] at h; exact absurd rfl h
  · rfl
theorem tK_0 {x : TX} {j : Nat} : tK x j = 0 ↔ kd x (tS x j) = 0 := by
  constructor
  · intro h
    rw [← tK_kd (by omega)]
    exact h
  · intro h
    unfold tK
    rw [if_neg (by omega), h]
theorem tK_le (x : TX) (j : Nat) : tK x j ≤ 5 := by
  unfold tK
  have := kd_le x (tS x j)
  split <;> omega
theorem tE_le {x : TX} {j : Nat} (h : tK x j ≠ 0) : tE x j ≤ x.1 := by
  have h1 : kd x (tS x j) ≠ 0 := fun q => h (tK_0.mpr q)
  have h2 := kd_in h1
  unfold tE
  split
  · exact run_le (by omega)
  · omega
theorem tE_le1 {x : TX} {j : Nat} (h : j ≤ x.1) : tE x j ≤ x.1 + 1 := by
  have h2 := tS_le h
  unfold tE
  split
  · rename_i q
    have := run_le (x := x) (c := kd x (tS x j)) (i := tS x j + 1) (kd_in (by omega))
    omega
  · omega
theorem tK_1 {x : TX} {j : Nat} (h : tK x j = 1) : tE x j - tS x j ≤ 8 ∧ (∀ k, tS x j ≤ k → k < tE x j → kd x k = 1) ∧ tE x j ≤ x.1 := by
  have h1 : kd x (tS x j) = 1 := by rw [← tK_kd (by omega)]; exact h
  refine ⟨?_, ?_, tE_le (by omega)⟩
  · apply Classical.byContradiction
    intro q
    unfold tK at h
    rw [if_pos (Or.inl ⟨h1, by omega⟩)] at h
    omega
  · intro k h2 h3
    by_cases e : k = tS x j
    · rw [e]; exact h1
    · unfold tE at h3
      rw [if_pos (Or.inl h1), h1] at h3
      exact run_in (by omega) h3
theorem tK_2 {x : TX} {j : Nat} (h : tK x j = 2) : tE x j - tS x j ≤ 7 ∧ (∀ k, tS x j ≤ k → k < tE x j → kd x k = 2) ∧ tE x j ≤ x.1 := by
  have h1 : kd x (tS x j) = 2 := by rw [← tK_kd (by omega)]; exact h
  refine ⟨?_, ?_, tE_le (by omega)⟩
  · apply Classical.byContradiction
    intro q
    unfold tK at h
    rw [if_pos (Or.inr ⟨h1, by omega⟩)] at h
    omega
  · intro k h2 h3
    by_cases e : k = tS x j
    · rw [e]; exact h1
    · unfold tE at h3
      rw [if_pos (Or.inr h1), h1] at h3
      exact run_in (by omega) h3
/-! letters and digits -/
def ltr (t : Nat → Nat) (s : Nat) : Nat → List Nat
  | 0 => []
  | n + 1 => ltr t s n ++ [t (s + n) - 96]
def dgt (t : Nat → Nat) (s : Nat) : Nat → Nat
  | 0 => 0
  | n + 1 => dgt t s n * 10 + (t (s + n) - 48)
def wl (x : TX) (j : Nat) : List Nat := ltr x.2 (tS x j) (tE x j - tS x j)
def vl (x : TX) (j : Nat) : Nat := dgt x.2 (tS x j) (tE x j - tS x j)
theorem ltr_len (t : Nat → Nat) (s : Nat) : ∀ n, (ltr t s n).length = n
  | 0 => rfl
  | n + 1 => by
    show (ltr t s n ++ [_]).length = _
    rw [List.length_append, ltr_len t s n]
    rfl
theorem ltr_get (t : Nat → Nat) (s : Nat) : ∀ n k, k < n → (ltr t s n)[k]? = some (t (s + k) - 96)
  | 0, k, h => absurd h (Nat.not_lt_zero _)
  | n + 1, k, h => by
    show (ltr t s n ++ [t (s + n) - 96])[k]? = _
    by_cases e : k = n
    · rw [e, List.getElem?_append_right (by rw [ltr_len]; exact Nat.le_refl _), ltr_len, Nat.sub_self]
      rfl
    · rw [List.getElem?_append_left (by rw [ltr_len]; omega)]
      exact ltr_get t s n k (by omega)
theorem ltr_ok {t : Nat → Nat} {s : Nat} : ∀ {n}, (∀ k, s ≤ k → k < s + n → 97 ≤ t k ∧ t k ≤ 122) → ∀ c ∈ ltr t s n, 1 ≤ c ∧ c ≤ 26
  | 0, _, c, hc => absurd hc List.not_mem_nil
  | n + 1, h, c, hc => by
    have h9 : c ∈ ltr t s n ++ [t (s + n) - 96] := hc
    rcases List.mem_append.mp h9 with q | q
    · exact ltr_ok (fun k h1 h2 => h k h1 (by omega)) c q
    · have e : c = t (s + n) - 96 := List.mem_singleton.mp q
      have := h (s + n) (by omega) (by omega)
      omega
theorem dgt_lt {t : Nat → Nat} {s : Nat} : ∀ {n}, (∀ k, s ≤ k → k < s + n → 48 ≤ t k ∧ t k ≤ 57) → dgt t s n < 10 ^ n
  | 0, _ => Nat.lt_succ_self 0
  | n + 1, h => by
    show dgt t s n * 10 + (t (s + n) - 48) < 10 ^ (n + 1)
    have h1 := dgt_lt (n := n) (fun k h1 h2 => h k h1 (by omega))
    have h2 := h (s + n) (by omega) (by omega)
    rw [Nat.pow_succ]
    omega
/-- a word is good: 1 to 8 letters -/
def okW (w : List Nat) : Prop := (1 ≤ w.length ∧ w.length ≤ 8) ∧ ∀ c ∈ w, 1 ≤ c ∧ c ≤ 26
theorem wl_ok {x : TX} {j : Nat} (h : tK x j = 1) : okW (wl x j) := by
  obtain ⟨h1, h2, h3⟩ := tK_1 h
  have h4 := tE_gt x j
  refine ⟨?_, ltr_ok (fun k a b => kd_1 (h2 k a (by omega)))⟩
  unfold wl
  rw [ltr_len]
  omega
theorem vl_lt {x : TX} {j : Nat} (h : tK x j = 2) : vl x j < 10000000 := by
  obtain ⟨h1, h2, h3⟩ := tK_2 h
  have h5 := dgt_lt (t := x.2) (s := tS x j) (n := tE x j - tS x j) (fun k a b => kd_2 (h2 k a (by omega)))
  have h6 : 10 ^ (tE x j - tS x j) ≤ 10 ^ 7 := Nat.pow_le_pow_right (by decide) h1
  unfold vl
  omega
/-! words as numbers -/
def wB (b o : Nat) : List Nat → Nat → Nat
  | [], v => v
  | c :: t, v => wB b o t (v * b + (c + o))
theorem w27_B : ∀ (l : List Nat) (v : Nat), w27 l v = wB 27 0 l v
  | [], _ => rfl
  | c :: t, v => w27_B t (v * 27 + c)
theorem w256_B : ∀ (l : List Nat) (v : Nat), w256 l v = wB 256 96 l v
  | [], _ => rfl
  | c :: t, v => w256_B t (v * 256 + (c + 96))
theorem wB_snoc (b o c : Nat) : ∀ (l : List Nat) (v : Nat), wB b o (l ++ [c]) v = wB b o l v * b + (c + o)
  | [], _ => rfl
  | d :: t, v => wB_snoc b o c t (v * b + (d + o))
theorem w27_snoc (l : List Nat) (c : Nat) : w27 (l ++ [c]) 0 = w27 l 0 * 27 + c := by
  rw [w27_B, w27_B, wB_snoc, Nat.add_zero]
theorem w256_snoc (l : List Nat) (c : Nat) : w256 (l ++ [c]) 0 = w256 l 0 * 256 + (c + 96) := by
  rw [w256_B, w256_B, wB_snoc]
theorem wB_lt {b o : Nat} : ∀ (l : List Nat) (v : Nat), (∀ c ∈ l, c + o < b) → wB b o l v < (v + 1) * b ^ l.length
  | [], v, _ => by
    show v < (v + 1) * b ^ 0
    rw [Nat.pow_zero, Nat.mul_one]
    omega
  | c :: t, v, h => by
    show wB b o t (v * b + (c + o)) < (v + 1) * b ^ (t.length + 1)
    have h1 := wB_lt (b := b) (o := o) t (v * b + (c + o)) (fun d hd => h d (List.mem_cons_of_mem _ hd))
    have h2 := h c List.mem_cons_self
    have h3 : (v * b + (c + o) + 1) * b ^ t.length ≤ ((v + 1) * b) * b ^ t.length := Nat.mul_le_mul_right _ (by rw [Nat.succ_mul]; omega)
    rw [Nat.pow_succ, Nat.mul_comm (b ^ t.length) b, ← Nat.mul_assoc]
    omega
theorem wB_inj {b o : Nat} : ∀ (l m : List Nat), (∀ c ∈ l, 1 ≤ c ∧ c + o < b) → (∀ c ∈ m, 1 ≤ c ∧ c + o < b) → wB b o l.reverse 0 = wB b o m.reverse 0 → l = m
  | [], [], _, _, _ => rfl
  | [], c :: t, _, h, e => by
    rw [List.reverse_cons, wB_snoc] at e
    have h1 := h c List.mem_cons_self
    have h2 : wB b o ([] : List Nat).reverse 0 = 0 := rfl
    omega
  | c :: t, [], h, _, e => by
    rw [List.reverse_cons, wB_snoc] at e
    have h1 := h c List.mem_cons_self
    have h2 : wB b o ([] : List Nat).reverse 0 = 0 := rfl
    omega
  | c :: t, d :: u, h, g, e => by
    rw [List.reverse_cons, List.reverse_cons, wB_snoc, wB_snoc] at e
    have h1 := h c List.mem_cons_self
    have g1 := g d List.mem_cons_self
    have m1 : (wB b o t.reverse 0 * b + (c + o)) % b = c + o := by rw [Nat.add_comm, Nat.add_mul_mod_self_right, Nat.mod_eq_of_lt h1.2]
    have m2 : (wB b o u.reverse 0 * b + (d + o)) % b = d + o := by rw [Nat.add_comm, Nat.add_mul_mod_self_right, Nat.mod_eq_of_lt g1.2]
    have hcd : c = d := by rw [e, m2] at m1; omega
    subst hcd
    have hb : 0 < b := by omega
    have e2 : wB b o t.reverse 0 * b = wB b o u.reverse 0 * b := by omega
    have e3 := Nat.eq_of_mul_eq_mul_right hb e2
    rw [wB_inj t u (fun z hz => h z (List.mem_cons_of_mem _ hz)) (fun z hz => g z (List.mem_cons_of_mem _ hz)) e3]
theorem wB_inj2 {b o : Nat} {l m : List Nat} (h : ∀ c ∈ l, 1 ≤ c ∧ c + o < b) (g : ∀ c ∈ m, 1 ≤ c ∧ c + o < b) (e : wB b o l 0 = wB b o m 0) : l = m := by
  have := wB_inj (b := b) (o := o) l.reverse m.reverse (fun c hc => h c (List.mem_reverse.mp hc)) (fun c hc => g c (List.mem_reverse.mp hc)) (by rw [List.reverse_reverse, List.reverse_reverse]; exact e)
  exact List.reverse_inj.mp this
theorem w27_lt {w : List Nat} (h : okW w) : w27 w 0 < 9223372036854775808 := by
  rw [w27_B]
  have h1 := wB_lt (b := 27) (o := 0) w 0 (fun c hc => by have := h.2 c hc; omega)
  have h2 : 27 ^ w.length ≤ 27 ^ 8 := Nat.pow_le_pow_right (by decide) h.1.2
  have h3 : (27 : Nat) ^ 8 < 9223372036854775808 := by decide
  omega
theorem w256_lt {w : List Nat} (h : okW w) : w256 w 0 < 9223372036854775808 := by
  rw [w256_B]
  obtain ⟨⟨h1, h2⟩, h3⟩ := h
  cases w with
  | nil => exact absurd h1 (by decide)
  | cons c t =>
    show wB 256 96 t (0 * 256 + (c + 96)) < _
    have h4 := h3 c List.mem_cons_self
    have h5 := wB_lt (b := 256) (o := 96) t (0 * 256 + (c + 96)) (fun d hd => by have := h3 d (List.mem_cons_of_mem _ hd); omega)
    have h6 : 256 ^ t.length ≤ 256 ^ 7 := Nat.pow_le_pow_right (by decide) (by have : (c :: t).length = t.length + 1 := rfl; omega)
    have h7 : (0 * 256 + (c + 96) + 1) * 256 ^ t.length ≤ 123 * 256 ^ 7 := Nat.mul_le_mul (by omega) h6
    have h8 : (123 : Nat) * 256 ^ 7 < 9223372036854775808 := by decide
    omega
theorem w27_eq {w v : List Nat} (h : okW w) (g : okW v) : w27 w 0 = w27 v 0 ↔ w = v := by
  rw [w27_B, w27_B]
  constructor
  · exact wB_inj2 (fun c hc => by have := h.2 c hc; omega) (fun c hc => by have := g.2 c hc; omega)
  · intro e; rw [e]
theorem w256_eq {w v : List Nat} (h : okW w) (g : okW v) : w256 w 0 = w256 v 0 ↔ w = v := by
  rw [w256_B, w256_B]
  constructor
  · exact wB_inj2 (fun c hc => by have := h.2 c hc; omega) (fun c hc => by have := g.2 c hc; omega)
  · intro e; rw [e]
theorem w27_pos {w : List Nat} (h : okW w) : w27 w 0 ≠ 0 := by
  intro e
  rw [w27_B] at e
  have := wB_inj2 (b := 27) (o := 0) (l := w) (m := []) (fun c hc => by have := h.2 c hc; omega) (fun c hc => absurd hc List.not_mem_nil) e
  rw [this] at h
  exact absurd h.1.1 (by decide)
/-- the first place of a number, and 1; none: 0 -/
def nmv (f : Nat → Nat) (v : Nat) : Nat → Nat
  | 0 => 0
  | m + 1 => if nmv f v m ≠ 0 then nmv f v m else if f m = v then m + 1 else 0
theorem nmv_hit {f : Nat → Nat} {v i : Nat} (h : nmv f v i = 0) (e : f i = v) : ∀ {m}, i < m → nmv f v m = i + 1
  | m + 1, hm => by
    show (if nmv f v m ≠ 0 then nmv f v m else if f m = v then m + 1 else 0) = _
    by_cases q : i = m
    · subst q
      rw [if_neg (by omega), if_pos e]
    · have := nmv_hit h e (m := m) (by omega)
      rw [if_pos (by omega), this]
theorem nmv_no {f : Nat → Nat} {v m : Nat} (h : nmv f v m = 0) (e : f m ≠ v) : nmv f v (m + 1) = 0 := by
  show (if nmv f v m ≠ 0 then nmv f v m else if f m = v then m + 1 else 0) = 0
  rw [if_neg (by omega), if_neg e]
theorem nmv_le (f : Nat → Nat) (v : Nat) : ∀ m, nmv f v m ≤ m
  | 0 => Nat.le_refl _
  | m + 1 => by
    show (if nmv f v m ≠ 0 then nmv f v m else if f m = v then m + 1 else 0) ≤ _
    have := nmv_le f v m
    split
    · omega
    · split <;> omega
theorem nmv_cg {f g : Nat → Nat} {v u : Nat} : ∀ {m}, (∀ i, i < m → (f i = v ↔ g i = u)) → nmv f v m = nmv g u m
  | 0, _ => rfl
  | m + 1, h => by
    show (if nmv f v m ≠ 0 then nmv f v m else if f m = v then m + 1 else 0) = (if nmv g u m ≠ 0 then nmv g u m else if g m = u then m + 1 else 0)
    rw [nmv_cg (fun i hi => h i (Nat.lt_succ_of_lt hi))]
    by_cases q : f m = v
    · rw [if_pos q, if_pos ((h m (Nat.lt_succ_self m)).mp q)]
    · rw [if_neg q, if_neg (fun z => q ((h m (Nat.lt_succ_self m)).mpr z))]
/-- the person of a name, and 1; none: 0 -/
def nmd (w : Nat → List Nat) (m : Nat) (v : List Nat) : Nat := nmv (fun p => w27 (w p) 0) (w27 v 0) m
theorem nmd_le (w : Nat → List Nat) (m : Nat) (v : List Nat) : nmd w m v ≤ m := nmv_le _ _ m
theorem nmd_256 {w : Nat → List Nat} {m : Nat} {v : List Nat} (h : ∀ p, p < m → okW (w p)) (g : okW v) : nmv (fun p => w256 (w p) 0) (w256 v 0) m = nmd w m v := by
  unfold nmd
  apply nmv_cg
  intro i hi
  show w256 (w i) 0 = w256 v 0 ↔ w27 (w i) 0 = w27 v 0
  rw [w256_eq (h i hi) g, w27_eq (h i hi) g]
theorem nmd_0 {w : Nat → List Nat} : ∀ {m : Nat}, (∀ p, p < m → okW (w p)) → nmv (fun p => w27 (w p) 0) 0 m = 0
  | 0, _ => rfl
  | m + 1, h => nmv_no (nmd_0 (fun p hp => h p (Nat.lt_succ_of_lt hp))) (w27_pos (h m (Nat.lt_succ_self m)))
/-! bytes -/
theorem bI_p {t : Nat} (h : t < 128) : bI t = nI t := if_pos h
theorem bI_hi : ∀ t, t < 256 → ¬ t < 128 → bI t < nI 48 ∧ bI t < nI 97 ∧ bI t ≠ nI 32 ∧ bI t ≠ nI 10 ∧ bI t ≠ nI 59 := by decide +kernel
theorem bI_255 : ∀ t, t < 256 → bI t &&& nI 255 = nI t := by decide +kernel
theorem bI_eq : ∀ t, t < 256 → ∀ c, c < 128 → (bI t = nI c ↔ t = c) := by decide +kernel
theorem bI_8 : ∀ n : Fin 256, (Int8.ofBitVec (BitVec.ofNat 8 n.val)).toInt32 = bI n.val := by decide +kernel
theorem bI_ex (y : Int32) : ∃ t, t < 256 ∧ y.toInt8.toInt32 = bI t := by
  refine ⟨y.toInt8.toBitVec.toNat, y.toInt8.toBitVec.isLt, ?_⟩
  have h := bI_8 ⟨y.toInt8.toBitVec.toNat, y.toInt8.toBitVec.isLt⟩
  have e : BitVec.ofNat 8 y.toInt8.toBitVec.toNat = y.toInt8.toBitVec := by rw [BitVec.ofNat_toNat, BitVec.setWidth_eq]
  have h2 : (Int8.ofBitVec (BitVec.ofNat 8 y.toInt8.toBitVec.toNat)).toInt32 = bI y.toInt8.toBitVec.toNat := h
  rw [e] at h2
  exact h2
theorem bI_nar : ∀ t, t < 256 → vp_nar .byte (bI t) = bI t := by decide +kernel
