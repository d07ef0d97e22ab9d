/-! What an estate is, in numbers, and how both programs hold it. -/
abbrev D : Type := Nat → Nat → Nat
/-- a sum over the first places -/
def sm (f : Nat → Nat) : Nat → Nat
  | 0 => 0
  | j + 1 => sm f j + f j
theorem sm_cg {f g : Nat → Nat} : ∀ {m : Nat}, (∀ i, i < m → f i = g i) → sm f m = sm g m
  | 0, _ => rfl
  | m + 1, h => by
    show sm f m + f m = sm g m + g m
    rw [sm_cg (fun i hi => h i (Nat.lt_succ_of_lt hi)), h m (Nat.lt_succ_self m)]
theorem sm_le {f : Nat → Nat} {b : Nat} : ∀ {m : Nat}, (∀ i, i < m → f i ≤ b) → sm f m ≤ m * b
  | 0, _ => by show 0 ≤ _; omega
  | m + 1, h => by
    show sm f m + f m ≤ _
    have h1 := sm_le (m := m) (fun i hi => h i (Nat.lt_succ_of_lt hi))
    have h2 := h m (Nat.lt_succ_self m)
    rw [Nat.succ_mul]
    omega
theorem sm_mono {f : Nat → Nat} {i m : Nat} (h : i ≤ m) : sm f i ≤ sm f m := by
  induction m with
  | zero => rw [Nat.le_zero.mp h]; exact Nat.le_refl _
  | succ m ih =>
    by_cases e : i = m + 1
    · rw [e]; exact Nat.le_refl _
    · have h1 := ih (by omega)
      show _ ≤ sm f m + f m
      omega
theorem sm_pos {f : Nat → Nat} {i m : Nat} (h : i < m) : f i ≤ sm f m := by
  have h1 := sm_mono (f := f) (show i + 1 ≤ m from h)
  have h2 : sm f (i + 1) = sm f i + f i := rfl
  omega
theorem sm_zero {f : Nat → Nat} {m : Nat} (h : ∀ i, i < m → f i = 0) : sm f m = 0 := by
  have := sm_le (f := f) (b := 0) (m := m) (fun i hi => Nat.le_of_eq (h i hi))
  omega
/-- the places of the row of numbers -/
def mP (k : Nat) : Nat × Nat := if k < 10 then (0, k) else if k < 58 then (1 + (k - 10) % 4, (k - 10) / 4) else if k < 74 then (5 + (k - 58) % 2, (k - 58) / 2) else if k < 90 then (7 + (k - 74) % 2, (k - 74) / 2) else if k < 106 then (9 + (k - 90) % 2, (k - 90) / 2) else (11 + (k - 106) % 2, (k - 106) / 2)
def sP (k : Nat) : Nat × Nat := if k < 12 then (2, k) else if k < 24 then (3, k - 12) else if k < 36 then (4, k - 24) else if k < 44 then (5, k - 36) else if k < 45 then (0, 3) else if k < 53 then (9, k - 45) else if k < 61 then (10, k - 53) else if k < 62 then (0, 2) else if k < 70 then (7, k - 62) else if k < 78 then (8, k - 70) else (0, 9)
/-- whether a place holds a person or none -/
def isO (q : Nat × Nat) : Bool := q.1 == 1 || (q.1 == 0 && q.2 == 5)
def enc (q : Nat × Nat) (x : Nat) : Int32 := cond (isO q) (oI x) (nI x)
def mR (d : D) (k : Nat) : Int32 := enc (mP k) (d (mP k).1 (mP k).2)
def sR (d : D) (k : Nat) : Int32 := nI (d (sP k).1 (sP k).2)
def MR (f : Nat → Int32) (d : D) : Prop := ∀ k, k < 122 → f k = mR d k
def SR (f : Nat → Int32) (d : D) : Prop := ∀ k, k < 79 → f k = sR d k
/-- one number altered -/
def up (d : D) (a i v : Nat) : D := aup d a (aup (d a) i v)
theorem up_s (d : D) (a i v : Nat) : up d a i v a i = v := by unfold up; rw [aup_s, aup_s]
theorem up_n (d : D) {a i b j : Nat} (v : Nat) (h : ¬ (b = a ∧ j = i)) : up d a i v b j = d b j := by
  unfold up
  by_cases e : b = a
  · subst e
    rw [aup_s, aup_n _ _ (fun q => h ⟨rfl, q⟩)]
  · rw [aup_n _ _ e]
theorem up_n1 (d : D) {a i b j : Nat} (v : Nat) (h : b ≠ a) : up d a i v b j = d b j := up_n d v (fun q => h q.1)
theorem up_n2 (d : D) {a i b j : Nat} (v : Nat) (h : j ≠ i) : up d a i v b j = d b j := up_n d v (fun q => h q.2)
theorem mP_inj : ∀ k, k < 122 → ∀ k', k' < 122 → mP k = mP k' → k = k' := by
  intro k hk k' hk' h
  unfold mP at h
  split at h <;> split at h <;> (try split at h) <;> (try split at h) <;> (try split at h) <;> (try split at h) <;> (try split at h) <;> (try split at h) <;> (try split at h) <;> (try split at h) <;> (have h1 := congrArg Prod.fst h; have h2 := congrArg Prod.snd h; simp only [] at h1 h2; omega)
theorem sP_inj : ∀ k, k < 79 → ∀ k', k' < 79 → sP k = sP k' → k = k' := by
  decide +kernel
theorem MRup {f : Nat → Int32} {d : D} (h : MR f d) {k0 a i v : Nat} {x : Int32} (hk : k0 < 122) (hp : mP k0 = (a, i)) (hx : x = enc (a, i) v) : MR (aup f k0 x) (up d a i v) := by
  intro k hk2
  unfold mR
  by_cases e : k = k0
  · subst e
    rw [aup_s, hp, up_s, hx]
  · rw [aup_n _ _ e, h k hk2]
    unfold mR
    rw [up_n]
    intro q
    exact e (mP_inj k hk2 k0 hk (by rw [hp]; exact Prod.ext q.1 q.2))
theorem SRup {f : Nat → Int32} {d : D} (h : SR f d) {k0 a i v : Nat} {x : Int32} (hk : k0 < 79) (hp : sP k0 = (a, i)) (hx : x = nI v) : SR (aup f k0 x) (up d a i v) := by
  intro k hk2
  unfold sR
  by_cases e : k = k0
  · subst e
    rw [aup_s, hp, up_s, hx]
  · rw [aup_n _ _ e, h k hk2]
    unfold sR
    rw [up_n]
    intro q
    exact e (sP_inj k hk2 k0 hk (by rw [hp]; exact Prod.ext q.1 q.2))
/-- fields that the row of states does not hold -/
theorem SRno {f : Nat → Int32} {d : D} (h : SR f d) {a i v : Nat} (hp : ∀ k, k < 79 → sP k ≠ (a, i)) : SR f (up d a i v) := by
  intro k hk
  rw [h k hk]
  unfold sR
  rw [up_n]
  intro q
  exact hp k hk (Prod.ext q.1 q.2)
theorem MRat {f : Nat → Int32} {d : D} (h : MR f d) {k : Nat} (a i : Nat) (hk : k < 122) (hp : mP k = (a, i)) : f k = enc (a, i) (d a i) := by
  rw [h k hk]
  unfold mR
  rw [hp]
theorem SRat {f : Nat → Int32} {d : D} (h : SR f d) {k : Nat} (a i : Nat) (hk : k < 79) (hp : sP k = (a, i)) : f k = nI (d a i) := by
  rw [h k hk]
  unfold sR
  rw [hp]
/-- the places, told -/
theorem mP0 {k : Nat} (h : k < 10) : mP k = (0, k) := if_pos h
theorem mPp {p w : Nat} (hp : p < 12) (hw : w < 4) : mP (10 + 4 * p + w) = (1 + w, p) := by
  unfold mP
  rw [if_neg (by omega), if_pos (by omega)]
  have h1 : (10 + 4 * p + w - 10) % 4 = w := by omega
  have h2 : (10 + 4 * p + w - 10) / 4 = p := by omega
  rw [h1, h2]
theorem mPa {p w : Nat} (hp : p < 8) (hw : w < 2) : mP (58 + 2 * p + w) = (5 + w, p) := by
  unfold mP
  rw [if_neg (by omega), if_neg (by omega), if_pos (by omega)]
  have h1 : (58 + 2 * p + w - 58) % 2 = w := by omega
  have h2 : (58 + 2 * p + w - 58) / 2 = p := by omega
  rw [h1, h2]
theorem mPd {p w : Nat} (hp : p < 8) (hw : w < 2) : mP (74 + 2 * p + w) = (7 + w, p) := by
  unfold mP
  rw [if_neg (by omega), if_neg (by omega), if_neg (by omega), if_pos (by omega)]
  have h1 : (74 + 2 * p + w - 74) % 2 = w := by omega
  have h2 : (74 + 2 * p + w - 74) / 2 = p := by omega
  rw [h1, h2]
theorem mPg {p w : Nat} (hp : p < 8) (hw : w < 2) : mP (90 + 2 * p + w) = (9 + w, p) := by
  unfold mP
  rw [if_neg (by omega), if_neg (by omega), if_neg (by omega), if_neg (by omega), if_pos (by omega)]
  have h1 : (90 + 2 * p + w - 90) % 2 = w := by omega
  have h2 : (90 + 2 * p + w - 90) / 2 = p := by omega
  rw [h1, h2]
theorem mPl {p w : Nat} (hp : p < 8) (hw : w < 2) : mP (106 + 2 * p + w) = (11 + w, p) := by
  unfold mP
  rw [if_neg (by omega), if_neg (by omega), if_neg (by omega), if_neg (by omega), if_neg (by omega)]
  have h1 : (106 + 2 * p + w - 106) % 2 = w := by omega
  have h2 : (106 + 2 * p + w - 106) / 2 = p := by omega
  rw [h1, h2]
theorem sPx {lo m a k : Nat} (h : k < m) (hall : ∀ j, j < m → sP (lo + j) = (a, j)) : sP (lo + k) = (a, k) := hall k h
theorem sP2 {k : Nat} (h : k < 12) : sP (0 + k) = (2, k) := (by decide : ∀ j, j < 12 → sP (0 + j) = (2, j)) k h
theorem sP3 {k : Nat} (h : k < 12) : sP (12 + k) = (3, k) := (by decide : ∀ j, j < 12 → sP (12 + j) = (3, j)) k h
theorem sP4 {k : Nat} (h : k < 12) : sP (24 + k) = (4, k) := (by decide : ∀ j, j < 12 → sP (24 + j) = (4, j)) k h
theorem sP5 {k : Nat} (h : k < 8) : sP (36 + k) = (5, k) := (by decide : ∀ j, j < 8 → sP (36 + j) = (5, j)) k h
theorem sP9 {k : Nat} (h : k < 8) : sP (45 + k) = (9, k) := (by decide : ∀ j, j < 8 → sP (45 + j) = (9, j)) k h
theorem sP10 {k : Nat} (h : k < 8) : sP (53 + k) = (10, k) := (by decide : ∀ j, j < 8 → sP (53 + j) = (10, j)) k h
theorem sP7 {k : Nat} (h : k < 8) : sP (62 + k) = (7, k) := (by decide : ∀ j, j < 8 → sP (62 + j) = (7, j)) k h
theorem sP8 {k : Nat} (h : k < 8) : sP (70 + k) = (8, k) := (by decide : ∀ j, j < 8 → sP (70 + j) = (8, j)) k h
/-- bounds -/
def Vd (d : D) : Prop :=
  (d 0 0 ≤ 12 ∧ d 0 1 ≤ 8 ∧ d 0 2 ≤ 8 ∧ d 0 3 ≤ 8 ∧ d 0 4 ≤ 8 ∧ d 0 5 ≤ d 0 0 ∧ d 0 6 ≤ d 0 7 ∧ 1 ≤ d 0 7 ∧ d 0 7 ≤ 99 ∧ d 0 8 ≤ 100 ∧ d 0 9 ≤ 1) ∧
  (∀ p, p < d 0 0 → d 1 p ≤ p) ∧ (∀ p, d 2 p ≤ 120 ∧ d 3 p ≤ 1 ∧ d 4 p ≤ 1) ∧ (∀ a, d 5 a ≤ 9999999 ∧ d 6 a ≤ 100) ∧ (∀ i, d 7 i ≤ 5 ∧ d 8 i ≤ 9999999) ∧ (∀ i, i < d 0 2 → 1 ≤ d 7 i) ∧ (∀ g, d 9 g < 12 ∧ d 10 g ≤ 9999999) ∧ (∀ k, d 11 k < 12 ∧ d 12 k ≤ 9999999) ∧ (∀ k, k < d 0 4 → d 11 k < d 0 0) ∧ (∀ p, d 1 p ≤ 12)
/-- the estate's own rows: the object's numbers, parents, charges, legatees, amounts -/
def ER (f fp fc fl fa : Nat → Int32) (d : D) : Prop :=
  (f 0 = nI (d 0 0) ∧ f 3 = oI (d 0 5) ∧ f 4 = nI (d 0 1) ∧ f 6 = nI (d 0 4) ∧ f 9 = nI (d 0 7) ∧ f 10 = nI (d 0 6) ∧ f 11 = nI (d 0 8)) ∧ (∀ p, p < d 0 0 → fp p = oI (d 1 p)) ∧ (∀ a, a < d 0 1 → fc a = nI (d 6 a)) ∧ (∀ k, k < d 0 4 → fl k = nI (d 11 k)) ∧ (∀ k, k < d 0 4 → fa k = nI (d 12 k))
def EE4 (σ : SS) (d : D) : Prop := ER (σ.1 4) (σ.1 6) (σ.1 7) (σ.1 8) (σ.1 9) d
def EE (σ : SS) (d : D) : Prop := ER (σ.1 12) (σ.1 14) (σ.1 15) (σ.1 16) (σ.1 17) d
/-! What the settlement is. -/
def tk (d : D) (p : Nat) : Bool := d 3 p == 0 && d 4 p == 0
def go (d : D) (p : Nat) : Bool := !(d 3 p == 0) || (!(d 4 p == 0) && !(d 0 9 == 0))
def gf (d : D) (p : Nat) : Nat := sm (fun g => if d 9 g = p then d 10 g else 0) (d 0 3)
def nt (d : D) (a : Nat) : Nat := d 5 a - d 5 a * d 6 a / 100
def nts (d : D) : Nat := sm (nt d) (d 0 1)
/-- to split t by w (its sum W) among m: base, what is left, parts -/
def bs (t W : Nat) (w : Nat → Nat) (i : Nat) : Nat := t * w i / W
def rm (t W : Nat) (w : Nat → Nat) (m : Nat) : Nat → Nat
  | 0 => (if W = 0 then 0 else t) - sm (bs t W w) m
  | i + 1 => if 0 < rm t W w m i ∧ 0 < w i then rm t W w m i - 1 else rm t W w m i
def ce (t W : Nat) (w : Nat → Nat) (m i : Nat) : Bool := decide (0 < rm t W w m i ∧ 0 < w i)
def sp (t W : Nat) (w : Nat → Nat) (m i : Nat) : Nat := bs t W w i + tb (ce t W w m i)
/-- debts of a rank, what is left after the ranks, what is paid -/
def cl (d : D) (r i : Nat) : Nat := if i < d 0 2 ∧ d 7 i = r then d 8 i else 0
def lf (d : D) : Nat → Nat
  | 0 => nts d
  | r + 1 => lf d r - min (lf d r) (sm (cl d (r + 1)) 8)
def us (d : D) (r : Nat) : Nat := min (lf d (r - 1)) (sm (cl d r) 8)
def pr (d : D) (r i : Nat) : Nat := sp (us d r) (sm (cl d r) 8) (cl d r) 8 i
def pd (d : D) (i : Nat) : Nat := if i < d 0 2 then pr d (d 7 i) i else 0
def ow (d : D) : Nat := sm (fun i => if i < d 0 2 then d 8 i else 0) 8
def lc (d : D) (k : Nat) : Nat := if k < d 0 4 ∧ tk d (d 11 k) = true then d 12 k else 0
def lu9 (d : D) : Nat := min (lf d 5) (sm (lc d) 8)
def lp (d : D) (k : Nat) : Nat := sp (lu9 d) (sm (lc d) 8) (lc d) 8 k
def rs (d : D) : Nat := lf d 5 - lu9 d
/-- lines: how many are open under q (0: the deceased; p + 1: a person) -/
def lu (d : D) (b : Nat → Bool) (q : Nat) : Nat := sm (fun k => tb (b k && d 1 k == q)) (d 0 0)
def lnF (d : D) (b : Nat → Bool) (p : Nat) : Bool := !(d 0 5 == p + 1) && (tk d p || (go d p && !(lu d b (p + 1) == 0)))
def lst (d : D) : Nat → Nat → Bool
  | 0 => fun _ => false
  | j + 1 => aup (lst d j) (d 0 0 - 1 - j) (lnF d (lst d j) (d 0 0 - 1 - j))
def isL (d : D) : Nat → Bool := lst d (d 0 0)
def cu (d : D) (q : Nat) : Nat := lu d (isL d) q
/-- a table laid from the first place on -/
def tab (F : (Nat → Nat) → Nat → Nat) : Nat → Nat → Nat
  | 0 => fun _ => 0
  | j + 1 => aup (tab F j) j (F (tab F j) j)
def dvF (d : D) (f : Nat → Nat) (p : Nat) : Nat := if isL d p = true ∧ (d 1 p = 0 ∨ (0 < f (d 1 p - 1) ∧ tk d (d 1 p - 1) = false)) then (if d 1 p = 0 then 1 else f (d 1 p - 1)) * cu d (d 1 p) else 0
def dcF (d : D) (f : Nat → Nat) (p : Nat) : Nat := if d 0 5 = p + 1 then 0 else (if d 1 p = 0 then 1 else if go d (d 1 p - 1) = true then f (d 1 p - 1) else 0) * cu d (d 1 p)
def dv (d : D) : Nat → Nat := tab (dvF d) (d 0 0)
def dc (d : D) : Nat → Nat := tab (dcF d) (d 0 0)
def he (d : D) (p : Nat) : Bool := decide (0 < dv d p) && tk d p
def hm (d : D) : Nat := sm (fun p => tb (he d p)) (d 0 0)
def ml (d : D) : Nat → Nat
  | 0 => 1
  | j + 1 => if he d j = true then ml d j / Nat.gcd (ml d j) (dv d j) * dv d j else ml d j
def wt (d : D) (p : Nat) : Nat := if he d p = true then ml d (d 0 0) / dv d p else 0
/-- the residue -/
def hs (d : D) : Bool := !(d 0 5 == 0) && tk d (d 0 5 - 1)
def fa (a : Nat) : Nat := max 10 (min 90 (100 - a / 10 * 10))
def a5 (d : D) : Nat := if hs d = true then (if hm d = 0 then rs d else rs d * d 0 6 / d 0 7) else 0
def a6 (d : D) : Nat := if hs d = true ∧ hm d ≠ 0 then (rs d - a5 d) * d 0 8 / 100 else 0
def a7 (d : D) : Nat := a6 d * fa (d 2 (d 0 5 - 1)) / 100
def a8 (d : D) : Nat := if hm d = 0 then 0 else rs d - a5 d - a7 d
def a9 (d : D) : Nat := if hs d = false ∧ hm d = 0 then rs d else 0
/-- leaving out of account: fund F, gifts G, weights w -/
def pt (F : Nat) (G w : Nat → Nat) : Nat := F + sm (fun p => if 0 < w p then G p else 0) 12
def ov (F : Nat) (G w : Nat → Nat) (p : Nat) : Nat := if 0 < w p then G p - pt F G w * w p / sm w 12 else 0
/-- the first of the greatest: (the place + 1, how much) -/
def ws (o : Nat → Nat) : Nat → Nat × Nat
  | 0 => (0, 0)
  | j + 1 => if (ws o j).2 < o j then (j + 1, o j) else ws o j
def ls (F : Nat) (G w : Nat → Nat) : Nat → Nat := if (ws (ov F G w) 12).1 = 0 then w else aup w ((ws (ov F G w) 12).1 - 1) 0
def lo (F : Nat) (G w : Nat → Nat) : Nat → Nat → Nat
  | 0 => w
  | k + 1 => ls F G (lo F G w k)
/-- the weights in account at the end -/
def wf (F : Nat) (G w : Nat → Nat) : Nat → Nat := lo F G w 12
def w9 (d : D) : Nat → Nat := wf (a8 d) (gf d) (wt d)
def ou (d : D) (p : Nat) : Bool := decide (0 < wt d p) && w9 d p == 0
def po (d : D) : Nat := pt (a8 d) (gf d) (w9 d)
def ps (d : D) (p : Nat) : Nat := sp (po d) (sm (w9 d) 12) (w9 d) 12 p
/-- what an heir gets of the fund, as an int -/
def sv (d : D) (p : Nat) : Int32 := if 0 < w9 d p then nI (ps d p) - nI (gf d p) else 0
/-- a set of persons as bits -/
def mk (b : Nat → Bool) : Nat → Nat
  | 0 => 0
  | j + 1 => mk b j ||| tb (b j) <<< j
def lg9 (d : D) (p : Nat) : Nat := sm (fun k => if d 11 k = p then lp d k else 0) (d 0 4)
def gv (d : D) (p : Nat) : Int32 := sv d p + nI (lg9 d p) + (if d 0 5 = p + 1 then nI (a5 d + a7 d) else 0)
theorem vA {d : D} (h : Vd d) (p : Nat) : d 2 p ≤ 120 ∧ d 3 p ≤ 1 ∧ d 4 p ≤ 1 := h.2.2.1 p
theorem vV {d : D} (h : Vd d) (a : Nat) : d 5 a ≤ 9999999 ∧ d 6 a ≤ 100 := h.2.2.2.1 a
theorem vD {d : D} (h : Vd d) (i : Nat) : d 7 i ≤ 5 ∧ d 8 i ≤ 9999999 := h.2.2.2.2.1 i
theorem vR {d : D} (h : Vd d) : ∀ i, i < d 0 2 → 1 ≤ d 7 i := h.2.2.2.2.2.1
theorem vG {d : D} (h : Vd d) (g : Nat) : d 9 g < 12 ∧ d 10 g ≤ 9999999 := h.2.2.2.2.2.2.1 g
theorem vL {d : D} (h : Vd d) (k : Nat) : d 11 k < 12 ∧ d 12 k ≤ 9999999 := h.2.2.2.2.2.2.2.1 k
theorem vN {d : D} (h : Vd d) : ∀ k, k < d 0 4 → d 11 k < d 0 0 := h.2.2.2.2.2.2.2.2.1
theorem vP {d : D} (h : Vd d) (p : Nat) : d 1 p ≤ 12 := h.2.2.2.2.2.2.2.2.2 p
theorem vQ {d : D} (h : Vd d) : ∀ p, p < d 0 0 → d 1 p ≤ p := h.2.1
theorem vC {d : D} (h : Vd d) : d 0 0 ≤ 12 ∧ d 0 1 ≤ 8 ∧ d 0 2 ≤ 8 ∧ d 0 3 ≤ 8 ∧ d 0 4 ≤ 8 ∧ d 0 5 ≤ d 0 0 ∧ d 0 6 ≤ d 0 7 ∧ 1 ≤ d 0 7 ∧ d 0 7 ≤ 99 ∧ d 0 8 ≤ 100 ∧ d 0 9 ≤ 1 := h.1
theorem gf_le {d : D} (h : Vd d) (p : Nat) : gf d p ≤ 79999992 := by
  have h1 := sm_le (f := fun g => if d 9 g = p then d 10 g else 0) (b := 9999999) (m := d 0 3) (fun i _ => by show (if _ then _ else _) ≤ _; have := vG h i; split <;> omega)
  have h2 := vC h
  have h3 : d 0 3 * 9999999 ≤ 8 * 9999999 := Nat.mul_le_mul_right _ (by omega)
  exact Nat.le_trans h1 h3
theorem tbz (x : Nat) : tb (!(x == 0)) = if x = 0 then 0 else 1 := by
  cases x with
  | zero => rfl
  | succ x => rfl
theorem tbz1 {x : Nat} (h : x ≤ 1) : tb (!(x == 0)) = x := by
  rw [tbz]; split <;> omega
/-- an estate with nothing in it -/
def dE : D := fun a i => if a = 0 then (if i = 6 then 1 else if i = 7 then 4 else if i = 9 then 1 else 0) else if a = 1 then 1 else 0
theorem cpy_at {α : Type} (f g : Nat → α) {sp dp w k : Nat} (h : k < w) : va_cpy f g sp dp w (dp + k) = f (sp + k) := by
  unfold va_cpy
  rw [if_pos (by omega)]
  congr 1
  omega
theorem cpy_no {α : Type} (f g : Nat → α) {sp dp w k : Nat} (h : k < dp ∨ dp + w ≤ k) : va_cpy f g sp dp w k = g k := by
  unfold va_cpy
  rw [if_neg (by omega)]
theorem cpy_0 {α : Type} (f g : Nat → α) {w k : Nat} (h : k < w) : va_cpy f g 0 0 w k = f k := by
  have := cpy_at f g (sp := 0) (dp := 0) h
  rw [Nat.zero_add] at this
  exact this
theorem SRcpy {f g : Nat → Int32} {d : D} (h : SR f d) : SR (va_cpy f g 0 0 79) d := fun k hk => by rw [cpy_0 f g hk]; exact h k hk
/-! Sets of persons as bits. -/
theorem s_l9 : ∀ n, n < 32 → ((nI n &&& 31).toBitVec.smod 32).toNat = n := by decide +kernel
theorem tb1 (t : Nat) : Nat.testBit 1 (t + 1) = false := by
  rw [Nat.testBit_succ]
  exact Nat.zero_testBit t
theorem mk_bit (b : Nat → Bool) : ∀ (m i : Nat), (mk b m).testBit i = (decide (i < m) && b i)
  | 0, i => by
    show Nat.testBit 0 i = _
    rw [Nat.zero_testBit, decide_eq_false (Nat.not_lt_zero i)]
    rfl
  | m + 1, i => by
    show (mk b m ||| tb (b m) <<< m).testBit i = _
    rw [Nat.testBit_or, mk_bit b m i, Nat.testBit_shiftLeft]
    by_cases h1 : i < m
    · rw [decide_eq_true h1, decide_eq_true (show i < m + 1 by omega), decide_eq_false (show ¬ i ≥ m by omega)]
      simp
    · by_cases h2 : i = m
      · subst h2
        rw [decide_eq_false h1, decide_eq_true (show i < i + 1 by omega), decide_eq_true (show i ≥ i by omega), Nat.sub_self]
        cases b i <;> rfl
      · rw [decide_eq_false h1, decide_eq_false (show ¬ i < m + 1 by omega)]
        obtain ⟨t, ht⟩ : ∃ t, i - m = t + 1 := ⟨i - m - 1, by omega⟩
        rw [ht]
        cases b m <;> simp [tb, tb1]
theorem mk_lt (b : Nat → Bool) (m : Nat) : mk b m < 2 ^ m := by
  apply Nat.lt_pow_two_of_testBit
  intro i hi
  rw [mk_bit, decide_eq_false (by omega)]
  rfl
theorem mk_lt12 (b : Nat → Bool) {m : Nat} (h : m ≤ 12) : mk b m < 4096 := Nat.lt_of_lt_of_le (mk_lt b m) (Nat.pow_le_pow_right (n := 2) (by decide) h)
theorem mk_cg {b c : Nat → Bool} : ∀ {m : Nat}, (∀ i, i < m → b i = c i) → mk b m = mk c m
  | 0, _ => rfl
  | m + 1, h => by
    show mk b m ||| tb (b m) <<< m = mk c m ||| tb (c m) <<< m
    rw [mk_cg (fun i hi => h i (Nat.lt_succ_of_lt hi)), h m (Nat.lt_succ_self m)]
theorem nI_or (a b : Nat) : nI a ||| nI b = nI (a ||| b) := by
  unfold nI
  apply Int32.toBitVec_inj.mp
  rw [Int32.toBitVec_or, Int32.toBitVec_ofNat', Int32.toBitVec_ofNat', Int32.toBitVec_ofNat', BitVec.ofNat_or]
/-- a bit asked for -/
theorem bt_has {a p : Nat} (ha : a < 4096) (hp : p < 31) : (nI a >>> (nI p &&& 31)) &&& nI 1 = nI (tb (a.testBit p)) := by
  rw [pk_shrN (by omega) _ p (s_l9 p (by omega)), pk_andN (Nat.lt_trans (Nat.lt_of_le_of_lt (Nat.div_le_self _ _) ha) (by decide)) 1 (by decide)]
  congr 1
  rw [Nat.testBit_eq_decide_div_mod_eq, Nat.pow_one]
  rcases Nat.mod_two_eq_zero_or_one (a / 2 ^ p) with h | h <;> rw [h] <;> rfl
theorem bt_one {p : Nat} (hp : p < 30) : nI 1 <<< (nI p &&& 31) = nI (1 <<< p) := by
  rw [pk_shlN _ p (s_l9 p (by omega)), Nat.shiftLeft_eq]
  have := Nat.pow_le_pow_right (n := 2) (show 0 < 2 by decide) (show p ≤ 30 by omega)
  omega
theorem bt_tb (c : Bool) {p : Nat} (hp : p < 30) : nI (tb c) <<< (nI p &&& 31) = nI (tb c <<< p) := by
  cases c
  · show nI 0 <<< (nI p &&& 31) = nI (0 <<< p)
    rw [pk_shlN _ p (s_l9 p (by omega)) (by omega), Nat.zero_shiftLeft, Nat.zero_mul]
  · exact bt_one hp
/-- a bit set: from the set without p to the set with it -/
theorem mk_set {b c : Nat → Bool} {m p : Nat} (hp : p < m) (h : ∀ i, i < m → c i = (b i || i == p)) : mk b m ||| 1 <<< p = mk c m := by
  apply Nat.eq_of_testBit_eq
  intro i
  rw [Nat.testBit_or, mk_bit, mk_bit, Nat.testBit_shiftLeft]
  by_cases h1 : i < m
  · rw [h i h1, decide_eq_true h1]
    by_cases h2 : i = p
    · subst h2
      rw [decide_eq_true (Nat.le_refl i), Nat.sub_self]
      simp
    · by_cases h3 : p ≤ i
      · obtain ⟨t, ht⟩ : ∃ t, i - p = t + 1 := ⟨i - p - 1, by omega⟩
        rw [ht, beq_false_of_ne h2, tb1]
        simp
      · rw [decide_eq_false h3, beq_false_of_ne h2]
        simp
  · rw [decide_eq_false h1, decide_eq_true (show p ≤ i by omega)]
    obtain ⟨t, ht⟩ : ∃ t, i - p = t + 1 := ⟨i - p - 1, by omega⟩
    rw [ht, tb1]
    simp
theorem mk_no (m : Nat) : mk (fun _ => false) m = 0 := by
  induction m with
  | zero => rfl
  | succ m ih =>
    show mk _ m ||| 0 <<< m = 0
    rw [ih, Nat.zero_shiftLeft]
    rfl
/-! Rows that are laid place by place. -/
theorem aup_all {α : Type} {f A B : Nat → α} {n i : Nat} {x : α} (h : ∀ j, j < n → f j = A j) (hx : x = B i) (hB : ∀ j, j < n → j ≠ i → A j = B j) : ∀ j, j < n → aup f i x j = B j := by
  intro j hj
  by_cases e : j = i
  · subst e; rw [aup_s]; exact hx
  · rw [aup_n _ _ e, h j hj]; exact hB j hj e
theorem aup_lt {α : Type} {f B : Nat → α} {i : Nat} {x : α} (h : ∀ j, j < i → f j = B j) (hx : x = B i) : ∀ j, j < i + 1 → aup f i x j = B j := by
  intro j hj
  by_cases e : j = i
  · subst e; rw [aup_s]; exact hx
  · rw [aup_n _ _ e]; exact h j (by omega)
theorem ifs_n {α : Type} {S B : Nat → α} {i j : Nat} (h : j ≠ i) : (if j < i + 1 then S j else B j) = (if j < i then S j else B j) := by
  by_cases q : j < i
  · rw [if_pos q, if_pos (by omega)]
  · rw [if_neg q, if_neg (by omega)]
theorem ifs_e {α : Type} {S B : Nat → α} {i : Nat} (h : S i = B i) (j : Nat) : (if j < i + 1 then S j else B j) = (if j < i then S j else B j) := by
  by_cases e : j = i
  · subst e; rw [if_pos (by omega), if_neg (by omega), h]
  · exact ifs_n e
theorem ifs_s {α : Type} (S B : Nat → α) (i : Nat) : (if i < i + 1 then S i else B i) = S i := if_pos (Nat.lt_succ_self i)
