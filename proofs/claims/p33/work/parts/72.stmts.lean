/-! Statements as lists, parsed. -/
def zPerson : List Nat := [112, 101, 114, 115, 111, 110]
theorem zPerson_ok : isw zPerson ∧ 1 ≤ zPerson.length ∧ zPerson.length ≤ 8 ∧ zPerson.map (fun c => c - 96) = Wperson := ⟨by unfold zPerson; exact ⟨⟨by decide, by decide⟩, ⟨by decide, by decide⟩, ⟨by decide, by decide⟩, ⟨by decide, by decide⟩, ⟨by decide, by decide⟩, ⟨by decide, by decide⟩, trivial⟩, by decide, by decide, by decide⟩
def zUnder : List Nat := [117, 110, 100, 101, 114]
theorem zUnder_ok : isw zUnder ∧ 1 ≤ zUnder.length ∧ zUnder.length ≤ 8 ∧ zUnder.map (fun c => c - 96) = Wunder := ⟨by unfold zUnder; exact ⟨⟨by decide, by decide⟩, ⟨by decide, by decide⟩, ⟨by decide, by decide⟩, ⟨by decide, by decide⟩, ⟨by decide, by decide⟩, trivial⟩, by decide, by decide, by decide⟩
def zAge : List Nat := [97, 103, 101]
theorem zAge_ok : isw zAge ∧ 1 ≤ zAge.length ∧ zAge.length ≤ 8 ∧ zAge.map (fun c => c - 96) = Wage := ⟨by unfold zAge; exact ⟨⟨by decide, by decide⟩, ⟨by decide, by decide⟩, ⟨by decide, by decide⟩, trivial⟩, by decide, by decide, by decide⟩
def zDead : List Nat := [100, 101, 97, 100]
theorem zDead_ok : isw zDead ∧ 1 ≤ zDead.length ∧ zDead.length ≤ 8 ∧ zDead.map (fun c => c - 96) = Wdead := ⟨by unfold zDead; exact ⟨⟨by decide, by decide⟩, ⟨by decide, by decide⟩, ⟨by decide, by decide⟩, ⟨by decide, by decide⟩, trivial⟩, by decide, by decide, by decide⟩
def zSpouse : List Nat := [115, 112, 111, 117, 115, 101]
theorem zSpouse_ok : isw zSpouse ∧ 1 ≤ zSpouse.length ∧ zSpouse.length ≤ 8 ∧ zSpouse.map (fun c => c - 96) = Wspouse := ⟨by unfold zSpouse; exact ⟨⟨by decide, by decide⟩, ⟨by decide, by decide⟩, ⟨by decide, by decide⟩, ⟨by decide, by decide⟩, ⟨by decide, by decide⟩, ⟨by decide, by decide⟩, trivial⟩, by decide, by decide, by decide⟩
def zAsset : List Nat := [97, 115, 115, 101, 116]
theorem zAsset_ok : isw zAsset ∧ 1 ≤ zAsset.length ∧ zAsset.length ≤ 8 ∧ zAsset.map (fun c => c - 96) = Wasset := ⟨by unfold zAsset; exact ⟨⟨by decide, by decide⟩, ⟨by decide, by decide⟩, ⟨by decide, by decide⟩, ⟨by decide, by decide⟩, ⟨by decide, by decide⟩, trivial⟩, by decide, by decide, by decide⟩
def zCharge : List Nat := [99, 104, 97, 114, 103, 101]
theorem zCharge_ok : isw zCharge ∧ 1 ≤ zCharge.length ∧ zCharge.length ≤ 8 ∧ zCharge.map (fun c => c - 96) = Wcharge := ⟨by unfold zCharge; exact ⟨⟨by decide, by decide⟩, ⟨by decide, by decide⟩, ⟨by decide, by decide⟩, ⟨by decide, by decide⟩, ⟨by decide, by decide⟩, ⟨by decide, by decide⟩, trivial⟩, by decide, by decide, by decide⟩
def zDebt : List Nat := [100, 101, 98, 116]
theorem zDebt_ok : isw zDebt ∧ 1 ≤ zDebt.length ∧ zDebt.length ≤ 8 ∧ zDebt.map (fun c => c - 96) = Wdebt := ⟨by unfold zDebt; exact ⟨⟨by decide, by decide⟩, ⟨by decide, by decide⟩, ⟨by decide, by decide⟩, ⟨by decide, by decide⟩, trivial⟩, by decide, by decide, by decide⟩
def zGift : List Nat := [103, 105, 102, 116]
theorem zGift_ok : isw zGift ∧ 1 ≤ zGift.length ∧ zGift.length ≤ 8 ∧ zGift.map (fun c => c - 96) = Wgift := ⟨by unfold zGift; exact ⟨⟨by decide, by decide⟩, ⟨by decide, by decide⟩, ⟨by decide, by decide⟩, ⟨by decide, by decide⟩, trivial⟩, by decide, by decide, by decide⟩
def zLegacy : List Nat := [108, 101, 103, 97, 99, 121]
theorem zLegacy_ok : isw zLegacy ∧ 1 ≤ zLegacy.length ∧ zLegacy.length ≤ 8 ∧ zLegacy.map (fun c => c - 96) = Wlegacy := ⟨by unfold zLegacy; exact ⟨⟨by decide, by decide⟩, ⟨by decide, by decide⟩, ⟨by decide, by decide⟩, ⟨by decide, by decide⟩, ⟨by decide, by decide⟩, ⟨by decide, by decide⟩, trivial⟩, by decide, by decide, by decide⟩
def zShare : List Nat := [115, 104, 97, 114, 101]
theorem zShare_ok : isw zShare ∧ 1 ≤ zShare.length ∧ zShare.length ≤ 8 ∧ zShare.map (fun c => c - 96) = Wshare := ⟨by unfold zShare; exact ⟨⟨by decide, by decide⟩, ⟨by decide, by decide⟩, ⟨by decide, by decide⟩, ⟨by decide, by decide⟩, ⟨by decide, by decide⟩, trivial⟩, by decide, by decide, by decide⟩
def zLife : List Nat := [108, 105, 102, 101]
theorem zLife_ok : isw zLife ∧ 1 ≤ zLife.length ∧ zLife.length ≤ 8 ∧ zLife.map (fun c => c - 96) = Wlife := ⟨by unfold zLife; exact ⟨⟨by decide, by decide⟩, ⟨by decide, by decide⟩, ⟨by decide, by decide⟩, ⟨by decide, by decide⟩, trivial⟩, by decide, by decide, by decide⟩
def zAccrue : List Nat := [97, 99, 99, 114, 117, 101]
theorem zAccrue_ok : isw zAccrue ∧ 1 ≤ zAccrue.length ∧ zAccrue.length ≤ 8 ∧ zAccrue.map (fun c => c - 96) = Waccrue := ⟨by unfold zAccrue; exact ⟨⟨by decide, by decide⟩, ⟨by decide, by decide⟩, ⟨by decide, by decide⟩, ⟨by decide, by decide⟩, ⟨by decide, by decide⟩, ⟨by decide, by decide⟩, trivial⟩, by decide, by decide, by decide⟩
def zLine : List Nat := [108, 105, 110, 101]
theorem zLine_ok : isw zLine ∧ 1 ≤ zLine.length ∧ zLine.length ≤ 8 ∧ zLine.map (fun c => c - 96) = Wline := ⟨by unfold zLine; exact ⟨⟨by decide, by decide⟩, ⟨by decide, by decide⟩, ⟨by decide, by decide⟩, ⟨by decide, by decide⟩, trivial⟩, by decide, by decide, by decide⟩
def zOthers : List Nat := [111, 116, 104, 101, 114, 115]
theorem zOthers_ok : isw zOthers ∧ 1 ≤ zOthers.length ∧ zOthers.length ≤ 8 ∧ zOthers.map (fun c => c - 96) = Wothers := ⟨by unfold zOthers; exact ⟨⟨by decide, by decide⟩, ⟨by decide, by decide⟩, ⟨by decide, by decide⟩, ⟨by decide, by decide⟩, ⟨by decide, by decide⟩, ⟨by decide, by decide⟩, trivial⟩, by decide, by decide, by decide⟩
theorem one_w (p : Nat) : [97 + p].map (fun c => c - 96) = [p + 1] := by
  show [97 + p - 96] = [p + 1]
  rw [show 97 + p - 96 = p + 1 by omega]
theorem one_i {p : Nat} (h : p < 12) : isw [97 + p] := ⟨⟨by omega, by omega⟩, trivial⟩
/-- a known word at the very place, or behind a blank -/
theorem tok_kw {N : Nat} {X : Nat → Nat} {l m w : List Nat} {c j : Nat} (hl : isw l ∧ 1 ≤ l.length ∧ l.length ≤ 8 ∧ l.map (fun c => c - 96) = w) (hT : TA X j (l ++ c :: m)) (hN : j + (l ++ c :: m).length ≤ N) (hc : c = 32 ∨ c = 59) : WT (N, X) j (j + l.length) w ∧ TA X (j + l.length) (c :: m) ∧ j + l.length + (c :: m).length ≤ N := by
  obtain ⟨a1, a2, a3, rfl⟩ := hl
  exact tok_w hT hN hc a1 a2 a3
theorem tok_kb {N : Nat} {X : Nat → Nat} {l m w : List Nat} {c j : Nat} (hl : isw l ∧ 1 ≤ l.length ∧ l.length ≤ 8 ∧ l.map (fun c => c - 96) = w) (hT : TA X j (32 :: (l ++ c :: m))) (hN : j + (32 :: (l ++ c :: m)).length ≤ N) (hc : c = 32 ∨ c = 59) : WT (N, X) j (j + 1 + l.length) w ∧ TA X (j + 1 + l.length) (c :: m) ∧ j + 1 + l.length + (c :: m).length ≤ N := by
  obtain ⟨a1, a2, a3, rfl⟩ := hl
  exact tok_b hT hN hc a1 a2 a3
theorem tok_p {N : Nat} {X : Nat → Nat} {m : List Nat} {c j p : Nat} (hp : p < 12) (hT : TA X j (32 :: ([97 + p] ++ c :: m))) (hN : j + (32 :: ([97 + p] ++ c :: m)).length ≤ N) (hc : c = 32 ∨ c = 59) : WT (N, X) j (j + 2) [p + 1] ∧ TA X (j + 2) (c :: m) ∧ j + 2 + (c :: m).length ≤ N := by
  have h := tok_b hT hN hc (one_i hp) (Nat.le_refl 1) (by show 1 ≤ 8; decide)
  rw [one_w] at h
  exact h
/-! persons -/
def tU : Nat → List Nat
  | 0 => []
  | q + 1 => 32 :: (zUnder ++ 32 :: [97 + q])
def tK9 : Nat → List Nat
  | 0 => []
  | 1 => 32 :: zDead
  | _ => 32 :: zSpouse
def upK (k : Nat) (d : D) (p : Nat) : D := if k = 0 then d else if k = 1 then up d 3 p 1 else up d 0 5 (p + 1)
/-- behind the names: age, what it is, the end -/
def tA9 (a k : Nat) : List Nat := 32 :: (zAge ++ 32 :: (digs a ++ (tK9 k ++ [59])))
def nP (p par a k : Nat) : List Nat := zPerson ++ 32 :: ([97 + p] ++ (tU par ++ tA9 a k))
theorem pst_t {N : Nat} {X : Nat → Nat} {j par p k : Nat} {d : D} {u : Nat → List Nat} {o : Nat → Bool} (hT : TA X j (tK9 k ++ [59])) (hN : j + (tK9 k ++ [59]).length ≤ N) (hk : k ≤ 2) (hs : k = 2 → par = 0 ∧ d 0 5 = 0) : ∃ e, pst3 (N, X) j par p d u o = (0, e, upK k d p, u, o) ∧ ZT (N, X) e (j + (tK9 k ++ [59]).length) := by
  rcases (show k = 0 ∨ k = 1 ∨ k = 2 by omega) with rfl | rfl | rfl
  · have h := tok_c hT hN
    refine ⟨j, ?_, h⟩
    unfold pst3
    rw [if_neg (iw_c h), if_neg (fun z => iw_c h z.1)]
    rfl
  · obtain ⟨w1, t1, n1⟩ := tok_kb zDead_ok hT hN (Or.inr rfl)
    have h := tok_c t1 n1
    refine ⟨_, ?_, h⟩
    unfold pst3
    rw [if_pos (iw_t w1), w1.2.1]
    rfl
  · obtain ⟨w1, t1, n1⟩ := tok_kb zSpouse_ok hT hN (Or.inr rfl)
    have h := tok_c t1 n1
    refine ⟨_, ?_, h⟩
    unfold pst3
    rw [if_neg (iw_f w1 (by decide)), if_pos ⟨iw_t w1, (hs rfl).1⟩, if_pos (hs rfl).2, w1.2.1]
    rfl
theorem age_t {N : Nat} {X : Nat → Nat} {j a k par p : Nat} {d : D} {u : Nat → List Nat} {o : Nat → Bool} (ha : a ≤ 120) (hT : TA X j (tA9 a k)) (hN : j + (tA9 a k).length ≤ N) (hk : k ≤ 2) (hs : k = 2 → par = 0 ∧ d 0 5 = 0) : ¬ iw (N, X) j Wunder = true ∧ ∃ j2, agr (N, X) j = (0, j2, a) ∧ ∃ e, pst3 (N, X) j2 par p d u o = (0, e, upK k d p, u, o) ∧ ZT (N, X) e (j + (tA9 a k).length) := by
  obtain ⟨c, m, hcm, hc⟩ : ∃ c m, tK9 k ++ [59] = c :: m ∧ (c = 32 ∨ c = 59) := by
    rcases (show k = 0 ∨ k = 1 ∨ k = 2 by omega) with rfl | rfl | rfl
    · exact ⟨59, [], rfl, Or.inr rfl⟩
    · exact ⟨32, _, rfl, Or.inl rfl⟩
    · exact ⟨32, _, rfl, Or.inl rfl⟩
  have hlen : (tA9 a k).length = 1 + (zAge.length + (1 + ((digs a).length + (tK9 k ++ [59]).length))) := by
    unfold tA9
    rw [List.length_cons, List.length_append, List.length_cons, List.length_append]
    omega
  obtain ⟨w1, t1, n1⟩ := tok_kb zAge_ok (c := 32) (m := digs a ++ (tK9 k ++ [59])) hT hN (Or.inl rfl)
  rw [hcm] at t1 n1
  obtain ⟨w2, t2, n2⟩ := tok_n (by omega) t1 n1 hc
  rw [← hcm] at t2 n2
  refine ⟨iw_f w1 (by decide), j + 1 + zAge.length + 1 + (digs a).length, ?_, ?_⟩
  · unfold agr
    rw [if_pos (iw_t w1), w1.2.1, nu_t w2 (Nat.zero_le _) ha]
  · obtain ⟨e, h1, h2⟩ := pst_t (par := par) (p := p) (d := d) (u := u) (o := o) t2 n2 hk hs
    refine ⟨e, h1, ?_⟩
    rw [hlen]
    have e9 : j + (1 + (zAge.length + (1 + ((digs a).length + (tK9 k ++ [59]).length)))) = j + 1 + zAge.length + 1 + (digs a).length + (tK9 k ++ [59]).length := by omega
    rw [e9]
    exact h2
theorem SP_per {n p par a k : Nat} {d : D} {u : Nat → List Nat} {o : Nat → Bool} (h0 : d 0 0 = p) (hp : p < 12) (hu : ∀ i, i < p → u i = [i + 1]) (hq : par ≤ p) (h5 : par ≠ 0 → par ≠ d 0 5) (ha : a ≤ 120) (hk : k ≤ 2) (hs : k = 2 → par = 0 ∧ d 0 5 = 0) : SP n (nP p par a k) d u o (upK k (upP d par a) p) (aup u p [p + 1]) o := by
  intro N X hT hN
  have e5 : (upP d par a) 0 5 = d 0 5 := rfl
  have hc : ∃ m, tU par ++ tA9 a k = 32 :: m := by
    cases par with
    | zero => exact ⟨_, rfl⟩
    | succ q => exact ⟨_, rfl⟩
  obtain ⟨m, hm⟩ := hc
  have hlen : (nP p par a k).length = 6 + (1 + (1 + ((tU par).length + (tA9 a k).length))) := by
    unfold nP
    rw [List.length_append, List.length_cons, List.length_append, List.length_append]
    show 6 + _ = _
    rw [List.length_singleton]
    omega
  obtain ⟨w1, t1, n1⟩ := tok_kw zPerson_ok (c := 32) (m := [97 + p] ++ (tU par ++ tA9 a k)) hT hN (Or.inl rfl)
  rw [hm] at t1 n1
  obtain ⟨w2, t2, n2⟩ := tok_p hp t1 n1 (Or.inl rfl)
  rw [← hm] at t2 n2
  have hun : ∃ ju, unr (N, X) (n + zPerson.length + 2) d u = (0, ju, par) ∧ TA X ju (tA9 a k) ∧ ju = n + zPerson.length + 2 + (tU par).length ∧ ju + (tA9 a k).length ≤ N := by
    cases par with
    | zero =>
      obtain ⟨g1, -⟩ := age_t (par := 0) (p := p) (d := upP d 0 a) (u := u) (o := o) ha t2 n2 hk hs
      exact ⟨_, if_neg g1, t2, rfl, n2⟩
    | succ q =>
      obtain ⟨w3, t3, n3⟩ := tok_kb zUnder_ok (c := 32) (m := [97 + q] ++ tA9 a k) t2 n2 (Or.inl rfl)
      obtain ⟨w4, t4, n4⟩ := tok_p (by omega) t3 n3 (Or.inl rfl)
      refine ⟨_, ?_, t4, ?_, n4⟩
      · unfold unr
        rw [if_pos (iw_t w3), w3.2.1]
        refine kp_t w4 ?_ (Nat.succ_ne_zero q) (h5 (Nat.succ_ne_zero q))
        rw [h0, nmd_1 hu, if_pos (by omega)]
      · show n + zPerson.length + 2 + 1 + 5 + 2 = n + zPerson.length + 2 + (1 + (5 + (1 + 1)))
        omega
  obtain ⟨ju, g1, g2, g3, g4⟩ := hun
  obtain ⟨-, j2, a1, e, a2, a3⟩ := age_t (par := par) (p := p) (d := upP d par a) (u := aup u p [p + 1]) (o := o) ha g2 g4 hk hs
  refine ⟨by rw [w1.1]; decide, ?_⟩
  have hst : stm (N, X) (n, d, u, o) = (0, e, upK k (upP d par a) p, aup u p [p + 1], o) := by
    unfold stm
    rw [if_pos (iw_t w1)]
    unfold sPer
    show (if 12 ≤ d 0 0 then _ else if tK (N, X) (tE (N, X) n) ≠ 1 then _ else if nmd u (d 0 0) (wl (N, X) (tE (N, X) n)) ≠ 0 then _ else pst2 (N, X) (tE (N, X) (tE (N, X) n)) (wl (N, X) (tE (N, X) n)) d u o) = _
    rw [if_neg (by omega), w1.2.1, if_neg (by rw [w2.1]; decide), w2.2.2, h0, if_neg (by rw [nmd_1 hu, if_neg (Nat.lt_irrefl p)]; decide), w2.2.1]
    unfold pst2
    rw [g1]
    show (if (0 : Nat) ≠ 0 then _ else if (agr (N, X) ju).1 ≠ 0 then _ else pst3 (N, X) (agr (N, X) ju).2.1 par (d 0 0) (upP d par (agr (N, X) ju).2.2) (aup u (d 0 0) [p + 1]) o) = _
    rw [if_neg (by decide), a1]
    show (if (0 : Nat) ≠ 0 then _ else pst3 (N, X) j2 par (d 0 0) (upP d par a) (aup u (d 0 0) [p + 1]) o) = _
    rw [if_neg (by decide), h0]
    exact a2
  have h9 := sm1_t hst a3
  rw [h9, hlen, g3]
  show (0, n + 6 + 2 + (tU par).length + (tA9 a k).length, _) = _
  rw [show n + 6 + 2 + (tU par).length + (tA9 a k).length = n + (6 + (1 + (1 + ((tU par).length + (tA9 a k).length)))) by omega]
/-! the others -/
def tC : Nat → List Nat
  | 0 => []
  | k + 1 => 32 :: (zCharge ++ 32 :: digs (k + 1))
def nA (v k : Nat) : List Nat := zAsset ++ 32 :: (digs v ++ (tC k ++ [59]))
theorem chr_t {N : Nat} {X : Nat → Nat} {j k : Nat} (hT : TA X j (tC k ++ [59])) (hN : j + (tC k ++ [59]).length ≤ N) (hk : k ≤ 100) : ∃ e, chr (N, X) j = (0, e, k) ∧ ZT (N, X) e (j + (tC k ++ [59]).length) := by
  cases k with
  | zero =>
    have h := tok_c hT hN
    exact ⟨j, if_neg (iw_c h), h⟩
  | succ k =>
    obtain ⟨w1, t1, n1⟩ := tok_kb zCharge_ok (c := 32) (m := digs (k + 1) ++ [59]) hT hN (Or.inl rfl)
    obtain ⟨w2, t2, n2⟩ := tok_n (by omega) t1 n1 (Or.inr rfl)
    have h := tok_c t2 n2
    refine ⟨j + 1 + zCharge.length + 1 + (digs (k + 1)).length, ?_, ?_⟩
    · unfold chr
      rw [if_pos (iw_t w1), w1.2.1]
      exact nu_t w2 (Nat.zero_le _) hk
    · have e1 : (tC (k + 1) ++ [59]).length = 1 + 6 + 1 + (digs (k + 1)).length + 1 := by
        show (32 :: (zCharge ++ 32 :: digs (k + 1)) ++ [59]).length = _
        rw [List.length_append, List.length_cons, List.length_append, List.length_cons]
        show 6 + _ + 1 + 1 = _
        omega
      rw [e1, show j + (1 + 6 + 1 + (digs (k + 1)).length + 1) = j + 1 + zCharge.length + 1 + (digs (k + 1)).length + 1 by show _ = j + 1 + 6 + 1 + (digs (k + 1)).length + 1; omega]
      exact h
theorem SP_ass {n v k : Nat} {d : D} {u : Nat → List Nat} {o : Nat → Bool} (h1 : d 0 1 < 8) (hv : v < 10000) (hk : k ≤ 100) : SP n (nA v k) d u o (up3 d 5 6 1 v k) u o := by
  intro N X hT hN
  obtain ⟨c, m, hcm, hc⟩ : ∃ c m, tC k ++ [59] = c :: m ∧ (c = 32 ∨ c = 59) := by
    cases k with
    | zero => exact ⟨59, [], rfl, Or.inr rfl⟩
    | succ k => exact ⟨32, _, rfl, Or.inl rfl⟩
  obtain ⟨w1, t1, n1⟩ := tok_kw zAsset_ok (c := 32) (m := digs v ++ (tC k ++ [59])) hT hN (Or.inl rfl)
  rw [hcm] at t1 n1
  obtain ⟨w2, t2, n2⟩ := tok_n hv t1 n1 hc
  rw [← hcm] at t2 n2
  obtain ⟨e, h3, h4⟩ := chr_t t2 n2 hk
  refine ⟨by rw [w1.1]; decide, ?_⟩
  have hst : stm (N, X) (n, d, u, o) = (0, e, up3 d 5 6 1 v k, u, o) := by
    unfold stm
    rw [if_neg (iw_f w1 (by decide)), if_pos (iw_t w1)]
    unfold sAss
    show (if 8 ≤ d 0 1 then _ else if (nu (N, X) (tE (N, X) n) 0 9999999).1 ≠ 0 then _ else if (chr (N, X) (nu (N, X) (tE (N, X) n) 0 9999999).2.1).1 ≠ 0 then _ else (0, (chr (N, X) (nu (N, X) (tE (N, X) n) 0 9999999).2.1).2.1, up3 d 5 6 1 (nu (N, X) (tE (N, X) n) 0 9999999).2.2 (chr (N, X) (nu (N, X) (tE (N, X) n) 0 9999999).2.1).2.2, u, o)) = _
    rw [if_neg (by omega), w1.2.1, nu_t w2 (Nat.zero_le _) (by omega), if_neg (by show ¬ ((0 : Nat) ≠ 0); decide)]
    show (if (chr (N, X) (n + zAsset.length + 1 + (digs v).length)).1 ≠ 0 then _ else (0, (chr (N, X) (n + zAsset.length + 1 + (digs v).length)).2.1, up3 d 5 6 1 v (chr (N, X) (n + zAsset.length + 1 + (digs v).length)).2.2, u, o)) = _
    rw [h3, if_neg (by show ¬ ((0 : Nat) ≠ 0); decide)]
  have h9 := sm1_t hst h4
  have hlen : (nA v k).length = zAsset.length + 1 + (digs v).length + (tC k ++ [59]).length := by
    unfold nA
    rw [List.length_append, List.length_cons, List.length_append]
    omega
  have e9 : n + (zAsset.length + 1 + (digs v).length + (tC k ++ [59]).length) = n + zAsset.length + 1 + (digs v).length + (tC k ++ [59]).length := by omega
  rw [h9, hlen, e9]
theorem two_t {x : TX} {s : PS} {j v w e m : Nat} {f : Nat → Nat → D} {o : Nat → Bool} (h : NT x j e w) (hw : w ≤ m) : two x s (0, j, v) m f o = (0, e, f v w, s.2.2.1, o) := by
  unfold two
  show (if (0 : Nat) ≠ 0 then _ else if (nu x j 0 m).1 ≠ 0 then _ else (0, (nu x j 0 m).2.1, f v (nu x j 0 m).2.2, s.2.2.1, o)) = _
  rw [if_neg (by decide), nu_t h (Nat.zero_le _) hw, if_neg (by show ¬ ((0 : Nat) ≠ 0); decide)]
def nN (z : List Nat) (v w : Nat) : List Nat := z ++ 32 :: (digs v ++ 32 :: (digs w ++ [59]))
def nQ (z : List Nat) (p w : Nat) : List Nat := z ++ 32 :: ([97 + p] ++ 32 :: (digs w ++ [59]))
theorem nN_len (z : List Nat) (v w : Nat) : (nN z v w).length = z.length + 1 + (digs v).length + 1 + (digs w).length + 1 := by
  simp only [nN, List.length_append, List.length_cons, List.length_nil]
  omega
theorem nQ_len (z : List Nat) (p w : Nat) : (nQ z p w).length = z.length + 2 + 1 + (digs w).length + 1 := by
  simp only [nQ, List.length_append, List.length_cons, List.length_nil]
  omega
theorem SP_deb {n v w : Nat} {d : D} {u : Nat → List Nat} {o : Nat → Bool} (h1 : d 0 2 < 8) (hv1 : 1 ≤ v) (hv2 : v ≤ 5) (hw : w < 10000) : SP n (nN zDebt v w) d u o (up3 d 7 8 2 v w) u (o) := by
  intro N X hT hN
  obtain ⟨w1, t1, n1⟩ := tok_kw zDebt_ok (c := 32) (m := digs v ++ 32 :: (digs w ++ [59])) hT hN (Or.inl rfl)
  obtain ⟨w2, t2, n2⟩ := tok_n (by omega) t1 n1 (Or.inl rfl)
  obtain ⟨w3, t3, n3⟩ := tok_n hw t2 n2 (Or.inr rfl)
  have h4 := tok_c t3 n3
  refine ⟨by rw [w1.1]; decide, ?_⟩
  have hst : stm (N, X) (n, d, u, o) = (0, n + zDebt.length + 1 + (digs v).length + 1 + (digs w).length, up3 d 7 8 2 v w, u, o) := by
    unfold stm
    rw [if_neg (iw_f w1 (by decide)), if_neg (iw_f w1 (by decide)), if_pos (iw_t w1)]
    unfold sDeb
    show (if 8 ≤ d 0 2 then _ else two (N, X) (n, d, u, o) (nu (N, X) (tE (N, X) n) 1 5) 9999999 (fun v w => up3 d 7 8 2 v w) o) = _
    rw [if_neg (by omega), w1.2.1, nu_t w2 hv1 hv2]
    exact two_t w3 (by omega)
  have h9 := sm1_t hst h4
  rw [h9, nN_len]
  show (0, n + zDebt.length + 1 + (digs v).length + 1 + (digs w).length + 1, _) = _
  rw [show n + zDebt.length + 1 + (digs v).length + 1 + (digs w).length + 1 = n + (zDebt.length + 1 + (digs v).length + 1 + (digs w).length + 1) by omega]
theorem SP_gif {n p w : Nat} {d : D} {u : Nat → List Nat} {o : Nat → Bool} (h1 : d 0 3 < 8) (hp : p < 12) (h0 : p < d 0 0) (hu : ∀ i, i < d 0 0 → u i = [i + 1]) (hw : w < 10000) : SP n (nQ zGift p w) d u o (up3 d 9 10 3 p w) u (o) := by
  intro N X hT hN
  obtain ⟨w1, t1, n1⟩ := tok_kw zGift_ok (c := 32) (m := [97 + p] ++ 32 :: (digs w ++ [59])) hT hN (Or.inl rfl)
  obtain ⟨w2, t2, n2⟩ := tok_p hp t1 n1 (Or.inl rfl)
  obtain ⟨w3, t3, n3⟩ := tok_n hw t2 n2 (Or.inr rfl)
  have h4 := tok_c t3 n3
  refine ⟨by rw [w1.1]; decide, ?_⟩
  have hst : stm (N, X) (n, d, u, o) = (0, n + zGift.length + 2 + 1 + (digs w).length, up3 d 9 10 3 p w, u, o) := by
    unfold stm
    rw [if_neg (iw_f w1 (by decide)), if_neg (iw_f w1 (by decide)), if_neg (iw_f w1 (by decide)), if_pos (iw_t w1)]
    unfold sGif
    show (if 8 ≤ d 0 3 then _ else two (N, X) (n, d, u, o) (kp (N, X) (tE (N, X) n) (d 0 0) u 0) 9999999 (fun v w => up3 d 9 10 3 (v - 1) w) o) = _
    rw [if_neg (by omega), w1.2.1, kp_t w2 (by rw [nmd_1 hu, if_pos h0]) (Nat.succ_ne_zero p) (Nat.succ_ne_zero p)]
    exact two_t w3 (by omega)
  have h9 := sm1_t hst h4
  rw [h9, nQ_len]
  show (0, n + zGift.length + 2 + 1 + (digs w).length + 1, _) = _
  rw [show n + zGift.length + 2 + 1 + (digs w).length + 1 = n + (zGift.length + 2 + 1 + (digs w).length + 1) by omega]
theorem SP_leg {n p w : Nat} {d : D} {u : Nat → List Nat} {o : Nat → Bool} (h1 : d 0 4 < 8) (hp : p < 12) (h0 : p < d 0 0) (hu : ∀ i, i < d 0 0 → u i = [i + 1]) (hw : w < 10000) : SP n (nQ zLegacy p w) d u o (up3 d 11 12 4 p w) u (o) := by
  intro N X hT hN
  obtain ⟨w1, t1, n1⟩ := tok_kw zLegacy_ok (c := 32) (m := [97 + p] ++ 32 :: (digs w ++ [59])) hT hN (Or.inl rfl)
  obtain ⟨w2, t2, n2⟩ := tok_p hp t1 n1 (Or.inl rfl)
  obtain ⟨w3, t3, n3⟩ := tok_n hw t2 n2 (Or.inr rfl)
  have h4 := tok_c t3 n3
  refine ⟨by rw [w1.1]; decide, ?_⟩
  have hst : stm (N, X) (n, d, u, o) = (0, n + zLegacy.length + 2 + 1 + (digs w).length, up3 d 11 12 4 p w, u, o) := by
    unfold stm
    rw [if_neg (iw_f w1 (by decide)), if_neg (iw_f w1 (by decide)), if_neg (iw_f w1 (by decide)), if_neg (iw_f w1 (by decide)), if_pos (iw_t w1)]
    unfold sLeg
    show (if 8 ≤ d 0 4 then _ else two (N, X) (n, d, u, o) (kp (N, X) (tE (N, X) n) (d 0 0) u 0) 9999999 (fun v w => up3 d 11 12 4 (v - 1) w) o) = _
    rw [if_neg (by omega), w1.2.1, kp_t w2 (by rw [nmd_1 hu, if_pos h0]) (Nat.succ_ne_zero p) (Nat.succ_ne_zero p)]
    exact two_t w3 (by omega)
  have h9 := sm1_t hst h4
  rw [h9, nQ_len]
  show (0, n + zLegacy.length + 2 + 1 + (digs w).length + 1, _) = _
  rw [show n + zLegacy.length + 2 + 1 + (digs w).length + 1 = n + (zLegacy.length + 2 + 1 + (digs w).length + 1) by omega]
theorem SP_sha {n v w : Nat} {d : D} {u : Nat → List Nat} {o : Nat → Bool} (h1 : o 0 = false) (hv1 : 1 ≤ v) (hv2 : v ≤ 99) (hvw : w ≤ v) (hw : w < 10000) : SP n (nN zShare v w) d u o (up (up d 0 7 v) 0 6 w) u (aup o 0 true) := by
  intro N X hT hN
  obtain ⟨w1, t1, n1⟩ := tok_kw zShare_ok (c := 32) (m := digs v ++ 32 :: (digs w ++ [59])) hT hN (Or.inl rfl)
  obtain ⟨w2, t2, n2⟩ := tok_n (by omega) t1 n1 (Or.inl rfl)
  obtain ⟨w3, t3, n3⟩ := tok_n hw t2 n2 (Or.inr rfl)
  have h4 := tok_c t3 n3
  refine ⟨by rw [w1.1]; decide, ?_⟩
  have hst : stm (N, X) (n, d, u, o) = (0, n + zShare.length + 1 + (digs v).length + 1 + (digs w).length, up (up d 0 7 v) 0 6 w, u, aup o 0 true) := by
    unfold stm
    rw [if_neg (iw_f w1 (by decide)), if_neg (iw_f w1 (by decide)), if_neg (iw_f w1 (by decide)), if_neg (iw_f w1 (by decide)), if_neg (iw_f w1 (by decide)), if_pos (iw_t w1)]
    unfold sSha
    show (if o 0 = true then _ else two (N, X) (n, d, u, o) (nu (N, X) (tE (N, X) n) 1 99) (nu (N, X) (tE (N, X) n) 1 99).2.2 (fun v w => up (up d 0 7 v) 0 6 w) (aup o 0 true)) = _
    rw [if_neg (by rw [h1]; decide), w1.2.1, nu_t w2 hv1 hv2]
    exact two_t w3 hvw
  have h9 := sm1_t hst h4
  rw [h9, nN_len]
  show (0, n + zShare.length + 1 + (digs v).length + 1 + (digs w).length + 1, _) = _
  rw [show n + zShare.length + 1 + (digs v).length + 1 + (digs w).length + 1 = n + (zShare.length + 1 + (digs v).length + 1 + (digs w).length + 1) by omega]
def nF (v : Nat) : List Nat := zLife ++ 32 :: (digs v ++ [59])
theorem SP_lif {n v : Nat} {d : D} {u : Nat → List Nat} {o : Nat → Bool} (h1 : o 1 = false) (hv : v ≤ 100) : SP n (nF v) d u o (up d 0 8 v) u (aup o 1 true) := by
  intro N X hT hN
  obtain ⟨w1, t1, n1⟩ := tok_kw zLife_ok (c := 32) (m := digs v ++ [59]) hT hN (Or.inl rfl)
  obtain ⟨w2, t2, n2⟩ := tok_n (by omega) t1 n1 (Or.inr rfl)
  have h4 := tok_c t2 n2
  refine ⟨by rw [w1.1]; decide, ?_⟩
  have hst : stm (N, X) (n, d, u, o) = (0, n + zLife.length + 1 + (digs v).length, up d 0 8 v, u, aup o 1 true) := by
    unfold stm
    rw [if_neg (iw_f w1 (by decide)), if_neg (iw_f w1 (by decide)), if_neg (iw_f w1 (by decide)), if_neg (iw_f w1 (by decide)), if_neg (iw_f w1 (by decide)), if_neg (iw_f w1 (by decide)), if_pos (iw_t w1)]
    unfold sLif
    show (if o 1 = true then _ else if (nu (N, X) (tE (N, X) n) 0 100).1 ≠ 0 then _ else (0, (nu (N, X) (tE (N, X) n) 0 100).2.1, up d 0 8 (nu (N, X) (tE (N, X) n) 0 100).2.2, u, aup o 1 true)) = _
    rw [if_neg (by rw [h1]; decide), w1.2.1, nu_t w2 (Nat.zero_le _) hv, if_neg (by show ¬ ((0 : Nat) ≠ 0); decide)]
  have h9 := sm1_t hst h4
  have hlen : (nF v).length = zLife.length + 1 + (digs v).length + 1 := by
    unfold nF
    rw [List.length_append, List.length_cons, List.length_append]
    show _ + (_ + 1 + 1) = _
    omega
  rw [h9, hlen]
  show (0, n + zLife.length + 1 + (digs v).length + 1, _) = _
  rw [show n + zLife.length + 1 + (digs v).length + 1 = n + (zLife.length + 1 + (digs v).length + 1) by omega]
def zB (b : Bool) : List Nat := cond b zLine zOthers
def nC (b : Bool) : List Nat := zAccrue ++ 32 :: (zB b ++ [59])
theorem SP_acc {n : Nat} {b : Bool} {d : D} {u : Nat → List Nat} {o : Nat → Bool} (h1 : o 2 = false) : SP n (nC b) d u o (up d 0 9 (tb b)) u (aup o 2 true) := by
  intro N X hT hN
  obtain ⟨w1, t1, n1⟩ := tok_kw zAccrue_ok (c := 32) (m := zB b ++ [59]) hT hN (Or.inl rfl)
  refine ⟨by rw [w1.1]; decide, ?_⟩
  cases b
  · obtain ⟨w2, t2, n2⟩ := tok_kb zOthers_ok t1 n1 (Or.inr rfl)
    have h4 := tok_c t2 n2
    have hst : stm (N, X) (n, d, u, o) = (0, n + zAccrue.length + 1 + zOthers.length, up d 0 9 0, u, aup o 2 true) := by
      unfold stm
      rw [if_neg (iw_f w1 (by decide)), if_neg (iw_f w1 (by decide)), if_neg (iw_f w1 (by decide)), if_neg (iw_f w1 (by decide)), if_neg (iw_f w1 (by decide)), if_neg (iw_f w1 (by decide)), if_neg (iw_f w1 (by decide)), if_pos (iw_t w1)]
      unfold sAcc
      show (if o 2 = true then _ else if iw (N, X) (tE (N, X) n) Wline = true then _ else if iw (N, X) (tE (N, X) n) Wothers = true then (0, tE (N, X) (tE (N, X) n), up d 0 9 0, u, aup o 2 true) else _) = _
      rw [if_neg (by rw [h1]; decide), w1.2.1, if_neg (iw_f w2 (by decide)), if_pos (iw_t w2), w2.2.1]
    exact sm1_t hst h4
  · obtain ⟨w2, t2, n2⟩ := tok_kb zLine_ok t1 n1 (Or.inr rfl)
    have h4 := tok_c t2 n2
    have hst : stm (N, X) (n, d, u, o) = (0, n + zAccrue.length + 1 + zLine.length, up d 0 9 1, u, aup o 2 true) := by
      unfold stm
      rw [if_neg (iw_f w1 (by decide)), if_neg (iw_f w1 (by decide)), if_neg (iw_f w1 (by decide)), if_neg (iw_f w1 (by decide)), if_neg (iw_f w1 (by decide)), if_neg (iw_f w1 (by decide)), if_neg (iw_f w1 (by decide)), if_pos (iw_t w1)]
      unfold sAcc
      show (if o 2 = true then _ else if iw (N, X) (tE (N, X) n) Wline = true then (0, tE (N, X) (tE (N, X) n), up d 0 9 1, u, aup o 2 true) else _) = _
      rw [if_neg (by rw [h1]; decide), w1.2.1, if_pos (iw_t w2), w2.2.1]
    exact sm1_t hst h4
