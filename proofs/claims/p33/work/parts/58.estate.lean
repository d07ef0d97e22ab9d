/-! The law's own estate. -/
def RQ (X : Nat → Prop) (S : AS) (lo q m : Nat) (A B : Nat → Nat) : Prop := ∃ (W : Nat → Value) (pl : Nat → Nat), S.1 q = oQ m W ∧ (lo ≤ q ∧ q < S.2.1 ∧ ¬ X q) ∧ ∀ k, k < m → W k = .ref (pl k) ∧ (lo ≤ pl k ∧ pl k < S.2.1 ∧ ¬ X (pl k)) ∧ ∃ f, S.1 (pl k) = oI0 0 2 f ∧ f 0 = nI (A k) ∧ f 1 = nI (B k)
/-- the object's numbers and places -/
def EV (V : Nat → Value) (d : D) (e qa qd qg ql : Nat) : Prop := (V 0 = .int (nI (d 0 0)) ∧ V 1 = .int (oI (d 0 5)) ∧ V 2 = .int (nI (d 0 7)) ∧ V 3 = .int (nI (d 0 6)) ∧ V 4 = .int (nI (d 0 8)) ∧ V 5 = .int (nI (d 0 9))) ∧ (V 6 = .ref (e + 1) ∧ V 7 = .ref (e + 2) ∧ V 8 = .ref (e + 3) ∧ V 9 = .ref (e + 4)) ∧ (V 10 = .ref qa ∧ V 11 = .ref qd ∧ V 12 = .ref qg ∧ V 13 = .ref ql)
/-- the rows of persons -/
def EP (S : AS) (d : D) (e : Nat) : Prop := ∃ f1 f2 f3 f4, (S.1 (e + 1) = oI0 0 12 f1 ∧ ∀ p, p < d 0 0 → f1 p = oI (d 1 p)) ∧ (S.1 (e + 2) = oI0 0 12 f2 ∧ ∀ p, p < d 0 0 → f2 p = nI (d 2 p)) ∧ (S.1 (e + 3) = oI0 2 12 f3 ∧ ∀ p, p < d 0 0 → f3 p = nI (d 3 p)) ∧ (S.1 (e + 4) = oI0 2 12 f4 ∧ ∀ p, p < d 0 0 → f4 p = nI (d 4 p))
/-- the rows of assets: each at a place of its own -/
def EA (X : Nat → Prop) (S : AS) (lo hi q m : Nat) (A B : Nat → Nat) : Prop := ∃ (W : Nat → Value) (pl : Nat → Nat), S.1 q = oQ m W ∧ (lo ≤ q ∧ q < S.2.1 ∧ ¬ X q) ∧ (∀ k, k < m → W k = .ref (pl k) ∧ (q < pl k ∧ pl k < hi ∧ pl k < S.2.1 ∧ ¬ X (pl k)) ∧ ∃ f, S.1 (pl k) = oI0 0 2 f ∧ f 0 = nI (A k) ∧ f 1 = nI (B k)) ∧ ∀ k l, k < m → l < m → pl k = pl l → k = l
def gsum (m : Nat) (A B : Nat → Nat) (p : Nat) : Nat := sm (fun g => if A g = p then B g else 0) m
/-- the rows of gifts: what they make for each person -/
def EGf (X : Nat → Prop) (S : AS) (lo q : Nat) (G : Nat → Nat) : Prop := ∃ (m : Nat) (A B : Nat → Nat), RQ X S lo q m A B ∧ m ≤ 9 ∧ (∀ k, k < m → A k < 12 ∧ B k ≤ 9999999) ∧ ∀ p, gsum m A B p = G p
def ES (X : Nat → Prop) (S : AS) (e : Nat) (d : D) (G : Nat → Nat) : Prop := ∃ (V : Nat → Value) (qa qd qg ql hi : Nat), (S.1 e = oO 10 V ∧ EV V d e qa qd qg ql) ∧ EP S d e ∧ (53 ≤ e ∧ e + 9 ≤ S.2.1 ∧ ¬ X e ∧ ∀ i, e ≤ i → i < e + 9 → ¬ X i) ∧ e + 9 ≤ hi ∧ EA X S (e + 9) hi qa (d 0 1) (d 5) (d 6) ∧ RQ X S hi qd (d 0 2) (d 7) (d 8) ∧ EGf X S hi qg G ∧ RQ X S hi ql (d 0 4) (d 11) (d 12)
theorem RQ.fr {X Y : Nat → Prop} {S S' : AS} {lo q m : Nat} {A B : Nat → Nat} (h : RQ X S lo q m A B) (hz : S.2.1 ≤ S'.2.1) (hk : ∀ i, lo ≤ i → i < S.2.1 → ¬ X i → S'.1 i = S.1 i ∧ ¬ Y i) : RQ Y S' lo q m A B := by
  obtain ⟨W, pl, h1, ⟨a1, a2, a3⟩, h2⟩ := h
  refine ⟨W, pl, (hk q a1 a2 a3).1.trans h1, ⟨a1, by omega, (hk q a1 a2 a3).2⟩, fun k hkm => ?_⟩
  obtain ⟨b1, ⟨b2, b3, b4⟩, f, c1, c2⟩ := h2 k hkm
  exact ⟨b1, ⟨b2, by omega, (hk _ b2 b3 b4).2⟩, f, (hk _ b2 b3 b4).1.trans c1, c2⟩
theorem EGf.fr {X Y : Nat → Prop} {S S' : AS} {lo q : Nat} {G : Nat → Nat} (h : EGf X S lo q G) (hz : S.2.1 ≤ S'.2.1) (hk : ∀ i, lo ≤ i → i < S.2.1 → ¬ X i → S'.1 i = S.1 i ∧ ¬ Y i) : EGf Y S' lo q G := by
  obtain ⟨m, A, B, h1, h2⟩ := h
  exact ⟨m, A, B, h1.fr hz hk, h2⟩
theorem EA.fr {X Y : Nat → Prop} {S S' : AS} {lo hi q m : Nat} {A B : Nat → Nat} (h : EA X S lo hi q m A B) (hz : S.2.1 ≤ S'.2.1) (hk : ∀ i, lo ≤ i → i < S.2.1 → ¬ X i → S'.1 i = S.1 i ∧ ¬ Y i) : EA Y S' lo hi q m A B := by
  obtain ⟨W, pl, h1, ⟨a1, a2, a3⟩, h2, h3⟩ := h
  refine ⟨W, pl, (hk q a1 a2 a3).1.trans h1, ⟨a1, by omega, (hk q a1 a2 a3).2⟩, fun k hkm => ?_, h3⟩
  obtain ⟨b1, ⟨b2, b5, b3, b4⟩, f, c1, c2⟩ := h2 k hkm
  have b6 : lo ≤ pl k := by omega
  exact ⟨b1, ⟨b2, b5, by omega, (hk _ b6 b3 b4).2⟩, f, (hk _ b6 b3 b4).1.trans c1, c2⟩
theorem EP.fr {S S' : AS} {d : D} {e : Nat} (h : EP S d e) (hk : ∀ i, e < i → i < e + 5 → S'.1 i = S.1 i) : EP S' d e := by
  obtain ⟨f1, f2, f3, f4, ⟨a1, b1⟩, ⟨a2, b2⟩, ⟨a3, b3⟩, ⟨a4, b4⟩⟩ := h
  exact ⟨f1, f2, f3, f4, ⟨(hk _ (by omega) (by omega)).trans a1, b1⟩, ⟨(hk _ (by omega) (by omega)).trans a2, b2⟩, ⟨(hk _ (by omega) (by omega)).trans a3, b3⟩, ⟨(hk _ (by omega) (by omega)).trans a4, b4⟩⟩
/-- what stands stays: the object may alter behind its first fourteen fields -/
theorem ES.fr {X Y : Nat → Prop} {S S' : AS} {e : Nat} {d : D} {G : Nat → Nat} (h : ES X S e d G) (hz : S.2.1 ≤ S'.2.1) (hO : ∀ V, S.1 e = oO 10 V → ∃ V', S'.1 e = oO 10 V' ∧ ∀ k, k < 14 → V' k = V k) (hY : ¬ Y e) (hk : ∀ i, e < i → i < S.2.1 → ¬ X i → S'.1 i = S.1 i ∧ ¬ Y i) : ES Y S' e d G := by
  obtain ⟨V, qa, qd, qg, ql, hi, ⟨h1, ⟨v0, v1, v2, v3, v4, v5⟩, ⟨v6, v7, v8, v9⟩, ⟨v10, v11, v12, v13⟩⟩, h2, ⟨a1, a2, a3, a4⟩, h4, h5, h6, h7, h8⟩ := h
  obtain ⟨V', g1, g2⟩ := hO V h1
  refine ⟨V', qa, qd, qg, ql, hi, ⟨g1, ⟨(g2 0 (by decide)).trans v0, (g2 1 (by decide)).trans v1, (g2 2 (by decide)).trans v2, (g2 3 (by decide)).trans v3, (g2 4 (by decide)).trans v4, (g2 5 (by decide)).trans v5⟩, ⟨(g2 6 (by decide)).trans v6, (g2 7 (by decide)).trans v7, (g2 8 (by decide)).trans v8, (g2 9 (by decide)).trans v9⟩, ⟨(g2 10 (by decide)).trans v10, (g2 11 (by decide)).trans v11, (g2 12 (by decide)).trans v12, (g2 13 (by decide)).trans v13⟩⟩, h2.fr (fun i i1 i2 => (hk i i1 (by omega) (a4 i (by omega) (by omega))).1), ⟨a1, by omega, hY, fun i i1 i2 => ?_⟩, h4, h5.fr hz (fun i i1 i2 i3 => hk i (by omega) i2 i3), h6.fr hz (fun i i1 i2 i3 => hk i (by omega) i2 i3), h7.fr hz (fun i i1 i2 i3 => hk i (by omega) i2 i3), h8.fr hz (fun i i1 i2 i3 => hk i (by omega) i2 i3)⟩
  by_cases q : i = e
  · rw [q]; exact hY
  · exact (hk i (by omega) (by omega) (a4 i i1 i2)).2
theorem rmE {μ ν : MI} {rest : List Value} (h1 : mFr ν + 1 ≤ mFr μ) (h2 : 8 + (mMl ν + 11) + mLo ν ≤ mLo μ) (h3 : (rest.map fun v => v.category).sum ≤ 8) : rmB μ ν rest = true := by
  unfold rmB
  rw [Nat.ble_eq.mpr h1, Nat.ble_eq.mpr h2, Nat.ble_eq.mpr h3]
  rfl
theorem e_takes {sc : SC} {S : AS} {X : Nat → Prop} {e : Nat} {d : D} {G : Nat → Nat} (hd : Vd d) (hE : ES X S e d G) {p : Nat} (hp : p < d 0 0) : Cal sc mX10_takes 0 0 [.ref e, .int (nI p)] S (AR fun v S' => v = .int (nI (tb (tk d p))) ∧ S = S') := by
  refine Cal.of gmX10_takes (Nat.le_of_ble_eq_true rfl) ?_
  have hE9 := hE
  obtain ⟨V, qa, qd, qg, ql, hi, ⟨hV, ⟨v0, v1, v2, v3, v4, v5⟩, ⟨v6, v7, v8, v9⟩, ⟨v10, v11, v12, v13⟩⟩, ⟨f1, f2, f3, f4, ⟨hf1, k1⟩, ⟨hf2, k2⟩, ⟨hf3, k3⟩, ⟨hf4, k4⟩⟩, ⟨b1, b2, -, -⟩, b3, hEA, hED, hEG, hEL⟩ := hE9
  have hVA := vA hd
  have hVC := vC hd
  show Wp sc mX10_takes 0 0 0 0 0 [(0, .ref e), (1, .int (nI p))] [] S (AR fun v S' => v = .int (nI (tb (tk d p))) ∧ S = S')
  have hp3 := hVA p
  refine r_iload_n rfl rfl ?_
  refine n_if_lt (tgt := 26) rfl rfl (by omega) (fun hq => hq.elim) (fun _ => ?_)
  refine r_aload_n rfl rfl ?_
  refine r_getf (v := .ref ((e + 3))) rfl flX10_30 (by omega) hV v8 ?_
  refine r_iload_n rfl rfl ?_
  refine r_zald rfl (by omega) hf3 (by omega) (by decide) ?_
  refine r_top (y := nI (d 3 p)) (k3 p hp) ?_
  refine n_if_ne (tgt := 26) rfl rfl (by omega) (fun h9 => ?_) (fun h9 => ?_)
  · have e9 : tk d p = false := tk_no (Or.inl h9)
    refine n_iconst 0 rfl ?_
    exact r_ret rfl rfl rfl (by omega) (by omega) ⟨_, rfl, by rw [e9]; rfl, rfl⟩
  refine r_aload_n rfl rfl ?_
  refine r_getf (v := .ref ((e + 4))) rfl flX10_34 (by omega) hV v9 ?_
  refine r_iload_n rfl rfl ?_
  refine r_zald rfl (by omega) hf4 (by omega) (by decide) ?_
  refine r_top (y := nI (d 4 p)) (k4 p hp) ?_
  refine n_if_ne (tgt := 26) rfl rfl (by omega) (fun h8 => ?_) (fun h8 => ?_)
  · have e9 : tk d p = false := tk_no (Or.inr h8)
    refine n_iconst 0 rfl ?_
    exact r_ret rfl rfl rfl (by omega) (by omega) ⟨_, rfl, by rw [e9]; rfl, rfl⟩
  refine n_iconst 1 rfl ?_
  refine r_goto (tgt := 27) rfl rfl ?_
  have e9 : tk d p = true := tk_yes h9 h8
  exact r_ret rfl rfl rfl (by omega) (by omega) ⟨_, rfl, by rw [e9]; rfl, rfl⟩

theorem e_takes0 {sc : SC} {S : AS} {e : Nat} : Cal sc mX10_takes 0 0 [.ref e, .int ((-1))] S (AR fun v S' => v = .int (nI 0) ∧ S = S') := by
  refine Cal.of gmX10_takes (Nat.le_of_ble_eq_true rfl) ?_
  show Wp sc mX10_takes 0 0 0 0 0 [(0, .ref e), (1, .int ((-1)))] [] S (AR fun v S' => v = .int (nI 0) ∧ S = S')
  refine r_iload_n rfl rfl ?_
  refine r_if_lt (tgt := 26) rfl rfl (fun _ => ?_) (fun hq => absurd (by decide) hq)
  refine n_iconst 0 rfl ?_
  exact r_ret rfl rfl rfl (by omega) (by omega) (⟨_, rfl, rfl, rfl⟩)

theorem isL_n {d : D} (hV : Vd d) {p : Nat} (hp : p < d 0 0) : isL d p = lnF d (isL d) p := isL_eq hV hp
theorem rm_EL {dd : Nat} {rest : List Value} (h : (rest.map fun v => v.category).sum ≤ 8) : rmB (mX10_isEmpty (dd + 1)) (mX10_lines dd) rest = true := rmE (show 2 * dd + 3 + 1 ≤ 2 * (dd + 1) + 2 by omega) (show 8 + (4 + 11) + (64 * dd + 96) ≤ 64 * (dd + 1) + 64 by omega) h
theorem rm_LE {dd : Nat} {rest : List Value} (h : (rest.map fun v => v.category).sum ≤ 8) : rmB (mX10_lines dd) (mX10_isEmpty dd) rest = true := rmE (show 2 * dd + 2 + 1 ≤ 2 * dd + 3 by omega) (show 8 + (2 + 11) + (64 * dd + 64) ≤ 64 * dd + 96 by omega) h
theorem rm_ET {dd : Nat} {rest : List Value} (h : (rest.map fun v => v.category).sum ≤ 8) : rmB (mX10_isEmpty dd) mX10_takes rest = true := rmE (show 0 + 1 ≤ 2 * dd + 2 by omega) (show 8 + (2 + 11) + 0 ≤ 64 * dd + 64 by omega) h
theorem cu_st (d : D) (w k : Nat) : sm (fun k => tb (isL d k && d 1 k == w)) (k + 1) = sm (fun k => tb (isL d k && d 1 k == w)) k + tb (isL d k && d 1 k == w) := rfl
theorem isL_sp {d : D} {p : Nat} (h : d 0 5 = p + 1) : isL d p = false := lst_sp h _
/-- a line of one person, by a depth that is left -/
abbrev cE (sc : SC) (S : AS) (e : Nat) (d : D) (dd : Nat) : Prop := ∀ p, p < d 0 0 → d 0 0 - p ≤ dd → Cal sc (mX10_isEmpty dd) 0 0 [.ref e, .int (nI p)] S (AR fun v S' => v = .int (nI (tb (!(isL d p)))) ∧ S = S')
abbrev cLn (sc : SC) (S : AS) (e : Nat) (d : D) (dd : Nat) : Prop := ∀ w, w ≤ d 0 0 → d 0 0 - w ≤ dd → Cal sc (mX10_lines dd) 0 0 [.ref e, .int (oI w)] S (AR fun v S' => v = .int (nI (cu d w)) ∧ S = S')
theorem e_lines_st {sc : SC} {S : AS} {X : Nat → Prop} {e : Nat} {d : D} {G : Nat → Nat} (hd : Vd d) (hE : ES X S e d G) {dd : Nat} (hc : cE sc S e d dd) {w : Nat} (hw : w ≤ d 0 0) (hdd : d 0 0 - w ≤ dd) : Cal sc (mX10_lines dd) 0 0 [.ref e, .int (oI w)] S (AR fun v S' => v = .int (nI (cu d w)) ∧ S = S') := by
  refine Cal.of (gmX10_lines dd) (Nat.le_of_ble_eq_true rfl) ?_
  have hE9 := hE
  obtain ⟨V, qa, qd, qg, ql, hi, ⟨hV, ⟨v0, v1, v2, v3, v4, v5⟩, ⟨v6, v7, v8, v9⟩, ⟨v10, v11, v12, v13⟩⟩, ⟨f1, f2, f3, f4, ⟨hf1, k1⟩, ⟨hf2, k2⟩, ⟨hf3, k3⟩, ⟨hf4, k4⟩⟩, ⟨b1, b2, -, -⟩, b3, hEA, hED, hEG, hEL⟩ := hE9
  have hVA := vA hd
  have hVC := vC hd
  show Wp sc (mX10_lines dd) 0 0 0 0 0 [(0, .ref e), (1, .int (oI w))] [] S (AR fun v S' => v = .int (nI (cu d w)) ∧ S = S')
  refine n_iconst 0 rfl ?_
  refine r_istore_n (lv' := [(2, .int (nI 0)), (0, .ref e), (1, .int (oI w))]) rfl rfl (Nat.le_of_ble_eq_true rfl) rfl ?_
  refine n_iconst 0 rfl ?_
  refine r_istore_n (lv' := [(3, .int (nI 0)), (2, .int (nI 0)), (0, .ref e), (1, .int (oI w))]) rfl rfl (Nat.le_of_ble_eq_true rfl) rfl ?_
  refine r_lv (lv' := [(3, .int (nI 0)), (2, .int (nI 0)), (0, .ref e), (1, .int (oI w))]) [0, 1, 2, 3] rfl ?_
  have loop : ∀ (m9 : Nat) (i : Nat) (c : Nat), d 0 0 - i < m9 → (i ≤ d 0 0) → (c = sm (fun k => tb (isL d k && d 1 k == w)) i) → Wp sc (mX10_lines dd) 0 0 0 0 4 [(3, .int (nI i)), (2, .int (nI c)), (0, .ref e), (1, .int (oI w))] [] S (AR fun v S' => v = .int (nI (cu d w)) ∧ S = S') := by
    intro m9
    induction m9 with
    | zero => intro i c hme; exact absurd hme (Nat.not_lt_zero _)
    | succ m9 ih =>
      intro i c hme hi hcs
      have hci : c ≤ i := by
        rw [hcs]
        refine Nat.le_trans (sm_le (b := 1) (fun k _ => ?_)) (by omega)
        cases (isL d k && d 1 k == w) <;> decide
      refine r_iload_n rfl rfl ?_
      refine r_aload_n rfl rfl ?_
      refine r_getf (v := .int (nI (d 0 0))) rfl flX10_59 (by omega) hV v0 ?_
      refine n_icmp_ge (tgt := 47) rfl rfl (by omega) (by omega) (fun h9 => ?_) (fun h9 => ?_)
      · refine r_iload_n rfl rfl ?_
        have e9 : i = d 0 0 := by omega
        rw [e9] at hcs
        exact r_ret rfl rfl rfl (by omega) (by omega) (⟨_, rfl, by rw [hcs]; rfl, rfl⟩)
      · have h9 : i < d 0 0 := by omega
        refine r_iload_n rfl rfl ?_
        refine r_aload_n rfl rfl ?_
        refine r_getf (v := .int (oI (d 0 5))) rfl flX10_7 (by omega) hV v1 ?_
        have hd1 := vQ hd i h9
        have hstp := cu_st d w i
        refine r_icmp_eq (tgt := 41) rfl rfl (fun h8 => ?_) (fun h8 => ?_)
        · have e8 : d 0 5 = i + 1 := (oI_q (by omega) (by omega)).mp h8
          have hb : (isL d i && d 1 i == w) = false := by rw [isL_sp e8]; rfl
          rw [hb] at hstp
          refine n_iinc (lv' := [(3, .int (nI (i + 1))), (2, .int (nI c)), (0, .ref e), (1, .int (oI w))]) 1 rfl rfl (Nat.le_of_ble_eq_true rfl) rfl ?_
          refine r_goto (tgt := 4) rfl rfl ?_
          refine r_lv (lv' := [(3, .int (nI (i + 1))), (2, .int (nI c)), (0, .ref e), (1, .int (oI w))]) [0, 1, 2, 3] rfl ?_
          exact ih (i + 1) c (by omega) (by omega) (by rw [hcs, hstp]; rfl)
        refine r_aload_n rfl rfl ?_
        refine r_getf (v := .ref ((e + 1))) rfl flX10_23 (by omega) hV v6 ?_
        refine r_iload_n rfl rfl ?_
        refine r_iald rfl (by omega) hf1 (by omega) (by decide) ?_
        refine r_top (y := oI (d 1 i)) (k1 i h9) ?_
        refine r_iload_n rfl rfl ?_
        refine r_icmp_ne (tgt := 41) rfl rfl (fun h7 => ?_) (fun h7 => ?_)
        · have e7 : d 1 i ≠ w := fun z => h7 ((oI_eq (by omega) (by omega)).mpr z)
          have hb : (isL d i && d 1 i == w) = false := by rw [beq_false_of_ne e7, Bool.and_false]
          rw [hb] at hstp
          refine n_iinc (lv' := [(3, .int (nI (i + 1))), (2, .int (nI c)), (0, .ref e), (1, .int (oI w))]) 1 rfl rfl (Nat.le_of_ble_eq_true rfl) rfl ?_
          refine r_goto (tgt := 4) rfl rfl ?_
          refine r_lv (lv' := [(3, .int (nI (i + 1))), (2, .int (nI c)), (0, .ref e), (1, .int (oI w))]) [0, 1, 2, 3] rfl ?_
          exact ih (i + 1) c (by omega) (by omega) (by rw [hcs, hstp]; rfl)
        have e7 : d 1 i = w := (oI_eq (by omega) (by omega)).mp h7
        refine r_aload_n rfl rfl ?_
        refine r_iload_n rfl rfl ?_
        refine c_virA [.int (nI i)] [] rfl (lkX10_62 dd) (by omega) hV rfl rfl (hc i h9 (by omega)) rfl (rm_LE (Nat.zero_le _)) (by omega) (by omega) rfl ?_
        rintro _ _ ⟨rfl, rfl⟩
        cases hL : isL d i
        · refine n_if_ne (tgt := 41) rfl rfl (by decide) (fun _ => ?_) (fun hq => absurd hq (by decide))
          have hb : (isL d i && d 1 i == w) = false := by rw [hL]; rfl
          rw [hb] at hstp
          refine n_iinc (lv' := [(3, .int (nI (i + 1))), (2, .int (nI c)), (0, .ref e), (1, .int (oI w))]) 1 rfl rfl (Nat.le_of_ble_eq_true rfl) rfl ?_
          refine r_goto (tgt := 4) rfl rfl ?_
          refine r_lv (lv' := [(3, .int (nI (i + 1))), (2, .int (nI c)), (0, .ref e), (1, .int (oI w))]) [0, 1, 2, 3] rfl ?_
          exact ih (i + 1) c (by omega) (by omega) (by rw [hcs, hstp]; rfl)
        · refine n_if_ne (tgt := 41) rfl rfl (by decide) (fun hq => absurd hq (by decide)) (fun _ => ?_)
          refine n_iinc (lv' := [(2, .int (nI (c + 1))), (3, .int (nI i)), (0, .ref e), (1, .int (oI w))]) 1 rfl rfl (Nat.le_of_ble_eq_true rfl) rfl ?_
          refine n_iinc (lv' := [(3, .int (nI (i + 1))), (2, .int (nI (c + 1))), (0, .ref e), (1, .int (oI w))]) 1 rfl rfl (Nat.le_of_ble_eq_true rfl) rfl ?_
          refine r_goto (tgt := 4) rfl rfl ?_
          have hb : (isL d i && d 1 i == w) = true := by rw [hL, e7, beq_self_eq_true]; rfl
          rw [hb] at hstp
          refine r_lv (lv' := [(3, .int (nI (i + 1))), (2, .int (nI (c + 1))), (0, .ref e), (1, .int (oI w))]) [0, 1, 2, 3] rfl ?_
          exact ih (i + 1) (c + 1) (by omega) (by omega) (by rw [hcs, hstp]; rfl)
  exact loop (d 0 0 + 1) 0 0 (by omega) (Nat.zero_le _) rfl

theorem e_empty_st {sc : SC} {S : AS} {X : Nat → Prop} {e : Nat} {d : D} {G : Nat → Nat} (hd : Vd d) (hE : ES X S e d G) {dd : Nat} (hc : cLn sc S e d dd) {p : Nat} (hp : p < d 0 0) (hdd : d 0 0 - p ≤ dd + 1) : Cal sc (mX10_isEmpty (dd + 1)) 0 0 [.ref e, .int (nI p)] S (AR fun v S' => v = .int (nI (tb (!(isL d p)))) ∧ S = S') := by
  refine Cal.of (gmX10_isEmpty (dd + 1)) (Nat.le_of_ble_eq_true rfl) ?_
  have hE9 := hE
  obtain ⟨V, qa, qd, qg, ql, hi, ⟨hV, ⟨v0, v1, v2, v3, v4, v5⟩, ⟨v6, v7, v8, v9⟩, ⟨v10, v11, v12, v13⟩⟩, ⟨f1, f2, f3, f4, ⟨hf1, k1⟩, ⟨hf2, k2⟩, ⟨hf3, k3⟩, ⟨hf4, k4⟩⟩, ⟨b1, b2, -, -⟩, b3, hEA, hED, hEG, hEL⟩ := hE9
  have hVA := vA hd
  have hVC := vC hd
  show Wp sc (mX10_isEmpty (dd + 1)) 0 0 0 0 0 [(0, .ref e), (1, .int (nI p))] [] S (AR fun v S' => v = .int (nI (tb (!(isL d p)))) ∧ S = S')
  have hp3 := hVA p
  have hL := isL_n hd hp
  refine r_iload_n rfl rfl ?_
  refine r_aload_n rfl rfl ?_
  refine r_getf (v := .int (oI (d 0 5))) rfl flX10_7 (by omega) hV v1 ?_
  refine r_icmp_ne (tgt := 10) rfl rfl (fun h8 => ?_) (fun h8 => ?_)
  rotate_left
  · have e8 : d 0 5 = p + 1 := (oI_q (by omega) (by omega)).mp h8
    refine n_iconst 1 rfl ?_
    exact r_ret rfl rfl rfl (by omega) (by omega) (⟨_, rfl, by rw [isL_sp e8]; rfl, rfl⟩)
  have e8 : ¬ d 0 5 = p + 1 := fun z => h8 ((oI_q (by omega) (by omega)).mpr z)
  refine r_aload_n rfl rfl ?_
  refine r_iload_n rfl rfl ?_
  refine c_virA [.int (nI p)] [] rfl lkX10_51 (by omega) hV rfl rfl (e_takes (S := S) hd hE hp) rfl (rm_ET (Nat.zero_le _)) (by omega) (by omega) rfl ?_
  rintro _ _ ⟨rfl, rfl⟩
  cases hT : tk d p
  · refine n_if_eq (tgt := 20) rfl rfl (by decide) (fun _ => ?_) (fun hq => absurd hq (by decide))
    refine r_aload_n rfl rfl ?_
    refine r_getf (v := .ref ((e + 3))) rfl flX10_30 (by omega) hV v8 ?_
    refine r_iload_n rfl rfl ?_
    refine r_zald rfl (by omega) hf3 (by omega) (by decide) ?_
    refine r_top (y := nI (d 3 p)) (k3 p hp) ?_
    refine n_if_ne (tgt := 36) rfl rfl (by omega) (fun h7 => ?_) (fun h7 => ?_)
    · have hG : go d p = true := go_yes (Or.inl h7)
      have hc1 := hc (p + 1) (by omega) (by omega)
      rw [oI_s] at hc1
      refine r_aload_n rfl rfl ?_
      refine r_iload_n rfl rfl ?_
      refine c_virA [.int (nI p)] [] rfl (lkX10_55 dd) (by omega) hV rfl rfl hc1 rfl (rm_EL (Nat.zero_le _)) (by omega) (by omega) rfl ?_
      rintro _ _ ⟨rfl, rfl⟩
      have hcu := cu_le hd (p + 1)
      have e9 : isL d p = !(cu d (p + 1) == 0) := by
        rw [hL]; unfold lnF; rw [beq_false_of_ne e8, hT, hG]; rfl
      refine n_if_ne (tgt := 48) rfl rfl (by omega) (fun h6 => ?_) (fun h6 => ?_)
      · refine n_iconst 0 rfl ?_
        exact r_ret rfl rfl rfl (by omega) (by omega) (⟨_, rfl, by rw [e9, beq_false_of_ne h6]; rfl, rfl⟩)
      · refine n_iconst 1 rfl ?_
        refine r_goto (tgt := 49) rfl rfl ?_
        exact r_ret rfl rfl rfl (by omega) (by omega) (⟨_, rfl, by rw [e9, h6]; rfl, rfl⟩)
    have h4 : d 4 p ≠ 0 := fun z => by rw [tk_yes h7 z] at hT; cases hT
    refine r_aload_n rfl rfl ?_
    refine r_getf (v := .int (nI (d 0 9))) rfl flX10_19 (by omega) hV v5 ?_
    refine n_if_eq (tgt := 44) rfl rfl (by omega) (fun h5 => ?_) (fun h5 => ?_)
    · refine n_iconst 1 rfl ?_
      refine r_goto (tgt := 49) rfl rfl ?_
      have hG : go d p = false := by
        unfold go; rw [h7, h5]; simp
      have e9 : isL d p = false := by
        rw [hL]; unfold lnF; rw [beq_false_of_ne e8, hT, hG]; rfl
      exact r_ret rfl rfl rfl (by omega) (by omega) (⟨_, rfl, by rw [e9]; rfl, rfl⟩)
    have hG : go d p = true := go_yes (Or.inr ⟨h4, h5⟩)
    have hc1 := hc (p + 1) (by omega) (by omega)
    rw [oI_s] at hc1
    refine r_aload_n rfl rfl ?_
    refine r_iload_n rfl rfl ?_
    refine c_virA [.int (nI p)] [] rfl (lkX10_55 dd) (by omega) hV rfl rfl hc1 rfl (rm_EL (Nat.zero_le _)) (by omega) (by omega) rfl ?_
    rintro _ _ ⟨rfl, rfl⟩
    have hcu := cu_le hd (p + 1)
    have e9 : isL d p = !(cu d (p + 1) == 0) := by
      rw [hL]; unfold lnF; rw [beq_false_of_ne e8, hT, hG]; rfl
    refine n_if_ne (tgt := 48) rfl rfl (by omega) (fun h6 => ?_) (fun h6 => ?_)
    · refine n_iconst 0 rfl ?_
      exact r_ret rfl rfl rfl (by omega) (by omega) (⟨_, rfl, by rw [e9, beq_false_of_ne h6]; rfl, rfl⟩)
    · refine n_iconst 1 rfl ?_
      refine r_goto (tgt := 49) rfl rfl ?_
      exact r_ret rfl rfl rfl (by omega) (by omega) (⟨_, rfl, by rw [e9, h6]; rfl, rfl⟩)
  · refine n_if_eq (tgt := 20) rfl rfl (by decide) (fun hq => absurd hq (by decide)) (fun _ => ?_)
    refine n_iconst 0 rfl ?_
    have e9 : isL d p = true := by
      rw [hL]; unfold lnF; rw [beq_false_of_ne e8, hT]; rfl
    exact r_ret rfl rfl rfl (by omega) (by omega) (⟨_, rfl, by rw [e9]; rfl, rfl⟩)

theorem e_both {sc : SC} {S : AS} {X : Nat → Prop} {e : Nat} {d : D} {G : Nat → Nat} (hd : Vd d) (hE : ES X S e d G) : ∀ dd, cE sc S e d dd ∧ cLn sc S e d dd
  | 0 => ⟨fun p h1 h2 => absurd h1 (by omega), fun w h1 h2 => e_lines_st hd hE (fun p h1 h2 => absurd h1 (by omega)) h1 h2⟩
  | dd + 1 => by
    have ih := e_both (sc := sc) hd hE dd
    have hE1 : cE sc S e d (dd + 1) := fun p h1 h2 => e_empty_st hd hE ih.2 h1 h2
    exact ⟨hE1, fun w h1 h2 => e_lines_st hd hE hE1 h1 h2⟩
theorem e_empty {sc : SC} {S : AS} {X : Nat → Prop} {e : Nat} {d : D} {G : Nat → Nat} (hd : Vd d) (hE : ES X S e d G) {p : Nat} (hp : p < d 0 0) : Cal sc (mX10_isEmpty 12) 0 0 [.ref e, .int (nI p)] S (AR fun v S' => v = .int (nI (tb (!(isL d p)))) ∧ S = S') := (e_both hd hE 12).1 p hp (by have := (vC hd).1; omega)
theorem e_lines {sc : SC} {S : AS} {X : Nat → Prop} {e : Nat} {d : D} {G : Nat → Nat} (hd : Vd d) (hE : ES X S e d G) {w : Nat} (hw : w ≤ d 0 0) : Cal sc (mX10_lines 12) 0 0 [.ref e, .int (oI w)] S (AR fun v S' => v = .int (nI (cu d w)) ∧ S = S') := (e_both hd hE 12).2 w hw (by have := (vC hd).1; omega)
theorem e_gift {sc : SC} {S : AS} {X : Nat → Prop} {e : Nat} {d : D} {G : Nat → Nat} (hd : Vd d) (hE : ES X S e d G) {p : Nat} (hp : p < 12) : Cal sc mX10_gift 0 0 [.ref e, .int (nI p)] S (AR fun v S' => v = .int (nI (G p)) ∧ S = S') := by
  refine Cal.of gmX10_gift (Nat.le_of_ble_eq_true rfl) ?_
  have hE9 := hE
  obtain ⟨V, qa, qd, qg, ql, hi, ⟨hV, ⟨v0, v1, v2, v3, v4, v5⟩, ⟨v6, v7, v8, v9⟩, ⟨v10, v11, v12, v13⟩⟩, ⟨f1, f2, f3, f4, ⟨hf1, k1⟩, ⟨hf2, k2⟩, ⟨hf3, k3⟩, ⟨hf4, k4⟩⟩, ⟨b1, b2, -, -⟩, b3, hEA, hED, hEG, hEL⟩ := hE9
  have hVA := vA hd
  have hVC := vC hd
  obtain ⟨m, A, B, ⟨W, pl, hW, ⟨c1, c2, -⟩, hrow⟩, hm9, hAB, hGs⟩ := hEG
  show Wp sc mX10_gift 0 0 0 0 0 [(0, .ref e), (1, .int (nI p))] [] S (AR fun v S' => v = .int (nI (G p)) ∧ S = S')
  refine n_iconst 0 rfl ?_
  refine r_istore_n (lv' := [(2, .int (nI 0)), (0, .ref e), (1, .int (nI p))]) rfl rfl (Nat.le_of_ble_eq_true rfl) rfl ?_
  refine r_aload_n rfl rfl ?_
  refine r_getf (v := .ref qg) rfl flX10_45 (by omega) hV v12 ?_
  refine r_astore_n (lv' := [(3, .ref qg), (2, .int (nI 0)), (0, .ref e), (1, .int (nI p))]) rfl rfl (Nat.le_of_ble_eq_true rfl) rfl ?_
  refine r_aload_n rfl rfl ?_
  refine r_alenQ rfl (by omega) hW ?_
  refine r_istore (lv' := [(4, .int (nI m)), (3, .ref qg), (2, .int (nI 0)), (0, .ref e), (1, .int (nI p))]) rfl (Nat.le_of_ble_eq_true rfl) rfl ?_
  refine n_iconst 0 rfl ?_
  refine r_istore (lv' := [(5, .int (nI 0)), (4, .int (nI m)), (3, .ref qg), (2, .int (nI 0)), (0, .ref e), (1, .int (nI p))]) rfl (Nat.le_of_ble_eq_true rfl) rfl ?_
  refine r_lv (lv' := [(5, .int (nI 0)), (2, .int (nI 0)), (0, .ref e), (1, .int (nI p)), (3, .ref qg), (4, .int (nI m))]) [0, 3, 4, 5, 2, 1] rfl ?_
  have loop : ∀ (m9 : Nat) (i : Nat) (c : Nat), m - i < m9 → (i ≤ m) → (c = sm (fun g => if A g = p then B g else 0) i) → Wp sc mX10_gift 0 0 0 0 14 [(5, .int (nI i)), (2, .int (nI c)), (0, .ref e), (1, .int (nI p)), (3, .ref qg), (4, .int (nI m))] [] S (AR fun v S' => v = .int (nI (G p)) ∧ S = S') := by
    intro m9
    induction m9 with
    | zero => intro i c hme; exact absurd hme (Nat.not_lt_zero _)
    | succ m9 ih =>
      intro i c hme hi hcs
      have hci : c ≤ i * 9999999 := by
        rw [hcs]
        refine sm_le (fun k _ => ?_)
        have := hAB k (by omega)
        split <;> omega
      refine r_iload rfl rfl ?_
      refine r_iload rfl rfl ?_
      refine n_icmp_ge (tgt := 48) rfl rfl (by omega) (by omega) (fun h9 => ?_) (fun h9 => ?_)
      · refine r_iload_n rfl rfl ?_
        have e9 : i = m := by omega
        rw [e9] at hcs
        exact r_ret rfl rfl rfl (by omega) (by omega) (⟨_, rfl, by rw [hcs]; exact congrArg (fun z => Value.int (nI z)) (hGs p), rfl⟩)
      · have h9 : i < m := by omega
        have hgi := hAB i h9
        obtain ⟨r1, ⟨r2, r3, -⟩, fr, r4, r5, r6⟩ := hrow i h9
        have hstp : sm (fun g => if A g = p then B g else 0) (i + 1) = sm (fun g => if A g = p then B g else 0) i + (if A i = p then B i else 0) := rfl
        refine r_aload_n rfl rfl ?_
        refine r_iload rfl rfl ?_
        refine r_aald (x := (pl i)) rfl (by omega) hW (by omega) (by omega) r1 ?_
        refine r_astore (lv' := [(6, .ref ((pl i))), (5, .int (nI i)), (2, .int (nI c)), (0, .ref e), (1, .int (nI p)), (3, .ref qg), (4, .int (nI m))]) rfl (Nat.le_of_ble_eq_true rfl) rfl ?_
        refine r_aload rfl rfl ?_
        refine n_iconst 0 rfl ?_
        refine r_iald rfl (by omega) r4 (by decide) (by decide) ?_
        refine r_top (y := nI (A i)) r5 ?_
        refine r_iload_n rfl rfl ?_
        refine n_icmp_ne (tgt := 42) rfl rfl (by omega) (by omega) (fun h8 => ?_) (fun h8 => ?_)
        · rw [if_neg h8] at hstp
          refine n_iinc (lv' := [(5, .int (nI (i + 1))), (6, .ref ((pl i))), (2, .int (nI c)), (0, .ref e), (1, .int (nI p)), (3, .ref qg), (4, .int (nI m))]) 1 rfl rfl (Nat.le_of_ble_eq_true rfl) rfl ?_
          refine r_goto (tgt := 14) rfl rfl ?_
          refine r_lv (lv' := [(5, .int (nI (i + 1))), (2, .int (nI c)), (0, .ref e), (1, .int (nI p)), (3, .ref qg), (4, .int (nI m))]) [0, 2, 3, 4, 5, 6] rfl ?_
          exact ih (i + 1) c (by omega) (by omega) (by rw [hcs, hstp]; rfl)
        · rw [if_pos h8] at hstp
          refine r_iload_n rfl rfl ?_
          refine r_aload rfl rfl ?_
          refine n_iconst 1 rfl ?_
          refine r_iald rfl (by omega) r4 (by decide) (by decide) ?_
          refine r_top (y := nI (B i)) r6 ?_
          refine n_iadd rfl ?_
          refine r_istore_n (lv' := [(2, .int (nI (c + (B i)))), (6, .ref ((pl i))), (5, .int (nI i)), (0, .ref e), (1, .int (nI p)), (3, .ref qg), (4, .int (nI m))]) rfl rfl (Nat.le_of_ble_eq_true rfl) rfl ?_
          refine n_iinc (lv' := [(5, .int (nI (i + 1))), (2, .int (nI (c + (B i)))), (6, .ref ((pl i))), (0, .ref e), (1, .int (nI p)), (3, .ref qg), (4, .int (nI m))]) 1 rfl rfl (Nat.le_of_ble_eq_true rfl) rfl ?_
          refine r_goto (tgt := 14) rfl rfl ?_
          refine r_lv (lv' := [(5, .int (nI (i + 1))), (2, .int (nI (c + (B i)))), (0, .ref e), (1, .int (nI p)), (3, .ref qg), (4, .int (nI m))]) [0, 1, 3, 4, 5, 6] rfl ?_
          exact ih (i + 1) (c + B i) (by omega) (by omega) (by rw [hcs, hstp])
  exact loop (m + 1) 0 0 (by omega) (Nat.zero_le _) rfl

theorem ES.G {X : Nat → Prop} {S : AS} {e : Nat} {d : D} {G : Nat → Nat} (h : ES X S e d G) (p : Nat) : G p ≤ 89999991 := by
  obtain ⟨V, qa, qd, qg, ql, hi, h1, h2, h3, h4, h5, h6, ⟨m, A, B, h7, h8, h9, h10⟩, h11⟩ := h
  rw [← h10 p]
  have h12 : gsum m A B p ≤ m * 9999999 := sm_le (fun k hk => by have := h9 k hk; split <;> omega)
  omega
theorem rm_ct {t W : Nat} {w : Nat → Nat} {m : Nat} : ∀ i, rm t W w m i = rm t W w m 0 - sm (fun j => tb (decide (0 < w j))) i
  | 0 => by show _ = _ - 0; omega
  | i + 1 => by
    have ih := rm_ct (t := t) (W := W) (w := w) (m := m) i
    show (if 0 < rm t W w m i ∧ 0 < w i then rm t W w m i - 1 else rm t W w m i) = rm t W w m 0 - (sm (fun j => tb (decide (0 < w j))) i + tb (decide (0 < w i)))
    by_cases h : 0 < w i
    · rw [decide_eq_true h]
      show _ = rm t W w m 0 - (_ + 1)
      by_cases g : 0 < rm t W w m i
      · rw [if_pos ⟨g, h⟩]; omega
      · rw [if_neg (fun z => g z.1)]; omega
    · rw [decide_eq_false h, if_neg (fun z => h z.2)]
      show _ = rm t W w m 0 - (_ + 0)
      omega
theorem bs_up (t : Nat) (w : Nat → Nat) {W : Nat} (hW : 0 < W) : ∀ m, t * sm w m ≤ sm (bs t W w) m * W + sm (fun j => tb (decide (0 < w j))) m * (W - 1)
  | 0 => by show t * 0 ≤ _; omega
  | m + 1 => by
    have ih := bs_up t w hW m
    show t * (sm w m + w m) ≤ (sm (bs t W w) m + bs t W w m) * W + (sm (fun j => tb (decide (0 < w j))) m + tb (decide (0 < w m))) * (W - 1)
    rw [Nat.mul_add, Nat.add_mul, Nat.add_mul]
    have h1 : t * w m ≤ bs t W w m * W + tb (decide (0 < w m)) * (W - 1) := by
      by_cases h : 0 < w m
      · rw [decide_eq_true h]
        show _ ≤ t * w m / W * W + 1 * (W - 1)
        have h2 := Nat.div_add_mod (t * w m) W
        have h3 := Nat.mod_lt (t * w m) hW
        rw [Nat.mul_comm] at h2
        omega
      · rw [show w m = 0 by omega, Nat.mul_zero]; exact Nat.zero_le _
    omega
theorem rm_end {t : Nat} {w : Nat → Nat} {m : Nat} : rm t (sm w m) w m m = 0 := by
  rw [rm_ct]
  show ((if sm w m = 0 then 0 else t) - sm (bs t (sm w m) w) m) - _ = 0
  by_cases h : sm w m = 0
  · rw [if_pos h]; omega
  · rw [if_neg h]
    have h1 := bs_up t w (W := sm w m) (by omega) m
    have h2 : t * sm w m ≤ (sm (bs t (sm w m) w) m + sm (fun j => tb (decide (0 < w j))) m) * sm w m := by
      rw [Nat.add_mul]
      have := Nat.mul_le_mul_left (sm (fun j => tb (decide (0 < w j))) m) (Nat.sub_le (sm w m) 1)
      omega
    have h3 := Nat.le_of_mul_le_mul_right h2 (by omega)
    omega
theorem sp_le {t W : Nat} {w : Nat → Nat} {m i : Nat} : sp t W w m i ≤ bs t W w i + 1 := by
  unfold sp
  cases ce t W w m i <;> simp [tb]
theorem rm_le' {t W : Nat} {w : Nat → Nat} {m i k : Nat} (h : i ≤ k) : rm t W w m k ≤ rm t W w m i := by
  rw [rm_ct k, rm_ct i]
  have := sm_mono (f := fun j => tb (decide (0 < w j))) h
  omega
theorem ce_0 {t W : Nat} {w : Nat → Nat} {m i : Nat} (h : rm t W w m i = 0) : sp t W w m i = bs t W w i := by
  unfold sp ce
  rw [h, decide_eq_false (fun z => absurd z.1 (Nat.lt_irrefl 0))]
  rfl
theorem ce_w {t W : Nat} {w : Nat → Nat} {m i : Nat} (h : w i = 0) : sp t W w m i = bs t W w i := by
  unfold sp ce
  rw [decide_eq_false (fun z => absurd z.2 (by omega))]
  rfl
theorem ce_1 {t W : Nat} {w : Nat → Nat} {m i : Nat} (h : 0 < rm t W w m i) (g : 0 < w i) : sp t W w m i = bs t W w i + 1 := by
  unfold sp ce
  rw [decide_eq_true ⟨h, g⟩]
  rfl
theorem sp_00 {t : Nat} {w : Nat → Nat} {m i : Nat} (h : sm w m = 0) : sp t (sm w m) w m i = 0 := by
  have h1 : rm t (sm w m) w m i = 0 := by
    rw [rm_ct]
    show ((if sm w m = 0 then 0 else t) - _) - _ = 0
    rw [if_pos h]; omega
  rw [ce_0 h1]
  unfold bs
  rw [h, Nat.div_zero]
theorem bs_T {t : Nat} {w : Nat → Nat} {m k : Nat} (h : k ≤ m) : sm (bs t (sm w m) w) k ≤ t := by
  have h1 := bs_le t w m
  have h2 := sm_mono (f := bs t (sm w m) w) h
  split at h1 <;> omega
theorem e_splits {sc : SC} {S : AS} {T b m : Nat} {g : Nat → Int64} {w : Nat → Nat} (hx : S.2.2 = true) (hb : b < S.2.1) (hG : S.1 b = oL m g) (hg : ∀ i, i < m → g i = lN (w i)) (hw : ∀ i, i < m → w i ≤ 100000000) (hT : T ≤ 1200000000) (hm : m ≤ 12) : Cal sc mX10_splits 1 12 [.long (lN T), .ref b] S (AR fun v S' => v = .ref S.2.1 ∧ Fr S S' Xno ∧ S'.2.1 = S.2.1 + 1 ∧ ∃ f, S'.1 S.2.1 = oI0 0 m f ∧ ∀ i, i < m → f i = nI (sp T (sm w m) w m i)) := by
  refine Cal.of gmX10_splits (Nat.le_of_ble_eq_true rfl) ?_
  show Wp sc mX10_splits 1 12 0 0 0 [(0, .long (lN T)), (2, .ref b)] [] S (AR fun v S' => v = .ref S.2.1 ∧ Fr S S' Xno ∧ S'.2.1 = S.2.1 + 1 ∧ ∃ f, S'.1 S.2.1 = oI0 0 m f ∧ ∀ i, i < m → f i = nI (sp T (sm w m) w m i))
  refine r_aload_n rfl rfl ?_
  refine r_alenL rfl (by omega) hG ?_
  refine t_newa0 rfl hx (by omega) (by omega) (by omega) ?_
  intro S1 w2
  have z3 := w2.1
  refine r_astore_n (lv' := [(3, .ref S.2.1), (0, .long (lN T)), (2, .ref b)]) rfl rfl (Nat.le_of_ble_eq_true rfl) rfl ?_
  refine n_lconst0 rfl ?_
  refine r_lstore (lv' := [(4, .long (lN 0)), (3, .ref S.2.1), (0, .long (lN T)), (2, .ref b)]) rfl (Nat.le_of_ble_eq_true rfl) rfl ?_
  refine r_aload_n rfl rfl ?_
  refine r_astore (lv' := [(6, .ref b), (4, .long (lN 0)), (3, .ref S.2.1), (0, .long (lN T)), (2, .ref b)]) rfl (Nat.le_of_ble_eq_true rfl) rfl ?_
  refine r_aload rfl rfl ?_
  have hp4 : S1.1 b = oL m g := ((w2.2.2.2 b (by omega)).trans hG)
  refine r_alenL rfl (by omega) hp4 ?_
  refine r_istore (lv' := [(7, .int (nI m)), (6, .ref b), (4, .long (lN 0)), (3, .ref S.2.1), (0, .long (lN T)), (2, .ref b)]) rfl (Nat.le_of_ble_eq_true rfl) rfl ?_
  refine n_iconst 0 rfl ?_
  refine r_istore (lv' := [(8, .int (nI 0)), (7, .int (nI m)), (6, .ref b), (4, .long (lN 0)), (3, .ref S.2.1), (0, .long (lN T)), (2, .ref b)]) rfl (Nat.le_of_ble_eq_true rfl) rfl ?_
  refine r_lv (lv' := [(8, .int (nI 0)), (4, .long (lN 0)), (7, .int (nI m)), (6, .ref b), (0, .long (lN T)), (2, .ref b), (3, .ref S.2.1)]) [0, 3, 1, 2, 5, 6, 4] rfl ?_
  have loop : ∀ (m9 : Nat) (i : Nat) (c : Nat), m - i < m9 → (i ≤ m) → (c = sm w i) → Wp sc mX10_splits 1 12 (0 + 1) (0 + m) 19 [(8, .int (nI i)), (4, .long (lN c)), (7, .int (nI m)), (6, .ref b), (0, .long (lN T)), (2, .ref b), (3, .ref S.2.1)] [] S1 (AR fun v S' => v = .ref S.2.1 ∧ Fr S S' Xno ∧ S'.2.1 = S.2.1 + 1 ∧ ∃ f, S'.1 S.2.1 = oI0 0 m f ∧ ∀ i, i < m → f i = nI (sp T (sm w m) w m i)) := by
    intro m9
    induction m9 with
    | zero => intro i c hme; exact absurd hme (Nat.not_lt_zero _)
    | succ m9 ih =>
      intro i c hme hi hcs
      have hcb : c ≤ i * 100000000 := by
        rw [hcs]
        exact sm_le (fun k hk => hw k (by omega))
      refine r_iload rfl rfl ?_
      refine r_iload rfl rfl ?_
      refine n_icmp_ge (tgt := 46) rfl rfl (by omega) (by omega) (fun h9 => ?_) (fun h9 => ?_)
      · have e9 : i = m := by omega
        rw [e9] at hcs hcb
        refine r_lload rfl rfl ?_
        refine n_lconst0 rfl ?_
        refine n_lcmp_ne (tgt := 55) rfl rfl rfl (by omega) (by omega) (fun h8 => ?_) (fun h8 => ?_)
        · have hc0 : 0 < c := by omega
          refine r_lload_n rfl rfl ?_
          refine r_lstore (lv' := [(6, .long (lN T)), (8, .int (nI i)), (4, .long (lN c)), (0, .long (lN T)), (2, .ref b), (3, .ref S.2.1)]) rfl (Nat.le_of_ble_eq_true rfl) rfl ?_
          refine n_iconst 0 rfl ?_
          refine r_istore (lv' := [(8, .int (nI 0)), (6, .long (lN T)), (4, .long (lN c)), (0, .long (lN T)), (2, .ref b), (3, .ref S.2.1)]) rfl (Nat.le_of_ble_eq_true rfl) rfl ?_
          refine r_lv (lv' := [(8, .int (nI 0)), (6, .long (lN T)), (4, .long (lN c)), (0, .long (lN T)), (2, .ref b), (3, .ref S.2.1)]) [0, 1, 2, 3, 4, 5] rfl ?_
          have loop2 : ∀ (m9_2 : Nat) (k : Nat) (S7 : AS) (l : Nat) (f : Nat → Int32), m - k < m9_2 → (S7.2.2 = true) → (k ≤ m) → (l = T - sm (bs T c w) k) → (Fr S S7 Xno ∧ S7.2.1 = S.2.1 + 1) → (S7.1 S.2.1 = oI0 0 m f ∧ ∀ i, i < k → f i = nI (bs T c w i)) → Wp sc mX10_splits 1 12 (0 + 1) (0 + m) 61 [(8, .int (nI k)), (6, .long (lN l)), (4, .long (lN c)), (0, .long (lN T)), (2, .ref b), (3, .ref S.2.1)] [] S7 (AR fun v S' => v = .ref S.2.1 ∧ Fr S S' Xno ∧ S'.2.1 = S.2.1 + 1 ∧ ∃ f, S'.1 S.2.1 = oI0 0 m f ∧ ∀ i, i < m → f i = nI (sp T (sm w m) w m i)) := by
            intro m9_2
            induction m9_2 with
            | zero => intro k S7 l f hme; exact absurd hme (Nat.not_lt_zero _)
            | succ m9_2 ih2 =>
              intro k S7 l f hme hxS7 hk hl hF hf
              obtain ⟨hF, hz7⟩ := hF
              obtain ⟨hf7, hfk⟩ := hf
              have hb7 : S7.1 b = oL m g := (hF.2.2 b hb (fun z => z)).trans hG
              refine r_iload rfl rfl ?_
              refine r_aload_n rfl rfl ?_
              refine r_alenL rfl (by omega) hb7 ?_
              refine n_icmp_ge (tgt := 98) rfl rfl (by omega) (by omega) (fun h8 => ?_) (fun h8 => ?_)
              · have e8 : k = m := by omega
                rw [e8] at hl hfk
                refine n_iconst 0 rfl ?_
                refine r_istore (lv' := [(8, .int (nI 0)), (6, .long (lN l)), (4, .long (lN c)), (0, .long (lN T)), (2, .ref b), (3, .ref S.2.1)]) rfl (Nat.le_of_ble_eq_true rfl) rfl ?_
                refine r_lv (lv' := [(8, .int (nI 0)), (6, .long (lN l)), (4, .long (lN c)), (0, .long (lN T)), (2, .ref b), (3, .ref S.2.1)]) [0, 1, 2, 3, 4, 5] rfl ?_
                have loop3 : ∀ (m9_3 : Nat) (j : Nat) (S8 : AS) (l : Nat) (f : Nat → Int32), m - j < m9_3 → (S8.2.2 = true) → (j ≤ m) → (l = rm T c w m j) → (Fr S S8 Xno ∧ S8.2.1 = S.2.1 + 1) → (S8.1 S.2.1 = oI0 0 m f ∧ (∀ i, i < j → f i = nI (sp T c w m i)) ∧ ∀ i, j ≤ i → i < m → f i = nI (bs T c w i)) → Wp sc mX10_splits 1 12 (0 + 1) (0 + m) 101 [(8, .int (nI j)), (6, .long (lN l)), (4, .long (lN c)), (0, .long (lN T)), (2, .ref b), (3, .ref S.2.1)] [] S8 (AR fun v S' => v = .ref S.2.1 ∧ Fr S S' Xno ∧ S'.2.1 = S.2.1 + 1 ∧ ∃ f, S'.1 S.2.1 = oI0 0 m f ∧ ∀ i, i < m → f i = nI (sp T (sm w m) w m i)) := by
                  intro m9_3
                  induction m9_3 with
                  | zero => intro j S8 l f hme; exact absurd hme (Nat.not_lt_zero _)
                  | succ m9_3 ih3 =>
                    intro j S8 l f hme hxS8 hj hl hF hf
                    obtain ⟨hF, hz8⟩ := hF
                    obtain ⟨hf8, hfl, hfh⟩ := hf
                    have hb8 : S8.1 b = oL m g := (hF.2.2 b hb (fun z => z)).trans hG
                    have hl9 : l ≤ T := by
                      rw [hl]
                      refine Nat.le_trans (rm_le' (Nat.zero_le j)) ?_
                      show (if c = 0 then 0 else T) - _ ≤ T
                      split <;> omega
                    refine r_lload rfl rfl ?_
                    refine n_lconst0 rfl ?_
                    refine n_lcmp_le (tgt := 140) rfl rfl rfl (by omega) (by omega) (fun h7 => ?_) (fun h7 => ?_)
                    · refine r_aload_n rfl rfl ?_
                      refine r_aret rfl rfl (Or.inr ⟨_, rfl⟩) (by omega) (by omega) (⟨_, rfl, rfl, hF, by omega, _, hf8, fun i hi => ?_⟩)
                      rw [← hcs]
                      by_cases q : i < j
                      · exact hfl i q
                      · rw [hfh i (by omega) hi, ce_0]
                        have := rm_le' (t := T) (W := c) (w := w) (m := m) (i := j) (k := i) (by omega)
                        omega
                    · have h6 : j < m := Nat.lt_of_le_of_ne hj (fun z => by have h5 := rm_end (t := T) (w := w) (m := m); rw [← hcs] at h5; rw [z] at hl; omega)
                      have hwj := hw j h6
                      have hrs : rm T c w m (j + 1) = if 0 < rm T c w m j ∧ 0 < w j then rm T c w m j - 1 else rm T c w m j := rfl
                      refine r_aload_n rfl rfl ?_
                      refine r_iload rfl rfl ?_
                      refine r_lald rfl (by omega) hb8 (by omega) (by omega) ?_
                      refine r_topL (y := lN (w j)) (hg j h6) ?_
                      refine n_lconst0 rfl ?_
                      refine n_lcmp_ne (tgt := 120) rfl rfl rfl (by omega) (by omega) (fun h5 => ?_) (fun h5 => ?_)
                      · have h4 : 0 < w j := by omega
                        rw [if_pos ⟨by omega, h4⟩] at hrs
                        have hbj : bs T c w j ≤ T := mul_div_le (by rw [hcs]; exact sm_pos h6)
                        refine r_aload_n rfl rfl ?_
                        refine r_iload rfl rfl ?_
                        refine r_dup2 rfl rfl rfl ?_
                        refine r_iald rfl (by omega) hf8 (by omega) (by omega) ?_
                        refine r_top (y := nI (bs T c w j)) (hfh j (Nat.le_refl _) h6) ?_
                        refine n_iconst 1 rfl ?_
                        refine n_iadd rfl ?_
                        refine t_iast rfl hxS8 (by omega) hf8 (by omega) (by omega) ?_
                        intro S5 w6
                        have z7 := w6.1
                        refine r_lload rfl rfl ?_
                        refine n_lconst1 rfl ?_
                        refine n_lsub rfl (by omega) ?_
                        refine r_lstore (lv' := [(6, .long (lN (l - 1))), (8, .int (nI j)), (4, .long (lN c)), (0, .long (lN T)), (2, .ref b), (3, .ref S.2.1)]) rfl (Nat.le_of_ble_eq_true rfl) rfl ?_
                        refine n_iinc (lv' := [(8, .int (nI (j + 1))), (6, .long (lN (l - 1))), (4, .long (lN c)), (0, .long (lN T)), (2, .ref b), (3, .ref S.2.1)]) 1 rfl rfl (Nat.le_of_ble_eq_true rfl) rfl ?_
                        refine r_goto (tgt := 101) rfl rfl ?_
                        refine r_lv (lv' := [(8, .int (nI (j + 1))), (6, .long (lN (l - 1))), (4, .long (lN c)), (0, .long (lN T)), (2, .ref b), (3, .ref S.2.1)]) [0, 1, 2, 3, 4, 5] rfl ?_
                        exact ih3 (j + 1) S5 (l - 1) (aup f j (nI ((bs T c w j) + 1))) (by omega) w6.2.1 (by omega) (by rw [hrs, hl]) ⟨hF.wr w6 (fun z => absurd z (Nat.lt_irrefl _)), by omega⟩ ⟨w6.2.2.1, aup_lt hfl (by rw [ce_1 (by omega) h4]), fun i i1 i2 => (aup_n _ _ (by omega)).trans (hfh i (by omega) i2)⟩
                      · rw [if_neg (fun z => by omega)] at hrs
                        refine r_goto (tgt := 134) rfl rfl ?_
                        refine n_iinc (lv' := [(8, .int (nI (j + 1))), (6, .long (lN l)), (4, .long (lN c)), (0, .long (lN T)), (2, .ref b), (3, .ref S.2.1)]) 1 rfl rfl (Nat.le_of_ble_eq_true rfl) rfl ?_
                        refine r_goto (tgt := 101) rfl rfl ?_
                        refine r_lv (lv' := [(8, .int (nI (j + 1))), (6, .long (lN l)), (4, .long (lN c)), (0, .long (lN T)), (2, .ref b), (3, .ref S.2.1)]) [0, 1, 2, 3, 4, 5] rfl ?_
                        exact ih3 (j + 1) S8 l f (by omega) hxS8 (by omega) (by rw [hrs, hl]) ⟨hF, hz8⟩ ⟨hf8, fun i hi => (Nat.lt_or_ge i j).elim (hfl i) (fun q => by rw [show i = j by omega, hfh j (Nat.le_refl _) h6, ce_w (by omega)]), fun i i1 i2 => hfh i (by omega) i2⟩
                exact loop3 (m + 1) 0 S7 l f (by omega) hxS7 (Nat.zero_le _) (by rw [hl]; show _ = (if c = 0 then 0 else T) - _; rw [if_neg (by omega)]) ⟨hF, hz7⟩ ⟨hf7, fun i hi => absurd hi (Nat.not_lt_zero _), fun i _ hi => hfk i hi⟩
              · have h8 : k < m := by omega
                have hwk := hw k h8
                have hwc : w k ≤ c := by rw [hcs]; exact sm_pos h8
                have hTw : T * w k ≤ 1200000000 * 100000000 := Nat.mul_le_mul hT hwk
                have hbs : T * w k / c ≤ T := mul_div_le hwc
                have hS1 : sm (bs T c w) (k + 1) ≤ T := by rw [hcs]; exact bs_T h8
                have hS2 : sm (bs T c w) (k + 1) = sm (bs T c w) k + T * w k / c := rfl
                refine r_aload_n rfl rfl ?_
                refine r_iload rfl rfl ?_
                refine r_lload_n rfl rfl ?_
                refine r_aload_n rfl rfl ?_
                refine r_iload rfl rfl ?_
                refine r_lald rfl (by omega) hb7 (by omega) (by omega) ?_
                refine r_topL (y := lN (w k)) (hg k h8) ?_
                refine n_lmul rfl ?_
                refine r_lload rfl rfl ?_
                refine n_ldiv rfl (by omega) (by omega) (by omega) ?_
                refine n_l2i rfl ?_
                refine t_iast rfl hxS7 (by omega) hf7 (by omega) (by omega) ?_
                intro S8 w9
                have z10 := w9.1
                refine r_lload rfl rfl ?_
                refine r_aload_n rfl rfl ?_
                refine r_iload rfl rfl ?_
                refine r_iald rfl (by omega) w9.2.2.1 (by omega) (by omega) ?_
                refine r_top (y := nI (T * w k / c)) (aup_s _ _ _) ?_
                refine n_i2l rfl (by omega) ?_
                refine n_lsub rfl (by omega) ?_
                refine r_lstore (lv' := [(6, .long (lN (l - (T * w k / c)))), (8, .int (nI k)), (4, .long (lN c)), (0, .long (lN T)), (2, .ref b), (3, .ref S.2.1)]) rfl (Nat.le_of_ble_eq_true rfl) rfl ?_
                refine n_iinc (lv' := [(8, .int (nI (k + 1))), (6, .long (lN (l - (T * w k / c)))), (4, .long (lN c)), (0, .long (lN T)), (2, .ref b), (3, .ref S.2.1)]) 1 rfl rfl (Nat.le_of_ble_eq_true rfl) rfl ?_
                refine r_goto (tgt := 61) rfl rfl ?_
                refine r_lv (lv' := [(8, .int (nI (k + 1))), (6, .long (lN (l - (T * w k / c)))), (4, .long (lN c)), (0, .long (lN T)), (2, .ref b), (3, .ref S.2.1)]) [0, 1, 2, 3, 4, 5] rfl ?_
                exact ih2 (k + 1) S8 (l - T * w k / c) (aup f k (nI ((T * (w k)) / c))) (by omega) w9.2.1 (by omega) (by rw [hS2, hl, Nat.sub_sub]) ⟨hF.wr w9 (fun z => absurd z (Nat.lt_irrefl _)), by omega⟩ ⟨w9.2.2.1, aup_lt hfk rfl⟩
          exact loop2 (m + 1) 0 S1 T _ (by omega) w2.2.1 (Nat.zero_le _) rfl ⟨⟨by omega, w2.2.1, fun i hi _ => ((w2.2.2.2 i (by omega)).trans rfl)⟩, by omega⟩ ⟨w2.2.2.1, fun i hi => absurd hi (Nat.not_lt_zero _)⟩
        · refine r_aload_n rfl rfl ?_
          exact r_aret rfl rfl (Or.inr ⟨_, rfl⟩) (by omega) (by omega) (⟨_, rfl, rfl, ⟨by omega, w2.2.1, fun i hi _ => ((w2.2.2.2 i (by omega)).trans rfl)⟩, by omega, _, w2.2.2.1, fun i hi => by rw [sp_00 (by omega)]; rfl⟩)
      · have h9 : i < m := by omega
        have hwi := hw i h9
        refine r_aload rfl rfl ?_
        refine r_iload rfl rfl ?_
        refine r_lald rfl (by omega) hp4 (by omega) (by omega) ?_
        refine r_topL (y := lN (w i)) (hg i h9) ?_
        refine r_lstore (lv' := [(9, .long (lN (w i))), (8, .int (nI i)), (4, .long (lN c)), (7, .int (nI m)), (6, .ref b), (0, .long (lN T)), (2, .ref b), (3, .ref S.2.1)]) rfl (Nat.le_of_ble_eq_true rfl) rfl ?_
        refine r_lload rfl rfl ?_
        refine r_lload rfl rfl ?_
        refine n_ladd rfl ?_
        refine r_lstore (lv' := [(4, .long (lN (c + (w i)))), (9, .long (lN (w i))), (8, .int (nI i)), (7, .int (nI m)), (6, .ref b), (0, .long (lN T)), (2, .ref b), (3, .ref S.2.1)]) rfl (Nat.le_of_ble_eq_true rfl) rfl ?_
        refine n_iinc (lv' := [(8, .int (nI (i + 1))), (4, .long (lN (c + (w i)))), (9, .long (lN (w i))), (7, .int (nI m)), (6, .ref b), (0, .long (lN T)), (2, .ref b), (3, .ref S.2.1)]) 1 rfl rfl (Nat.le_of_ble_eq_true rfl) rfl ?_
        refine r_goto (tgt := 19) rfl rfl ?_
        refine r_lv (lv' := [(8, .int (nI (i + 1))), (4, .long (lN (c + (w i)))), (7, .int (nI m)), (6, .ref b), (0, .long (lN T)), (2, .ref b), (3, .ref S.2.1)]) [0, 1, 3, 4, 5, 6, 7] rfl ?_
        exact ih (i + 1) (c + w i) (by omega) (by omega) (by rw [hcs]; rfl)
  exact loop (m + 1) 0 0 (by omega) (Nat.zero_le _) rfl

