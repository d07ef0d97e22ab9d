/-! The law's factor by age; its walk down the lines. -/
def ffB (j : Nat) : Int32 := nI 90 - nI (10 * j)
theorem ffB_0 : nI 90 = ffB 0 := by decide
theorem ffB_s : ∀ j, j < 12 → ffB j + Int32.ofInt (-10) = ffB (j + 1) := by decide
theorem ffB_e : ∀ a, a ≤ 120 → ∀ j, j < 12 → a < 20 + 10 * j → (j = 0 ∨ 10 + 10 * j ≤ a) → (if nI 10 < ffB j then ffB j else nI 10) = nI (fa a) := by decide +kernel
theorem e_factor {sc : SC} {S : AS} {a : Nat} (ha : a ≤ 120) : Cal sc mX10_factor 0 0 [.int (nI a)] S (AR fun v S' => v = .int (nI (fa a)) ∧ S = S') := by
  refine Cal.of gmX10_factor (Nat.le_of_ble_eq_true rfl) ?_
  show Wp sc mX10_factor 0 0 0 0 0 [(0, .int (nI a))] [] S (AR fun v S' => v = .int (nI (fa a)) ∧ S = S')
  refine n_bipush 90 rfl (by decide) ?_
  refine r_istore_n (lv' := [(1, .int (nI 90)), (0, .int (nI a))]) rfl rfl (Nat.le_of_ble_eq_true rfl) rfl ?_
  refine n_bipush 20 rfl (by decide) ?_
  refine r_istore_n (lv' := [(2, .int (nI 20)), (1, .int (nI 90)), (0, .int (nI a))]) rfl rfl (Nat.le_of_ble_eq_true rfl) rfl ?_
  refine r_lv (lv' := [(2, .int (nI 20)), (1, .int (nI 90)), (0, .int (nI a))]) [0, 1, 2] rfl ?_
  have loop : ∀ (m9 : Nat) (j : Nat) (c : Nat) (f : Int32), 20 - j < m9 → (c = 20 + 10 * j) → (f = ffB j) → (j = 0 ∨ 10 + 10 * j ≤ a) → Wp sc mX10_factor 0 0 0 0 6 [(2, .int (nI c)), (1, .int f), (0, .int (nI a))] [] S (AR fun v S' => v = .int (nI (fa a)) ∧ S = S') := by
    intro m9
    induction m9 with
    | zero => intro j c f hme; exact absurd hme (Nat.not_lt_zero _)
    | succ m9 ih =>
      intro j c f hme hc hf hj
      refine r_iload_n rfl rfl ?_
      refine r_iload_n rfl rfl ?_
      refine n_icmp_gt (tgt := 20) rfl rfl (by omega) (by omega) (fun h9 => ?_) (fun h9 => ?_)
      · refine n_bipush 10 rfl (by decide) ?_
        refine r_iload_n rfl rfl ?_
        refine r_mmax (μ := mX10_factor) rfl mb_maxLX10_72 ma_maxS maI ma_maxC rfl rfl (Nat.zero_le _) (Nat.zero_le _) ?_
        exact r_ret rfl rfl rfl (by omega) (by omega) (⟨_, rfl, by rw [hf, ffB_e a ha j (by omega) (by omega) hj], rfl⟩)
      · refine r_iinc (lv' := [(1, .int (f + Int32.ofInt (-10))), (2, .int (nI c)), (0, .int (nI a))]) rfl rfl rfl (Nat.le_of_ble_eq_true rfl) rfl ?_
        refine n_iinc (lv' := [(2, .int (nI (c + 10))), (1, .int (f + Int32.ofInt (-10))), (0, .int (nI a))]) 10 rfl rfl (Nat.le_of_ble_eq_true rfl) rfl ?_
        refine r_goto (tgt := 6) rfl rfl ?_
        refine r_lv (lv' := [(2, .int (nI (c + 10))), (1, .int (f + Int32.ofInt (-10))), (0, .int (nI a))]) [0, 1, 2] rfl ?_
        exact ih (j + 1) (c + 10) (f + Int32.ofInt (-10)) (by omega) (by omega) (by rw [hf, ffB_s j (by omega)]) (by omega)
  exact loop 21 0 20 (nI 90) (by omega) rfl ffB_0 (Or.inl rfl)

theorem ES.keep {X P : Nat → Prop} {S S' : AS} {e : Nat} {d : D} {G : Nat → Nat} (h : ES X S e d G) (hF : Fr S S' P) (hP : ∀ i, P i → X i) : ES X S' e d G := by
  have h9 := h
  obtain ⟨V, qa, qd, qg, ql, hi, h1, h2, ⟨a1, a2, a3, a4⟩, h4⟩ := h9
  exact h.fr hF.1 (fun U hU => ⟨U, (hF.2.2 e (by omega) (fun z => a3 (hP e z))).trans hU, fun _ _ => rfl⟩) a3 (fun i _ i2 i3 => ⟨hF.2.2 i i2 (fun z => i3 (hP i z)), i3⟩)
theorem ES.e {X : Nat → Prop} {S : AS} {e : Nat} {d : D} {G : Nat → Nat} (h : ES X S e d G) : 53 ≤ e ∧ e < S.2.1 ∧ ¬ X e := by
  obtain ⟨V, qa, qd, qg, ql, hi, h1, h2, ⟨a1, a2, a3, a4⟩, h4⟩ := h
  exact ⟨a1, by omega, a3⟩
/-- whose lines are walked, and by what -/
def GD (d : D) (w v : Nat) : Prop := (w = 0 ∧ v = 1) ∨ (0 < w ∧ v = dv d (w - 1) ∧ 0 < v ∧ tk d (w - 1) = false)
/-- what the walk has written, of the first i of the children of w -/
def GQ (d : D) (w i : Nat) (f f' : Nat → Int32) : Prop := (∀ p, f' p = f p ∨ (he d p = true ∧ f' p = nI (dv d p))) ∧ ∃ C : Nat → Prop, (∀ p, C p → he d p = true → f' p = nI (dv d p)) ∧ (∀ p, p < i → d 1 p = w → C p) ∧ ∀ p r, C p → 0 < dv d p → tk d p = false → r < d 0 0 → d 1 r = p + 1 → C r
theorem GQ_0 {d : D} {w : Nat} {f : Nat → Int32} : GQ d w 0 f f := ⟨fun _ => Or.inl rfl, fun _ => False, fun _ h => h.elim, fun _ h => absurd h (Nat.not_lt_zero _), fun _ _ h => h.elim⟩
theorem GQ_no {d : D} {w i : Nat} {f f1 : Nat → Int32} (h : GQ d w i f f1) (hi : d 1 i ≠ w) : GQ d w (i + 1) f f1 := by
  obtain ⟨h1, C, h2, h3, h4⟩ := h
  refine ⟨h1, C, h2, fun p hp hw => ?_, h4⟩
  by_cases e : p = i
  · subst e; exact absurd hw hi
  · exact h3 p (by omega) hw
theorem GQ_em {d : D} {w i : Nat} {f f1 : Nat → Int32} (h : GQ d w i f f1) (hi : dv d i = 0) : GQ d w (i + 1) f f1 := by
  obtain ⟨h1, C, h2, h3, h4⟩ := h
  refine ⟨h1, fun p => C p ∨ p = i, fun p hp he1 => ?_, fun p hp hw => ?_, fun p r hp h0 ht hr hrp => ?_⟩
  · rcases hp with hp | hp
    · exact h2 p hp he1
    · subst hp; unfold he at he1; rw [hi] at he1; cases he1
  · by_cases e : p = i
    · exact Or.inr e
    · exact Or.inl (h3 p (by omega) hw)
  · rcases hp with hp | hp
    · exact Or.inl (h4 p r hp h0 ht hr hrp)
    · subst hp; omega
theorem GQ_tk {d : D} {w i : Nat} {f f1 : Nat → Int32} (h : GQ d w i f f1) (hi : he d i = true) : GQ d w (i + 1) f (aup f1 i (nI (dv d i))) := by
  obtain ⟨h1, C, h2, h3, h4⟩ := h
  refine ⟨fun p => ?_, fun p => C p ∨ p = i, fun p hp he1 => ?_, fun p hp hw => ?_, fun p r hp h0 ht hr hrp => ?_⟩
  · by_cases e : p = i
    · subst e; exact Or.inr ⟨hi, aup_s _ _ _⟩
    · rw [aup_n _ _ e]; exact h1 p
  · by_cases e : p = i
    · subst e; exact aup_s _ _ _
    · rw [aup_n _ _ e]; exact h2 p (hp.resolve_right e) he1
  · by_cases e : p = i
    · exact Or.inr e
    · exact Or.inl (h3 p (by omega) hw)
  · rcases hp with hp | hp
    · exact Or.inl (h4 p r hp h0 ht hr hrp)
    · subst hp; unfold he at hi; rw [ht, Bool.and_false] at hi; cases hi
theorem GQ_go {d : D} {w i : Nat} {f f1 f2 : Nat → Int32} (h : GQ d w i f f1) (g : GQ d (i + 1) (d 0 0) f1 f2) (ht9 : tk d i = false) : GQ d w (i + 1) f f2 := by
  obtain ⟨h1, C, h2, h3, h4⟩ := h
  obtain ⟨g1, E, g2, g3, g4⟩ := g
  refine ⟨fun p => ?_, fun p => C p ∨ p = i ∨ E p, fun p hp he1 => ?_, fun p hp hw => ?_, fun p r hp h0 ht hr hrp => ?_⟩
  · rcases g1 p with q | q
    · rw [q]; exact h1 p
    · exact Or.inr q
  · rcases hp with hp | hp | hp
    · rcases g1 p with q | q
      · rw [q]; exact h2 p hp he1
      · exact q.2
    · subst hp; unfold he at he1; rw [ht9, Bool.and_false] at he1; cases he1
    · exact g2 p hp he1
  · by_cases e : p = i
    · exact Or.inr (Or.inl e)
    · exact Or.inl (h3 p (by omega) hw)
  · rcases hp with hp | hp | hp
    · exact Or.inl (h4 p r hp h0 ht hr hrp)
    · subst hp; exact Or.inr (Or.inr (g3 r hr hrp))
    · exact Or.inr (Or.inr (g4 p r hp h0 ht hr hrp))
theorem GQ_all {d : D} (hd : Vd d) {C : Nat → Prop} (h3 : ∀ p, p < d 0 0 → d 1 p = 0 → C p) (h4 : ∀ p r, C p → 0 < dv d p → tk d p = false → r < d 0 0 → d 1 r = p + 1 → C r) : ∀ m p, p < m → p < d 0 0 → 0 < dv d p → C p
  | 0, p, h, _, _ => absurd h (Nat.not_lt_zero _)
  | m + 1, p, h, hp, h0 => by
    have h1 := h0
    rw [dv_eq hd hp] at h1
    unfold dvF at h1
    split at h1
    · rename_i q
      rcases q.2 with q2 | q2
      · exact h3 p hp q2
      · have q3 := vQ hd p hp
        by_cases q4 : d 1 p = 0
        · exact h3 p hp q4
        exact h4 (d 1 p - 1) p (GQ_all hd h3 h4 m _ (by omega) (by omega) q2.1) q2.1 q2.2 hp (by omega)
    · exact absurd h1 (Nat.lt_irrefl 0)
theorem GQ_end {d : D} (hd : Vd d) {f' : Nat → Int32} (h : GQ d 0 (d 0 0) (fun _ => 0) f') : ∀ p, p < d 0 0 → f' p = nI (if he d p = true then dv d p else 0) := by
  intro p hp
  obtain ⟨h1, C, h2, h3, h4⟩ := h
  by_cases e : he d p = true
  · rw [if_pos e]
    have h0 : 0 < dv d p := by
      unfold he at e
      rw [Bool.and_eq_true] at e
      exact of_decide_eq_true e.1
    exact h2 p (GQ_all hd h3 h4 (p + 1) p (Nat.lt_succ_self p) hp h0) e
  · rw [if_neg e]
    rcases h1 p with q | q
    · exact q
    · exact absurd q.1 e
theorem dv_ch {d : D} (hd : Vd d) {p w v : Nat} (hp : p < d 0 0) (hw : d 1 p = w) (hL : isL d p = true) (hg : GD d w v) : dv d p = v * cu d w ∧ 0 < dv d p := by
  have hc := cu_pos hL
  rw [hw] at hc
  have e : dv d p = v * cu d w := by
    rw [dv_eq hd hp]
    unfold dvF
    rcases hg with ⟨h1, h2⟩ | ⟨h1, h2, h3, h4⟩
    · rw [hw, h1, if_pos ⟨hL, Or.inl rfl⟩, if_pos rfl, h2]
    · rw [hw, if_pos ⟨hL, Or.inr ⟨by omega, h4⟩⟩, if_neg (by omega), ← h2]
  rw [e]
  refine ⟨rfl, Nat.mul_pos ?_ hc⟩
  rcases hg with ⟨h1, h2⟩ | ⟨h1, h2, h3, h4⟩ <;> omega
theorem he_of {d : D} {p : Nat} (h0 : 0 < dv d p) (ht : tk d p = true) : he d p = true := by
  unfold he
  rw [ht, Bool.and_true]
  exact decide_eq_true h0
theorem rm_GL {dd : Nat} {rest : List Value} (h : (rest.map fun v => v.category).sum ≤ 8) : rmB (mX10_goes dd) (mX10_lines 12) rest = true := rmE (show 2 * 12 + 3 + 1 ≤ dd + 28 by omega) (show 8 + (4 + 11) + (64 * 12 + 96) ≤ 32 * dd + 1000 by omega) h
theorem rm_GE {dd : Nat} {rest : List Value} (h : (rest.map fun v => v.category).sum ≤ 8) : rmB (mX10_goes dd) (mX10_isEmpty 12) rest = true := rmE (show 2 * 12 + 2 + 1 ≤ dd + 28 by omega) (show 8 + (2 + 11) + (64 * 12 + 64) ≤ 32 * dd + 1000 by omega) h
theorem rm_GT {dd : Nat} {rest : List Value} (h : (rest.map fun v => v.category).sum ≤ 8) : rmB (mX10_goes dd) mX10_takes rest = true := rmE (show 0 + 1 ≤ dd + 28 by omega) (show 8 + (2 + 11) + 0 ≤ 32 * dd + 1000 by omega) h
theorem rm_GG {dd : Nat} {rest : List Value} (h : (rest.map fun v => v.category).sum ≤ 8) : rmB (mX10_goes (dd + 1)) (mX10_goes dd) rest = true := rmE (show dd + 28 + 1 ≤ dd + 1 + 28 by omega) (show 8 + (5 + 11) + (32 * dd + 1000) ≤ 32 * (dd + 1) + 1000 by omega) h
/-- the walk, by a depth that is left -/
abbrev cG (sc : SC) (e q : Nat) (d : D) (G : Nat → Nat) (dd : Nat) : Prop := ∀ (X : Nat → Prop) (S : AS) (f : Nat → Int32) (w v : Nat), S.2.2 = true → ES X S e d G → X q → q < S.2.1 → (∀ V, S.1 e = oO 10 V → V 16 = .ref q) → S.1 q = oI0 0 (d 0 0) f → w ≤ d 0 0 → d 0 0 - w ≤ dd → GD d w v → Cal sc (mX10_goes dd) 0 0 [.ref e, .int (oI w), .int (nI v)] S (AV0 fun S' => Fr S S' (fun i => i = q) ∧ S'.2.1 = S.2.1 ∧ ∃ f', S'.1 q = oI0 0 (d 0 0) f' ∧ GQ d w (d 0 0) f f')
theorem e_goes_st {sc : SC} {S : AS} {X : Nat → Prop} {e q : Nat} {d : D} {G : Nat → Nat} {f : Nat → Int32} {w v dd1 : Nat} (hd : Vd d) (hc : dd1 = 0 ∨ ∃ dd, dd1 = dd + 1 ∧ cG sc e q d G dd) (hx : S.2.2 = true) (hE : ES X S e d G) (hXq : X q) (hq : q < S.2.1) (hQ : ∀ V, S.1 e = oO 10 V → V 16 = .ref q) (hfq : S.1 q = oI0 0 (d 0 0) f) (hw : w ≤ d 0 0) (hdd : d 0 0 - w ≤ dd1) (hg : GD d w v) : Cal sc (mX10_goes dd1) 0 0 [.ref e, .int (oI w), .int (nI v)] S (AV0 fun S' => Fr S S' (fun i => i = q) ∧ S'.2.1 = S.2.1 ∧ ∃ f', S'.1 q = oI0 0 (d 0 0) f' ∧ GQ d w (d 0 0) f f') := by
  refine Cal.of (gmX10_goes dd1) (Nat.le_of_ble_eq_true rfl) ?_
  have hE9 := hE
  obtain ⟨V, qa, qd, qg, ql, hi, ⟨hV, ⟨v0, v1, v2, v3, v4, v5⟩, ⟨v6, v7, v8, v9⟩, ⟨v10, v11, v12, v13⟩⟩, ⟨f1, f2, f3, f4, ⟨hf1, k1⟩, ⟨hf2, k2⟩, ⟨hf3, k3⟩, ⟨hf4, k4⟩⟩, ⟨b1, b2, -, -⟩, b3, hEA, hED, hEG, hEL⟩ := hE9
  have hVA := vA hd
  have hVC := vC hd
  show Wp sc (mX10_goes dd1) 0 0 0 0 0 [(0, .ref e), (1, .int (oI w)), (2, .int (nI v))] [] S (AV0 fun S' => Fr S S' (fun i => i = q) ∧ S'.2.1 = S.2.1 ∧ ∃ f', S'.1 q = oI0 0 (d 0 0) f' ∧ GQ d w (d 0 0) f f')
  refine r_aload_n rfl rfl ?_
  refine r_iload_n rfl rfl ?_
  refine c_virA [.int (oI w)] [] rfl (lkX10_55 12) (by omega) hV rfl rfl (e_lines (S := S) hd hE hw) rfl (rm_GL (Nat.zero_le _)) (by omega) (by omega) rfl ?_
  rintro _ _ ⟨rfl, rfl⟩
  refine r_istore_n (lv' := [(3, .int (nI (cu d w))), (0, .ref e), (1, .int (oI w)), (2, .int (nI v))]) rfl rfl (Nat.le_of_ble_eq_true rfl) rfl ?_
  refine n_iconst 0 rfl ?_
  refine r_istore (lv' := [(4, .int (nI 0)), (3, .int (nI (cu d w))), (0, .ref e), (1, .int (oI w)), (2, .int (nI v))]) rfl (Nat.le_of_ble_eq_true rfl) rfl ?_
  refine r_lv (lv' := [(4, .int (nI 0)), (3, .int (nI (cu d w))), (0, .ref e), (1, .int (oI w)), (2, .int (nI v))]) [0, 1, 2, 3, 4] rfl ?_
  have loop : ∀ (m9 : Nat) (i : Nat) (S7 : AS) (f7 : Nat → Int32), d 0 0 - i < m9 → (S7.2.2 = true) → (i ≤ d 0 0) → (Fr S S7 (fun i => i = q) ∧ S7.2.1 = S.2.1) → (S7.1 q = oI0 0 (d 0 0) f7 ∧ GQ d w i f f7) → Wp sc (mX10_goes dd1) 0 0 0 0 9 [(4, .int (nI i)), (3, .int (nI (cu d w))), (0, .ref e), (1, .int (oI w)), (2, .int (nI v))] [] S7 (AV0 fun S' => Fr S S' (fun i => i = q) ∧ S'.2.1 = S.2.1 ∧ ∃ f', S'.1 q = oI0 0 (d 0 0) f' ∧ GQ d w (d 0 0) f f') := by
    intro m9
    induction m9 with
    | zero => intro i S7 f7 hme; exact absurd hme (Nat.not_lt_zero _)
    | succ m9 ih =>
      intro i S7 f7 hme hxS7 hi hF hf
      obtain ⟨hF, hz7⟩ := hF
      obtain ⟨hf7, hG7⟩ := hf
      have hE7 : ES X S7 e d G := hE.keep hF (fun i (z : i = q) => by rw [z]; exact hXq)
      have hQ7 : ∀ V, S7.1 e = oO 10 V → V 16 = .ref q := fun V h => hQ V ((hF.2.2 e hE.e.2.1 (fun z => hE.e.2.2 (by rw [z]; exact hXq))).symm.trans h)
      have hE9 := hE7
      obtain ⟨V, qa, qd, qg, ql, hi, ⟨hV, ⟨v0, v1, v2, v3, v4, v5⟩, ⟨v6, v7, v8, v9⟩, ⟨v10, v11, v12, v13⟩⟩, ⟨f1, f2, f3, f4, ⟨hf1, k1⟩, ⟨hf2, k2⟩, ⟨hf3, k3⟩, ⟨hf4, k4⟩⟩, ⟨b1, b2, -, -⟩, b3, hEA, hED, hEG, hEL⟩ := hE9
      have hVA := vA hd
      have hVC := vC hd
      refine r_iload rfl rfl ?_
      refine r_aload_n rfl rfl ?_
      refine r_getf (v := .int (nI (d 0 0))) rfl flX10_59 (by omega) hV v0 ?_
      refine n_icmp_ge (tgt := 87) rfl rfl (by omega) (by omega) (fun h9 => ?_) (fun h9 => ?_)
      · have e9 : i = d 0 0 := by omega
        rw [e9] at hG7
        exact r_vret rfl rfl (by omega) (by omega) (⟨rfl, hF, hz7, f7, hf7, hG7⟩)
      · have h9 : i < d 0 0 := by omega
        have hd1 := vQ hd i h9
        refine r_iload rfl rfl ?_
        refine r_aload_n rfl rfl ?_
        refine r_getf (v := .int (oI (d 0 5))) rfl flX10_7 (by omega) hV v1 ?_
        refine r_icmp_eq (tgt := 81) rfl rfl (fun h8 => ?_) (fun h8 => ?_)
        · have e8 : d 0 5 = i + 1 := (oI_q (by omega) (by omega)).mp h8
          refine n_iinc (lv' := [(4, .int (nI (i + 1))), (3, .int (nI (cu d w))), (0, .ref e), (1, .int (oI w)), (2, .int (nI v))]) 1 rfl rfl (Nat.le_of_ble_eq_true rfl) rfl ?_
          refine r_goto (tgt := 9) rfl rfl ?_
          refine r_lv (lv' := [(4, .int (nI (i + 1))), (3, .int (nI (cu d w))), (0, .ref e), (1, .int (oI w)), (2, .int (nI v))]) [0, 1, 2, 3, 4] rfl ?_
          exact ih (i + 1) S7 f7 (by omega) hxS7 (by omega) ⟨hF, hz7⟩ ⟨hf7, GQ_em hG7 (dv_L hd (isL_sp e8))⟩
        refine r_aload_n rfl rfl ?_
        refine r_getf (v := .ref ((e + 1))) rfl flX10_23 (by omega) hV v6 ?_
        refine r_iload rfl rfl ?_
        refine r_iald rfl (by omega) hf1 (by omega) (by decide) ?_
        refine r_top (y := oI (d 1 i)) (k1 i h9) ?_
        refine r_iload_n rfl rfl ?_
        refine r_icmp_ne (tgt := 81) rfl rfl (fun h7 => ?_) (fun h7 => ?_)
        · refine n_iinc (lv' := [(4, .int (nI (i + 1))), (3, .int (nI (cu d w))), (0, .ref e), (1, .int (oI w)), (2, .int (nI v))]) 1 rfl rfl (Nat.le_of_ble_eq_true rfl) rfl ?_
          refine r_goto (tgt := 9) rfl rfl ?_
          refine r_lv (lv' := [(4, .int (nI (i + 1))), (3, .int (nI (cu d w))), (0, .ref e), (1, .int (oI w)), (2, .int (nI v))]) [0, 1, 2, 3, 4] rfl ?_
          exact ih (i + 1) S7 f7 (by omega) hxS7 (by omega) ⟨hF, hz7⟩ ⟨hf7, GQ_no hG7 (fun z => h7 ((oI_eq (by omega) (by omega)).mpr z))⟩
        have e7 : d 1 i = w := (oI_eq (by omega) (by omega)).mp h7
        refine r_aload_n rfl rfl ?_
        refine r_iload rfl rfl ?_
        refine c_virA [.int (nI i)] [] rfl (lkX10_62 12) (by omega) hV rfl rfl (e_empty (S := S7) hd hE7 h9) rfl (rm_GE (Nat.zero_le _)) (by omega) (by omega) rfl ?_
        rintro _ _ ⟨rfl, rfl⟩
        cases hL : isL d i
        · refine n_if_eq (tgt := 50) rfl rfl (by decide) (fun hq => absurd hq (by decide)) (fun _ => ?_)
          refine r_goto (tgt := 81) rfl rfl ?_
          refine n_iinc (lv' := [(4, .int (nI (i + 1))), (3, .int (nI (cu d w))), (0, .ref e), (1, .int (oI w)), (2, .int (nI v))]) 1 rfl rfl (Nat.le_of_ble_eq_true rfl) rfl ?_
          refine r_goto (tgt := 9) rfl rfl ?_
          refine r_lv (lv' := [(4, .int (nI (i + 1))), (3, .int (nI (cu d w))), (0, .ref e), (1, .int (oI w)), (2, .int (nI v))]) [0, 1, 2, 3, 4] rfl ?_
          exact ih (i + 1) S7 f7 (by omega) hxS7 (by omega) ⟨hF, hz7⟩ ⟨hf7, GQ_em hG7 (dv_L hd hL)⟩
        · refine n_if_eq (tgt := 50) rfl rfl (by decide) (fun _ => ?_) (fun hq => absurd hq (by decide))
          obtain ⟨hv1, hv0⟩ := dv_ch hd h9 e7 hL hg
          refine r_aload_n rfl rfl ?_
          refine r_iload rfl rfl ?_
          refine c_virA [.int (nI i)] [] rfl lkX10_51 (by omega) hV rfl rfl (e_takes (S := S7) hd hE7 h9) rfl (rm_GT (Nat.zero_le _)) (by omega) (by omega) rfl ?_
          rintro _ _ ⟨rfl, rfl⟩
          cases hT : tk d i
          · refine n_if_eq (tgt := 72) rfl rfl (by decide) (fun _ => ?_) (fun hq => absurd hq (by decide))
            obtain ⟨dd, rfl, hcg⟩ := hc.resolve_left (by omega)
            have hc1 := hcg X S7 f7 (i + 1) (v * cu d w) hxS7 hE7 hXq (by omega) hQ7 hf7 (by omega) (by omega) (Or.inr ⟨by omega, hv1.symm, by omega, hT⟩)
            rw [oI_s] at hc1
            refine r_aload_n rfl rfl ?_
            refine r_iload rfl rfl ?_
            refine r_iload_n rfl rfl ?_
            refine r_iload_n rfl rfl ?_
            refine n_imul rfl ?_
            refine c_virV [.int (nI i), .int (nI (v * (cu d w)))] [] rfl (lkX10_68 dd) (by omega) hV rfl rfl hc1 rfl (rm_GG (Nat.zero_le _)) (by omega) (by omega) rfl ?_
            rintro S1 ⟨fr2, hz8, f8, hf8, hG8⟩
            have z3 := fr2.1
            refine n_iinc (lv' := [(4, .int (nI (i + 1))), (3, .int (nI (cu d w))), (0, .ref e), (1, .int (oI w)), (2, .int (nI v))]) 1 rfl rfl (Nat.le_of_ble_eq_true rfl) rfl ?_
            refine r_goto (tgt := 9) rfl rfl ?_
            refine r_lv (lv' := [(4, .int (nI (i + 1))), (3, .int (nI (cu d w))), (0, .ref e), (1, .int (oI w)), (2, .int (nI v))]) [0, 1, 2, 3, 4] rfl ?_
            exact ih (i + 1) S1 f8 (by omega) fr2.2.1 (by omega) ⟨hF.tr fr2 (fun _ _ z => z), by omega⟩ ⟨hf8, GQ_go hG7 hG8 hT⟩
          · refine n_if_eq (tgt := 72) rfl rfl (by decide) (fun hq => absurd hq (by decide)) (fun _ => ?_)
            refine r_aload_n rfl rfl ?_
            refine r_getf (v := .ref q) rfl flX10_65 (by omega) hV (hQ7 V hV) ?_
            refine r_iload rfl rfl ?_
            refine r_iload_n rfl rfl ?_
            refine r_iload_n rfl rfl ?_
            refine n_imul rfl ?_
            refine t_iast rfl hxS7 (by omega) hf7 (by omega) (by omega) ?_
            intro S4 w5
            have z6 := w5.1
            refine r_goto (tgt := 81) rfl rfl ?_
            refine n_iinc (lv' := [(4, .int (nI (i + 1))), (3, .int (nI (cu d w))), (0, .ref e), (1, .int (oI w)), (2, .int (nI v))]) 1 rfl rfl (Nat.le_of_ble_eq_true rfl) rfl ?_
            refine r_goto (tgt := 9) rfl rfl ?_
            refine r_lv (lv' := [(4, .int (nI (i + 1))), (3, .int (nI (cu d w))), (0, .ref e), (1, .int (oI w)), (2, .int (nI v))]) [0, 1, 2, 3, 4] rfl ?_
            exact ih (i + 1) S4 _ (by omega) w5.2.1 (by omega) ⟨hF.wr w5 (fun _ => rfl), by omega⟩ ⟨w5.2.2.1, by rw [← hv1]; exact GQ_tk hG7 (he_of hv0 hT)⟩
  exact loop (d 0 0 + 1) 0 S f (by omega) hx (Nat.zero_le _) ⟨Fr.rf hx, rfl⟩ ⟨hfq, GQ_0⟩

theorem e_goes_all {sc : SC} {e q : Nat} {d : D} {G : Nat → Nat} (hd : Vd d) : ∀ dd, cG sc e q d G dd
  | 0 => fun X S f w v h1 h2 h3 h4 h5 h6 h7 h8 h9 => e_goes_st hd (Or.inl rfl) h1 h2 h3 h4 h5 h6 h7 h8 h9
  | dd + 1 => fun X S f w v h1 h2 h3 h4 h5 h6 h7 h8 h9 => e_goes_st hd (Or.inr ⟨dd, rfl, e_goes_all hd dd⟩) h1 h2 h3 h4 h5 h6 h7 h8 h9
theorem e_goes {sc : SC} {S : AS} {X : Nat → Prop} {e q : Nat} {d : D} {G : Nat → Nat} (hd : Vd d) (hx : S.2.2 = true) (hE : ES X S e d G) (hXq : X q) (hq : q < S.2.1) (hQ : ∀ V, S.1 e = oO 10 V → V 16 = .ref q) (hfq : S.1 q = oI0 0 (d 0 0) (fun _ => 0)) : Cal sc (mX10_goes 12) 0 0 [.ref e, .int (-1), .int (nI 1)] S (AV0 fun S' => Fr S S' (fun i => i = q) ∧ S'.2.1 = S.2.1 ∧ ∃ f', S'.1 q = oI0 0 (d 0 0) f' ∧ ∀ p, p < d 0 0 → f' p = nI (if he d p = true then dv d p else 0)) := by
  have h := e_goes_all (sc := sc) (e := e) (q := q) hd 12 X S (fun _ => 0) 0 1 hx hE hXq hq hQ hfq (Nat.zero_le _) (by have := (vC hd).1; omega) (Or.inl ⟨rfl, rfl⟩)
  rw [oI_0] at h
  refine h.mono (fun r S' => ?_)
  rintro ⟨h1, h2, h3, f', h4, h5⟩
  exact ⟨h1, h2, h3, f', h4, GQ_end hd h5⟩
