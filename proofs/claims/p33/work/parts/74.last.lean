/-! The estate's last statements: share, life, accrue. -/
theorem Fr.wk {S S' : AS} {X Y : Nat → Prop} (h : Fr S S' X) (hX : ∀ i, X i → Y i) : Fr S S' Y := ⟨h.1, h.2.1, fun i hi hn => h.2.2 i hi (fun z => hn (hX i z))⟩
def X9 (K : Nat → Prop) (g : Nat) : Nat → Prop := fun i => ¬ K i ∨ Xg g i
def FS (S0 S : AS) (t g : Nat) : Prop := Fr S0 S (fun i => t ≤ i ∨ i = g)
def EG (K : Nat → Prop) (S0 S : AS) (t g e : Nat) (l : List Nat) (d : D) : Prop := FS S0 S t g ∧ (g < t ∧ t < e ∧ 53 ≤ g ∧ e < S.2.1) ∧ (∃ fg, S.1 g = oI0 0 1 fg) ∧ ES (X9 K g) S e d (gf d) ∧ eGm (X9 K g) S e (d 0 3) ∧ SLK K S t l ∧ ((∀ i, K i → i < S.2.1) ∧ K e ∧ ∀ i, i < t → K i) ∧ 0 < d 0 0 ∧ 0 < d 0 1
theorem EG.keep {K X : Nat → Prop} {S0 S S' : AS} {t g e : Nat} {l l' : List Nat} {d : D} {fg : Nat → Int32} (h : EG K S0 S t g e l d) (hF : Fr S S' X) (hX : ∀ i, X i → X9 K g i ∧ (i < t → i = g)) (hG : S'.1 g = oI0 0 1 fg) (hB : SLK K S' t l') : EG K S0 S' t g e l' d := by
  obtain ⟨h1, ⟨a1, a2, a3, a4⟩, -, h3, h4, h5, ⟨b1, b2, b3⟩, h7, h8⟩ := h
  have hee := h3.e
  have hz := hF.1
  exact ⟨h1.tr (hF.wk (fun i z => (Nat.lt_or_ge i t).elim (fun y => Or.inr ((hX i z).2 y)) Or.inl)) (fun _ _ z => z), ⟨a1, a2, a3, by omega⟩, ⟨fg, hG⟩, h3.keep hF (fun i z => (hX i z).1), h4.keep hF a4 hee.2.2 (fun i z => (hX i z).1), hB, ⟨fun i z => Nat.lt_of_lt_of_le (b1 i z) hz, b2, b3⟩, h7, h8⟩
theorem EG.draw {K : Nat → Prop} {S0 S S' : AS} {t g e : Nat} {l : List Nat} {d : D} {fg : Nat → Int32} (h : EG K S0 S t g e l d) (hF : Fr S S' (fun i => i = g)) (hG : S'.1 g = oI0 0 1 fg) : EG K S0 S' t g e l d :=
  h.keep hF (fun i z => ⟨Or.inr (Or.inr z), fun _ => z⟩) hG (h.2.2.2.2.2.1.mv hF (fun i z => by rw [z]; exact h.2.2.2.2.2.2.1.2.2 g h.2.1.1) (fun i z => Or.inl z))
theorem EG.app {K : Nat → Prop} {S0 S S' : AS} {t g e : Nat} {l l' : List Nat} {d : D} (h : EG K S0 S t g e l d) (hF : Fr S S' (fun i => ¬ K i)) (hB : SLK K S' t l') : EG K S0 S' t g e l' d := by
  obtain ⟨fg, hG⟩ := h.2.2.1
  have hKg : K g := h.2.2.2.2.2.2.1.2.2 g h.2.1.1
  exact h.keep (fg := fg) hF (fun i z => ⟨Or.inl z, fun y => absurd (h.2.2.2.2.2.2.1.2.2 i y) z⟩) ((hF.2.2 g (h.2.2.2.2.2.2.1.1 g hKg) (fun z => z hKg)).trans hG) hB
/-- a number of the object altered -/
theorem EG.put {K : Nat → Prop} {S0 S S' : AS} {t g e j : Nat} {x : Value} {l : List Nat} {d d' : D} {V : Nat → Value} (h : EG K S0 S t g e l d) (hV : S.1 e = oO 10 V) (hW : Wr S e (oO 10 (aup V j x)) S') (hj : j ≠ 12) (hE : ES (X9 K g) S' e d' (gf d')) (h3 : d' 0 3 = d 0 3) (h00 : d' 0 0 = d 0 0) (h01 : d' 0 1 = d 0 1) : EG K S0 S' t g e l d' := by
  obtain ⟨h1, ⟨a1, a2, a3, a4⟩, ⟨fg, hG⟩, -, h4, h5, ⟨b1, b2, b3⟩, h7, h8⟩ := h
  have hz := hW.1
  have hF : Fr S S' (fun i => i = e) := ⟨by omega, hW.2.1, fun i hi hn => hW.2.2.2 i hn⟩
  exact ⟨h1.tr (hF.wk (fun i (z : i = e) => Or.inl (by omega))) (fun _ _ z => z), ⟨a1, a2, a3, by omega⟩, ⟨fg, (hW.2.2.2 g (by omega)).trans hG⟩, hE, by rw [h3]; exact h4.up hF hV hW.2.2.1 (aup_n _ _ (Ne.symm hj)), h5.mv hF (fun i z => by rw [z]; exact b2) (fun i z => Or.inl z), ⟨fun i z => by have := b1 i z; omega, b2, b3⟩, by rw [h00]; exact h7, by rw [h01]; exact h8⟩
theorem es_v2 {X : Nat → Prop} {S S' : AS} {e v : Nat} {d : D} {G : Nat → Nat} {V : Nat → Value} (h : ES X S e d G) (hV : S.1 e = oO 10 V) (hW : Wr S e (oO 10 (aup V 2 (.int (nI v)))) S') : ES X S' e (up d 0 7 v) G := by
  obtain ⟨V2, qa, qd, qg, ql, hi, ⟨g1, ⟨v0, v1, v2, v3, v4, v5⟩, ⟨v6, v7, v8, v9⟩, ⟨v10, v11, v12, v13⟩⟩, g2, ⟨a1, a2, a3, a4⟩, b1, b2, b3, b4, b5⟩ := h
  have e1 := oO_in (g1.symm.trans hV)
  subst e1
  have hz := hW.1
  have fr : ∀ lo, e + 9 ≤ lo → ∀ i, lo ≤ i → i < S.2.1 → ¬ X i → S'.1 i = S.1 i ∧ ¬ X i := fun lo hlo i i1 i2 i3 => ⟨hW.2.2.2 i (by omega), i3⟩
  have n5 : ∀ k, k ≠ 2 → aup V2 2 (.int (nI v)) k = V2 k := fun k hk => aup_n _ _ hk
  exact ⟨_, qa, qd, qg, ql, hi, ⟨hW.2.2.1, ⟨(n5 0 (by decide)).trans v0, (n5 1 (by decide)).trans v1, aup_s _ _ _, (n5 3 (by decide)).trans v3, (n5 4 (by decide)).trans v4, (n5 5 (by decide)).trans v5⟩, ⟨(n5 6 (by decide)).trans v6, (n5 7 (by decide)).trans v7, (n5 8 (by decide)).trans v8, (n5 9 (by decide)).trans v9⟩, ⟨(n5 10 (by decide)).trans v10, (n5 11 (by decide)).trans v11, (n5 12 (by decide)).trans v12, (n5 13 (by decide)).trans v13⟩⟩, g2.fr (fun i i1 i2 => hW.2.2.2 i (by omega)), ⟨a1, by omega, a3, a4⟩, b1, b2.fr (by omega) (fr _ (Nat.le_refl _)), b3.fr (by omega) (fr _ b1), b4.fr (by omega) (fr _ b1), b5.fr (by omega) (fr _ b1)⟩
theorem es_v3 {X : Nat → Prop} {S S' : AS} {e v : Nat} {d : D} {G : Nat → Nat} {V : Nat → Value} (h : ES X S e d G) (hV : S.1 e = oO 10 V) (hW : Wr S e (oO 10 (aup V 3 (.int (nI v)))) S') : ES X S' e (up d 0 6 v) G := by
  obtain ⟨V2, qa, qd, qg, ql, hi, ⟨g1, ⟨v0, v1, v2, v3, v4, v5⟩, ⟨v6, v7, v8, v9⟩, ⟨v10, v11, v12, v13⟩⟩, g2, ⟨a1, a2, a3, a4⟩, b1, b2, b3, b4, b5⟩ := h
  have e1 := oO_in (g1.symm.trans hV)
  subst e1
  have hz := hW.1
  have fr : ∀ lo, e + 9 ≤ lo → ∀ i, lo ≤ i → i < S.2.1 → ¬ X i → S'.1 i = S.1 i ∧ ¬ X i := fun lo hlo i i1 i2 i3 => ⟨hW.2.2.2 i (by omega), i3⟩
  have n5 : ∀ k, k ≠ 3 → aup V2 3 (.int (nI v)) k = V2 k := fun k hk => aup_n _ _ hk
  exact ⟨_, qa, qd, qg, ql, hi, ⟨hW.2.2.1, ⟨(n5 0 (by decide)).trans v0, (n5 1 (by decide)).trans v1, (n5 2 (by decide)).trans v2, aup_s _ _ _, (n5 4 (by decide)).trans v4, (n5 5 (by decide)).trans v5⟩, ⟨(n5 6 (by decide)).trans v6, (n5 7 (by decide)).trans v7, (n5 8 (by decide)).trans v8, (n5 9 (by decide)).trans v9⟩, ⟨(n5 10 (by decide)).trans v10, (n5 11 (by decide)).trans v11, (n5 12 (by decide)).trans v12, (n5 13 (by decide)).trans v13⟩⟩, g2.fr (fun i i1 i2 => hW.2.2.2 i (by omega)), ⟨a1, by omega, a3, a4⟩, b1, b2.fr (by omega) (fr _ (Nat.le_refl _)), b3.fr (by omega) (fr _ b1), b4.fr (by omega) (fr _ b1), b5.fr (by omega) (fr _ b1)⟩
theorem es_v4 {X : Nat → Prop} {S S' : AS} {e v : Nat} {d : D} {G : Nat → Nat} {V : Nat → Value} (h : ES X S e d G) (hV : S.1 e = oO 10 V) (hW : Wr S e (oO 10 (aup V 4 (.int (nI v)))) S') : ES X S' e (up d 0 8 v) G := by
  obtain ⟨V2, qa, qd, qg, ql, hi, ⟨g1, ⟨v0, v1, v2, v3, v4, v5⟩, ⟨v6, v7, v8, v9⟩, ⟨v10, v11, v12, v13⟩⟩, g2, ⟨a1, a2, a3, a4⟩, b1, b2, b3, b4, b5⟩ := h
  have e1 := oO_in (g1.symm.trans hV)
  subst e1
  have hz := hW.1
  have fr : ∀ lo, e + 9 ≤ lo → ∀ i, lo ≤ i → i < S.2.1 → ¬ X i → S'.1 i = S.1 i ∧ ¬ X i := fun lo hlo i i1 i2 i3 => ⟨hW.2.2.2 i (by omega), i3⟩
  have n5 : ∀ k, k ≠ 4 → aup V2 4 (.int (nI v)) k = V2 k := fun k hk => aup_n _ _ hk
  exact ⟨_, qa, qd, qg, ql, hi, ⟨hW.2.2.1, ⟨(n5 0 (by decide)).trans v0, (n5 1 (by decide)).trans v1, (n5 2 (by decide)).trans v2, (n5 3 (by decide)).trans v3, aup_s _ _ _, (n5 5 (by decide)).trans v5⟩, ⟨(n5 6 (by decide)).trans v6, (n5 7 (by decide)).trans v7, (n5 8 (by decide)).trans v8, (n5 9 (by decide)).trans v9⟩, ⟨(n5 10 (by decide)).trans v10, (n5 11 (by decide)).trans v11, (n5 12 (by decide)).trans v12, (n5 13 (by decide)).trans v13⟩⟩, g2.fr (fun i i1 i2 => hW.2.2.2 i (by omega)), ⟨a1, by omega, a3, a4⟩, b1, b2.fr (by omega) (fr _ (Nat.le_refl _)), b3.fr (by omega) (fr _ b1), b4.fr (by omega) (fr _ b1), b5.fr (by omega) (fr _ b1)⟩
theorem EG.V {K : Nat → Prop} {S0 S : AS} {t g e : Nat} {l : List Nat} {d : D} (h : EG K S0 S t g e l d) : ∃ V, S.1 e = oO 10 V ∧ V 5 = .int (nI (d 0 9)) := by
  obtain ⟨-, -, -, ⟨V, q1, q2, q3, q4, q5, ⟨g1, ⟨-, -, -, -, -, v5⟩, -⟩, -⟩, -⟩ := h
  exact ⟨V, g1, v5⟩
theorem lit_S (l : List Nat) (v x : Nat) : l ++ [115, 104, 97, 114, 101, 32] ++ digs v ++ [32] ++ digs x ++ [59] = l ++ nN zShare v x := by
  unfold nN
  rw [List.append_assoc, List.append_assoc, List.append_assoc, List.append_assoc]
  rfl
theorem lit_L (l : List Nat) (v : Nat) : l ++ [108, 105, 102, 101, 32] ++ digs v ++ [59] = l ++ nF v := by
  unfold nF
  rw [List.append_assoc, List.append_assoc]
  rfl
theorem lit_A (l : List Nat) (b : Bool) : l ++ [97, 99, 99, 114, 117, 101, 32] ++ zB b ++ [59] = l ++ nC b := by
  unfold nC
  rw [List.append_assoc, List.append_assoc]
  rfl
set_option maxRecDepth 100000 in
theorem l_es_A {sc : SC} {S : AS} {K : Nat → Prop} {S0 : AS} {t g e k9 n9 : Nat} {l : List Nat} {d : D} {u : Nat → List Nat} {o : Nat → Bool} (hx : S.2.2 = true) (hEG : EG K S0 S t g e l d) (hPT : PT l d u o) (ho : o 2 = false) (hl : l.length ≤ 684) (hk9 : k9 + 3 ≤ 300) (hn9 : n9 + 4500 ≤ 320000) : Wp sc mL_estate 300 320000 k9 n9 577 [(0, .ref t), (1, .ref g), (2, .ref e)] [] S (AR fun v S' => v = .ref e ∧ ∃ (d : D) (u : Nat → List Nat) (o : Nat → Bool) (l : List Nat) (K : Nat → Prop), EG K S0 S' t g e l d ∧ PT l d u o ∧ l.length ≤ 698) := by
  obtain ⟨fg0, hG0⟩ := hEG.2.2.1
  obtain ⟨V0, hV0, hV05⟩ := hEG.V
  have hsz0 := hEG.2.1
  have hKb := hEG.2.2.2.2.2.2.1
  refine r_aload_n rfl rfl ?_
  refine n_iconst 2 rfl ?_
  refine c_staA [.ref g, .int (nI 2)] [] rfl lkL_34 (l_draw (S := S) (m := 2) hx (by omega) hG0 (by decide) (by omega)) rfl rfl (by omega) (by omega) rfl ?_
  rintro _ S1 ⟨k1, fg1, hk1, rfl, fr2, hsz1, hG1⟩
  have z3 := fr2.1
  have hE1 := hEG.draw fr2 hG1
  refine n_if_ne (tgt := 631) rfl rfl (by omega) (fun h9 => ?_) (fun h9 => ?_)
  · refine r_aload_n rfl rfl ?_
    exact r_aret rfl rfl (Or.inl ⟨_, rfl⟩) (by omega) (by omega) (⟨_, rfl, rfl, d, u, o, l, K, hE1, hPT, by omega⟩)
  · refine r_aload_n rfl rfl ?_
    refine r_aload_n rfl rfl ?_
    refine n_iconst 2 rfl ?_
    refine c_staA [.ref g, .int (nI 2)] [.ref e] rfl lkL_34 (l_draw (S := S1) (m := 2) fr2.2.1 (by omega) hG1 (by decide) (by omega)) rfl rfl (by omega) (by omega) rfl ?_
    rintro _ S4 ⟨k2, fg2, hk2, rfl, fr5, hsz2, hG2⟩
    have z6 := fr5.1
    have hE2 := hE1.draw fr5 hG2
    suffices K : Wp sc mL_estate 300 320000 k9 n9 599 [(0, .ref t), (1, .ref g), (2, .ref e)] [.int (nI (tb (k2 == 0))), .ref e] S4 (AR fun v S' => v = .ref e ∧ ∃ (d : D) (u : Nat → List Nat) (o : Nat → Bool) (l : List Nat) (K : Nat → Prop), EG K S0 S' t g e l d ∧ PT l d u o ∧ l.length ≤ 698) by
      refine n_if_ne (tgt := 598) rfl rfl (by omega) (fun h8 => ?_) (fun h8 => ?_)
      · refine n_iconst 0 rfl ?_
        exact r_top (y := nI (tb (k2 == 0))) (by rw [beq_false_of_ne h8]; rfl) K
      · refine n_iconst 1 rfl ?_
        refine r_goto (tgt := 599) rfl rfl ?_
        exact r_top (y := nI (tb (k2 == 0))) (by rw [h8]; rfl) K
    generalize (k2 == 0) = b
    have hp7 : S4.1 e = oO 10 V0 := ((fr5.2.2 e (by omega) (by omega)).trans ((fr2.2.2 e (by omega) (by omega)).trans hV0))
    refine t_putfN rfl flL_119 (okv_z (okz_tb b)) fr5.2.1 (by omega) hp7 ?_
    intro S8 w9
    have z10 := w9.1
    have hEp := hE2.put hp7 w9 (by decide) (d' := up d 0 9 (tb b)) (es_p9 hE2.2.2.2.1 hp7 w9) rfl rfl rfl
    refine r_aload_n rfl rfl ?_
    refine r_ldcS (i := 35) rfl rfl ?_
    have hKs3 := hEp.2.2.2.2.2.2.1.1
    obtain ⟨Vt3, hVt3, -, hlt3⟩ := hEp.2.2.2.2.2.1.o
    refine c_virA [.retAddr 35] [] rfl lkL_38 (by omega) hVt3 rfl rfl (a_S (S := S8) w9.2.1 hEp.2.2.2.2.2.1 hKs3 (z := [97, 99, 99, 114, 117, 101, 32]) rfl (by decide) (by decide) (by decide) (by omega)) rfl rfl (by omega) (by omega) rfl ?_
    rintro _ S11 ⟨rfl, fr12, hB3⟩
    have z13 := fr12.1
    have hE3 := hEp.app fr12 hB3
    refine r_aload_n rfl rfl ?_
    have hp14 : S11.1 e = oO 10 (aup V0 5 (.int (nI (tb b)))) := ((fr12.2.2 e (by omega) (fun z9 => z9 hKb.2.1)).trans w9.2.2.1)
    refine r_getfN (v := .int (nI (tb b))) rfl flL_119.f (by omega) hp14 (aup_s _ _ _) ?_
    cases b
    · refine n_if_eq (tgt := 620) rfl rfl (by decide) (fun _ => ?_) (fun hq => absurd hq (by decide))
      refine r_ldcS (i := 37) rfl rfl ?_
      have hKs4 := hE3.2.2.2.2.2.2.1.1
      obtain ⟨Vt4, hVt4, -, hlt4⟩ := hE3.2.2.2.2.2.1.o
      refine c_virA [.retAddr 37] [] rfl lkL_38 (by omega) hVt4 rfl rfl (a_S (S := S11) fr12.2.1 hE3.2.2.2.2.2.1 hKs4 (z := zOthers) rfl (by decide) (by decide) (by decide) (by simp only [List.length_append, List.length_cons, List.length_nil, digs_len]; omega)) rfl rfl (by omega) (by omega) rfl ?_
      rintro _ S15 ⟨rfl, fr16, hB4⟩
      have z17 := fr16.1
      have hE4 := hE3.app fr16 hB4
      refine n_bipush 59 rfl (by decide) ?_
      have hKs5 := hE4.2.2.2.2.2.2.1.1
      obtain ⟨Vt5, hVt5, -, hlt5⟩ := hE4.2.2.2.2.2.1.o
      refine c_virA [.int (nI 59)] [] rfl lkL_43 (by omega) hVt5 rfl rfl (a_C (S := S15) fr16.2.1 hE4.2.2.2.2.2.1 hKs5 (by decide) (by simp only [List.length_append, List.length_cons, List.length_nil, zOthers, zLine]; omega)) rfl rfl (by omega) (by omega) rfl ?_
      rintro _ S18 ⟨rfl, fr19, hB5⟩
      have z20 := fr19.1
      have hE5 := hE4.app fr19 hB5
      refine r_pop rfl rfl ?_
      refine r_aload_n rfl rfl ?_
      have hsp := SP_acc (n := l.length) (b := false) (d := d) (u := u) ho
      have hT9 := PT_s hPT hsp (by decide)
      rw [← lit_A] at hT9
      exact r_aret rfl rfl (Or.inl ⟨_, rfl⟩) (by omega) (by omega) (⟨_, rfl, rfl, _, _, _, _, K, hE5, hT9, by simp only [List.length_append, List.length_cons, List.length_nil, zB, cond, zOthers, zLine]; omega⟩)
    · refine n_if_eq (tgt := 620) rfl rfl (by decide) (fun hq => absurd hq (by decide)) (fun _ => ?_)
      refine r_ldcS (i := 36) rfl rfl ?_
      refine r_goto (tgt := 622) rfl rfl ?_
      have hKs4 := hE3.2.2.2.2.2.2.1.1
      obtain ⟨Vt4, hVt4, -, hlt4⟩ := hE3.2.2.2.2.2.1.o
      refine c_virA [.retAddr 36] [] rfl lkL_38 (by omega) hVt4 rfl rfl (a_S (S := S11) fr12.2.1 hE3.2.2.2.2.2.1 hKs4 (z := zLine) rfl (by decide) (by decide) (by decide) (by simp only [List.length_append, List.length_cons, List.length_nil, digs_len]; omega)) rfl rfl (by omega) (by omega) rfl ?_
      rintro _ S21 ⟨rfl, fr22, hB4⟩
      have z23 := fr22.1
      have hE4 := hE3.app fr22 hB4
      refine n_bipush 59 rfl (by decide) ?_
      have hKs5 := hE4.2.2.2.2.2.2.1.1
      obtain ⟨Vt5, hVt5, -, hlt5⟩ := hE4.2.2.2.2.2.1.o
      refine c_virA [.int (nI 59)] [] rfl lkL_43 (by omega) hVt5 rfl rfl (a_C (S := S21) fr22.2.1 hE4.2.2.2.2.2.1 hKs5 (by decide) (by simp only [List.length_append, List.length_cons, List.length_nil, zOthers, zLine]; omega)) rfl rfl (by omega) (by omega) rfl ?_
      rintro _ S24 ⟨rfl, fr25, hB5⟩
      have z26 := fr25.1
      have hE5 := hE4.app fr25 hB5
      refine r_pop rfl rfl ?_
      refine r_aload_n rfl rfl ?_
      have hsp := SP_acc (n := l.length) (b := true) (d := d) (u := u) ho
      have hT9 := PT_s hPT hsp (by decide)
      rw [← lit_A] at hT9
      exact r_aret rfl rfl (Or.inl ⟨_, rfl⟩) (by omega) (by omega) (⟨_, rfl, rfl, _, _, _, _, K, hE5, hT9, by simp only [List.length_append, List.length_cons, List.length_nil, zB, cond, zOthers, zLine]; omega⟩)

set_option maxRecDepth 100000 in
theorem l_es_L {sc : SC} {S : AS} {K : Nat → Prop} {S0 : AS} {t g e k9 n9 : Nat} {l : List Nat} {d : D} {u : Nat → List Nat} {o : Nat → Bool} (hx : S.2.2 = true) (hEG : EG K S0 S t g e l d) (hPT : PT l d u o) (ho : o 1 = false ∧ o 2 = false) (hl : l.length ≤ 674) (hk9 : k9 + 6 ≤ 300) (hn9 : n9 + 9000 ≤ 320000) : Wp sc mL_estate 300 320000 k9 n9 540 [(0, .ref t), (1, .ref g), (2, .ref e)] [] S (AR fun v S' => v = .ref e ∧ ∃ (d : D) (u : Nat → List Nat) (o : Nat → Bool) (l : List Nat) (K : Nat → Prop), EG K S0 S' t g e l d ∧ PT l d u o ∧ l.length ≤ 698) := by
  obtain ⟨fg0, hG0⟩ := hEG.2.2.1
  obtain ⟨V0, hV0, hV05⟩ := hEG.V
  have hsz0 := hEG.2.1
  have hKb := hEG.2.2.2.2.2.2.1
  refine r_aload_n rfl rfl ?_
  refine n_iconst 2 rfl ?_
  refine c_staA [.ref g, .int (nI 2)] [] rfl lkL_34 (l_draw (S := S) (m := 2) hx (by omega) hG0 (by decide) (by omega)) rfl rfl (by omega) (by omega) rfl ?_
  rintro _ S1 ⟨k1, fg1, hk1, rfl, fr2, hsz1, hG1⟩
  have z3 := fr2.1
  have hE1 := hEG.draw fr2 hG1
  refine n_if_ne (tgt := 577) rfl rfl (by omega) (fun h9 => ?_) (fun h9 => ?_)
  · refine r_lv (lv' := [(0, .ref t), (1, .ref g), (2, .ref e)]) [0, 1, 2] rfl ?_
    exact l_es_A fr2.2.1 hE1 hPT ho.2 (by omega) (by omega) (by omega)
  · refine r_aload_n rfl rfl ?_
    refine r_aload_n rfl rfl ?_
    refine n_bipush 101 rfl (by decide) ?_
    refine c_staA [.ref g, .int (nI 101)] [.ref e] rfl lkL_34 (l_draw (S := S1) (m := 101) fr2.2.1 (by omega) hG1 (by decide) (by omega)) rfl rfl (by omega) (by omega) rfl ?_
    rintro _ S4 ⟨kw, fg2, hkw, rfl, fr5, hsz2, hG2⟩
    have z6 := fr5.1
    have hE2 := hE1.draw fr5 hG2
    have hp7 : S4.1 e = oO 10 V0 := ((fr5.2.2 e (by omega) (by omega)).trans ((fr2.2.2 e (by omega) (by omega)).trans hV0))
    refine t_putfN rfl flL_114 (okv_i _) fr5.2.1 (by omega) hp7 ?_
    intro S8 w9
    have z10 := w9.1
    have hEp := hE2.put hp7 w9 (by decide) (d' := up d 0 8 kw) (es_v4 hE2.2.2.2.1 hp7 w9) rfl rfl rfl
    have hdw := dgs_b kw
    refine r_aload_n rfl rfl ?_
    refine r_ldcS (i := 34) rfl rfl ?_
    have hKs3 := hEp.2.2.2.2.2.2.1.1
    obtain ⟨Vt3, hVt3, -, hlt3⟩ := hEp.2.2.2.2.2.1.o
    refine c_virA [.retAddr 34] [] rfl lkL_38 (by omega) hVt3 rfl rfl (a_S (S := S8) w9.2.1 hEp.2.2.2.2.2.1 hKs3 (z := [108, 105, 102, 101, 32]) rfl (by decide) (by decide) (by decide) (by omega)) rfl rfl (by omega) (by omega) rfl ?_
    rintro _ S11 ⟨rfl, fr12, hB3⟩
    have z13 := fr12.1
    have hE3 := hEp.app fr12 hB3
    refine r_aload_n rfl rfl ?_
    have hp14 : S11.1 e = oO 10 (aup V0 4 (.int (nI kw))) := ((fr12.2.2 e (by omega) (fun z9 => z9 hKb.2.1)).trans w9.2.2.1)
    refine r_getfN (v := .int (nI kw)) rfl flL_114.f (by omega) hp14 (aup_s _ _ _) ?_
    have hKs4 := hE3.2.2.2.2.2.2.1.1
    obtain ⟨Vt4, hVt4, -, hlt4⟩ := hE3.2.2.2.2.2.1.o
    refine c_virA [.int (nI kw)] [] rfl lkL_46 (by omega) hVt4 rfl rfl (a_I (S := S11) fr12.2.1 hE3.2.2.2.2.2.1 hKs4 (by omega) (by simp only [List.length_append, List.length_cons, List.length_nil, digs_len]; omega)) rfl rfl (by omega) (by omega) rfl ?_
    rintro _ S15 ⟨rfl, fr16, hB4⟩
    have z17 := fr16.1
    have hE4 := hE3.app fr16 hB4
    refine n_bipush 59 rfl (by decide) ?_
    have hKs5 := hE4.2.2.2.2.2.2.1.1
    obtain ⟨Vt5, hVt5, -, hlt5⟩ := hE4.2.2.2.2.2.1.o
    refine c_virA [.int (nI 59)] [] rfl lkL_43 (by omega) hVt5 rfl rfl (a_C (S := S15) fr16.2.1 hE4.2.2.2.2.2.1 hKs5 (by decide) (by simp only [List.length_append, List.length_cons, List.length_nil, digs_len]; omega)) rfl rfl (by omega) (by omega) rfl ?_
    rintro _ S18 ⟨rfl, fr19, hB5⟩
    have z20 := fr19.1
    have hE5 := hE4.app fr19 hB5
    refine r_pop rfl rfl ?_
    refine r_lv (lv' := [(0, .ref t), (1, .ref g), (2, .ref e)]) [0, 1, 2] rfl ?_
    have hsp := SP_lif (n := l.length) (v := kw) (d := d) (u := u) ho.1 (by omega)
    have hT9 := PT_s hPT hsp (by unfold nF; simp only [List.length_append, List.length_cons, List.length_nil]; omega)
    rw [← lit_L] at hT9
    exact l_es_A fr19.2.1 hE5 hT9 ho.2 (by simp only [List.length_append, List.length_cons, List.length_nil, digs_len]; omega) (by omega) (by omega)

set_option maxRecDepth 100000 in
theorem l_es_S {sc : SC} {S : AS} {K : Nat → Prop} {S0 : AS} {t g e k9 n9 : Nat} {l : List Nat} {d : D} {u : Nat → List Nat} {o : Nat → Bool} (hx : S.2.2 = true) (hEG : EG K S0 S t g e l d) (hPT : PT l d u o) (ho : o 0 = false ∧ o 1 = false ∧ o 2 = false) (hl : l.length ≤ 658) (hk9 : k9 + 11 ≤ 300) (hn9 : n9 + 16500 ≤ 320000) : Wp sc mL_estate 300 320000 k9 n9 475 [(0, .ref t), (1, .ref g), (2, .ref e)] [] S (AR fun v S' => v = .ref e ∧ ∃ (d : D) (u : Nat → List Nat) (o : Nat → Bool) (l : List Nat) (K : Nat → Prop), EG K S0 S' t g e l d ∧ PT l d u o ∧ l.length ≤ 698) := by
  obtain ⟨fg0, hG0⟩ := hEG.2.2.1
  obtain ⟨V0, hV0, hV05⟩ := hEG.V
  have hsz0 := hEG.2.1
  have hKb := hEG.2.2.2.2.2.2.1
  refine r_aload_n rfl rfl ?_
  refine n_iconst 2 rfl ?_
  refine c_staA [.ref g, .int (nI 2)] [] rfl lkL_34 (l_draw (S := S) (m := 2) hx (by omega) hG0 (by decide) (by omega)) rfl rfl (by omega) (by omega) rfl ?_
  rintro _ S1 ⟨k1, fg1, hk1, rfl, fr2, hsz1, hG1⟩
  have z3 := fr2.1
  have hE1 := hEG.draw fr2 hG1
  refine n_if_ne (tgt := 540) rfl rfl (by omega) (fun h9 => ?_) (fun h9 => ?_)
  · refine r_lv (lv' := [(0, .ref t), (1, .ref g), (2, .ref e)]) [0, 1, 2] rfl ?_
    exact l_es_L fr2.2.1 hE1 hPT ho.2 (by omega) (by omega) (by omega)
  · refine r_aload_n rfl rfl ?_
    refine n_iconst 1 rfl ?_
    refine r_aload_n rfl rfl ?_
    refine n_bipush 9 rfl (by decide) ?_
    refine c_staA [.ref g, .int (nI 9)] [.int (nI 1), .ref e] rfl lkL_34 (l_draw (S := S1) (m := 9) fr2.2.1 (by omega) hG1 (by decide) (by omega)) rfl rfl (by omega) (by omega) rfl ?_
    rintro _ S4 ⟨kv, fg2, hkv, rfl, fr5, hsz2, hG2⟩
    have z6 := fr5.1
    have hE2 := hE1.draw fr5 hG2
    have hp7 : S4.1 e = oO 10 V0 := ((fr5.2.2 e (by omega) (by omega)).trans ((fr2.2.2 e (by omega) (by omega)).trans hV0))
    refine n_iadd rfl ?_
    refine t_putfN rfl flL_106 (okv_i _) fr5.2.1 (by omega) hp7 ?_
    intro S8 w9
    have z10 := w9.1
    have hEp := hE2.put hp7 w9 (by decide) (d' := up d 0 7 (1 + kv)) (es_v2 hE2.2.2.2.1 hp7 w9) rfl rfl rfl
    refine r_aload_n rfl rfl ?_
    refine r_aload_n rfl rfl ?_
    refine r_aload_n rfl rfl ?_
    refine r_getfN (v := .int (nI (1 + kv))) rfl flL_106.f (by omega) w9.2.2.1 (aup_s _ _ _) ?_
    refine n_iconst 1 rfl ?_
    refine n_iadd rfl ?_
    have hp11 : S8.1 g = oI0 0 1 fg2 := ((w9.2.2.2 g (by omega)).trans hG2)
    refine c_staA [.ref g, .int (nI ((1 + kv) + 1))] [.ref e] rfl lkL_34 (l_draw (S := S8) (m := (1 + kv) + 1) w9.2.1 (by omega) hp11 (by omega) (by omega)) rfl rfl (by omega) (by omega) rfl ?_
    rintro _ S12 ⟨kw, fg6, hkw, rfl, fr13, hsz6, hG6⟩
    have z14 := fr13.1
    have hE6 := hEp.draw fr13 hG6
    have hp15 : S12.1 e = oO 10 (aup V0 2 (.int (nI (1 + kv)))) := ((fr13.2.2 e (by omega) (by omega)).trans w9.2.2.1)
    refine t_putfN rfl flL_109 (okv_i _) fr13.2.1 (by omega) hp15 ?_
    intro S16 w17
    have z18 := w17.1
    have hEq := hE6.put hp15 w17 (by decide) (d' := up (up d 0 7 (1 + kv)) 0 6 kw) (es_v3 hE6.2.2.2.1 hp15 w17) rfl rfl rfl
    have hdw := dgs_b kw
    have hdv := dgs_b (1 + kv)
    refine r_aload_n rfl rfl ?_
    refine r_ldcS (i := 33) rfl rfl ?_
    have hKs3 := hEq.2.2.2.2.2.2.1.1
    obtain ⟨Vt3, hVt3, -, hlt3⟩ := hEq.2.2.2.2.2.1.o
    refine c_virA [.retAddr 33] [] rfl lkL_38 (by omega) hVt3 rfl rfl (a_S (S := S16) w17.2.1 hEq.2.2.2.2.2.1 hKs3 (z := [115, 104, 97, 114, 101, 32]) rfl (by decide) (by decide) (by decide) (by omega)) rfl rfl (by omega) (by omega) rfl ?_
    rintro _ S19 ⟨rfl, fr20, hB3⟩
    have z21 := fr20.1
    have hE3 := hEq.app fr20 hB3
    refine r_aload_n rfl rfl ?_
    have hp22 : S19.1 e = oO 10 (aup (aup V0 2 (.int (nI (1 + kv)))) 3 (.int (nI kw))) := ((fr20.2.2 e (by omega) (fun z9 => z9 hKb.2.1)).trans w17.2.2.1)
    refine r_getfN (v := .int (nI (1 + kv))) rfl flL_106.f (by omega) hp22 ((aup_n _ _ (by decide)).trans (aup_s _ _ _)) ?_
    have hKs4 := hE3.2.2.2.2.2.2.1.1
    obtain ⟨Vt4, hVt4, -, hlt4⟩ := hE3.2.2.2.2.2.1.o
    refine c_virA [.int (nI (1 + kv))] [] rfl lkL_46 (by omega) hVt4 rfl rfl (a_I (S := S19) fr20.2.1 hE3.2.2.2.2.2.1 hKs4 (by omega) (by simp only [List.length_append, List.length_cons, List.length_nil, digs_len]; omega)) rfl rfl (by omega) (by omega) rfl ?_
    rintro _ S23 ⟨rfl, fr24, hB4⟩
    have z25 := fr24.1
    have hE4 := hE3.app fr24 hB4
    refine n_bipush 32 rfl (by decide) ?_
    have hKs5 := hE4.2.2.2.2.2.2.1.1
    obtain ⟨Vt5, hVt5, -, hlt5⟩ := hE4.2.2.2.2.2.1.o
    refine c_virA [.int (nI 32)] [] rfl lkL_43 (by omega) hVt5 rfl rfl (a_C (S := S23) fr24.2.1 hE4.2.2.2.2.2.1 hKs5 (by decide) (by simp only [List.length_append, List.length_cons, List.length_nil, digs_len]; omega)) rfl rfl (by omega) (by omega) rfl ?_
    rintro _ S26 ⟨rfl, fr27, hB5⟩
    have z28 := fr27.1
    have hE5 := hE4.app fr27 hB5
    refine r_aload_n rfl rfl ?_
    have hp29 : S26.1 e = oO 10 (aup (aup V0 2 (.int (nI (1 + kv)))) 3 (.int (nI kw))) := ((fr27.2.2 e (by omega) (fun z9 => z9 hKb.2.1)).trans ((fr24.2.2 e (by omega) (fun z9 => z9 hKb.2.1)).trans hp22))
    refine r_getfN (v := .int (nI kw)) rfl flL_109.f (by omega) hp29 (aup_s _ _ _) ?_
    have hKs7 := hE5.2.2.2.2.2.2.1.1
    obtain ⟨Vt7, hVt7, -, hlt7⟩ := hE5.2.2.2.2.2.1.o
    refine c_virA [.int (nI kw)] [] rfl lkL_46 (by omega) hVt7 rfl rfl (a_I (S := S26) fr27.2.1 hE5.2.2.2.2.2.1 hKs7 (by omega) (by simp only [List.length_append, List.length_cons, List.length_nil, digs_len]; omega)) rfl rfl (by omega) (by omega) rfl ?_
    rintro _ S30 ⟨rfl, fr31, hB7⟩
    have z32 := fr31.1
    have hE7 := hE5.app fr31 hB7
    refine n_bipush 59 rfl (by decide) ?_
    have hKs8 := hE7.2.2.2.2.2.2.1.1
    obtain ⟨Vt8, hVt8, -, hlt8⟩ := hE7.2.2.2.2.2.1.o
    refine c_virA [.int (nI 59)] [] rfl lkL_43 (by omega) hVt8 rfl rfl (a_C (S := S30) fr31.2.1 hE7.2.2.2.2.2.1 hKs8 (by decide) (by simp only [List.length_append, List.length_cons, List.length_nil, digs_len]; omega)) rfl rfl (by omega) (by omega) rfl ?_
    rintro _ S33 ⟨rfl, fr34, hB8⟩
    have z35 := fr34.1
    have hE8 := hE7.app fr34 hB8
    refine r_pop rfl rfl ?_
    refine r_lv (lv' := [(0, .ref t), (1, .ref g), (2, .ref e)]) [0, 1, 2] rfl ?_
    have hsp := SP_sha (n := l.length) (v := 1 + kv) (w := kw) (d := d) (u := u) ho.1 (by omega) (by omega) (by omega) (by omega)
    have hT9 := PT_s hPT hsp (by rw [nN_len]; omega)
    rw [← lit_S] at hT9
    exact l_es_L fr34.2.1 hE8 hT9 ho.2 (by simp only [List.length_append, List.length_cons, List.length_nil, digs_len]; omega) (by omega) (by omega)

