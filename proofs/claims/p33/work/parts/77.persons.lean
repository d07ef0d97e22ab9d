/-! The estate's persons. -/
def KP (t e : Nat) : Nat → Prop := fun i => i < t ∨ (e ≤ i ∧ i < e + 9)
def EB (S0 S : AS) (t g e PP s5 : Nat) (l : List Nat) (f1 f2 f3 : Nat → Int32) : Prop := S.2.2 = true ∧ FS S0 S t g ∧ (g < t ∧ t < e ∧ 53 ≤ g ∧ e + 9 ≤ S.2.1) ∧ (∃ fg, S.1 g = oI0 0 1 fg) ∧ SLK (KP t e) S t l ∧ (∃ V, S.1 e = oO 10 V ∧ (V 0 = .int (nI PP) ∧ V 1 = .int (oI s5) ∧ V 2 = .int (nI 4) ∧ V 3 = .int (nI 1) ∧ V 4 = .int (nI 0) ∧ V 5 = .int (nI 1)) ∧ (V 6 = .ref (e + 1) ∧ V 7 = .ref (e + 2) ∧ V 8 = .ref (e + 3) ∧ V 9 = .ref (e + 4))) ∧ (S.1 (e + 1) = oI0 0 12 f1 ∧ S.1 (e + 2) = oI0 0 12 f2 ∧ S.1 (e + 3) = oI0 2 12 f3 ∧ S.1 (e + 4) = oI0 2 12 (fun _ => 0))
def DD (d : D) (p s5 : Nat) (f1 f2 f3 : Nat → Int32) : Prop := (d 0 0 = p ∧ d 0 5 = s5) ∧ (∀ i, i < p → f1 i = oI (d 1 i) ∧ f2 i = nI (d 2 i) ∧ f3 i = nI (d 3 i)) ∧ (∀ i, p ≤ i → f3 i = 0 ∧ d 3 i = 0) ∧ (∀ i, d 4 i = 0) ∧ (d 0 1 = 0 ∧ d 0 2 = 0 ∧ d 0 3 = 0 ∧ d 0 4 = 0) ∧ (d 0 6 = 1 ∧ d 0 7 = 4 ∧ d 0 8 = 0 ∧ d 0 9 = 1)
theorem DD_0 : DD dE 0 0 (fun _ => 0) (fun _ => 0) (fun _ => 0) := ⟨⟨rfl, rfl⟩, fun i h => absurd h (Nat.not_lt_zero _), fun i _ => ⟨rfl, rfl⟩, fun i => rfl, ⟨rfl, rfl, rfl, rfl⟩, ⟨rfl, rfl, rfl, rfl⟩⟩
theorem upP_1 {d : D} {par a i p : Nat} (h : d 0 0 = p) : upP d par a 1 i = if i = p then par else d 1 i := by
  unfold upP
  rw [up_n1 _ _ (by decide), up_n1 _ _ (by decide), h]
  by_cases z : i = p
  · rw [if_pos z, z, up_s]
  · rw [if_neg z, up_n2 _ _ z]
theorem upP_2 {d : D} {par a i p : Nat} (h : d 0 0 = p) : upP d par a 2 i = if i = p then a else d 2 i := by
  unfold upP
  rw [up_n1 _ _ (by decide), h]
  by_cases z : i = p
  · rw [if_pos z, z, up_s]
  · rw [if_neg z, up_n2 _ _ z, up_n1 _ _ (by decide)]
theorem upK_r {k p b i : Nat} {d : D} (hb : b ≠ 0) (hb3 : b ≠ 3) : upK k d p b i = d b i := by
  unfold upK
  by_cases z0 : k = 0
  · rw [if_pos z0]
  · rw [if_neg z0]
    by_cases z1 : k = 1
    · rw [if_pos z1, up_n1 _ _ hb3]
    · rw [if_neg z1, up_n1 _ _ hb]
theorem upK_0 {k p j : Nat} {d : D} (hj : j ≠ 5) : upK k d p 0 j = d 0 j := by
  unfold upK
  by_cases z0 : k = 0
  · rw [if_pos z0]
  · rw [if_neg z0]
    by_cases z1 : k = 1
    · rw [if_pos z1, up_n1 _ _ (by decide)]
    · rw [if_neg z1, up_n2 _ _ hj]
theorem upK_5 {k p : Nat} {d : D} (hk : k ≤ 2) : upK k d p 0 5 = if k = 2 then p + 1 else d 0 5 := by
  rcases (show k = 0 ∨ k = 1 ∨ k = 2 by omega) with rfl | rfl | rfl
  · rfl
  · rfl
  · show up d 0 5 (p + 1) 0 5 = _
    rw [up_s, if_pos rfl]
theorem upK_3 {k p i : Nat} {d : D} (hk : k ≤ 2) : upK k d p 3 i = if k = 1 ∧ i = p then 1 else d 3 i := by
  rcases (show k = 0 ∨ k = 1 ∨ k = 2 by omega) with rfl | rfl | rfl
  · rw [if_neg (fun z => absurd z.1 (by decide))]; rfl
  · show up d 3 p 1 3 i = _
    by_cases z : i = p
    · rw [if_pos ⟨rfl, z⟩, z, up_s]
    · rw [if_neg (fun y => z y.2), up_n2 _ _ z]
  · rw [if_neg (fun z => absurd z.1 (by decide))]
    show up d 0 5 (p + 1) 3 i = d 3 i
    rw [up_n1 _ _ (by decide)]
theorem DD_s {d : D} {p s5 par a k : Nat} {f1 f2 f3 g1 g2 g3 : Nat → Int32} (h : DD d p s5 f1 f2 f3) (hk : k ≤ 2) (h1 : g1 p = oI par) (n1 : ∀ i, i ≠ p → g1 i = f1 i) (h2 : g2 p = nI a) (n2 : ∀ i, i ≠ p → g2 i = f2 i) (h3 : g3 p = if k = 1 then nI 1 else nI 0) (n3 : ∀ i, i ≠ p → g3 i = f3 i) : DD (upK k (upP d par a) p) (p + 1) (if k = 2 then p + 1 else s5) g1 g2 g3 := by
  obtain ⟨⟨a1, a2⟩, a3, a4, a5, ⟨b1, b2, b3, b4⟩, ⟨c1, c2, c3, c4⟩⟩ := h
  have e3 : ∀ i, upP d par a 3 i = d 3 i := fun i => rfl
  have e5 : upP d par a 0 5 = d 0 5 := rfl
  refine ⟨⟨?_, ?_⟩, fun i hi => ?_, fun i hi => ?_, fun i => ?_, ⟨?_, ?_, ?_, ?_⟩, ⟨?_, ?_, ?_, ?_⟩⟩
  · rw [upK_0 (by decide), upP_0, a1]
  · rw [upK_5 hk, e5, a2]
  · rw [upK_r (by decide) (by decide), upK_r (by decide) (by decide), upK_3 hk, e3, upP_1 a1, upP_2 a1]
    by_cases z : i = p
    · rw [if_pos z, if_pos z, z, h1, h2, h3]
      refine ⟨rfl, rfl, ?_⟩
      by_cases y : k = 1
      · rw [if_pos y, if_pos ⟨y, rfl⟩]
      · rw [if_neg y, if_neg (fun x => y x.1), (a4 p (Nat.le_refl _)).2]
    · rw [if_neg z, if_neg z, if_neg (fun x => z x.2), n1 i z, n2 i z, n3 i z]
      exact a3 i (by omega)
  · have z : i ≠ p := by omega
    rw [n3 i z, upK_3 hk, if_neg (fun x => z x.2), e3]
    exact a4 i (by omega)
  · rw [upK_r (by decide) (by decide)]
    exact a5 i
  · rw [upK_0 (by decide)]; exact b1
  · rw [upK_0 (by decide)]; exact b2
  · rw [upK_0 (by decide)]; exact b3
  · rw [upK_0 (by decide)]; exact b4
  · rw [upK_0 (by decide)]; exact c1
  · rw [upK_0 (by decide)]; exact c2
  · rw [upK_0 (by decide)]; exact c3
  · rw [upK_0 (by decide)]; exact c4
theorem lit_P (l : List Nat) (p par a k : Nat) : l ++ [112, 101, 114, 115, 111, 110, 32] ++ [97 + p] ++ tU par ++ [32, 97, 103, 101, 32] ++ digs a ++ tK9 k ++ [59] = l ++ nP p par a k := by
  unfold nP tA9
  rw [List.append_assoc, List.append_assoc, List.append_assoc, List.append_assoc, List.append_assoc, List.append_assoc]
  rfl
theorem lit_P0 (l : List Nat) (p par a : Nat) : l ++ [112, 101, 114, 115, 111, 110, 32] ++ [97 + p] ++ tU par ++ [32, 97, 103, 101, 32] ++ digs a ++ [59] = l ++ nP p par a 0 := by
  rw [← lit_P, show tK9 0 = [] from rfl, List.append_nil]
theorem lit_P1 (l : List Nat) (p par a : Nat) : l ++ [112, 101, 114, 115, 111, 110, 32] ++ [97 + p] ++ tU par ++ [32, 97, 103, 101, 32] ++ digs a ++ [32, 100, 101, 97, 100] ++ [59] = l ++ nP p par a 1 := lit_P l p par a 1
theorem lit_P2 (l : List Nat) (p par a : Nat) : l ++ [112, 101, 114, 115, 111, 110, 32] ++ [97 + p] ++ tU par ++ [32, 97, 103, 101, 32] ++ digs a ++ [32, 115, 112, 111, 117, 115, 101] ++ [59] = l ++ nP p par a 2 := lit_P l p par a 2
theorem lit_U (l : List Nat) (q : Nat) : l ++ [32, 117, 110, 100, 101, 114, 32] ++ [97 + q] = l ++ tU (q + 1) := by
  rw [List.append_assoc]
  rfl
theorem tU_len (q : Nat) : (tU q).length ≤ 8 := by
  cases q with
  | zero => exact Nat.zero_le _
  | succ q => exact Nat.le_refl 8
theorem nP_len (p par a k : Nat) : 1 ≤ (nP p par a k).length := by
  unfold nP
  rw [List.length_append, List.length_cons]
  omega
set_option maxRecDepth 100000 in
theorem l_es_B {sc : SC} {S : AS} {S0 : AS} {t g e k9 n9 PP spn : Nat} (hEB : EB S0 S t g e PP 0 [] (fun _ => 0) (fun _ => 0) (fun _ => 0)) (hP : 0 < PP ∧ PP ≤ 12) (hsp : spn ≤ PP) (hk9 : k9 + 96 + 129 ≤ 300) (hn9 : n9 + 144000 + 154820 ≤ 320000) : Wp sc mL_estate 300 320000 k9 n9 44 [(4, .int (nI 0)), (3, .int (oI spn)), (0, .ref t), (1, .ref g), (2, .ref e)] [] S (AR fun v S' => v = .ref e ∧ ∃ (d : D) (u : Nat → List Nat) (o : Nat → Bool) (l : List Nat) (K : Nat → Prop), EG K S0 S' t g e l d ∧ PT l d u o ∧ l.length ≤ 698) := by
  obtain ⟨hPa, hPb⟩ := hP
  refine r_lv (lv' := [(4, .int (nI 0)), (3, .int (oI spn)), (0, .ref t), (1, .ref g), (2, .ref e)]) [0, 1, 2, 3, 4] rfl ?_
  have loopP : ∀ (m9 : Nat) (p : Nat) (Sa : AS) (k8 n8 : Nat) (s5 : Nat) (d7 : D) (l7 : List Nat) (u7 : Nat → List Nat) (f1 f2 f3 : Nat → Int32), PP - p < m9 → (Sa.2.2 = true) → (p ≤ PP) → (k8 + 8 * (PP - p) + 129 ≤ 300) → (n8 + 12000 * (PP - p) + 154820 ≤ 320000) → (EB S0 Sa t g e PP s5 l7 f1 f2 f3) → (DD d7 p s5 f1 f2 f3) → (PT l7 d7 u7 (fun _ => false)) → (l7.length ≤ 33 * p) → (∀ i, i < p → u7 i = [i + 1]) → (s5 = if spn ≤ p then spn else 0) → Wp sc mL_estate 300 320000 k8 n8 44 [(4, .int (nI p)), (3, .int (oI spn)), (0, .ref t), (1, .ref g), (2, .ref e)] [] Sa (AR fun v S' => v = .ref e ∧ ∃ (d : D) (u : Nat → List Nat) (o : Nat → Bool) (l : List Nat) (K : Nat → Prop), EG K S0 S' t g e l d ∧ PT l d u o ∧ l.length ≤ 698) := by
    intro m9
    induction m9 with
    | zero => intro p Sa k8 n8 s5 d7 l7 u7 f1 f2 f3 hme; exact absurd hme (Nat.not_lt_zero _)
    | succ m9 ih =>
      intro p Sa k8 n8 s5 d7 l7 u7 f1 f2 f3 hme hxSa hp hb1 hb2 hEa hD7 hT7 hl7 hu7 hs7
      obtain ⟨hxo, hFS, ⟨hor1, hor2, hor3, hor4⟩, ⟨fg0, hG0⟩, hB0, ⟨V0, hV0, ⟨v0, v1, v2, v3, v4, v5⟩, ⟨v6, v7, v8, v9⟩⟩, ⟨hr1, hr2, hr3, hr4⟩⟩ := hEa
      refine r_iload rfl rfl ?_
      refine r_aload_n rfl rfl ?_
      refine r_getfN (v := .int (nI PP)) rfl flL_52.f (by omega) hV0 v0 ?_
      refine n_icmp_ge (tgt := 256) rfl rfl (by omega) (by omega) (fun h9 => ?_) (fun h9 => ?_)
      · have e9 : p = PP := by omega
        rw [e9] at hD7 hl7 hu7
        obtain ⟨⟨a1, a2⟩, a3, a4, a5, ⟨q1, q2, q3, q4⟩, ⟨c1, c2, c3, c4⟩⟩ := hD7
        refine r_lv (lv' := [(0, .ref t), (1, .ref g), (2, .ref e)]) [2, 3, 4] rfl ?_
        exact l_es_C hxSa hFS ⟨hor1, hor2, hor3, hor4⟩ hG0 hV0 ⟨⟨by rw [a1]; exact v0, by rw [a2]; exact v1, by rw [c2]; exact v2, by rw [c1]; exact v3, by rw [c3]; exact v4, by rw [c4]; exact v5⟩, ⟨v6, v7, v8, v9⟩⟩ ⟨f1, f2, f3, _, ⟨hr1, fun i hi => (a3 i (by omega)).1⟩, ⟨hr2, fun i hi => (a3 i (by omega)).2.1⟩, ⟨hr3, fun i hi => (a3 i (by omega)).2.2⟩, ⟨hr4, fun i hi => by rw [a5 i]; rfl⟩⟩ hB0 ⟨fun i z => z.elim (fun z => by omega) (fun z => by omega), fun i hi => Or.inl hi, fun i i1 i2 => Or.inr ⟨i1, i2⟩⟩ hT7 (by omega) ⟨rfl, rfl, rfl⟩ (fun i hi => hu7 i (by omega)) ⟨by omega, by omega⟩ ⟨q1, q2, q3, q4⟩ (by omega) (by omega)
      · have h9 : p < PP := by omega
        obtain ⟨⟨da1, da2⟩, -⟩ := id hD7
        refine r_aload_n rfl rfl ?_
        refine r_ldcS (i := 23) rfl rfl ?_
        obtain ⟨VtA, hVtA, -, hltA⟩ := hB0.o
        refine c_virA [.retAddr 23] [] rfl lkL_38 (by omega) hVtA rfl rfl (a_S (S := Sa) hxo hB0 (fun i z => z.elim (fun z => by omega) (fun z => by omega)) (z := [112, 101, 114, 115, 111, 110, 32]) rfl (by decide) (by decide) (by decide) (by omega)) rfl rfl (by omega) (by omega) rfl ?_
        rintro _ S1 ⟨rfl, fr2, hBA⟩
        have z3 := fr2.1
        refine n_bipush 97 rfl (by decide) ?_
        refine r_iload rfl rfl ?_
        refine n_iadd rfl ?_
        have hc97 : 97 + p < 128 := by omega
        refine r_i2c rfl rfl ?_
        refine r_top (y := nI (97 + p)) (i2c_n _ hc97) ?_
        obtain ⟨VtB, hVtB, -, hltB⟩ := hBA.o
        refine c_virA [.int (nI (97 + p))] [] rfl lkL_43 (by omega) hVtB rfl rfl (a_C (S := S1) fr2.2.1 hBA (fun i z => z.elim (fun z => by omega) (fun z => by omega)) hc97 (by simp only [List.length_append, List.length_cons, List.length_nil, digs_len]; omega)) rfl rfl (by omega) (by omega) rfl ?_
        rintro _ S4 ⟨rfl, fr5, hBB⟩
        have z6 := fr5.1
        refine r_pop rfl rfl ?_
        refine r_lv (lv' := [(4, .int (nI p)), (3, .int (oI spn)), (0, .ref t), (1, .ref g), (2, .ref e)]) [0, 1, 2, 3, 4] rfl ?_
        have J3 : ∀ (Sb : AS) (par : Nat) (g1 : Nat → Int32), (par ≤ p) → (spn = p + 1 → par = 0) → (par ≠ 0 → par ≠ s5) → (g1 p = oI par) → (∀ i, i ≠ p → g1 i = f1 i) → (EB S0 Sb t g e PP s5 (l7 ++ [112, 101, 114, 115, 111, 110, 32] ++ [97 + p]) g1 f2 f3) → Wp sc mL_estate 300 320000 (k8 + 1 + 1) (n8 + 1500 + 1500) 137 [(4, .int (nI p)), (3, .int (oI spn)), (0, .ref t), (1, .ref g), (2, .ref e)] [] Sb (AR fun v S' => v = .ref e ∧ ∃ (d : D) (u : Nat → List Nat) (o : Nat → Bool) (l : List Nat) (K : Nat → Prop), EG K S0 S' t g e l d ∧ PT l d u o ∧ l.length ≤ 698) := by
          intro Sb par g1 hpar hparS hps5 hg1 hgn hEb9
          have hEb := hEb9
          obtain ⟨hxo, hFS, ⟨hor1, hor2, hor3, hor4⟩, ⟨fg0, hG0⟩, hB0, ⟨V0, hV0, ⟨v0, v1, v2, v3, v4, v5⟩, ⟨v6, v7, v8, v9⟩⟩, ⟨hr1, hr2, hr3, hr4⟩⟩ := hEb
          have J4 : ∀ (Sc : AS) (k9 n9 : Nat), (k9 ≤ k8 + 4) → (n9 ≤ n8 + 6000) → (EB S0 Sc t g e PP s5 (l7 ++ [112, 101, 114, 115, 111, 110, 32] ++ [97 + p] ++ tU par) g1 f2 f3) → Wp sc mL_estate 300 320000 k9 n9 168 [(4, .int (nI p)), (3, .int (oI spn)), (0, .ref t), (1, .ref g), (2, .ref e)] [] Sc (AR fun v S' => v = .ref e ∧ ∃ (d : D) (u : Nat → List Nat) (o : Nat → Bool) (l : List Nat) (K : Nat → Prop), EG K S0 S' t g e l d ∧ PT l d u o ∧ l.length ≤ 698) := by
            intro Sc k9 n9 hk4 hn4 hEc
            obtain ⟨hxo, hFS, ⟨hor1, hor2, hor3, hor4⟩, ⟨fg0, hG0⟩, hB0, ⟨V0, hV0, ⟨v0, v1, v2, v3, v4, v5⟩, ⟨v6, v7, v8, v9⟩⟩, ⟨hr1, hr2, hr3, hr4⟩⟩ := hEc
            have htU := tU_len par
            refine r_aload_n rfl rfl ?_
            refine r_getfN (v := .ref ((e + 2))) rfl flL_66 (by omega) hV0 v7 ?_
            refine r_iload rfl rfl ?_
            refine r_aload_n rfl rfl ?_
            refine n_bipush 121 rfl (by decide) ?_
            refine c_staA [.ref g, .int (nI 121)] [.int (nI p), .ref ((e + 2))] rfl lkL_34 (l_draw (S := Sc) (m := 121) hxo (by omega) hG0 (by decide) (by omega)) rfl rfl (by omega) (by omega) rfl ?_
            rintro _ S7 ⟨ka, fg1, hka, rfl, fr8, hsz1, hG1⟩
            have z9 := fr8.1
            have hp10 : S7.1 (e + 2) = oI0 0 12 f2 := ((fr8.2.2 (e + 2) (by omega) (by omega)).trans hr2)
            refine t_iast rfl fr8.2.1 (by omega) hp10 (by omega) (by decide) ?_
            intro S11 w12
            have z13 := w12.1
            refine r_aload_n rfl rfl ?_
            refine r_ldcS (i := 25) rfl rfl ?_
            have hBm : SLK (KP t e) S11 t (l7 ++ [112, 101, 114, 115, 111, 110, 32] ++ [97 + p] ++ tU par) := hB0.mv (X := fun i => KP t e i) ⟨by omega, w12.2.1, fun i hi hn => by
              have hk1 : ¬ i < t := fun z => hn (Or.inl z)
              have hk2 : ¬ (e ≤ i ∧ i < e + 9) := fun z => hn (Or.inr z)
              exact ((w12.2.2.2 i (by omega)).trans ((fr8.2.2 i (by omega) (by omega)).trans rfl))⟩ (fun _ z => z) (fun _ z => Or.inl z)
            have hdk := dgs_b ka
            obtain ⟨VtC, hVtC, -, hltC⟩ := hBm.o
            refine c_virA [.retAddr 25] [] rfl lkL_38 (by omega) hVtC rfl rfl (a_S (S := S11) w12.2.1 hBm (fun i z => z.elim (fun z => by omega) (fun z => by omega)) (z := [32, 97, 103, 101, 32]) rfl (by decide) (by decide) (by decide) (by simp only [List.length_append, List.length_cons, List.length_nil, digs_len]; omega)) rfl rfl (by omega) (by omega) rfl ?_
            rintro _ S14 ⟨rfl, fr15, hBC⟩
            have z16 := fr15.1
            refine r_aload_n rfl rfl ?_
            have hp17 : S14.1 e = oO 10 V0 := ((fr15.2.2 e (by omega) (fun z9 => z9 (Or.inr ⟨by omega, by omega⟩))).trans ((w12.2.2.2 e (by omega)).trans ((fr8.2.2 e (by omega) (by omega)).trans hV0)))
            refine r_getfN (v := .ref ((e + 2))) rfl flL_66 (by omega) hp17 v7 ?_
            refine r_iload rfl rfl ?_
            have hp18 : S14.1 (e + 2) = oI0 0 12 (aup f2 p (nI ka)) := ((fr15.2.2 (e + 2) (by omega) (fun z9 => z9 (Or.inr ⟨by omega, by omega⟩))).trans w12.2.2.1)
            refine r_iald rfl (by omega) hp18 (by omega) (by decide) ?_
            refine r_top (y := nI ka) (aup_s _ _ _) ?_
            obtain ⟨VtD, hVtD, -, hltD⟩ := hBC.o
            refine c_virA [.int (nI ka)] [] rfl lkL_46 (by omega) hVtD rfl rfl (a_I (S := S14) fr15.2.1 hBC (fun i z => z.elim (fun z => by omega) (fun z => by omega)) (by omega) (by simp only [List.length_append, List.length_cons, List.length_nil, digs_len]; omega)) rfl rfl (by omega) (by omega) rfl ?_
            rintro _ S19 ⟨rfl, fr20, hBD⟩
            have z21 := fr20.1
            refine r_pop rfl rfl ?_
            refine r_iload rfl rfl ?_
            refine r_iload_n rfl rfl ?_
            refine r_icmp_ne (tgt := 220) rfl rfl (fun h8 => ?_) (fun h8 => ?_)
            · have hns : spn ≠ p + 1 := fun z => h8 ((oI_q (by omega) (by omega)).mpr z)
              refine r_aload_n rfl rfl ?_
              refine n_iconst 3 rfl ?_
              have hp22 : S19.1 g = oI0 0 1 fg1 := ((fr20.2.2 g (by omega) (fun z9 => z9 (Or.inl (by omega)))).trans ((fr15.2.2 g (by omega) (fun z9 => z9 (Or.inl (by omega)))).trans ((w12.2.2.2 g (by omega)).trans hG1)))
              refine c_staA [.ref g, .int (nI 3)] [] rfl lkL_34 (l_draw (S := S19) (m := 3) fr20.2.1 (by omega) hp22 (by decide) (by omega)) rfl rfl (by omega) (by omega) rfl ?_
              rintro _ S23 ⟨kd, fg2, hkd, rfl, fr24, hsz2, hG2⟩
              have z25 := fr24.1
              refine n_if_ne (tgt := 243) rfl rfl (by omega) (fun h7 => ?_) (fun h7 => ?_)
              · have hBq : SLK (KP t e) S23 t (l7 ++ [112, 101, 114, 115, 111, 110, 32] ++ [97 + p] ++ tU par ++ [32, 97, 103, 101, 32] ++ digs ka) := hBD.mv (X := fun i => KP t e i) ⟨by omega, fr24.2.1, fun i hi hn => by
                  have hk1 : ¬ i < t := fun z => hn (Or.inl z)
                  have hk2 : ¬ (e ≤ i ∧ i < e + 9) := fun z => hn (Or.inr z)
                  exact ((fr24.2.2 i (by omega) (by omega)).trans rfl)⟩ (fun _ z => z) (fun _ z => Or.inl z)
                refine r_aload_n rfl rfl ?_
                refine n_bipush 59 rfl (by decide) ?_
                obtain ⟨VtZ, hVtZ, -, hltZ⟩ := hBq.o
                refine c_virA [.int (nI 59)] [] rfl lkL_43 (by omega) hVtZ rfl rfl (a_C (S := S23) fr24.2.1 hBq (fun i z => z.elim (fun z => by omega) (fun z => by omega)) (by decide) (by simp only [List.length_append, List.length_cons, List.length_nil, digs_len]; omega)) rfl rfl (by omega) (by omega) rfl ?_
                rintro _ S26 ⟨rfl, fr27, hBZ⟩
                have z28 := fr27.1
                refine r_pop rfl rfl ?_
                refine n_iinc (lv' := [(4, .int (nI (p + 1))), (3, .int (oI spn)), (0, .ref t), (1, .ref g), (2, .ref e)]) 1 rfl rfl (Nat.le_of_ble_eq_true rfl) rfl ?_
                refine r_goto (tgt := 44) rfl rfl ?_
                have hp29 : S26.1 (e + 1) = oI0 0 12 g1 := ((fr27.2.2 (e + 1) (by omega) (fun z9 => z9 (Or.inr ⟨by omega, by omega⟩))).trans ((fr24.2.2 (e + 1) (by omega) (by omega)).trans ((fr20.2.2 (e + 1) (by omega) (fun z9 => z9 (Or.inr ⟨by omega, by omega⟩))).trans ((fr15.2.2 (e + 1) (by omega) (fun z9 => z9 (Or.inr ⟨by omega, by omega⟩))).trans ((w12.2.2.2 (e + 1) (by omega)).trans ((fr8.2.2 (e + 1) (by omega) (by omega)).trans hr1))))))
                have hp30 : S26.1 (e + 2) = oI0 0 12 (aup f2 p (nI ka)) := ((fr27.2.2 (e + 2) (by omega) (fun z9 => z9 (Or.inr ⟨by omega, by omega⟩))).trans ((fr24.2.2 (e + 2) (by omega) (by omega)).trans ((fr20.2.2 (e + 2) (by omega) (fun z9 => z9 (Or.inr ⟨by omega, by omega⟩))).trans hp18)))
                have hp31 : S26.1 (e + 3) = oI0 2 12 f3 := ((fr27.2.2 (e + 3) (by omega) (fun z9 => z9 (Or.inr ⟨by omega, by omega⟩))).trans ((fr24.2.2 (e + 3) (by omega) (by omega)).trans ((fr20.2.2 (e + 3) (by omega) (fun z9 => z9 (Or.inr ⟨by omega, by omega⟩))).trans ((fr15.2.2 (e + 3) (by omega) (fun z9 => z9 (Or.inr ⟨by omega, by omega⟩))).trans ((w12.2.2.2 (e + 3) (by omega)).trans ((fr8.2.2 (e + 3) (by omega) (by omega)).trans hr3))))))
                have hp32 : S26.1 e = oO 10 V0 := ((fr27.2.2 e (by omega) (fun z9 => z9 (Or.inr ⟨by omega, by omega⟩))).trans ((fr24.2.2 e (by omega) (by omega)).trans ((fr20.2.2 e (by omega) (fun z9 => z9 (Or.inr ⟨by omega, by omega⟩))).trans hp17)))
                have hp33 : S26.1 (e + 4) = oI0 2 12 (fun _ => 0) := ((fr27.2.2 (e + 4) (by omega) (fun z9 => z9 (Or.inr ⟨by omega, by omega⟩))).trans ((fr24.2.2 (e + 4) (by omega) (by omega)).trans ((fr20.2.2 (e + 4) (by omega) (fun z9 => z9 (Or.inr ⟨by omega, by omega⟩))).trans ((fr15.2.2 (e + 4) (by omega) (fun z9 => z9 (Or.inr ⟨by omega, by omega⟩))).trans ((w12.2.2.2 (e + 4) (by omega)).trans ((fr8.2.2 (e + 4) (by omega) (by omega)).trans hr4))))))
                have hp34 : S26.1 g = oI0 0 1 fg2 := ((fr27.2.2 g (by omega) (fun z9 => z9 (Or.inl (by omega)))).trans hG2)
                have hEn : EB S0 S26 t g e PP s5 (l7 ++ [112, 101, 114, 115, 111, 110, 32] ++ [97 + p] ++ tU par ++ [32, 97, 103, 101, 32] ++ digs ka ++ [59]) g1 (aup f2 p (nI ka)) f3 := ⟨fr27.2.1, hFS.tr (Fr.wk (X := fun i => ¬ (i < t ∧ i ≠ g)) ⟨by omega, fr27.2.1, fun i hi hn => by
                  have h9 := Classical.not_not.mp hn
                  have hit := h9.1
                  have hig := h9.2
                  exact ((fr27.2.2 i (by omega) (fun z9 => z9 (Or.inl (by omega)))).trans ((fr24.2.2 i (by omega) (by omega)).trans ((fr20.2.2 i (by omega) (fun z9 => z9 (Or.inl (by omega)))).trans ((fr15.2.2 i (by omega) (fun z9 => z9 (Or.inl (by omega)))).trans ((w12.2.2.2 i (by omega)).trans ((fr8.2.2 i (by omega) (by omega)).trans rfl))))))⟩ (fun i hn => Classical.byContradiction fun z => hn ⟨Nat.lt_of_not_le (fun y => z (Or.inl y)), fun y => z (Or.inr y)⟩)) (fun _ _ z => z), ⟨hor1, hor2, hor3, by omega⟩, ⟨_, hp34⟩, hBZ, ⟨_, hp32, ⟨v0, v1, v2, v3, v4, v5⟩, ⟨v6, v7, v8, v9⟩⟩, ⟨hp29, hp30, hp31, hp33⟩⟩
                have hDn := DD_s (k := 0) (par := par) (a := ka) (g1 := g1) (g2 := aup f2 p (nI ka)) (g3 := f3) hD7 (by decide) hg1 hgn (aup_s _ _ _) (fun i hi => aup_n _ _ hi) ((hD7.2.2.1 p (Nat.le_refl _)).1) (fun _ _ => rfl)
                have hSn := SP_per (n := l7.length) (p := p) (par := par) (a := ka) (k := 0) (d := d7) (u := u7) (o := fun _ => false) da1 (by omega) hu7 hpar (fun z => by rw [da2]; exact hps5 z) (by omega) (by decide) (fun z => absurd z (by decide))
                have hTn := PT_s hT7 hSn (nP_len _ _ _ _)
                rw [← lit_P0] at hTn
                refine r_lv (lv' := [(4, .int (nI (p + 1))), (3, .int (oI spn)), (0, .ref t), (1, .ref g), (2, .ref e)]) [0, 1, 2, 3, 4] rfl ?_
                exact ih (p + 1) S26 (k9 + 1 + 1 + 1) (n9 + 1500 + 1500 + 1500) _ _ _ _ _ _ _ (by omega) fr27.2.1 (by omega) (by omega) (by omega) hEn hDn hTn (by simp only [List.length_append, List.length_cons, List.length_nil, digs_len]; omega) (fun i hi => by
                    by_cases z : i = p
                    · rw [z, aup_s]
                    · rw [aup_n _ _ z]; exact hu7 i (by omega)) (by rw [hs7]; split <;> split <;> omega)
              · refine r_aload_n rfl rfl ?_
                have hp35 : S23.1 e = oO 10 V0 := ((fr24.2.2 e (by omega) (by omega)).trans ((fr20.2.2 e (by omega) (fun z9 => z9 (Or.inr ⟨by omega, by omega⟩))).trans hp17))
                refine r_getfN (v := .ref ((e + 3))) rfl flL_73 (by omega) hp35 v8 ?_
                refine r_iload rfl rfl ?_
                refine n_iconst 1 rfl ?_
                have hp36 : S23.1 (e + 3) = oI0 2 12 f3 := ((fr24.2.2 (e + 3) (by omega) (by omega)).trans ((fr20.2.2 (e + 3) (by omega) (fun z9 => z9 (Or.inr ⟨by omega, by omega⟩))).trans ((fr15.2.2 (e + 3) (by omega) (fun z9 => z9 (Or.inr ⟨by omega, by omega⟩))).trans ((w12.2.2.2 (e + 3) (by omega)).trans ((fr8.2.2 (e + 3) (by omega) (by omega)).trans hr3)))))
                refine t_zast rfl fr24.2.1 (by omega) hp36 (by omega) (by decide) (by decide) ?_
                intro S37 w38
                have z39 := w38.1
                refine r_aload_n rfl rfl ?_
                refine r_ldcS (i := 27) rfl rfl ?_
                have hBq : SLK (KP t e) S37 t (l7 ++ [112, 101, 114, 115, 111, 110, 32] ++ [97 + p] ++ tU par ++ [32, 97, 103, 101, 32] ++ digs ka) := hBD.mv (X := fun i => KP t e i) ⟨by omega, w38.2.1, fun i hi hn => by
                  have hk1 : ¬ i < t := fun z => hn (Or.inl z)
                  have hk2 : ¬ (e ≤ i ∧ i < e + 9) := fun z => hn (Or.inr z)
                  exact ((w38.2.2.2 i (by omega)).trans ((fr24.2.2 i (by omega) (by omega)).trans rfl))⟩ (fun _ z => z) (fun _ z => Or.inl z)
                obtain ⟨VtE, hVtE, -, hltE⟩ := hBq.o
                refine c_virA [.retAddr 27] [] rfl lkL_38 (by omega) hVtE rfl rfl (a_S (S := S37) w38.2.1 hBq (fun i z => z.elim (fun z => by omega) (fun z => by omega)) (z := [32, 100, 101, 97, 100]) rfl (by decide) (by decide) (by decide) (by simp only [List.length_append, List.length_cons, List.length_nil, digs_len]; omega)) rfl rfl (by omega) (by omega) rfl ?_
                rintro _ S40 ⟨rfl, fr41, hBE⟩
                have z42 := fr41.1
                refine r_pop rfl rfl ?_
                refine r_aload_n rfl rfl ?_
                refine n_bipush 59 rfl (by decide) ?_
                obtain ⟨VtZ, hVtZ, -, hltZ⟩ := hBE.o
                refine c_virA [.int (nI 59)] [] rfl lkL_43 (by omega) hVtZ rfl rfl (a_C (S := S40) fr41.2.1 hBE (fun i z => z.elim (fun z => by omega) (fun z => by omega)) (by decide) (by simp only [List.length_append, List.length_cons, List.length_nil, digs_len]; omega)) rfl rfl (by omega) (by omega) rfl ?_
                rintro _ S43 ⟨rfl, fr44, hBZ⟩
                have z45 := fr44.1
                refine r_pop rfl rfl ?_
                refine n_iinc (lv' := [(4, .int (nI (p + 1))), (3, .int (oI spn)), (0, .ref t), (1, .ref g), (2, .ref e)]) 1 rfl rfl (Nat.le_of_ble_eq_true rfl) rfl ?_
                refine r_goto (tgt := 44) rfl rfl ?_
                have hp46 : S43.1 (e + 1) = oI0 0 12 g1 := ((fr44.2.2 (e + 1) (by omega) (fun z9 => z9 (Or.inr ⟨by omega, by omega⟩))).trans ((fr41.2.2 (e + 1) (by omega) (fun z9 => z9 (Or.inr ⟨by omega, by omega⟩))).trans ((w38.2.2.2 (e + 1) (by omega)).trans ((fr24.2.2 (e + 1) (by omega) (by omega)).trans ((fr20.2.2 (e + 1) (by omega) (fun z9 => z9 (Or.inr ⟨by omega, by omega⟩))).trans ((fr15.2.2 (e + 1) (by omega) (fun z9 => z9 (Or.inr ⟨by omega, by omega⟩))).trans ((w12.2.2.2 (e + 1) (by omega)).trans ((fr8.2.2 (e + 1) (by omega) (by omega)).trans hr1))))))))
                have hp47 : S43.1 (e + 2) = oI0 0 12 (aup f2 p (nI ka)) := ((fr44.2.2 (e + 2) (by omega) (fun z9 => z9 (Or.inr ⟨by omega, by omega⟩))).trans ((fr41.2.2 (e + 2) (by omega) (fun z9 => z9 (Or.inr ⟨by omega, by omega⟩))).trans ((w38.2.2.2 (e + 2) (by omega)).trans ((fr24.2.2 (e + 2) (by omega) (by omega)).trans ((fr20.2.2 (e + 2) (by omega) (fun z9 => z9 (Or.inr ⟨by omega, by omega⟩))).trans hp18)))))
                have hp48 : S43.1 (e + 3) = oI0 2 12 (aup f3 p (nI 1)) := ((fr44.2.2 (e + 3) (by omega) (fun z9 => z9 (Or.inr ⟨by omega, by omega⟩))).trans ((fr41.2.2 (e + 3) (by omega) (fun z9 => z9 (Or.inr ⟨by omega, by omega⟩))).trans w38.2.2.1))
                have hp49 : S43.1 e = oO 10 V0 := ((fr44.2.2 e (by omega) (fun z9 => z9 (Or.inr ⟨by omega, by omega⟩))).trans ((fr41.2.2 e (by omega) (fun z9 => z9 (Or.inr ⟨by omega, by omega⟩))).trans ((w38.2.2.2 e (by omega)).trans hp35)))
                have hp50 : S43.1 (e + 4) = oI0 2 12 (fun _ => 0) := ((fr44.2.2 (e + 4) (by omega) (fun z9 => z9 (Or.inr ⟨by omega, by omega⟩))).trans ((fr41.2.2 (e + 4) (by omega) (fun z9 => z9 (Or.inr ⟨by omega, by omega⟩))).trans ((w38.2.2.2 (e + 4) (by omega)).trans ((fr24.2.2 (e + 4) (by omega) (by omega)).trans ((fr20.2.2 (e + 4) (by omega) (fun z9 => z9 (Or.inr ⟨by omega, by omega⟩))).trans ((fr15.2.2 (e + 4) (by omega) (fun z9 => z9 (Or.inr ⟨by omega, by omega⟩))).trans ((w12.2.2.2 (e + 4) (by omega)).trans ((fr8.2.2 (e + 4) (by omega) (by omega)).trans hr4))))))))
                have hp51 : S43.1 g = oI0 0 1 fg2 := ((fr44.2.2 g (by omega) (fun z9 => z9 (Or.inl (by omega)))).trans ((fr41.2.2 g (by omega) (fun z9 => z9 (Or.inl (by omega)))).trans ((w38.2.2.2 g (by omega)).trans hG2)))
                have hEn : EB S0 S43 t g e PP s5 (l7 ++ [112, 101, 114, 115, 111, 110, 32] ++ [97 + p] ++ tU par ++ [32, 97, 103, 101, 32] ++ digs ka ++ [32, 100, 101, 97, 100] ++ [59]) g1 (aup f2 p (nI ka)) (aup f3 p (nI 1)) := ⟨fr44.2.1, hFS.tr (Fr.wk (X := fun i => ¬ (i < t ∧ i ≠ g)) ⟨by omega, fr44.2.1, fun i hi hn => by
                  have h9 := Classical.not_not.mp hn
                  have hit := h9.1
                  have hig := h9.2
                  exact ((fr44.2.2 i (by omega) (fun z9 => z9 (Or.inl (by omega)))).trans ((fr41.2.2 i (by omega) (fun z9 => z9 (Or.inl (by omega)))).trans ((w38.2.2.2 i (by omega)).trans ((fr24.2.2 i (by omega) (by omega)).trans ((fr20.2.2 i (by omega) (fun z9 => z9 (Or.inl (by omega)))).trans ((fr15.2.2 i (by omega) (fun z9 => z9 (Or.inl (by omega)))).trans ((w12.2.2.2 i (by omega)).trans ((fr8.2.2 i (by omega) (by omega)).trans rfl))))))))⟩ (fun i hn => Classical.byContradiction fun z => hn ⟨Nat.lt_of_not_le (fun y => z (Or.inl y)), fun y => z (Or.inr y)⟩)) (fun _ _ z => z), ⟨hor1, hor2, hor3, by omega⟩, ⟨_, hp51⟩, hBZ, ⟨_, hp49, ⟨v0, v1, v2, v3, v4, v5⟩, ⟨v6, v7, v8, v9⟩⟩, ⟨hp46, hp47, hp48, hp50⟩⟩
                have hDn := DD_s (k := 1) (par := par) (a := ka) (g1 := g1) (g2 := aup f2 p (nI ka)) (g3 := aup f3 p (nI 1)) hD7 (by decide) hg1 hgn (aup_s _ _ _) (fun i hi => aup_n _ _ hi) (aup_s _ _ _) (fun i hi => aup_n _ _ hi)
                have hSn := SP_per (n := l7.length) (p := p) (par := par) (a := ka) (k := 1) (d := d7) (u := u7) (o := fun _ => false) da1 (by omega) hu7 hpar (fun z => by rw [da2]; exact hps5 z) (by omega) (by decide) (fun z => absurd z (by decide))
                have hTn := PT_s hT7 hSn (nP_len _ _ _ _)
                rw [← lit_P1] at hTn
                refine r_lv (lv' := [(4, .int (nI (p + 1))), (3, .int (oI spn)), (0, .ref t), (1, .ref g), (2, .ref e)]) [0, 1, 2, 3, 4] rfl ?_
                exact ih (p + 1) S43 (k9 + 1 + 1 + 1 + 1) (n9 + 1500 + 1500 + 1500 + 1500) _ _ _ _ _ _ _ (by omega) fr44.2.1 (by omega) (by omega) (by omega) hEn hDn hTn (by simp only [List.length_append, List.length_cons, List.length_nil, digs_len]; omega) (fun i hi => by
                    by_cases z : i = p
                    · rw [z, aup_s]
                    · rw [aup_n _ _ z]; exact hu7 i (by omega)) (by rw [hs7]; split <;> split <;> omega)
            · have hss : spn = p + 1 := (oI_q (by omega) (by omega)).mp h8
              have hp0 := hparS hss
              subst hp0
              have hs50 : s5 = 0 := by rw [hs7, if_neg (by omega)]
              refine r_aload_n rfl rfl ?_
              refine r_iload rfl rfl ?_
              have hp52 : S19.1 e = oO 10 V0 := ((fr20.2.2 e (by omega) (fun z9 => z9 (Or.inr ⟨by omega, by omega⟩))).trans hp17)
              refine t_putfN rfl flL_61 (okv_i _) fr20.2.1 (by omega) hp52 ?_
              intro S53 w54
              have z55 := w54.1
              refine r_aload_n rfl rfl ?_
              refine r_ldcS (i := 26) rfl rfl ?_
              have hBq : SLK (KP t e) S53 t (l7 ++ [112, 101, 114, 115, 111, 110, 32] ++ [97 + p] ++ tU 0 ++ [32, 97, 103, 101, 32] ++ digs ka) := hBD.mv (X := fun i => KP t e i) ⟨by omega, w54.2.1, fun i hi hn => by
                have hk1 : ¬ i < t := fun z => hn (Or.inl z)
                have hk2 : ¬ (e ≤ i ∧ i < e + 9) := fun z => hn (Or.inr z)
                exact ((w54.2.2.2 i (by omega)).trans rfl)⟩ (fun _ z => z) (fun _ z => Or.inl z)
              obtain ⟨VtE, hVtE, -, hltE⟩ := hBq.o
              refine c_virA [.retAddr 26] [] rfl lkL_38 (by omega) hVtE rfl rfl (a_S (S := S53) w54.2.1 hBq (fun i z => z.elim (fun z => by omega) (fun z => by omega)) (z := [32, 115, 112, 111, 117, 115, 101]) rfl (by decide) (by decide) (by decide) (by simp only [List.length_append, List.length_cons, List.length_nil, digs_len]; omega)) rfl rfl (by omega) (by omega) rfl ?_
              rintro _ S56 ⟨rfl, fr57, hBE⟩
              have z58 := fr57.1
              refine r_pop rfl rfl ?_
              refine r_goto (tgt := 243) rfl rfl ?_
              refine r_aload_n rfl rfl ?_
              refine n_bipush 59 rfl (by decide) ?_
              obtain ⟨VtZ, hVtZ, -, hltZ⟩ := hBE.o
              refine c_virA [.int (nI 59)] [] rfl lkL_43 (by omega) hVtZ rfl rfl (a_C (S := S56) fr57.2.1 hBE (fun i z => z.elim (fun z => by omega) (fun z => by omega)) (by decide) (by simp only [List.length_append, List.length_cons, List.length_nil, digs_len]; omega)) rfl rfl (by omega) (by omega) rfl ?_
              rintro _ S59 ⟨rfl, fr60, hBZ⟩
              have z61 := fr60.1
              refine r_pop rfl rfl ?_
              refine n_iinc (lv' := [(4, .int (nI (p + 1))), (3, .int (oI spn)), (0, .ref t), (1, .ref g), (2, .ref e)]) 1 rfl rfl (Nat.le_of_ble_eq_true rfl) rfl ?_
              refine r_goto (tgt := 44) rfl rfl ?_
              have hp62 : S59.1 (e + 1) = oI0 0 12 g1 := ((fr60.2.2 (e + 1) (by omega) (fun z9 => z9 (Or.inr ⟨by omega, by omega⟩))).trans ((fr57.2.2 (e + 1) (by omega) (fun z9 => z9 (Or.inr ⟨by omega, by omega⟩))).trans ((w54.2.2.2 (e + 1) (by omega)).trans ((fr20.2.2 (e + 1) (by omega) (fun z9 => z9 (Or.inr ⟨by omega, by omega⟩))).trans ((fr15.2.2 (e + 1) (by omega) (fun z9 => z9 (Or.inr ⟨by omega, by omega⟩))).trans ((w12.2.2.2 (e + 1) (by omega)).trans ((fr8.2.2 (e + 1) (by omega) (by omega)).trans hr1)))))))
              have hp63 : S59.1 (e + 2) = oI0 0 12 (aup f2 p (nI ka)) := ((fr60.2.2 (e + 2) (by omega) (fun z9 => z9 (Or.inr ⟨by omega, by omega⟩))).trans ((fr57.2.2 (e + 2) (by omega) (fun z9 => z9 (Or.inr ⟨by omega, by omega⟩))).trans ((w54.2.2.2 (e + 2) (by omega)).trans ((fr20.2.2 (e + 2) (by omega) (fun z9 => z9 (Or.inr ⟨by omega, by omega⟩))).trans hp18))))
              have hp64 : S59.1 (e + 3) = oI0 2 12 f3 := ((fr60.2.2 (e + 3) (by omega) (fun z9 => z9 (Or.inr ⟨by omega, by omega⟩))).trans ((fr57.2.2 (e + 3) (by omega) (fun z9 => z9 (Or.inr ⟨by omega, by omega⟩))).trans ((w54.2.2.2 (e + 3) (by omega)).trans ((fr20.2.2 (e + 3) (by omega) (fun z9 => z9 (Or.inr ⟨by omega, by omega⟩))).trans ((fr15.2.2 (e + 3) (by omega) (fun z9 => z9 (Or.inr ⟨by omega, by omega⟩))).trans ((w12.2.2.2 (e + 3) (by omega)).trans ((fr8.2.2 (e + 3) (by omega) (by omega)).trans hr3)))))))
              have hp65 : S59.1 e = oO 10 (aup V0 1 (.int (nI p))) := ((fr60.2.2 e (by omega) (fun z9 => z9 (Or.inr ⟨by omega, by omega⟩))).trans ((fr57.2.2 e (by omega) (fun z9 => z9 (Or.inr ⟨by omega, by omega⟩))).trans w54.2.2.1))
              have hp66 : S59.1 (e + 4) = oI0 2 12 (fun _ => 0) := ((fr60.2.2 (e + 4) (by omega) (fun z9 => z9 (Or.inr ⟨by omega, by omega⟩))).trans ((fr57.2.2 (e + 4) (by omega) (fun z9 => z9 (Or.inr ⟨by omega, by omega⟩))).trans ((w54.2.2.2 (e + 4) (by omega)).trans ((fr20.2.2 (e + 4) (by omega) (fun z9 => z9 (Or.inr ⟨by omega, by omega⟩))).trans ((fr15.2.2 (e + 4) (by omega) (fun z9 => z9 (Or.inr ⟨by omega, by omega⟩))).trans ((w12.2.2.2 (e + 4) (by omega)).trans ((fr8.2.2 (e + 4) (by omega) (by omega)).trans hr4)))))))
              have hp67 : S59.1 g = oI0 0 1 fg1 := ((fr60.2.2 g (by omega) (fun z9 => z9 (Or.inl (by omega)))).trans ((fr57.2.2 g (by omega) (fun z9 => z9 (Or.inl (by omega)))).trans ((w54.2.2.2 g (by omega)).trans ((fr20.2.2 g (by omega) (fun z9 => z9 (Or.inl (by omega)))).trans ((fr15.2.2 g (by omega) (fun z9 => z9 (Or.inl (by omega)))).trans ((w12.2.2.2 g (by omega)).trans hG1))))))
              have hEn : EB S0 S59 t g e PP (p + 1) (l7 ++ [112, 101, 114, 115, 111, 110, 32] ++ [97 + p] ++ tU 0 ++ [32, 97, 103, 101, 32] ++ digs ka ++ [32, 115, 112, 111, 117, 115, 101] ++ [59]) g1 (aup f2 p (nI ka)) f3 := ⟨fr60.2.1, hFS.tr (Fr.wk (X := fun i => ¬ (i < t ∧ i ≠ g)) ⟨by omega, fr60.2.1, fun i hi hn => by
                have h9 := Classical.not_not.mp hn
                have hit := h9.1
                have hig := h9.2
                exact ((fr60.2.2 i (by omega) (fun z9 => z9 (Or.inl (by omega)))).trans ((fr57.2.2 i (by omega) (fun z9 => z9 (Or.inl (by omega)))).trans ((w54.2.2.2 i (by omega)).trans ((fr20.2.2 i (by omega) (fun z9 => z9 (Or.inl (by omega)))).trans ((fr15.2.2 i (by omega) (fun z9 => z9 (Or.inl (by omega)))).trans ((w12.2.2.2 i (by omega)).trans ((fr8.2.2 i (by omega) (by omega)).trans rfl)))))))⟩ (fun i hn => Classical.byContradiction fun z => hn ⟨Nat.lt_of_not_le (fun y => z (Or.inl y)), fun y => z (Or.inr y)⟩)) (fun _ _ z => z), ⟨hor1, hor2, hor3, by omega⟩, ⟨_, hp67⟩, hBZ, ⟨_, hp65, ⟨((aup_n _ _ (by decide)).trans v0), ((aup_s _ _ _).trans (congrArg Value.int (oI_s p).symm)), ((aup_n _ _ (by decide)).trans v2), ((aup_n _ _ (by decide)).trans v3), ((aup_n _ _ (by decide)).trans v4), ((aup_n _ _ (by decide)).trans v5)⟩, ⟨((aup_n _ _ (by decide)).trans v6), ((aup_n _ _ (by decide)).trans v7), ((aup_n _ _ (by decide)).trans v8), ((aup_n _ _ (by decide)).trans v9)⟩⟩, ⟨hp62, hp63, hp64, hp66⟩⟩
              have hDn := DD_s (k := 2) (par := 0) (a := ka) (g1 := g1) (g2 := aup f2 p (nI ka)) (g3 := f3) hD7 (by decide) hg1 hgn (aup_s _ _ _) (fun i hi => aup_n _ _ hi) ((hD7.2.2.1 p (Nat.le_refl _)).1) (fun _ _ => rfl)
              have hSn := SP_per (n := l7.length) (p := p) (par := 0) (a := ka) (k := 2) (d := d7) (u := u7) (o := fun _ => false) da1 (by omega) hu7 (Nat.zero_le _) (fun z => absurd rfl z) (by omega) (by decide) (fun _ => ⟨rfl, da2.trans hs50⟩)
              have hTn := PT_s hT7 hSn (nP_len _ _ _ _)
              rw [← lit_P2] at hTn
              refine r_lv (lv' := [(4, .int (nI (p + 1))), (3, .int (oI spn)), (0, .ref t), (1, .ref g), (2, .ref e)]) [0, 1, 2, 3, 4] rfl ?_
              exact ih (p + 1) S59 (k9 + 1 + 1 + 1 + 1) (n9 + 1500 + 1500 + 1500 + 1500) _ _ _ _ _ _ _ (by omega) fr60.2.1 (by omega) (by omega) (by omega) hEn hDn hTn (by simp only [List.length_append, List.length_cons, List.length_nil, digs_len]; omega) (fun i hi => by
                  by_cases z : i = p
                  · rw [z, aup_s]
                  · rw [aup_n _ _ z]; exact hu7 i (by omega)) (by rw [if_pos (by omega)]; omega)
          refine r_aload_n rfl rfl ?_
          refine r_getfN (v := .ref ((e + 1))) rfl flL_58 (by omega) hV0 v6 ?_
          refine r_iload rfl rfl ?_
          refine r_iald rfl (by omega) hr1 (by omega) (by decide) ?_
          refine r_top (y := oI par) hg1 ?_
          rcases par with _ | q
          · refine r_top (y := (-1)) oI_0 ?_
            refine r_if_lt (tgt := 168) rfl rfl (fun _ => ?_) (fun hq => absurd (by decide) hq)
            refine r_lv (lv' := [(4, .int (nI p)), (3, .int (oI spn)), (0, .ref t), (1, .ref g), (2, .ref e)]) [0, 1, 2, 3, 4] rfl ?_
            exact J4 Sb _ _ (by omega) (by omega) (by rw [show tU 0 = [] from rfl, List.append_nil]; exact hEb9)
          · refine r_top (y := nI q) (oI_s q) ?_
            refine n_if_lt (tgt := 168) rfl rfl (by omega) (fun hq => hq.elim) (fun _ => ?_)
            refine r_aload_n rfl rfl ?_
            refine r_ldcS (i := 24) rfl rfl ?_
            obtain ⟨VtC, hVtC, -, hltC⟩ := hB0.o
            refine c_virA [.retAddr 24] [] rfl lkL_38 (by omega) hVtC rfl rfl (a_S (S := Sb) hxo hB0 (fun i z => z.elim (fun z => by omega) (fun z => by omega)) (z := [32, 117, 110, 100, 101, 114, 32]) rfl (by decide) (by decide) (by decide) (by simp only [List.length_append, List.length_cons, List.length_nil, digs_len]; omega)) rfl rfl (by omega) (by omega) rfl ?_
            rintro _ S68 ⟨rfl, fr69, hBC⟩
            have z70 := fr69.1
            refine n_bipush 97 rfl (by decide) ?_
            refine r_aload_n rfl rfl ?_
            have hp71 : S68.1 e = oO 10 V0 := ((fr69.2.2 e (by omega) (fun z9 => z9 (Or.inr ⟨by omega, by omega⟩))).trans hV0)
            refine r_getfN (v := .ref ((e + 1))) rfl flL_58 (by omega) hp71 v6 ?_
            refine r_iload rfl rfl ?_
            have hp72 : S68.1 (e + 1) = oI0 0 12 g1 := ((fr69.2.2 (e + 1) (by omega) (fun z9 => z9 (Or.inr ⟨by omega, by omega⟩))).trans hr1)
            refine r_iald rfl (by omega) hp72 (by omega) (by decide) ?_
            refine r_top (y := oI ((q + 1))) hg1 ?_
            refine r_top (y := nI q) (oI_s q) ?_
            have hc98 : 97 + q < 128 := by omega
            refine n_iadd rfl ?_
            refine r_i2c rfl rfl ?_
            refine r_top (y := nI (97 + q)) (i2c_n _ hc98) ?_
            obtain ⟨VtD, hVtD, -, hltD⟩ := hBC.o
            refine c_virA [.int (nI (97 + q))] [] rfl lkL_43 (by omega) hVtD rfl rfl (a_C (S := S68) fr69.2.1 hBC (fun i z => z.elim (fun z => by omega) (fun z => by omega)) hc98 (by simp only [List.length_append, List.length_cons, List.length_nil, digs_len]; omega)) rfl rfl (by omega) (by omega) rfl ?_
            rintro _ S73 ⟨rfl, fr74, hBD⟩
            have z75 := fr74.1
            refine r_pop rfl rfl ?_
            rw [lit_U] at hBD
            have hp76 : S73.1 e = oO 10 V0 := ((fr74.2.2 e (by omega) (fun z9 => z9 (Or.inr ⟨by omega, by omega⟩))).trans hp71)
            have hp77 : S73.1 (e + 1) = oI0 0 12 g1 := ((fr74.2.2 (e + 1) (by omega) (fun z9 => z9 (Or.inr ⟨by omega, by omega⟩))).trans hp72)
            have hp78 : S73.1 (e + 2) = oI0 0 12 f2 := ((fr74.2.2 (e + 2) (by omega) (fun z9 => z9 (Or.inr ⟨by omega, by omega⟩))).trans ((fr69.2.2 (e + 2) (by omega) (fun z9 => z9 (Or.inr ⟨by omega, by omega⟩))).trans hr2))
            have hp79 : S73.1 (e + 3) = oI0 2 12 f3 := ((fr74.2.2 (e + 3) (by omega) (fun z9 => z9 (Or.inr ⟨by omega, by omega⟩))).trans ((fr69.2.2 (e + 3) (by omega) (fun z9 => z9 (Or.inr ⟨by omega, by omega⟩))).trans hr3))
            have hp80 : S73.1 (e + 4) = oI0 2 12 (fun _ => 0) := ((fr74.2.2 (e + 4) (by omega) (fun z9 => z9 (Or.inr ⟨by omega, by omega⟩))).trans ((fr69.2.2 (e + 4) (by omega) (fun z9 => z9 (Or.inr ⟨by omega, by omega⟩))).trans hr4))
            have hp81 : S73.1 g = oI0 0 1 fg0 := ((fr74.2.2 g (by omega) (fun z9 => z9 (Or.inl (by omega)))).trans ((fr69.2.2 g (by omega) (fun z9 => z9 (Or.inl (by omega)))).trans hG0))
            have hEn : EB S0 S73 t g e PP s5 (l7 ++ [112, 101, 114, 115, 111, 110, 32] ++ [97 + p] ++ tU (q + 1)) g1 f2 f3 := ⟨fr74.2.1, hFS.tr (Fr.wk (X := fun i => ¬ (i < t ∧ i ≠ g)) ⟨by omega, fr74.2.1, fun i hi hn => by
              have h9 := Classical.not_not.mp hn
              have hit := h9.1
              have hig := h9.2
              exact ((fr74.2.2 i (by omega) (fun z9 => z9 (Or.inl (by omega)))).trans ((fr69.2.2 i (by omega) (fun z9 => z9 (Or.inl (by omega)))).trans rfl))⟩ (fun i hn => Classical.byContradiction fun z => hn ⟨Nat.lt_of_not_le (fun y => z (Or.inl y)), fun y => z (Or.inr y)⟩)) (fun _ _ z => z), ⟨hor1, hor2, hor3, by omega⟩, ⟨_, hp81⟩, hBD, ⟨_, hp76, ⟨v0, v1, v2, v3, v4, v5⟩, ⟨v6, v7, v8, v9⟩⟩, ⟨hp77, hp78, hp79, hp80⟩⟩
            refine r_lv (lv' := [(4, .int (nI p)), (3, .int (oI spn)), (0, .ref t), (1, .ref g), (2, .ref e)]) [0, 1, 2, 3, 4] rfl ?_
            exact J4 S73 _ _ (by omega) (by omega) hEn
        have J2 : ∀ (Sb : AS) (par : Nat), (par ≤ p) → (spn = p + 1 → par = 0) → (EB S0 Sb t g e PP s5 (l7 ++ [112, 101, 114, 115, 111, 110, 32] ++ [97 + p]) f1 f2 f3) → Wp sc mL_estate 300 320000 (k8 + 1 + 1) (n8 + 1500 + 1500) 104 [(4, .int (nI p)), (3, .int (oI spn)), (0, .ref t), (1, .ref g), (2, .ref e)] [.int (oI par), .int (nI p), .ref ((e + 1))] Sb (AR fun v S' => v = .ref e ∧ ∃ (d : D) (u : Nat → List Nat) (o : Nat → Bool) (l : List Nat) (K : Nat → Prop), EG K S0 S' t g e l d ∧ PT l d u o ∧ l.length ≤ 698) := by
          intro Sb par hpar hparS hEb
          obtain ⟨hxo, hFS, ⟨hor1, hor2, hor3, hor4⟩, ⟨fg0, hG0⟩, hB0, ⟨V0, hV0, ⟨v0, v1, v2, v3, v4, v5⟩, ⟨v6, v7, v8, v9⟩⟩, ⟨hr1, hr2, hr3, hr4⟩⟩ := hEb
          refine t_iast rfl hxo (by omega) hr1 (by omega) (by decide) ?_
          intro S82 w83
          have z84 := w83.1
          have hBw : SLK (KP t e) S82 t (l7 ++ [112, 101, 114, 115, 111, 110, 32] ++ [97 + p]) := hB0.mv (X := fun i => KP t e i) ⟨by omega, w83.2.1, fun i hi hn => by
            have hk1 : ¬ i < t := fun z => hn (Or.inl z)
            have hk2 : ¬ (e ≤ i ∧ i < e + 9) := fun z => hn (Or.inr z)
            exact ((w83.2.2.2 i (by omega)).trans rfl)⟩ (fun _ z => z) (fun _ z => Or.inl z)
          refine r_aload_n rfl rfl ?_
          have hp85 : S82.1 e = oO 10 V0 := ((w83.2.2.2 e (by omega)).trans hV0)
          refine r_getfN (v := .ref ((e + 1))) rfl flL_58 (by omega) hp85 v6 ?_
          refine r_iload rfl rfl ?_
          refine r_iald rfl (by omega) w83.2.2.1 (by omega) (by decide) ?_
          rcases par with _ | q
          · refine r_top (y := (-1)) ((aup_s _ _ _).trans oI_0) ?_
            refine r_if_lt (tgt := 137) rfl rfl (fun _ => ?_) (fun hq => absurd (by decide) hq)
            have hp86 : S82.1 (e + 2) = oI0 0 12 f2 := ((w83.2.2.2 (e + 2) (by omega)).trans hr2)
            have hp87 : S82.1 (e + 3) = oI0 2 12 f3 := ((w83.2.2.2 (e + 3) (by omega)).trans hr3)
            have hp88 : S82.1 (e + 4) = oI0 2 12 (fun _ => 0) := ((w83.2.2.2 (e + 4) (by omega)).trans hr4)
            have hp89 : S82.1 g = oI0 0 1 fg0 := ((w83.2.2.2 g (by omega)).trans hG0)
            have hEn : EB S0 S82 t g e PP s5 (l7 ++ [112, 101, 114, 115, 111, 110, 32] ++ [97 + p]) (aup f1 p (oI 0)) f2 f3 := ⟨w83.2.1, hFS.tr (Fr.wk (X := fun i => ¬ (i < t ∧ i ≠ g)) ⟨by omega, w83.2.1, fun i hi hn => by
              have h9 := Classical.not_not.mp hn
              have hit := h9.1
              have hig := h9.2
              exact ((w83.2.2.2 i (by omega)).trans rfl)⟩ (fun i hn => Classical.byContradiction fun z => hn ⟨Nat.lt_of_not_le (fun y => z (Or.inl y)), fun y => z (Or.inr y)⟩)) (fun _ _ z => z), ⟨hor1, hor2, hor3, by omega⟩, ⟨_, hp89⟩, hBw, ⟨_, hp85, ⟨v0, v1, v2, v3, v4, v5⟩, ⟨v6, v7, v8, v9⟩⟩, ⟨w83.2.2.1, hp86, hp87, hp88⟩⟩
            refine r_lv (lv' := [(4, .int (nI p)), (3, .int (oI spn)), (0, .ref t), (1, .ref g), (2, .ref e)]) [0, 1, 2, 3, 4] rfl ?_
            exact J3 S82 0 _ (Nat.zero_le _) (fun _ => rfl) (fun z => absurd rfl z) (aup_s _ _ _) (fun i hi => aup_n _ _ hi) hEn
          · refine r_top (y := nI q) ((aup_s _ _ _).trans (oI_s q)) ?_
            refine n_if_lt (tgt := 137) rfl rfl (by omega) (fun hq => hq.elim) (fun _ => ?_)
            refine r_aload_n rfl rfl ?_
            refine r_getfN (v := .ref ((e + 1))) rfl flL_58 (by omega) hp85 v6 ?_
            refine r_iload rfl rfl ?_
            refine r_iald rfl (by omega) w83.2.2.1 (by omega) (by decide) ?_
            refine r_top (y := nI q) ((aup_s _ _ _).trans (oI_s q)) ?_
            refine r_aload_n rfl rfl ?_
            refine r_getfN (v := .int (oI s5)) rfl flL_61.f (by omega) hp85 v1 ?_
            refine r_icmp_ne (tgt := 137) rfl rfl (fun h8 => ?_) (fun h8 => ?_)
            · have hp90 : S82.1 (e + 2) = oI0 0 12 f2 := ((w83.2.2.2 (e + 2) (by omega)).trans hr2)
              have hp91 : S82.1 (e + 3) = oI0 2 12 f3 := ((w83.2.2.2 (e + 3) (by omega)).trans hr3)
              have hp92 : S82.1 (e + 4) = oI0 2 12 (fun _ => 0) := ((w83.2.2.2 (e + 4) (by omega)).trans hr4)
              have hp93 : S82.1 g = oI0 0 1 fg0 := ((w83.2.2.2 g (by omega)).trans hG0)
              have hEn : EB S0 S82 t g e PP s5 (l7 ++ [112, 101, 114, 115, 111, 110, 32] ++ [97 + p]) (aup f1 p (oI (q + 1))) f2 f3 := ⟨w83.2.1, hFS.tr (Fr.wk (X := fun i => ¬ (i < t ∧ i ≠ g)) ⟨by omega, w83.2.1, fun i hi hn => by
                have h9 := Classical.not_not.mp hn
                have hit := h9.1
                have hig := h9.2
                exact ((w83.2.2.2 i (by omega)).trans rfl)⟩ (fun i hn => Classical.byContradiction fun z => hn ⟨Nat.lt_of_not_le (fun y => z (Or.inl y)), fun y => z (Or.inr y)⟩)) (fun _ _ z => z), ⟨hor1, hor2, hor3, by omega⟩, ⟨_, hp93⟩, hBw, ⟨_, hp85, ⟨v0, v1, v2, v3, v4, v5⟩, ⟨v6, v7, v8, v9⟩⟩, ⟨w83.2.2.1, hp90, hp91, hp92⟩⟩
              refine r_lv (lv' := [(4, .int (nI p)), (3, .int (oI spn)), (0, .ref t), (1, .ref g), (2, .ref e)]) [0, 1, 2, 3, 4] rfl ?_
              exact J3 S82 (q + 1) _ hpar hparS (fun _ z => h8 ((oI_q (by omega) (by omega)).mpr z.symm)) (aup_s _ _ _) (fun i hi => aup_n _ _ hi) hEn
            · refine r_aload_n rfl rfl ?_
              refine r_getfN (v := .ref ((e + 1))) rfl flL_58 (by omega) hp85 v6 ?_
              refine r_iload rfl rfl ?_
              refine n_m1 rfl ?_
              refine t_iast rfl w83.2.1 (by omega) w83.2.2.1 (by omega) (by decide) ?_
              intro S94 w95
              have z96 := w95.1
              have hBv : SLK (KP t e) S94 t (l7 ++ [112, 101, 114, 115, 111, 110, 32] ++ [97 + p]) := hBw.mv (X := fun i => KP t e i) ⟨by omega, w95.2.1, fun i hi hn => by
                have hk1 : ¬ i < t := fun z => hn (Or.inl z)
                have hk2 : ¬ (e ≤ i ∧ i < e + 9) := fun z => hn (Or.inr z)
                exact ((w95.2.2.2 i (by omega)).trans rfl)⟩ (fun _ z => z) (fun _ z => Or.inl z)
              have hp97 : S94.1 e = oO 10 V0 := ((w95.2.2.2 e (by omega)).trans hp85)
              have hp98 : S94.1 (e + 2) = oI0 0 12 f2 := ((w95.2.2.2 (e + 2) (by omega)).trans ((w83.2.2.2 (e + 2) (by omega)).trans hr2))
              have hp99 : S94.1 (e + 3) = oI0 2 12 f3 := ((w95.2.2.2 (e + 3) (by omega)).trans ((w83.2.2.2 (e + 3) (by omega)).trans hr3))
              have hp100 : S94.1 (e + 4) = oI0 2 12 (fun _ => 0) := ((w95.2.2.2 (e + 4) (by omega)).trans ((w83.2.2.2 (e + 4) (by omega)).trans hr4))
              have hp101 : S94.1 g = oI0 0 1 fg0 := ((w95.2.2.2 g (by omega)).trans ((w83.2.2.2 g (by omega)).trans hG0))
              have hEn : EB S0 S94 t g e PP s5 (l7 ++ [112, 101, 114, 115, 111, 110, 32] ++ [97 + p]) (aup (aup f1 p (oI (q + 1))) p (-1)) f2 f3 := ⟨w95.2.1, hFS.tr (Fr.wk (X := fun i => ¬ (i < t ∧ i ≠ g)) ⟨by omega, w95.2.1, fun i hi hn => by
                have h9 := Classical.not_not.mp hn
                have hit := h9.1
                have hig := h9.2
                exact ((w95.2.2.2 i (by omega)).trans ((w83.2.2.2 i (by omega)).trans rfl))⟩ (fun i hn => Classical.byContradiction fun z => hn ⟨Nat.lt_of_not_le (fun y => z (Or.inl y)), fun y => z (Or.inr y)⟩)) (fun _ _ z => z), ⟨hor1, hor2, hor3, by omega⟩, ⟨_, hp101⟩, hBv, ⟨_, hp97, ⟨v0, v1, v2, v3, v4, v5⟩, ⟨v6, v7, v8, v9⟩⟩, ⟨w95.2.2.1, hp98, hp99, hp100⟩⟩
              refine r_lv (lv' := [(4, .int (nI p)), (3, .int (oI spn)), (0, .ref t), (1, .ref g), (2, .ref e)]) [0, 1, 2, 3, 4] rfl ?_
              exact J3 S94 0 _ (Nat.zero_le _) (fun _ => rfl) (fun z => absurd rfl z) ((aup_s _ _ _).trans oI_0.symm) (fun i hi => (aup_n _ _ hi).trans (aup_n _ _ hi)) hEn
        have hp102 : S4.1 e = oO 10 V0 := ((fr5.2.2 e (by omega) (fun z9 => z9 (Or.inr ⟨by omega, by omega⟩))).trans ((fr2.2.2 e (by omega) (fun z9 => z9 (Or.inr ⟨by omega, by omega⟩))).trans hV0))
        have hp103 : S4.1 (e + 1) = oI0 0 12 f1 := ((fr5.2.2 (e + 1) (by omega) (fun z9 => z9 (Or.inr ⟨by omega, by omega⟩))).trans ((fr2.2.2 (e + 1) (by omega) (fun z9 => z9 (Or.inr ⟨by omega, by omega⟩))).trans hr1))
        have hp104 : S4.1 (e + 2) = oI0 0 12 f2 := ((fr5.2.2 (e + 2) (by omega) (fun z9 => z9 (Or.inr ⟨by omega, by omega⟩))).trans ((fr2.2.2 (e + 2) (by omega) (fun z9 => z9 (Or.inr ⟨by omega, by omega⟩))).trans hr2))
        have hp105 : S4.1 (e + 3) = oI0 2 12 f3 := ((fr5.2.2 (e + 3) (by omega) (fun z9 => z9 (Or.inr ⟨by omega, by omega⟩))).trans ((fr2.2.2 (e + 3) (by omega) (fun z9 => z9 (Or.inr ⟨by omega, by omega⟩))).trans hr3))
        have hp106 : S4.1 (e + 4) = oI0 2 12 (fun _ => 0) := ((fr5.2.2 (e + 4) (by omega) (fun z9 => z9 (Or.inr ⟨by omega, by omega⟩))).trans ((fr2.2.2 (e + 4) (by omega) (fun z9 => z9 (Or.inr ⟨by omega, by omega⟩))).trans hr4))
        have hp107 : S4.1 g = oI0 0 1 fg0 := ((fr5.2.2 g (by omega) (fun z9 => z9 (Or.inl (by omega)))).trans ((fr2.2.2 g (by omega) (fun z9 => z9 (Or.inl (by omega)))).trans hG0))
        have hE8 : EB S0 S4 t g e PP s5 (l7 ++ [112, 101, 114, 115, 111, 110, 32] ++ [97 + p]) f1 f2 f3 := ⟨fr5.2.1, hFS.tr (Fr.wk (X := fun i => ¬ (i < t ∧ i ≠ g)) ⟨by omega, fr5.2.1, fun i hi hn => by
          have h9 := Classical.not_not.mp hn
          have hit := h9.1
          have hig := h9.2
          exact ((fr5.2.2 i (by omega) (fun z9 => z9 (Or.inl (by omega)))).trans ((fr2.2.2 i (by omega) (fun z9 => z9 (Or.inl (by omega)))).trans rfl))⟩ (fun i hn => Classical.byContradiction fun z => hn ⟨Nat.lt_of_not_le (fun y => z (Or.inl y)), fun y => z (Or.inr y)⟩)) (fun _ _ z => z), ⟨hor1, hor2, hor3, by omega⟩, ⟨_, hp107⟩, hBB, ⟨_, hp102, ⟨v0, v1, v2, v3, v4, v5⟩, ⟨v6, v7, v8, v9⟩⟩, ⟨hp103, hp104, hp105, hp106⟩⟩
        refine r_aload_n rfl rfl ?_
        refine r_getfN (v := .ref ((e + 1))) rfl flL_58 (by omega) hp102 v6 ?_
        refine r_iload rfl rfl ?_
        refine r_iload rfl rfl ?_
        refine n_if_eq (tgt := 94) rfl rfl (by omega) (fun h8 => ?_) (fun h8 => ?_)
        · refine n_m1 rfl ?_
          refine r_goto (tgt := 104) rfl rfl ?_
          refine r_top (y := oI 0) oI_0.symm ?_
          refine r_lv (lv' := [(4, .int (nI p)), (3, .int (oI spn)), (0, .ref t), (1, .ref g), (2, .ref e)]) [0, 1, 2, 3, 4] rfl ?_
          exact J2 S4 0 (Nat.zero_le _) (fun _ => rfl) hE8
        · refine r_iload rfl rfl ?_
          refine r_iload_n rfl rfl ?_
          refine r_icmp_eq (tgt := 94) rfl rfl (fun h7 => ?_) (fun h7 => ?_)
          · refine n_m1 rfl ?_
            refine r_goto (tgt := 104) rfl rfl ?_
            refine r_top (y := oI 0) oI_0.symm ?_
            refine r_lv (lv' := [(4, .int (nI p)), (3, .int (oI spn)), (0, .ref t), (1, .ref g), (2, .ref e)]) [0, 1, 2, 3, 4] rfl ?_
            exact J2 S4 0 (Nat.zero_le _) (fun _ => rfl) hE8
          · have hns : spn ≠ p + 1 := fun z => h7 ((oI_q (by omega) (by omega)).mpr z)
            refine r_aload_n rfl rfl ?_
            refine n_iconst 3 rfl ?_
            refine c_staA [.ref g, .int (nI 3)] [.int (nI p), .ref ((e + 1))] rfl lkL_34 (l_draw (S := S4) (m := 3) fr5.2.1 (by omega) hp107 (by decide) (by omega)) rfl rfl (by omega) (by omega) rfl ?_
            rintro _ S108 ⟨kz, fg1, hkz, rfl, fr109, hsz1, hG1⟩
            have z110 := fr109.1
            refine n_if_ne (tgt := 98) rfl rfl (by omega) (fun h6 => ?_) (fun h6 => ?_)
            · refine r_aload_n rfl rfl ?_
              refine r_iload rfl rfl ?_
              refine c_staA [.ref g, .int (nI p)] [.int (nI p), .ref ((e + 1))] rfl lkL_34 (l_draw (S := S108) (m := p) fr109.2.1 (by omega) hG1 (by omega) (by omega)) rfl rfl (by omega) (by omega) rfl ?_
              rintro _ S111 ⟨kq, fg2, hkq, rfl, fr112, hsz2, hG2⟩
              have z113 := fr112.1
              have hBn : SLK (KP t e) S111 t (l7 ++ [112, 101, 114, 115, 111, 110, 32] ++ [97 + p]) := hBB.mv (X := fun i => KP t e i) ⟨by omega, fr112.2.1, fun i hi hn => by
                have hk1 : ¬ i < t := fun z => hn (Or.inl z)
                have hk2 : ¬ (e ≤ i ∧ i < e + 9) := fun z => hn (Or.inr z)
                exact ((fr112.2.2 i (by omega) (by omega)).trans ((fr109.2.2 i (by omega) (by omega)).trans rfl))⟩ (fun _ z => z) (fun _ z => Or.inl z)
              have hp114 : S111.1 e = oO 10 V0 := ((fr112.2.2 e (by omega) (by omega)).trans ((fr109.2.2 e (by omega) (by omega)).trans hp102))
              have hp115 : S111.1 (e + 1) = oI0 0 12 f1 := ((fr112.2.2 (e + 1) (by omega) (by omega)).trans ((fr109.2.2 (e + 1) (by omega) (by omega)).trans hp103))
              have hp116 : S111.1 (e + 2) = oI0 0 12 f2 := ((fr112.2.2 (e + 2) (by omega) (by omega)).trans ((fr109.2.2 (e + 2) (by omega) (by omega)).trans hp104))
              have hp117 : S111.1 (e + 3) = oI0 2 12 f3 := ((fr112.2.2 (e + 3) (by omega) (by omega)).trans ((fr109.2.2 (e + 3) (by omega) (by omega)).trans hp105))
              have hp118 : S111.1 (e + 4) = oI0 2 12 (fun _ => 0) := ((fr112.2.2 (e + 4) (by omega) (by omega)).trans ((fr109.2.2 (e + 4) (by omega) (by omega)).trans hp106))
              have hE9 : EB S0 S111 t g e PP s5 (l7 ++ [112, 101, 114, 115, 111, 110, 32] ++ [97 + p]) f1 f2 f3 := ⟨fr112.2.1, hFS.tr (Fr.wk (X := fun i => ¬ (i < t ∧ i ≠ g)) ⟨by omega, fr112.2.1, fun i hi hn => by
                have h9 := Classical.not_not.mp hn
                have hit := h9.1
                have hig := h9.2
                exact ((fr112.2.2 i (by omega) (by omega)).trans ((fr109.2.2 i (by omega) (by omega)).trans ((fr5.2.2 i (by omega) (fun z9 => z9 (Or.inl (by omega)))).trans ((fr2.2.2 i (by omega) (fun z9 => z9 (Or.inl (by omega)))).trans rfl))))⟩ (fun i hn => Classical.byContradiction fun z => hn ⟨Nat.lt_of_not_le (fun y => z (Or.inl y)), fun y => z (Or.inr y)⟩)) (fun _ _ z => z), ⟨hor1, hor2, hor3, by omega⟩, ⟨_, hG2⟩, hBn, ⟨_, hp114, ⟨v0, v1, v2, v3, v4, v5⟩, ⟨v6, v7, v8, v9⟩⟩, ⟨hp115, hp116, hp117, hp118⟩⟩
              refine r_top (y := oI ((kq + 1))) ((oI_s kq).symm) ?_
              refine r_lv (lv' := [(4, .int (nI p)), (3, .int (oI spn)), (0, .ref t), (1, .ref g), (2, .ref e)]) [0, 1, 2, 3, 4] rfl ?_
              exact J2 S111 (kq + 1) (by omega) (fun z => absurd z hns) hE9
            · have hBn : SLK (KP t e) S108 t (l7 ++ [112, 101, 114, 115, 111, 110, 32] ++ [97 + p]) := hBB.mv (X := fun i => KP t e i) ⟨by omega, fr109.2.1, fun i hi hn => by
                have hk1 : ¬ i < t := fun z => hn (Or.inl z)
                have hk2 : ¬ (e ≤ i ∧ i < e + 9) := fun z => hn (Or.inr z)
                exact ((fr109.2.2 i (by omega) (by omega)).trans rfl)⟩ (fun _ z => z) (fun _ z => Or.inl z)
              have hp119 : S108.1 e = oO 10 V0 := ((fr109.2.2 e (by omega) (by omega)).trans hp102)
              have hp120 : S108.1 (e + 1) = oI0 0 12 f1 := ((fr109.2.2 (e + 1) (by omega) (by omega)).trans hp103)
              have hp121 : S108.1 (e + 2) = oI0 0 12 f2 := ((fr109.2.2 (e + 2) (by omega) (by omega)).trans hp104)
              have hp122 : S108.1 (e + 3) = oI0 2 12 f3 := ((fr109.2.2 (e + 3) (by omega) (by omega)).trans hp105)
              have hp123 : S108.1 (e + 4) = oI0 2 12 (fun _ => 0) := ((fr109.2.2 (e + 4) (by omega) (by omega)).trans hp106)
              have hE9 : EB S0 S108 t g e PP s5 (l7 ++ [112, 101, 114, 115, 111, 110, 32] ++ [97 + p]) f1 f2 f3 := ⟨fr109.2.1, hFS.tr (Fr.wk (X := fun i => ¬ (i < t ∧ i ≠ g)) ⟨by omega, fr109.2.1, fun i hi hn => by
                have h9 := Classical.not_not.mp hn
                have hit := h9.1
                have hig := h9.2
                exact ((fr109.2.2 i (by omega) (by omega)).trans ((fr5.2.2 i (by omega) (fun z9 => z9 (Or.inl (by omega)))).trans ((fr2.2.2 i (by omega) (fun z9 => z9 (Or.inl (by omega)))).trans rfl)))⟩ (fun i hn => Classical.byContradiction fun z => hn ⟨Nat.lt_of_not_le (fun y => z (Or.inl y)), fun y => z (Or.inr y)⟩)) (fun _ _ z => z), ⟨hor1, hor2, hor3, by omega⟩, ⟨_, hG1⟩, hBn, ⟨_, hp119, ⟨v0, v1, v2, v3, v4, v5⟩, ⟨v6, v7, v8, v9⟩⟩, ⟨hp120, hp121, hp122, hp123⟩⟩
              refine n_m1 rfl ?_
              refine r_goto (tgt := 104) rfl rfl ?_
              refine r_top (y := oI 0) oI_0.symm ?_
              refine r_lv (lv' := [(4, .int (nI p)), (3, .int (oI spn)), (0, .ref t), (1, .ref g), (2, .ref e)]) [0, 1, 2, 3, 4] rfl ?_
              exact J2 S108 0 (Nat.zero_le _) (fun _ => rfl) hE9
  exact loopP (PP + 1) 0 S k9 n9 0 dE [] (fun _ => []) (fun _ => 0) (fun _ => 0) (fun _ => 0) (by omega) hEB.1 (Nat.zero_le _) (by omega) (by omega) hEB DD_0 PT_0 (Nat.zero_le _) (fun i hi => absurd hi (Nat.not_lt_zero _)) (by split <;> omega)

