/-! The builder's text as a list. -/
theorem SB.cg {S : AS} {t q n m : Nat} {x y : Nat → Nat} (h : SB S t q n x) (hn : n = m) (hxy : ∀ j, j < n → x j = y j) : SB S t q m y := by
  subst hn
  obtain ⟨V, f, k, h1, h2, h3, h4, h5, h6⟩ := h
  exact ⟨V, f, k, h1, h2, h3, h4, fun j hj => by rw [← hxy j hj]; exact h5 j hj, h6⟩
/-- the builder at t holds this text; its places are none of K -/
def SLK (K : Nat → Prop) (S : AS) (t : Nat) (l : List Nat) : Prop := (∃ q, SB S t q l.length (fun j => l.getD j 0) ∧ ¬ K q) ∧ ¬ K t
theorem SLK.o {K : Nat → Prop} {S : AS} {t : Nat} {l : List Nat} (h : SLK K S t l) : ∃ V, S.1 t = oO 12 V ∧ V 3 = .int (nI l.length) ∧ t < S.2.1 := by
  obtain ⟨⟨q, ⟨V, f, k, h1, ⟨-, -, h2⟩, -, -, -, ⟨h3, h4⟩, -⟩, -⟩, -⟩ := h
  exact ⟨V, h1, h2, by omega⟩
theorem SLK.mv {K K' X : Nat → Prop} {S S' : AS} {t : Nat} {l : List Nat} (h : SLK K S t l) (hF : Fr S S' X) (hX : ∀ i, X i → K i) (hK : ∀ i, K' i → K i ∨ S.2.1 ≤ i) : SLK K' S' t l := by
  obtain ⟨⟨q, h1, h2⟩, h3⟩ := h
  have h4 := h1.o
  exact ⟨⟨q, h1.fr hF.1 (hF.2.2 t (by omega) (fun z => h3 (hX t z))) (hF.2.2 q h4.2 (fun z => h2 (hX q z))), fun z => (hK q z).elim h2 (fun z => by omega)⟩, fun z => (hK t z).elim h3 (fun z => by omega)⟩
theorem get_app (l z : List Nat) (j : Nat) : (l ++ z).getD j 0 = tcat l.length (fun j => l.getD j 0) (fun j => z.getD j 0) j := by
  unfold tcat
  rw [List.getD_eq_getElem?_getD, List.getElem?_append]
  by_cases h : j < l.length
  · rw [if_pos h, if_pos h]; rfl
  · rw [if_neg h, if_neg h]; rfl
theorem SLK.new {K : Nat → Prop} {S S' : AS} {t q n : Nat} {l m : List Nat} {x : Nat → Nat} (hB : SLK K S t l) (hK : ∀ i, K i → i < S.2.1) (hq : ¬ K q) (hR : SBR S t q n x S') (hn : n = m.length) (hx : ∀ j, j < n → x j = m.getD j 0) : Fr S S' (fun i => ¬ K i) ∧ SLK K S' t m := by
  obtain ⟨hF, q', h1, h2⟩ := hR
  refine ⟨⟨hF.1, hF.2.1, fun i hi hn => hF.2.2 i hi (fun z => hn (fun y => z.elim (fun z => hB.2 (by rw [← z]; exact y)) (fun z => hq (by rw [← z]; exact y))))⟩, ⟨q', h1.cg hn hx, fun z => ?_⟩, hB.2⟩
  rcases h2 with h2 | h2
  · rw [h2] at z; exact hq z
  · have := hK q' z
    omega
theorem i2c_n : ∀ c, c < 128 → ((nI c).toUInt32 % 65536).toInt32 = nI c := by decide +kernel
theorem a_C {sc : SC} {S : AS} {K : Nat → Prop} {t c : Nat} {l : List Nat} (hx : S.2.2 = true) (hB : SLK K S t l) (hK : ∀ i, K i → i < S.2.1) (hc : c < 128) (hu : l.length < 700) : Cal sc mJ4_appC 1 1500 [.ref t, .int (nI c)] S (AR fun v S' => v = .ref t ∧ Fr S S' (fun i => ¬ K i) ∧ SLK K S' t (l ++ [c])) := by
  obtain ⟨⟨q, h1, h2⟩, h3⟩ := hB
  refine (j_appC hx h1 hc hu).mono ?_
  rintro o S' ⟨v, rfl, rfl, hR⟩
  refine ⟨_, rfl, rfl, SLK.new ⟨⟨q, h1, h2⟩, h3⟩ hK h2 hR (by rw [List.length_append]; rfl) (fun j hj => ?_)⟩
  rw [get_app]
  unfold tcat
  by_cases z : j < l.length
  · rw [if_pos z, aup_n _ _ (by omega)]
  · have e : j = l.length := by omega
    rw [if_neg z, e, aup_s, Nat.sub_self]
    rfl
theorem a_S {sc : SC} {S : AS} {K : Nat → Prop} {t i : Nat} {l z : List Nat} {x : String × Nat × String × List Int32} (hx : S.2.2 = true) (hB : SLK K S t l) (hK : ∀ i, K i → i < S.2.1) (hs : strJ[i]? = some x) (hz : x.2.2.2 = z.map nI) (hz2 : ∀ j, j < z.length → z.getD j 0 < 128) (hl : z.length ≤ 20) (hu : l.length < 700) : Cal sc mJ4_appS 1 1500 [.ref t, .retAddr i] S (AR fun v S' => v = .ref t ∧ Fr S S' (fun i => ¬ K i) ∧ SLK K S' t (l ++ z)) := by
  obtain ⟨⟨q, h1, h2⟩, h3⟩ := hB
  have e1 : x.2.2.2.length = z.length := by rw [hz, List.length_map]
  have e2 : ∀ j, j < x.2.2.2.length → x.2.2.2.getD j 0 = nI (z.getD j 0) ∧ z.getD j 0 < 128 := fun j hj => by
    rw [e1] at hj
    refine ⟨?_, hz2 j hj⟩
    rw [hz, List.getD_eq_getElem?_getD, List.getElem?_map, get_D hj]
    rfl
  refine (j_appS hx h1 hs e2 (by omega) hu).mono ?_
  rintro o S' ⟨v, rfl, rfl, hR⟩
  exact ⟨_, rfl, rfl, SLK.new ⟨⟨q, h1, h2⟩, h3⟩ hK h2 hR (by rw [List.length_append, e1]) (fun j _ => (get_app l z j).symm)⟩
theorem a_I {sc : SC} {S : AS} {K : Nat → Prop} {t v : Nat} {l : List Nat} (hx : S.2.2 = true) (hB : SLK K S t l) (hK : ∀ i, K i → i < S.2.1) (hv : v < 10000) (hu : l.length < 700) : Cal sc mJ4_appI 1 1500 [.ref t, .int (nI v)] S (AR fun z S' => z = .ref t ∧ Fr S S' (fun i => ¬ K i) ∧ SLK K S' t (l ++ digs v)) := by
  obtain ⟨⟨q, h1, h2⟩, h3⟩ := hB
  refine (j_appI hx h1 hv hu).mono ?_
  rintro o S' ⟨z, rfl, rfl, hR⟩
  refine ⟨_, rfl, rfl, SLK.new ⟨⟨q, h1, h2⟩, h3⟩ hK h2 hR (by rw [List.length_append, digs_len]) (fun j hj => ?_)⟩
  rw [get_app]
  unfold tcat
  by_cases y : j < l.length
  · rw [if_pos y, if_pos y]
  · rw [if_neg y, if_neg y]
    exact (digs_at (by omega)).symm
/-! what a row more alters -/
def Ot (d d' : D) (a b c : Nat) : Prop := ∀ a' j, a' ≠ a → a' ≠ b → ¬ (a' = 0 ∧ j = c) → d' a' j = d a' j
theorem u3_O (d : D) (a b c v x : Nat) : Ot d (up3 d a b c v x) a b c := by
  intro a' j h1 h2 h3
  unfold up3
  rw [up_n _ _ h3, up_n1 _ _ h2, up_n1 _ _ h1]
theorem Ot.tr {d d' d'' : D} {a b c : Nat} (h : Ot d d' a b c) (g : Ot d' d'' a b c) : Ot d d'' a b c := fun a' j h1 h2 h3 => (g a' j h1 h2 h3).trans (h a' j h1 h2 h3)
theorem u3_c (d : D) (a b c v x : Nat) : up3 d a b c v x 0 c = d 0 c + 1 := up_s _ _ _ _
theorem u3_b {d : D} {a b c v x j : Nat} (hb : b ≠ 0) (hab : a ≠ b) : up3 d a b c v x b j = if j = d 0 c then x else d b j := by
  unfold up3
  rw [up_n1 _ _ hb]
  by_cases z : j = d 0 c
  · rw [if_pos z, z, up_s]
  · rw [if_neg z, up_n2 _ _ z, up_n1 _ _ (Ne.symm hab)]
theorem u3_a {d : D} {a b c v x j : Nat} (ha : a ≠ 0) (hab : a ≠ b) : up3 d a b c v x a j = if j = d 0 c then v else d a j := by
  unfold up3
  rw [up_n1 _ _ ha, up_n1 _ _ hab]
  by_cases z : j = d 0 c
  · rw [if_pos z, z, up_s]
  · rw [if_neg z, up_n2 _ _ z]
def stl (bz : Nat) (z : List Nat) (v x : Nat) : List Nat := if bz = 0 then nN z v x else nQ z v x
theorem app_N (l z : List Nat) (v x : Nat) : l ++ z ++ [32] ++ digs v ++ [32] ++ digs x ++ [59] = l ++ nN z v x := by
  unfold nN
  rw [List.append_assoc, List.append_assoc, List.append_assoc, List.append_assoc, List.append_assoc]
  rfl
theorem app_Q (l z : List Nat) (v x : Nat) : l ++ z ++ [32] ++ [97 + v] ++ [32] ++ digs x ++ [59] = l ++ nQ z v x := by
  unfold nQ
  rw [List.append_assoc, List.append_assoc, List.append_assoc, List.append_assoc, List.append_assoc]
  rfl
theorem stl_len {bz v x : Nat} {z : List Nat} (hz : z.length ≤ 6) : (stl bz z v x).length ≤ 17 ∧ 1 ≤ (stl bz z v x).length := by
  have h1 := dgs_b v
  have h2 := dgs_b x
  unfold stl
  by_cases h : bz = 0
  · rw [if_pos h, nN_len, digs_len, digs_len]; omega
  · rw [if_neg h, nQ_len, digs_len]; omega
set_option maxRecDepth 100000 in
theorem l_rows {sc : SC} {S : AS} {K : Nat → Prop} {t g i c m lo rg mx bz a b cc PP : Nat} {z l : List Nat} {fg fc : Nat → Int32} {x : String × Nat × String × List Int32} {d : D} {u : Nat → List Nat} {o : Nat → Bool} (hx : S.2.2 = true) (hB : SLK K S t l) (hK : ∀ i, K i → i < S.2.1) (hKg : K g) (hKc : K c) (hcg : c ≠ g) (hG : S.1 g = oI0 0 1 fg) (hC : S.1 c = oI0 0 1 fc) (hfc : fc 0 = nI bz) (hbz : bz ≤ 1) (hi9 : i ≠ 99) (hs : strJ[i]? = some x) (hz : x.2.2.2 = z.map nI) (hz2 : ∀ j, j < z.length → z.getD j 0 < 128) (hzl : z.length ≤ 6) (hm : m ≤ 4) (hr1 : 0 < rg) (hr2 : lo + rg ≤ 12) (hm1 : 0 < mx) (hm2 : mx < 10000) (hu : l.length ≤ 620) (hab : a ≠ 0 ∧ b ≠ 0 ∧ a ≠ b ∧ cc ≠ 0) (h00 : d 0 0 = PP) (h0c : d 0 cc = 0) (hPT : PT l d u o) (hS : ∀ (n : Nat) (d : D) (v y k : Nat), d 0 0 = PP → d 0 cc = k → k < 8 → lo ≤ v → v < lo + rg → y < mx → SP n (stl bz z v y) d u o (up3 d a b cc v y) u o) : Cal sc mL_rows 30 36100 [.ref t, .ref g, .retAddr i, .ref c, .int (nI m), .int (nI lo), .int (nI rg), .int (nI mx)] S (AR fun v S' => v = .ref S.2.1 ∧ Fr S S' (fun i => ¬ K i ∨ i = g) ∧ (∃ fg', S'.1 g = oI0 0 1 fg') ∧ ∃ (W : Nat → Value) (pl : Nat → Nat) (d' : D) (l' : List Nat) (K' : Nat → Prop), SLK K' S' t l' ∧ ((∀ i, K i → K' i) ∧ (∀ i, K' i → i < S'.2.1) ∧ K' S.2.1 ∧ ∀ j, j < m → K' (pl j)) ∧ (S'.1 S.2.1 = oQ m W ∧ ∀ j, j < m → W j = .ref (pl j) ∧ (S.2.1 < pl j ∧ pl j < S'.2.1) ∧ ∃ f, S'.1 (pl j) = oI0 0 2 f ∧ f 0 = nI (d' a j) ∧ f 1 = nI (d' b j)) ∧ (PT l' d' u o ∧ l'.length ≤ l.length + 17 * m) ∧ d' 0 0 = PP ∧ d' 0 cc = m ∧ Ot d d' a b cc) := by
  refine Cal.of gmL_rows (Nat.le_of_ble_eq_true rfl) ?_
  show Wp sc mL_rows 30 36100 0 0 0 [(0, .ref t), (1, .ref g), (2, .retAddr i), (3, .ref c), (4, .int (nI m)), (5, .int (nI lo)), (6, .int (nI rg)), (7, .int (nI mx))] [] S (AR fun v S' => v = .ref S.2.1 ∧ Fr S S' (fun i => ¬ K i ∨ i = g) ∧ (∃ fg', S'.1 g = oI0 0 1 fg') ∧ ∃ (W : Nat → Value) (pl : Nat → Nat) (d' : D) (l' : List Nat) (K' : Nat → Prop), SLK K' S' t l' ∧ ((∀ i, K i → K' i) ∧ (∀ i, K' i → i < S'.2.1) ∧ K' S.2.1 ∧ ∀ j, j < m → K' (pl j)) ∧ (S'.1 S.2.1 = oQ m W ∧ ∀ j, j < m → W j = .ref (pl j) ∧ (S.2.1 < pl j ∧ pl j < S'.2.1) ∧ ∃ f, S'.1 (pl j) = oI0 0 2 f ∧ f 0 = nI (d' a j) ∧ f 1 = nI (d' b j)) ∧ (PT l' d' u o ∧ l'.length ≤ l.length + 17 * m) ∧ d' 0 0 = PP ∧ d' 0 cc = m ∧ Ot d d' a b cc)
  obtain ⟨ha0, hb0, hab, hc0⟩ := hab
  have hgs := hK g hKg
  have hcs := hK c hKc
  refine r_iload rfl rfl ?_
  refine t_anewQ rfl awL_32 hx (by omega) (by omega) (by omega) ?_
  intro S1 w2
  have z3 := w2.1
  refine r_astore (lv' := [(8, .ref S.2.1), (0, .ref t), (1, .ref g), (2, .retAddr i), (3, .ref c), (4, .int (nI m)), (5, .int (nI lo)), (6, .int (nI rg)), (7, .int (nI mx))]) rfl (Nat.le_of_ble_eq_true rfl) rfl ?_
  refine n_iconst 0 rfl ?_
  refine r_istore (lv' := [(9, .int (nI 0)), (8, .ref S.2.1), (0, .ref t), (1, .ref g), (2, .retAddr i), (3, .ref c), (4, .int (nI m)), (5, .int (nI lo)), (6, .int (nI rg)), (7, .int (nI mx))]) rfl (Nat.le_of_ble_eq_true rfl) rfl ?_
  have hp4 : S1.1 g = oI0 0 1 fg := ((w2.2.2.2 g (by omega)).trans hG)
  refine r_lv (lv' := [(9, .int (nI 0)), (8, .ref S.2.1), (0, .ref t), (1, .ref g), (2, .retAddr i), (3, .ref c), (4, .int (nI m)), (5, .int (nI lo)), (6, .int (nI rg)), (7, .int (nI mx))]) [0, 1, 2, 3, 4, 5, 6, 7, 8, 9] rfl ?_
  have loopR : ∀ (m9 : Nat) (k : Nat) (Sa : AS) (k9 n9 : Nat) (W : Nat → Value) (pl : Nat → Nat) (d7 : D) (l7 : List Nat) (fg7 : Nat → Int32) (K7 : Nat → Prop), m - k < m9 → (Sa.2.2 = true) → (k ≤ m) → (k9 + 7 * (m - k) ≤ 30) → (n9 + 9002 * (m - k) ≤ 36100) → (Fr S Sa (fun i => ¬ K i ∨ i = g)) → (S.2.1 < Sa.2.1) → (Sa.1 g = oI0 0 1 fg7) → (SLK K7 Sa t l7) → ((∀ i, K i → K7 i) ∧ (∀ i, K7 i → i < Sa.2.1) ∧ K7 S.2.1 ∧ ∀ j, j < k → K7 (pl j)) → (Sa.1 S.2.1 = oQ m W ∧ ∀ j, j < k → W j = .ref (pl j) ∧ (S.2.1 < pl j ∧ pl j < Sa.2.1) ∧ ∃ f, Sa.1 (pl j) = oI0 0 2 f ∧ f 0 = nI (d7 a j) ∧ f 1 = nI (d7 b j)) → (PT l7 d7 u o ∧ l7.length ≤ l.length + 17 * k) → (d7 0 0 = PP ∧ d7 0 cc = k ∧ Ot d d7 a b cc) → Wp sc mL_rows 30 36100 k9 n9 10 [(9, .int (nI k)), (8, .ref S.2.1), (0, .ref t), (1, .ref g), (2, .retAddr i), (3, .ref c), (4, .int (nI m)), (5, .int (nI lo)), (6, .int (nI rg)), (7, .int (nI mx))] [] Sa (AR fun v S' => v = .ref S.2.1 ∧ Fr S S' (fun i => ¬ K i ∨ i = g) ∧ (∃ fg', S'.1 g = oI0 0 1 fg') ∧ ∃ (W : Nat → Value) (pl : Nat → Nat) (d' : D) (l' : List Nat) (K' : Nat → Prop), SLK K' S' t l' ∧ ((∀ i, K i → K' i) ∧ (∀ i, K' i → i < S'.2.1) ∧ K' S.2.1 ∧ ∀ j, j < m → K' (pl j)) ∧ (S'.1 S.2.1 = oQ m W ∧ ∀ j, j < m → W j = .ref (pl j) ∧ (S.2.1 < pl j ∧ pl j < S'.2.1) ∧ ∃ f, S'.1 (pl j) = oI0 0 2 f ∧ f 0 = nI (d' a j) ∧ f 1 = nI (d' b j)) ∧ (PT l' d' u o ∧ l'.length ≤ l.length + 17 * m) ∧ d' 0 0 = PP ∧ d' 0 cc = m ∧ Ot d d' a b cc) := by
    intro m9
    induction m9 with
    | zero => intro k Sa k9 n9 W pl d7 l7 fg7 K7 hme; exact absurd hme (Nat.not_lt_zero _)
    | succ m9 ih =>
      intro k Sa k9 n9 W pl d7 l7 fg7 K7 hme hxSa hk hb1 hb2 hF7 hz7 hg7 hB7 hKK hW7 hP7 hD7
      obtain ⟨hK1, hK2, hK3, hK4⟩ := hKK
      obtain ⟨hQ7, hR7⟩ := hW7
      obtain ⟨hT7, hl7⟩ := hP7
      obtain ⟨hd0, hdc, hdO⟩ := hD7
      refine r_iload rfl rfl ?_
      refine r_iload rfl rfl ?_
      refine n_icmp_ge (tgt := 122) rfl rfl (by omega) (by omega) (fun h9 => ?_) (fun h9 => ?_)
      · have e9 : k = m := by omega
        rw [e9] at hR7 hK4 hl7 hdc
        refine r_aload rfl rfl ?_
        exact r_aret rfl rfl (Or.inr ⟨_, rfl⟩) (by omega) (by omega) (⟨_, rfl, rfl, hF7, ⟨fg7, hg7⟩, W, pl, d7, l7, K7, hB7, ⟨hK1, hK2, hK3, hK4⟩, ⟨hQ7, hR7⟩, ⟨hT7, hl7⟩, hd0, hdc, hdO⟩)
      · have h9 : k < m := by omega
        refine r_aload rfl rfl ?_
        refine r_iload rfl rfl ?_
        refine n_iconst 2 rfl ?_
        refine t_newa0 rfl hxSa (by decide) (by omega) (by omega) ?_
        intro S5 w6
        have z7 := w6.1
        refine r_dup rfl rfl ?_
        refine n_iconst 0 rfl ?_
        refine r_iload rfl rfl ?_
        refine r_aload_n rfl rfl ?_
        refine r_iload rfl rfl ?_
        have hp8 : S5.1 g = oI0 0 1 fg7 := ((w6.2.2.2 g (by omega)).trans hg7)
        refine c_staA [.ref g, .int (nI rg)] [.int (nI lo), .int (nI 0), .ref Sa.2.1, .ref Sa.2.1, .int (nI k), .ref S.2.1] rfl lkL_34 (l_draw (S := S5) (m := rg) w6.2.1 (by omega) hp8 hr1 (by omega)) rfl rfl (by omega) (by omega) rfl ?_
        rintro _ S9 ⟨kv, fg1, hkv, rfl, fr10, hsz1, hG1⟩
        have z11 := fr10.1
        refine n_iadd rfl ?_
        have hp12 : S9.1 Sa.2.1 = oI0 0 2 (fun _ => 0) := ((fr10.2.2 Sa.2.1 (by omega) (by omega)).trans w6.2.2.1)
        refine t_iast rfl fr10.2.1 (by omega) hp12 (by decide) (by decide) ?_
        intro S13 w14
        have z15 := w14.1
        refine r_dup rfl rfl ?_
        refine n_iconst 1 rfl ?_
        refine r_aload_n rfl rfl ?_
        refine r_iload rfl rfl ?_
        have hp16 : S13.1 g = oI0 0 1 fg1 := ((w14.2.2.2 g (by omega)).trans hG1)
        refine c_staA [.ref g, .int (nI mx)] [.int (nI 1), .ref Sa.2.1, .ref Sa.2.1, .int (nI k), .ref S.2.1] rfl lkL_34 (l_draw (S := S13) (m := mx) w14.2.1 (by omega) hp16 hm1 (by omega)) rfl rfl (by omega) (by omega) rfl ?_
        rintro _ S17 ⟨kw, fg2, hkw, rfl, fr18, hsz2, hG2⟩
        have z19 := fr18.1
        have hp20 : S17.1 Sa.2.1 = oI0 0 2 (aup (fun _ => 0) 0 (nI (lo + kv))) := ((fr18.2.2 Sa.2.1 (by omega) (by omega)).trans w14.2.2.1)
        refine t_iast rfl fr18.2.1 (by omega) hp20 (by decide) (by decide) ?_
        intro S21 w22
        have z23 := w22.1
        have hp24 : S21.1 S.2.1 = oQ m W := ((w22.2.2.2 S.2.1 (by omega)).trans ((fr18.2.2 S.2.1 (by omega) (by omega)).trans ((w14.2.2.2 S.2.1 (by omega)).trans ((fr10.2.2 S.2.1 (by omega) (by omega)).trans ((w6.2.2.2 S.2.1 (by omega)).trans hQ7)))))
        refine t_aast rfl w22.2.1 (by omega) hp24 (by omega) w22.2.2.1 (by omega) (by omega) ?_
        intro S25 w26
        have z27 := w26.1
        refine r_aload_n rfl rfl ?_
        refine r_aload_nK rfl rfl hi9 ?_
        have hFx : Fr Sa S25 (fun i => i = g ∨ i = S.2.1) := ⟨by omega, w26.2.1, fun i hi hn => by
          have h1 : i ≠ g := fun z => hn (Or.inl z)
          have h2 : i ≠ S.2.1 := fun z => hn (Or.inr z)
          exact ((w26.2.2.2 i (by omega)).trans ((w22.2.2.2 i (by omega)).trans ((fr18.2.2 i (by omega) (by omega)).trans ((w14.2.2.2 i (by omega)).trans ((fr10.2.2 i (by omega) (by omega)).trans ((w6.2.2.2 i (by omega)).trans rfl))))))⟩
        have hBx : SLK (fun i => K7 i ∨ i = Sa.2.1) S25 t l7 := hB7.mv hFx (fun i z => z.elim (fun z => by rw [z]; exact hK1 g hKg) (fun z => by rw [z]; exact hK3)) (fun i z => z.elim Or.inl (fun z => Or.inr (by omega)))
        have hsp := hS l7.length d7 (lo + kv) kw k hd0 hdc (by omega) (by omega) (by omega) hkw
        have hlen := stl_len (bz := bz) (v := lo + kv) (x := kw) hzl
        have hT9 := PT_s hT7 hsp hlen.2
        have hdv := dgs_b (lo + kv)
        have hdw := dgs_b kw
        obtain ⟨VtA, hVtA, -, hltA⟩ := hBx.o
        refine c_virA [.retAddr i] [] rfl lkL_38 (by omega) hVtA rfl rfl (a_S (S := S25) w26.2.1 hBx (fun i z => z.elim (fun z => by have := hK2 i z; omega) (fun z => by omega)) hs hz hz2 (by omega) (by omega)) rfl rfl (by omega) (by omega) rfl ?_
        rintro _ S28 ⟨rfl, fr29, hBA⟩
        have z30 := fr29.1
        refine n_bipush 32 rfl (by decide) ?_
        obtain ⟨VtB, hVtB, -, hltB⟩ := hBA.o
        refine c_virA [.int (nI 32)] [] rfl lkL_43 (by omega) hVtB rfl rfl (a_C (S := S28) fr29.2.1 hBA (fun i z => z.elim (fun z => by have := hK2 i z; omega) (fun z => by omega)) (by decide) (by simp only [List.length_append, List.length_cons, List.length_nil, digs_len]; omega)) rfl rfl (by omega) (by omega) rfl ?_
        rintro _ S31 ⟨rfl, fr32, hBB⟩
        have z33 := fr32.1
        have e60 := hfc
        refine r_pop rfl rfl ?_
        refine r_aload_n rfl rfl ?_
        refine n_iconst 0 rfl ?_
        have hp34 : S31.1 c = oI0 0 1 fc := ((fr32.2.2 c (by omega) (fun z9 => z9 (Or.inl (hK1 c hKc)))).trans ((fr29.2.2 c (by omega) (fun z9 => z9 (Or.inl (hK1 c hKc)))).trans ((w26.2.2.2 c (by omega)).trans ((w22.2.2.2 c (by omega)).trans ((fr18.2.2 c (by omega) (by omega)).trans ((w14.2.2.2 c (by omega)).trans ((fr10.2.2 c (by omega) (by omega)).trans ((w6.2.2.2 c (by omega)).trans ((hF7.2.2 c (by omega) (fun z9 => z9.elim (fun z9 => z9 hKc) hcg)).trans hC)))))))))
        refine r_iald rfl (by omega) hp34 (by decide) (by decide) ?_
        refine r_top (y := nI bz) hfc ?_
        have hp35 : S31.1 S.2.1 = oQ m (aup W k (.ref Sa.2.1)) := ((fr32.2.2 S.2.1 (by omega) (fun z9 => z9 (Or.inl hK3))).trans ((fr29.2.2 S.2.1 (by omega) (fun z9 => z9 (Or.inl hK3))).trans w26.2.2.1))
        have hp36 : S31.1 Sa.2.1 = oI0 0 2 (aup (aup (fun _ => 0) 0 (nI (lo + kv))) 1 (nI kw)) := ((fr32.2.2 Sa.2.1 (by omega) (fun z9 => z9 (Or.inr rfl))).trans ((fr29.2.2 Sa.2.1 (by omega) (fun z9 => z9 (Or.inr rfl))).trans ((w26.2.2.2 Sa.2.1 (by omega)).trans w22.2.2.1)))
        refine n_if_ne (tgt := 78) rfl rfl (by omega) (fun h8 => ?_) (fun h8 => ?_)
        · refine r_aload_n rfl rfl ?_
          refine n_bipush 97 rfl (by decide) ?_
          refine r_aload rfl rfl ?_
          refine r_iload rfl rfl ?_
          refine r_aald (x := Sa.2.1) rfl (by omega) hp35 (by omega) (by omega) (aup_s _ _ _) ?_
          refine n_iconst 0 rfl ?_
          refine r_iald rfl (by omega) hp36 (by decide) (by decide) ?_
          refine r_top (y := nI (lo + kv)) ((aup_n _ _ (by decide)).trans (aup_s _ _ _)) ?_
          refine n_iadd rfl ?_
          have hc97 : 97 + (lo + kv) < 128 := by omega
          refine r_i2c rfl rfl ?_
          refine r_top (y := nI (97 + (lo + kv))) (i2c_n _ hc97) ?_
          obtain ⟨VtC, hVtC, -, hltC⟩ := hBB.o
          refine c_virA [.int (nI (97 + (lo + kv)))] [] rfl lkL_43 (by omega) hVtC rfl rfl (a_C (S := S31) fr32.2.1 hBB (fun i z => z.elim (fun z => by have := hK2 i z; omega) (fun z => by omega)) hc97 (by simp only [List.length_append, List.length_cons, List.length_nil, digs_len]; omega)) rfl rfl (by omega) (by omega) rfl ?_
          rintro _ S37 ⟨rfl, fr38, hBC⟩
          have z39 := fr38.1
          refine r_pop rfl rfl ?_
          refine r_aload_n rfl rfl ?_
          refine n_bipush 32 rfl (by decide) ?_
          obtain ⟨VtD, hVtD, -, hltD⟩ := hBC.o
          refine c_virA [.int (nI 32)] [] rfl lkL_43 (by omega) hVtD rfl rfl (a_C (S := S37) fr38.2.1 hBC (fun i z => z.elim (fun z => by have := hK2 i z; omega) (fun z => by omega)) (by decide) (by simp only [List.length_append, List.length_cons, List.length_nil, digs_len]; omega)) rfl rfl (by omega) (by omega) rfl ?_
          rintro _ S40 ⟨rfl, fr41, hBD⟩
          have z42 := fr41.1
          refine r_aload rfl rfl ?_
          refine r_iload rfl rfl ?_
          have hp43 : S40.1 S.2.1 = oQ m (aup W k (.ref Sa.2.1)) := ((fr41.2.2 S.2.1 (by omega) (fun z9 => z9 (Or.inl hK3))).trans ((fr38.2.2 S.2.1 (by omega) (fun z9 => z9 (Or.inl hK3))).trans hp35))
          refine r_aald (x := Sa.2.1) rfl (by omega) hp43 (by omega) (by omega) (aup_s _ _ _) ?_
          refine n_iconst 1 rfl ?_
          have hp44 : S40.1 Sa.2.1 = oI0 0 2 (aup (aup (fun _ => 0) 0 (nI (lo + kv))) 1 (nI kw)) := ((fr41.2.2 Sa.2.1 (by omega) (fun z9 => z9 (Or.inr rfl))).trans ((fr38.2.2 Sa.2.1 (by omega) (fun z9 => z9 (Or.inr rfl))).trans hp36))
          refine r_iald rfl (by omega) hp44 (by decide) (by decide) ?_
          refine r_top (y := nI kw) (aup_s _ _ _) ?_
          obtain ⟨VtE, hVtE, -, hltE⟩ := hBD.o
          refine c_virA [.int (nI kw)] [] rfl lkL_46 (by omega) hVtE rfl rfl (a_I (S := S40) fr41.2.1 hBD (fun i z => z.elim (fun z => by have := hK2 i z; omega) (fun z => by omega)) (by omega) (by simp only [List.length_append, List.length_cons, List.length_nil, digs_len]; omega)) rfl rfl (by omega) (by omega) rfl ?_
          rintro _ S45 ⟨rfl, fr46, hBE⟩
          have z47 := fr46.1
          refine n_bipush 59 rfl (by decide) ?_
          obtain ⟨VtF, hVtF, -, hltF⟩ := hBE.o
          refine c_virA [.int (nI 59)] [] rfl lkL_43 (by omega) hVtF rfl rfl (a_C (S := S45) fr46.2.1 hBE (fun i z => z.elim (fun z => by have := hK2 i z; omega) (fun z => by omega)) (by decide) (by simp only [List.length_append, List.length_cons, List.length_nil, digs_len]; omega)) rfl rfl (by omega) (by omega) rfl ?_
          rintro _ S48 ⟨rfl, fr49, hBF⟩
          have z50 := fr49.1
          refine r_pop rfl rfl ?_
          refine n_iinc (lv' := [(9, .int (nI (k + 1))), (8, .ref S.2.1), (0, .ref t), (1, .ref g), (2, .retAddr i), (3, .ref c), (4, .int (nI m)), (5, .int (nI lo)), (6, .int (nI rg)), (7, .int (nI mx))]) 1 rfl rfl (Nat.le_of_ble_eq_true rfl) rfl ?_
          refine r_goto (tgt := 10) rfl rfl ?_
          have hst : stl bz z (lo + kv) kw = nQ z (lo + kv) kw := if_neg h8
          rw [app_Q] at hBF
          rw [hst] at hT9 hlen
          have hF9 : Fr S S48 (fun i => ¬ K i ∨ i = g) := ⟨by omega, fr49.2.1, fun i hi hn => by
            have hKi : K i := Classical.byContradiction fun z9 => hn (Or.inl z9)
            have hig : i ≠ g := fun z9 => hn (Or.inr z9)
            exact ((fr49.2.2 i (by omega) (fun z9 => z9 (Or.inl (hK1 i hKi)))).trans ((fr46.2.2 i (by omega) (fun z9 => z9 (Or.inl (hK1 i hKi)))).trans ((fr41.2.2 i (by omega) (fun z9 => z9 (Or.inl (hK1 i hKi)))).trans ((fr38.2.2 i (by omega) (fun z9 => z9 (Or.inl (hK1 i hKi)))).trans ((fr32.2.2 i (by omega) (fun z9 => z9 (Or.inl (hK1 i hKi)))).trans ((fr29.2.2 i (by omega) (fun z9 => z9 (Or.inl (hK1 i hKi)))).trans ((w26.2.2.2 i (by omega)).trans ((w22.2.2.2 i (by omega)).trans ((fr18.2.2 i (by omega) (by omega)).trans ((w14.2.2.2 i (by omega)).trans ((fr10.2.2 i (by omega) (by omega)).trans ((w6.2.2.2 i (by omega)).trans (hF7.2.2 i hi hn)))))))))))))⟩
          have hp51 : S48.1 Sa.2.1 = oI0 0 2 (aup (aup (fun _ => 0) 0 (nI (lo + kv))) 1 (nI kw)) := ((fr49.2.2 Sa.2.1 (by omega) (fun z9 => z9 (Or.inr rfl))).trans ((fr46.2.2 Sa.2.1 (by omega) (fun z9 => z9 (Or.inr rfl))).trans hp44))
          have hR9 : ∀ j, j < k + 1 → (aup W k (.ref Sa.2.1)) j = .ref (aup pl k Sa.2.1 j) ∧ (S.2.1 < aup pl k Sa.2.1 j ∧ aup pl k Sa.2.1 j < S48.2.1) ∧ ∃ f, S48.1 (aup pl k Sa.2.1 j) = oI0 0 2 f ∧ f 0 = nI (up3 d7 a b cc (lo + kv) kw a j) ∧ f 1 = nI (up3 d7 a b cc (lo + kv) kw b j) := fun j hj9 => by
            rw [u3_a ha0 hab, u3_b hb0 hab, hdc]
            by_cases ze : j = k
            · rw [ze, aup_s, aup_s, if_pos rfl, if_pos rfl]
              exact ⟨rfl, ⟨by omega, by omega⟩, _, hp51, (aup_n _ _ (by decide)).trans (aup_s _ _ _), aup_s _ _ _⟩
            · have hj : j < k := by omega
              rw [aup_n _ _ ze, aup_n _ _ ze, if_neg ze, if_neg ze]
              obtain ⟨r1, ⟨r2, r3⟩, f, r4, r5, r6⟩ := hR7 j hj
              have hjg : pl j ≠ g := by omega
              exact ⟨r1, ⟨r2, by omega⟩, f, ((fr49.2.2 (pl j) (by omega) (fun z9 => z9 (Or.inl (hK4 j hj)))).trans ((fr46.2.2 (pl j) (by omega) (fun z9 => z9 (Or.inl (hK4 j hj)))).trans ((fr41.2.2 (pl j) (by omega) (fun z9 => z9 (Or.inl (hK4 j hj)))).trans ((fr38.2.2 (pl j) (by omega) (fun z9 => z9 (Or.inl (hK4 j hj)))).trans ((fr32.2.2 (pl j) (by omega) (fun z9 => z9 (Or.inl (hK4 j hj)))).trans ((fr29.2.2 (pl j) (by omega) (fun z9 => z9 (Or.inl (hK4 j hj)))).trans ((w26.2.2.2 (pl j) (by omega)).trans ((w22.2.2.2 (pl j) (by omega)).trans ((fr18.2.2 (pl j) (by omega) (by omega)).trans ((w14.2.2.2 (pl j) (by omega)).trans ((fr10.2.2 (pl j) (by omega) (by omega)).trans ((w6.2.2.2 (pl j) (by omega)).trans r4)))))))))))), r5, r6⟩
          have hp52 : S48.1 g = oI0 0 1 fg2 := ((fr49.2.2 g (by omega) (fun z9 => z9 (Or.inl (hK1 g hKg)))).trans ((fr46.2.2 g (by omega) (fun z9 => z9 (Or.inl (hK1 g hKg)))).trans ((fr41.2.2 g (by omega) (fun z9 => z9 (Or.inl (hK1 g hKg)))).trans ((fr38.2.2 g (by omega) (fun z9 => z9 (Or.inl (hK1 g hKg)))).trans ((fr32.2.2 g (by omega) (fun z9 => z9 (Or.inl (hK1 g hKg)))).trans ((fr29.2.2 g (by omega) (fun z9 => z9 (Or.inl (hK1 g hKg)))).trans ((w26.2.2.2 g (by omega)).trans ((w22.2.2.2 g (by omega)).trans hG2))))))))
          have hp53 : S48.1 S.2.1 = oQ m (aup W k (.ref Sa.2.1)) := ((fr49.2.2 S.2.1 (by omega) (fun z9 => z9 (Or.inl hK3))).trans ((fr46.2.2 S.2.1 (by omega) (fun z9 => z9 (Or.inl hK3))).trans hp43))
          refine r_lv (lv' := [(9, .int (nI (k + 1))), (8, .ref S.2.1), (0, .ref t), (1, .ref g), (2, .retAddr i), (3, .ref c), (4, .int (nI m)), (5, .int (nI lo)), (6, .int (nI rg)), (7, .int (nI mx))]) [0, 1, 2, 3, 4, 5, 6, 7, 8, 9] rfl ?_
          exact ih (k + 1) S48 (k9 + 1 + 1 + 1 + 1 + 1 + 1 + 1) (n9 + 2 + 1500 + 1500 + 1500 + 1500 + 1500 + 1500) _ (aup pl k Sa.2.1) (up3 d7 a b cc (lo + kv) kw) _ _ (fun i => K7 i ∨ i = Sa.2.1) (by omega) fr49.2.1 (by omega) (by omega) (by omega) hF9 (by omega) hp52 hBF ⟨fun i z9 => Or.inl (hK1 i z9), (fun i z => z.elim (fun z => by have := hK2 i z; omega) (fun z => by omega)), Or.inl hK3, fun j hj9 => by
              by_cases ze : j = k
              · rw [ze, aup_s]; exact Or.inr rfl
              · rw [aup_n _ _ ze]; exact Or.inl (hK4 j (by omega))⟩ ⟨hp53, hR9⟩ ⟨hT9, by rw [List.length_append]; omega⟩ ⟨(up_n2 _ _ (Ne.symm hc0)).trans ((up_n1 _ _ (Ne.symm hb0)).trans ((up_n1 _ _ (Ne.symm ha0)).trans hd0)), by rw [u3_c, hdc], hdO.tr (u3_O _ _ _ _ _ _)⟩
        · refine r_aload_n rfl rfl ?_
          refine r_aload rfl rfl ?_
          refine r_iload rfl rfl ?_
          refine r_aald (x := Sa.2.1) rfl (by omega) hp35 (by omega) (by omega) (aup_s _ _ _) ?_
          refine n_iconst 0 rfl ?_
          refine r_iald rfl (by omega) hp36 (by decide) (by decide) ?_
          refine r_top (y := nI (lo + kv)) ((aup_n _ _ (by decide)).trans (aup_s _ _ _)) ?_
          obtain ⟨VtC, hVtC, -, hltC⟩ := hBB.o
          refine c_virA [.int (nI (lo + kv))] [] rfl lkL_46 (by omega) hVtC rfl rfl (a_I (S := S31) fr32.2.1 hBB (fun i z => z.elim (fun z => by have := hK2 i z; omega) (fun z => by omega)) (by omega) (by simp only [List.length_append, List.length_cons, List.length_nil, digs_len]; omega)) rfl rfl (by omega) (by omega) rfl ?_
          rintro _ S54 ⟨rfl, fr55, hBC⟩
          have z56 := fr55.1
          refine r_pop rfl rfl ?_
          refine r_goto (tgt := 94) rfl rfl ?_
          refine r_aload_n rfl rfl ?_
          refine n_bipush 32 rfl (by decide) ?_
          obtain ⟨VtD, hVtD, -, hltD⟩ := hBC.o
          refine c_virA [.int (nI 32)] [] rfl lkL_43 (by omega) hVtD rfl rfl (a_C (S := S54) fr55.2.1 hBC (fun i z => z.elim (fun z => by have := hK2 i z; omega) (fun z => by omega)) (by decide) (by simp only [List.length_append, List.length_cons, List.length_nil, digs_len]; omega)) rfl rfl (by omega) (by omega) rfl ?_
          rintro _ S57 ⟨rfl, fr58, hBD⟩
          have z59 := fr58.1
          refine r_aload rfl rfl ?_
          refine r_iload rfl rfl ?_
          have hp60 : S57.1 S.2.1 = oQ m (aup W k (.ref Sa.2.1)) := ((fr58.2.2 S.2.1 (by omega) (fun z9 => z9 (Or.inl hK3))).trans ((fr55.2.2 S.2.1 (by omega) (fun z9 => z9 (Or.inl hK3))).trans hp35))
          refine r_aald (x := Sa.2.1) rfl (by omega) hp60 (by omega) (by omega) (aup_s _ _ _) ?_
          refine n_iconst 1 rfl ?_
          have hp61 : S57.1 Sa.2.1 = oI0 0 2 (aup (aup (fun _ => 0) 0 (nI (lo + kv))) 1 (nI kw)) := ((fr58.2.2 Sa.2.1 (by omega) (fun z9 => z9 (Or.inr rfl))).trans ((fr55.2.2 Sa.2.1 (by omega) (fun z9 => z9 (Or.inr rfl))).trans hp36))
          refine r_iald rfl (by omega) hp61 (by decide) (by decide) ?_
          refine r_top (y := nI kw) (aup_s _ _ _) ?_
          obtain ⟨VtE, hVtE, -, hltE⟩ := hBD.o
          refine c_virA [.int (nI kw)] [] rfl lkL_46 (by omega) hVtE rfl rfl (a_I (S := S57) fr58.2.1 hBD (fun i z => z.elim (fun z => by have := hK2 i z; omega) (fun z => by omega)) (by omega) (by simp only [List.length_append, List.length_cons, List.length_nil, digs_len]; omega)) rfl rfl (by omega) (by omega) rfl ?_
          rintro _ S62 ⟨rfl, fr63, hBE⟩
          have z64 := fr63.1
          refine n_bipush 59 rfl (by decide) ?_
          obtain ⟨VtF, hVtF, -, hltF⟩ := hBE.o
          refine c_virA [.int (nI 59)] [] rfl lkL_43 (by omega) hVtF rfl rfl (a_C (S := S62) fr63.2.1 hBE (fun i z => z.elim (fun z => by have := hK2 i z; omega) (fun z => by omega)) (by decide) (by simp only [List.length_append, List.length_cons, List.length_nil, digs_len]; omega)) rfl rfl (by omega) (by omega) rfl ?_
          rintro _ S65 ⟨rfl, fr66, hBF⟩
          have z67 := fr66.1
          refine r_pop rfl rfl ?_
          refine n_iinc (lv' := [(9, .int (nI (k + 1))), (8, .ref S.2.1), (0, .ref t), (1, .ref g), (2, .retAddr i), (3, .ref c), (4, .int (nI m)), (5, .int (nI lo)), (6, .int (nI rg)), (7, .int (nI mx))]) 1 rfl rfl (Nat.le_of_ble_eq_true rfl) rfl ?_
          refine r_goto (tgt := 10) rfl rfl ?_
          have hst : stl bz z (lo + kv) kw = nN z (lo + kv) kw := if_pos h8
          rw [app_N] at hBF
          rw [hst] at hT9 hlen
          have hF9 : Fr S S65 (fun i => ¬ K i ∨ i = g) := ⟨by omega, fr66.2.1, fun i hi hn => by
            have hKi : K i := Classical.byContradiction fun z9 => hn (Or.inl z9)
            have hig : i ≠ g := fun z9 => hn (Or.inr z9)
            exact ((fr66.2.2 i (by omega) (fun z9 => z9 (Or.inl (hK1 i hKi)))).trans ((fr63.2.2 i (by omega) (fun z9 => z9 (Or.inl (hK1 i hKi)))).trans ((fr58.2.2 i (by omega) (fun z9 => z9 (Or.inl (hK1 i hKi)))).trans ((fr55.2.2 i (by omega) (fun z9 => z9 (Or.inl (hK1 i hKi)))).trans ((fr32.2.2 i (by omega) (fun z9 => z9 (Or.inl (hK1 i hKi)))).trans ((fr29.2.2 i (by omega) (fun z9 => z9 (Or.inl (hK1 i hKi)))).trans ((w26.2.2.2 i (by omega)).trans ((w22.2.2.2 i (by omega)).trans ((fr18.2.2 i (by omega) (by omega)).trans ((w14.2.2.2 i (by omega)).trans ((fr10.2.2 i (by omega) (by omega)).trans ((w6.2.2.2 i (by omega)).trans (hF7.2.2 i hi hn)))))))))))))⟩
          have hp68 : S65.1 Sa.2.1 = oI0 0 2 (aup (aup (fun _ => 0) 0 (nI (lo + kv))) 1 (nI kw)) := ((fr66.2.2 Sa.2.1 (by omega) (fun z9 => z9 (Or.inr rfl))).trans ((fr63.2.2 Sa.2.1 (by omega) (fun z9 => z9 (Or.inr rfl))).trans hp61))
          have hR9 : ∀ j, j < k + 1 → (aup W k (.ref Sa.2.1)) j = .ref (aup pl k Sa.2.1 j) ∧ (S.2.1 < aup pl k Sa.2.1 j ∧ aup pl k Sa.2.1 j < S65.2.1) ∧ ∃ f, S65.1 (aup pl k Sa.2.1 j) = oI0 0 2 f ∧ f 0 = nI (up3 d7 a b cc (lo + kv) kw a j) ∧ f 1 = nI (up3 d7 a b cc (lo + kv) kw b j) := fun j hj9 => by
            rw [u3_a ha0 hab, u3_b hb0 hab, hdc]
            by_cases ze : j = k
            · rw [ze, aup_s, aup_s, if_pos rfl, if_pos rfl]
              exact ⟨rfl, ⟨by omega, by omega⟩, _, hp68, (aup_n _ _ (by decide)).trans (aup_s _ _ _), aup_s _ _ _⟩
            · have hj : j < k := by omega
              rw [aup_n _ _ ze, aup_n _ _ ze, if_neg ze, if_neg ze]
              obtain ⟨r1, ⟨r2, r3⟩, f, r4, r5, r6⟩ := hR7 j hj
              have hjg : pl j ≠ g := by omega
              exact ⟨r1, ⟨r2, by omega⟩, f, ((fr66.2.2 (pl j) (by omega) (fun z9 => z9 (Or.inl (hK4 j hj)))).trans ((fr63.2.2 (pl j) (by omega) (fun z9 => z9 (Or.inl (hK4 j hj)))).trans ((fr58.2.2 (pl j) (by omega) (fun z9 => z9 (Or.inl (hK4 j hj)))).trans ((fr55.2.2 (pl j) (by omega) (fun z9 => z9 (Or.inl (hK4 j hj)))).trans ((fr32.2.2 (pl j) (by omega) (fun z9 => z9 (Or.inl (hK4 j hj)))).trans ((fr29.2.2 (pl j) (by omega) (fun z9 => z9 (Or.inl (hK4 j hj)))).trans ((w26.2.2.2 (pl j) (by omega)).trans ((w22.2.2.2 (pl j) (by omega)).trans ((fr18.2.2 (pl j) (by omega) (by omega)).trans ((w14.2.2.2 (pl j) (by omega)).trans ((fr10.2.2 (pl j) (by omega) (by omega)).trans ((w6.2.2.2 (pl j) (by omega)).trans r4)))))))))))), r5, r6⟩
          have hp69 : S65.1 g = oI0 0 1 fg2 := ((fr66.2.2 g (by omega) (fun z9 => z9 (Or.inl (hK1 g hKg)))).trans ((fr63.2.2 g (by omega) (fun z9 => z9 (Or.inl (hK1 g hKg)))).trans ((fr58.2.2 g (by omega) (fun z9 => z9 (Or.inl (hK1 g hKg)))).trans ((fr55.2.2 g (by omega) (fun z9 => z9 (Or.inl (hK1 g hKg)))).trans ((fr32.2.2 g (by omega) (fun z9 => z9 (Or.inl (hK1 g hKg)))).trans ((fr29.2.2 g (by omega) (fun z9 => z9 (Or.inl (hK1 g hKg)))).trans ((w26.2.2.2 g (by omega)).trans ((w22.2.2.2 g (by omega)).trans hG2))))))))
          have hp70 : S65.1 S.2.1 = oQ m (aup W k (.ref Sa.2.1)) := ((fr66.2.2 S.2.1 (by omega) (fun z9 => z9 (Or.inl hK3))).trans ((fr63.2.2 S.2.1 (by omega) (fun z9 => z9 (Or.inl hK3))).trans hp60))
          refine r_lv (lv' := [(9, .int (nI (k + 1))), (8, .ref S.2.1), (0, .ref t), (1, .ref g), (2, .retAddr i), (3, .ref c), (4, .int (nI m)), (5, .int (nI lo)), (6, .int (nI rg)), (7, .int (nI mx))]) [0, 1, 2, 3, 4, 5, 6, 7, 8, 9] rfl ?_
          exact ih (k + 1) S65 (k9 + 1 + 1 + 1 + 1 + 1 + 1 + 1) (n9 + 2 + 1500 + 1500 + 1500 + 1500 + 1500 + 1500) _ (aup pl k Sa.2.1) (up3 d7 a b cc (lo + kv) kw) _ _ (fun i => K7 i ∨ i = Sa.2.1) (by omega) fr66.2.1 (by omega) (by omega) (by omega) hF9 (by omega) hp69 hBF ⟨fun i z9 => Or.inl (hK1 i z9), (fun i z => z.elim (fun z => by have := hK2 i z; omega) (fun z => by omega)), Or.inl hK3, fun j hj9 => by
              by_cases ze : j = k
              · rw [ze, aup_s]; exact Or.inr rfl
              · rw [aup_n _ _ ze]; exact Or.inl (hK4 j (by omega))⟩ ⟨hp70, hR9⟩ ⟨hT9, by rw [List.length_append]; omega⟩ ⟨(up_n2 _ _ (Ne.symm hc0)).trans ((up_n1 _ _ (Ne.symm hb0)).trans ((up_n1 _ _ (Ne.symm ha0)).trans hd0)), by rw [u3_c, hdc], hdO.tr (u3_O _ _ _ _ _ _)⟩
  exact loopR (m + 1) 0 S1 (0 + 1) (0 + m) (fun _ => .null) (fun _ => 0) d l fg (fun i => K i ∨ i = S.2.1) (by omega) w2.2.1 (Nat.zero_le _) (by omega) (by omega) ⟨by omega, w2.2.1, fun i hi _ => w2.2.2.2 i hi⟩ (by omega) hp4 (hB.mv (X := Xno) ⟨by omega, w2.2.1, fun i hi _ => w2.2.2.2 i hi⟩ (fun _ z => z.elim) (fun i z => z.elim Or.inl (fun z => Or.inr (by omega)))) ⟨fun _ z => Or.inl z, fun i z => z.elim (fun z => by have := hK i z; omega) (fun z => by omega), Or.inr rfl, fun j hj => absurd hj (Nat.not_lt_zero _)⟩ ⟨w2.2.2.1, fun j hj => absurd hj (Nat.not_lt_zero _)⟩ ⟨hPT, by omega⟩ ⟨h00, h0c, fun _ _ _ _ _ => rfl⟩

