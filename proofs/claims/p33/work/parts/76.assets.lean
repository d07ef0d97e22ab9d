/-! The estate's assets. -/
theorem lit_A0 (l : List Nat) (v : Nat) : l ++ [97, 115, 115, 101, 116, 32] ++ digs v ++ [59] = l ++ nA v 0 := by
  unfold nA
  rw [List.append_assoc, List.append_assoc]
  rfl
theorem lit_A1 (l : List Nat) (v : Nat) {y : Nat} (hy : 0 < y) : l ++ [97, 115, 115, 101, 116, 32] ++ digs v ++ [32, 99, 104, 97, 114, 103, 101, 32] ++ digs y ++ [59] = l ++ nA v y := by
  cases y with
  | zero => exact absurd hy (Nat.lt_irrefl 0)
  | succ y =>
    unfold nA
    rw [List.append_assoc, List.append_assoc, List.append_assoc, List.append_assoc]
    rfl
theorem nA_len (v y : Nat) : 1 ≤ (nA v y).length := by
  unfold nA
  rw [List.length_append, List.length_cons]
  omega
/-- the object's first fields, the rows apart -/
def EVq (V : Nat → Value) (d : D) (e : Nat) : Prop := (V 0 = .int (nI (d 0 0)) ∧ V 1 = .int (oI (d 0 5)) ∧ V 2 = .int (nI (d 0 7)) ∧ V 3 = .int (nI (d 0 6)) ∧ V 4 = .int (nI (d 0 8)) ∧ V 5 = .int (nI (d 0 9))) ∧ (V 6 = .ref (e + 1) ∧ V 7 = .ref (e + 2) ∧ V 8 = .ref (e + 3) ∧ V 9 = .ref (e + 4))
set_option maxRecDepth 100000 in
theorem l_es_C {sc : SC} {S : AS} {K : Nat → Prop} {S0 : AS} {t g e k9 n9 : Nat} {l : List Nat} {d : D} {u : Nat → List Nat} {o : Nat → Bool} {V : Nat → Value} {fg : Nat → Int32} (hx : S.2.2 = true) (hFS : FS S0 S t g) (hor : g < t ∧ t < e ∧ 53 ≤ g ∧ e + 9 ≤ S.2.1) (hG : S.1 g = oI0 0 1 fg) (hV : S.1 e = oO 10 V) (hEV : EVq V d e) (hEP : EP S d e) (hB : SLK K S t l) (hK : (∀ i, K i → i < S.2.1) ∧ (∀ i, i < t → K i) ∧ ∀ i, e ≤ i → i < e + 9 → K i) (hPT : PT l d u o) (hl : l.length ≤ 396) (ho : o 0 = false ∧ o 1 = false ∧ o 2 = false) (hu : ∀ i, i < d 0 0 → u i = [i + 1]) (h0 : 0 < d 0 0 ∧ d 0 0 ≤ 12) (hz : d 0 1 = 0 ∧ d 0 2 = 0 ∧ d 0 3 = 0 ∧ d 0 4 = 0) (hk9 : k9 + 129 ≤ 300) (hn9 : n9 + 154820 ≤ 320000) : Wp sc mL_estate 300 320000 k9 n9 256 [(0, .ref t), (1, .ref g), (2, .ref e)] [] S (AR fun v S' => v = .ref e ∧ ∃ (d : D) (u : Nat → List Nat) (o : Nat → Bool) (l : List Nat) (K : Nat → Prop), EG K S0 S' t g e l d ∧ PT l d u o ∧ l.length ≤ 698) := by
  obtain ⟨⟨v0, v1, v2, v3, v4, v5⟩, ⟨v6, v7, v8, v9⟩⟩ := hEV
  obtain ⟨hK1, hK2, hK3⟩ := hK
  have hKg := hK2 g (by omega)
  have hKe := hK3 e (Nat.le_refl _) (by omega)
  refine n_iconst 1 rfl ?_
  refine r_aload_n rfl rfl ?_
  refine n_iconst 4 rfl ?_
  refine c_staA [.ref g, .int (nI 4)] [.int (nI 1)] rfl lkL_34 (l_draw (S := S) (m := 4) hx (by omega) hG (by decide) (by omega)) rfl rfl (by omega) (by omega) rfl ?_
  rintro _ S1 ⟨km, fg1, hkm, rfl, fr2, hsz1, hG1⟩
  have z3 := fr2.1
  refine n_iadd rfl ?_
  refine r_istore (lv' := [(4, .int (nI (1 + km))), (0, .ref t), (1, .ref g), (2, .ref e)]) rfl (Nat.le_of_ble_eq_true rfl) rfl ?_
  refine r_aload_n rfl rfl ?_
  refine r_iload rfl rfl ?_
  refine t_anewQ rfl awL_32 fr2.2.1 (by omega) (by omega) (by omega) ?_
  intro S4 w5
  have z6 := w5.1
  have hp7 : S4.1 e = oO 10 V := ((w5.2.2.2 e (by omega)).trans ((fr2.2.2 e (by omega) (by omega)).trans hV))
  refine t_putfN rfl flL_79 (okv_a _ _) w5.2.1 (by omega) hp7 ?_
  intro S8 w9
  have z10 := w9.1
  refine n_iconst 0 rfl ?_
  refine r_istore (lv' := [(5, .int (nI 0)), (4, .int (nI (1 + km))), (0, .ref t), (1, .ref g), (2, .ref e)]) rfl (Nat.le_of_ble_eq_true rfl) rfl ?_
  have hp11 : S8.1 g = oI0 0 1 fg1 := ((w9.2.2.2 g (by omega)).trans ((w5.2.2.2 g (by omega)).trans hG1))
  have hp12 : S8.1 S1.2.1 = oQ (1 + km) (fun _ => .null) := ((w9.2.2.2 S1.2.1 (by omega)).trans w5.2.2.1)
  have hF1 : Fr S S8 (fun i => i = g ∨ i = e) := ⟨by omega, w9.2.1, fun i hi hn => by
    have h1 : i ≠ g := fun z => hn (Or.inl z)
    have h2 : i ≠ e := fun z => hn (Or.inr z)
    exact ((w9.2.2.2 i (by omega)).trans ((w5.2.2.2 i (by omega)).trans ((fr2.2.2 i (by omega) (by omega)).trans rfl)))⟩
  have hB1 : SLK (fun i => K i ∨ i = S1.2.1) S8 t l := hB.mv hF1 (fun i z => z.elim (fun z => by rw [z]; exact hKg) (fun z => by rw [z]; exact hKe)) (fun i z => z.elim Or.inl (fun z => Or.inr (by omega)))
  have hVA : ∀ k, k ≠ 10 → (aup V 10 (.ref S1.2.1)) k = V k := fun k hk => aup_n _ _ hk
  refine r_lv (lv' := [(5, .int (nI 0)), (4, .int (nI (1 + km))), (0, .ref t), (1, .ref g), (2, .ref e)]) [0, 1, 2, 3, 4] rfl ?_
  have loopR : ∀ (m9 : Nat) (k : Nat) (Sa : AS) (k8 n8 : Nat) (W : Nat → Value) (pl : Nat → Nat) (d7 : D) (l7 : List Nat) (fg7 : Nat → Int32) (K7 : Nat → Prop), 1 + km - k < m9 → (Sa.2.2 = true) → (k ≤ 1 + km) → (k8 + 6 * (1 + km - k) + 103 ≤ 300) → (n8 + 7502 * (1 + km - k) + 124802 ≤ 320000) → (Fr S Sa (fun i => ¬ K i ∨ i = g ∨ i = e)) → (S1.2.1 < Sa.2.1) → (Sa.1 g = oI0 0 1 fg7) → (Sa.1 e = oO 10 (aup V 10 (.ref S1.2.1))) → (SLK K7 Sa t l7) → ((∀ i, K i → K7 i) ∧ (∀ i, K7 i → i < Sa.2.1) ∧ K7 S1.2.1 ∧ ∀ j, j < k → K7 (pl j)) → (Sa.1 S1.2.1 = oQ (1 + km) W ∧ (∀ j, j < k → W j = .ref (pl j) ∧ (S1.2.1 < pl j ∧ pl j < Sa.2.1) ∧ ∃ f, Sa.1 (pl j) = oI0 0 2 f ∧ f 0 = nI (d7 5 j) ∧ f 1 = nI (d7 6 j)) ∧ ∀ i j, i < k → j < k → pl i = pl j → i = j) → (PT l7 d7 u o ∧ l7.length ≤ l.length + 23 * k) → (d7 0 0 = d 0 0 ∧ d7 0 1 = k ∧ Ot d d7 5 6 1) → Wp sc mL_estate 300 320000 k8 n8 277 [(5, .int (nI k)), (4, .int (nI (1 + km))), (0, .ref t), (1, .ref g), (2, .ref e)] [] Sa (AR fun v S' => v = .ref e ∧ ∃ (d : D) (u : Nat → List Nat) (o : Nat → Bool) (l : List Nat) (K : Nat → Prop), EG K S0 S' t g e l d ∧ PT l d u o ∧ l.length ≤ 698) := by
    intro m9
    induction m9 with
    | zero => intro k Sa k8 n8 W pl d7 l7 fg7 K7 hme; exact absurd hme (Nat.not_lt_zero _)
    | succ m9 ih =>
      intro k Sa k8 n8 W pl d7 l7 fg7 K7 hme hxSa hk hb1 hb2 hF7 hz7 hg7 hV7 hB7 hKK hW7 hP7 hD7
      obtain ⟨hK4, hK5, hK6, hK7⟩ := hKK
      obtain ⟨hQ7, hR7, hdis⟩ := hW7
      obtain ⟨hT7, hl7⟩ := hP7
      obtain ⟨hd0, hdc, hdO⟩ := hD7
      refine r_iload rfl rfl ?_
      refine r_iload rfl rfl ?_
      refine n_icmp_ge (tgt := 382) rfl rfl (by omega) (by omega) (fun h9 => ?_) (fun h9 => ?_)
      · have e9 : k = 1 + km := by omega
        rw [e9] at hR7 hK7 hl7 hdc hdis
        refine r_lv (lv' := [(0, .ref t), (1, .ref g), (2, .ref e)]) [2, 3, 4] rfl ?_
        have hEV : EVp (aup V 10 (.ref S1.2.1)) d7 e S1.2.1 := ⟨⟨by rw [hd0]; exact (hVA 0 (by decide)).trans v0, by rw [hdO.z (by decide) (by decide) (by decide)]; exact (hVA 1 (by decide)).trans v1, by rw [hdO.z (by decide) (by decide) (by decide)]; exact (hVA 2 (by decide)).trans v2, by rw [hdO.z (by decide) (by decide) (by decide)]; exact (hVA 3 (by decide)).trans v3, by rw [hdO.z (by decide) (by decide) (by decide)]; exact (hVA 4 (by decide)).trans v4, by rw [hdO.z (by decide) (by decide) (by decide)]; exact (hVA 5 (by decide)).trans v5⟩, ⟨(hVA 6 (by decide)).trans v6, (hVA 7 (by decide)).trans v7, (hVA 8 (by decide)).trans v8, (hVA 9 (by decide)).trans v9⟩, aup_s _ _ _⟩
        have hEP9 : EP Sa d7 e := (hEP.fr (fun i i1 i2 => hF7.2.2 i (by omega) (fun z => z.elim (fun z => z (hK3 i (by omega) (by omega))) (fun z => z.elim (fun z => by omega) (fun z => by omega))))).cg hd0 (hdO.r (by decide) (by decide) (by decide)) (hdO.r (by decide) (by decide) (by decide)) (hdO.r (by decide) (by decide) (by decide)) (hdO.r (by decide) (by decide) (by decide))
        have hEA9 : EA (X9 K7 g) Sa (e + 9) Sa.2.1 S1.2.1 (d7 0 1) (d7 5) (d7 6) := by
          rw [hdc]
          refine ⟨W, pl, hQ7, ⟨by omega, by omega, X9_o hK6 (by omega) (by omega)⟩, fun j hj => ?_, fun i j hi hj => hdis i j hi hj⟩
          obtain ⟨r1, ⟨r2, r3⟩, f, r4, r5, r6⟩ := hR7 j hj
          exact ⟨r1, ⟨r2, r3, r3, X9_o (hK7 j hj) (by omega) (by omega)⟩, f, r4, r5, r6⟩
        have hFS9 : FS S0 Sa t g := hFS.tr (hF7.wk (fun i z => Classical.byContradiction fun y => z.elim (fun z => z (hK2 i (Nat.lt_of_not_le (fun x => y (Or.inl x))))) (fun z => z.elim (fun z => y (Or.inr z)) (fun z => y (Or.inl (by omega)))))) (fun _ _ z => z)
        exact l_es_R hxSa hFS9 ⟨by omega, by omega, by omega, by omega⟩ hg7 hV7 hEV hEP9 hEA9 hB7 ⟨hK5, fun i hi => hK4 i (hK2 i hi), fun i i1 i2 => hK4 i (hK3 i i1 i2)⟩ hT7 (by omega) ho (fun i hi => hu i (by omega)) ⟨by omega, by omega, by omega⟩ ⟨(hdO.z (by decide) (by decide) (by decide)).trans hz.2.1, (hdO.z (by decide) (by decide) (by decide)).trans hz.2.2.1, (hdO.z (by decide) (by decide) (by decide)).trans hz.2.2.2⟩ (by omega) (by omega)
      · have h9 : k < 1 + km := by omega
        refine r_aload_n rfl rfl ?_
        refine r_getfN (v := .ref S1.2.1) rfl flL_79.f (by omega) hV7 (aup_s _ _ _) ?_
        refine r_iload rfl rfl ?_
        refine n_iconst 2 rfl ?_
        refine t_newa0 rfl hxSa (by decide) (by omega) (by omega) ?_
        intro S13 w14
        have z15 := w14.1
        refine r_dup rfl rfl ?_
        refine n_iconst 0 rfl ?_
        refine r_aload_n rfl rfl ?_
        refine n_sipush 9000 rfl (by decide) ?_
        have hp16 : S13.1 g = oI0 0 1 fg7 := ((w14.2.2.2 g (by omega)).trans hg7)
        refine c_staA [.ref g, .int (nI 9000)] [.int (nI 0), .ref Sa.2.1, .ref Sa.2.1, .int (nI k), .ref S1.2.1] rfl lkL_34 (l_draw (S := S13) (m := 9000) w14.2.1 (by omega) hp16 (by decide) (by omega)) rfl rfl (by omega) (by omega) rfl ?_
        rintro _ S17 ⟨kv, fg1, hkv, rfl, fr18, hsz1, hG1⟩
        have z19 := fr18.1
        have hp20 : S17.1 Sa.2.1 = oI0 0 2 (fun _ => 0) := ((fr18.2.2 Sa.2.1 (by omega) (by omega)).trans w14.2.2.1)
        refine t_iast rfl fr18.2.1 (by omega) hp20 (by decide) (by decide) ?_
        intro S21 w22
        have z23 := w22.1
        refine r_dup rfl rfl ?_
        refine n_iconst 1 rfl ?_
        refine r_aload_n rfl rfl ?_
        refine n_iconst 2 rfl ?_
        have hp24 : S21.1 g = oI0 0 1 fg1 := ((w22.2.2.2 g (by omega)).trans hG1)
        refine c_staA [.ref g, .int (nI 2)] [.int (nI 1), .ref Sa.2.1, .ref Sa.2.1, .int (nI k), .ref S1.2.1] rfl lkL_34 (l_draw (S := S21) (m := 2) w22.2.1 (by omega) hp24 (by decide) (by omega)) rfl rfl (by omega) (by omega) rfl ?_
        rintro _ S25 ⟨k2, fg2, hk2, rfl, fr26, hsz2, hG2⟩
        have z27 := fr26.1
        refine r_aload_n rfl rfl ?_
        refine n_bipush 101 rfl (by decide) ?_
        refine c_staA [.ref g, .int (nI 101)] [.int (nI k2), .int (nI 1), .ref Sa.2.1, .ref Sa.2.1, .int (nI k), .ref S1.2.1] rfl lkL_34 (l_draw (S := S25) (m := 101) fr26.2.1 (by omega) hG2 (by decide) (by omega)) rfl rfl (by omega) (by omega) rfl ?_
        rintro _ S28 ⟨k3, fg3, hk3, rfl, fr29, hsz3, hG3⟩
        have z30 := fr29.1
        have hyb : k2 * k3 ≤ 1 * 100 := Nat.mul_le_mul (by omega) (by omega)
        refine n_imul rfl ?_
        obtain ⟨y, hy⟩ : ∃ y, y = k2 * k3 := ⟨_, rfl⟩
        rw [← hy] at hyb
        refine r_top (y := nI y) (congrArg nI hy.symm) ?_
        have hp31 : S28.1 Sa.2.1 = oI0 0 2 (aup (fun _ => 0) 0 (nI kv)) := ((fr29.2.2 Sa.2.1 (by omega) (by omega)).trans ((fr26.2.2 Sa.2.1 (by omega) (by omega)).trans w22.2.2.1))
        refine t_iast rfl fr29.2.1 (by omega) hp31 (by decide) (by decide) ?_
        intro S32 w33
        have z34 := w33.1
        have hp35 : S32.1 S1.2.1 = oQ (1 + km) W := ((w33.2.2.2 S1.2.1 (by omega)).trans ((fr29.2.2 S1.2.1 (by omega) (by omega)).trans ((fr26.2.2 S1.2.1 (by omega) (by omega)).trans ((w22.2.2.2 S1.2.1 (by omega)).trans ((fr18.2.2 S1.2.1 (by omega) (by omega)).trans ((w14.2.2.2 S1.2.1 (by omega)).trans hQ7))))))
        refine t_aast rfl w33.2.1 (by omega) hp35 (by omega) w33.2.2.1 (by omega) (by omega) ?_
        intro S36 w37
        have z38 := w37.1
        refine r_aload_n rfl rfl ?_
        refine r_ldcS (i := 28) rfl rfl ?_
        have hFx : Fr Sa S36 (fun i => i = g ∨ i = S1.2.1) := ⟨by omega, w37.2.1, fun i hi hn => by
          have h1 : i ≠ g := fun z => hn (Or.inl z)
          have h2 : i ≠ S1.2.1 := fun z => hn (Or.inr z)
          exact ((w37.2.2.2 i (by omega)).trans ((w33.2.2.2 i (by omega)).trans ((fr29.2.2 i (by omega) (by omega)).trans ((fr26.2.2 i (by omega) (by omega)).trans ((w22.2.2.2 i (by omega)).trans ((fr18.2.2 i (by omega) (by omega)).trans ((w14.2.2.2 i (by omega)).trans rfl)))))))⟩
        have hBx : SLK (fun i => K7 i ∨ i = Sa.2.1) S36 t l7 := hB7.mv hFx (fun i z => z.elim (fun z => by rw [z]; exact hK4 g hKg) (fun z => by rw [z]; exact hK6)) (fun i z => z.elim Or.inl (fun z => Or.inr (by omega)))
        have hsp := SP_ass (n := l7.length) (v := kv) (k := y) (d := d7) (u := u) (o := o) (by omega) (by omega) (by omega)
        have hT9 := PT_s hT7 hsp (nA_len kv y)
        have hdv := dgs_b kv
        have hdw := dgs_b y
        have hp39 : S36.1 Sa.2.1 = oI0 0 2 (aup (aup (fun _ => 0) 0 (nI kv)) 1 (nI y)) := ((w37.2.2.2 Sa.2.1 (by omega)).trans w33.2.2.1)
        obtain ⟨VtA, hVtA, -, hltA⟩ := hBx.o
        refine c_virA [.retAddr 28] [] rfl lkL_38 (by omega) hVtA rfl rfl (a_S (S := S36) w37.2.1 hBx (fun i z => z.elim (fun z => by have := hK5 i z; omega) (fun z => by omega)) (z := [97, 115, 115, 101, 116, 32]) rfl (by decide) (by decide) (by decide) (by omega)) rfl rfl (by omega) (by omega) rfl ?_
        rintro _ S40 ⟨rfl, fr41, hBA⟩
        have z42 := fr41.1
        refine r_aload_n rfl rfl ?_
        have hp43 : S40.1 e = oO 10 (aup V 10 (.ref S1.2.1)) := ((fr41.2.2 e (by omega) (fun z9 => z9 (Or.inl (hK4 e hKe)))).trans ((w37.2.2.2 e (by omega)).trans ((w33.2.2.2 e (by omega)).trans ((fr29.2.2 e (by omega) (by omega)).trans ((fr26.2.2 e (by omega) (by omega)).trans ((w22.2.2.2 e (by omega)).trans ((fr18.2.2 e (by omega) (by omega)).trans ((w14.2.2.2 e (by omega)).trans hV7))))))))
        refine r_getfN (v := .ref S1.2.1) rfl flL_79.f (by omega) hp43 (aup_s _ _ _) ?_
        refine r_iload rfl rfl ?_
        have hp44 : S40.1 S1.2.1 = oQ (1 + km) (aup W k (.ref Sa.2.1)) := ((fr41.2.2 S1.2.1 (by omega) (fun z9 => z9 (Or.inl hK6))).trans w37.2.2.1)
        refine r_aald (x := Sa.2.1) rfl (by omega) hp44 (by omega) (by omega) (aup_s _ _ _) ?_
        refine n_iconst 0 rfl ?_
        have hp45 : S40.1 Sa.2.1 = oI0 0 2 (aup (aup (fun _ => 0) 0 (nI kv)) 1 (nI y)) := ((fr41.2.2 Sa.2.1 (by omega) (fun z9 => z9 (Or.inr rfl))).trans hp39)
        refine r_iald rfl (by omega) hp45 (by decide) (by decide) ?_
        refine r_top (y := nI kv) ((aup_n _ _ (by decide)).trans (aup_s _ _ _)) ?_
        obtain ⟨VtB, hVtB, -, hltB⟩ := hBA.o
        refine c_virA [.int (nI kv)] [] rfl lkL_46 (by omega) hVtB rfl rfl (a_I (S := S40) fr41.2.1 hBA (fun i z => z.elim (fun z => by have := hK5 i z; omega) (fun z => by omega)) (by omega) (by simp only [List.length_append, List.length_cons, List.length_nil, digs_len]; omega)) rfl rfl (by omega) (by omega) rfl ?_
        rintro _ S46 ⟨rfl, fr47, hBB⟩
        have z48 := fr47.1
        refine r_pop rfl rfl ?_
        refine r_aload_n rfl rfl ?_
        have hp49 : S46.1 e = oO 10 (aup V 10 (.ref S1.2.1)) := ((fr47.2.2 e (by omega) (fun z9 => z9 (Or.inl (hK4 e hKe)))).trans hp43)
        refine r_getfN (v := .ref S1.2.1) rfl flL_79.f (by omega) hp49 (aup_s _ _ _) ?_
        refine r_iload rfl rfl ?_
        have hp50 : S46.1 S1.2.1 = oQ (1 + km) (aup W k (.ref Sa.2.1)) := ((fr47.2.2 S1.2.1 (by omega) (fun z9 => z9 (Or.inl hK6))).trans hp44)
        refine r_aald (x := Sa.2.1) rfl (by omega) hp50 (by omega) (by omega) (aup_s _ _ _) ?_
        refine n_iconst 1 rfl ?_
        have hp51 : S46.1 Sa.2.1 = oI0 0 2 (aup (aup (fun _ => 0) 0 (nI kv)) 1 (nI y)) := ((fr47.2.2 Sa.2.1 (by omega) (fun z9 => z9 (Or.inr rfl))).trans hp45)
        refine r_iald rfl (by omega) hp51 (by decide) (by decide) ?_
        refine r_top (y := nI y) (aup_s _ _ _) ?_
        refine n_if_le (tgt := 369) rfl rfl (by omega) (fun h8 => ?_) (fun h8 => ?_)
        · refine r_aload_n rfl rfl ?_
          refine n_bipush 59 rfl (by decide) ?_
          obtain ⟨VtF, hVtF, -, hltF⟩ := hBB.o
          refine c_virA [.int (nI 59)] [] rfl lkL_43 (by omega) hVtF rfl rfl (a_C (S := S46) fr47.2.1 hBB (fun i z => z.elim (fun z => by have := hK5 i z; omega) (fun z => by omega)) (by decide) (by simp only [List.length_append, List.length_cons, List.length_nil, digs_len]; omega)) rfl rfl (by omega) (by omega) rfl ?_
          rintro _ S52 ⟨rfl, fr53, hBF⟩
          have z54 := fr53.1
          refine r_pop rfl rfl ?_
          refine n_iinc (lv' := [(5, .int (nI (k + 1))), (4, .int (nI (1 + km))), (0, .ref t), (1, .ref g), (2, .ref e)]) 1 rfl rfl (Nat.le_of_ble_eq_true rfl) rfl ?_
          refine r_goto (tgt := 277) rfl rfl ?_
          have hlen : (l7 ++ [97, 115, 115, 101, 116, 32] ++ digs kv ++ [59]).length ≤ l.length + 23 * (k + 1) := (by simp only [List.length_append, List.length_cons, List.length_nil, digs_len]; omega)
          have hT8 := hT9
          have e0 : nA kv y = nA kv 0 := by rw [h8]
          rw [e0] at hT8
          rw [← lit_A0] at hT8
          have hF9 : Fr S S52 (fun i => ¬ K i ∨ i = g ∨ i = e) := ⟨by omega, fr53.2.1, fun i hi hn => by
            have hKi : K i := Classical.byContradiction fun z9 => hn (Or.inl z9)
            have hig : i ≠ g := fun z9 => hn (Or.inr (Or.inl z9))
            have hie : i ≠ e := fun z9 => hn (Or.inr (Or.inr z9))
            exact ((fr53.2.2 i (by omega) (fun z9 => z9 (Or.inl (hK4 i hKi)))).trans ((fr47.2.2 i (by omega) (fun z9 => z9 (Or.inl (hK4 i hKi)))).trans ((fr41.2.2 i (by omega) (fun z9 => z9 (Or.inl (hK4 i hKi)))).trans ((w37.2.2.2 i (by omega)).trans ((w33.2.2.2 i (by omega)).trans ((fr29.2.2 i (by omega) (by omega)).trans ((fr26.2.2 i (by omega) (by omega)).trans ((w22.2.2.2 i (by omega)).trans ((fr18.2.2 i (by omega) (by omega)).trans ((w14.2.2.2 i (by omega)).trans (hF7.2.2 i hi hn)))))))))))⟩
          have hp55 : S52.1 Sa.2.1 = oI0 0 2 (aup (aup (fun _ => 0) 0 (nI kv)) 1 (nI y)) := ((fr53.2.2 Sa.2.1 (by omega) (fun z9 => z9 (Or.inr rfl))).trans hp51)
          have hR9 : ∀ j, j < k + 1 → (aup W k (.ref Sa.2.1)) j = .ref (aup pl k Sa.2.1 j) ∧ (S1.2.1 < aup pl k Sa.2.1 j ∧ aup pl k Sa.2.1 j < S52.2.1) ∧ ∃ f, S52.1 (aup pl k Sa.2.1 j) = oI0 0 2 f ∧ f 0 = nI (up3 d7 5 6 1 kv y 5 j) ∧ f 1 = nI (up3 d7 5 6 1 kv y 6 j) := fun j hj9 => by
            rw [u3_a (by decide) (by decide), u3_b (by decide) (by decide), hdc]
            by_cases ze : j = k
            · rw [ze, aup_s, aup_s, if_pos rfl, if_pos rfl]
              exact ⟨rfl, ⟨by omega, by omega⟩, _, hp55, (aup_n _ _ (by decide)).trans (aup_s _ _ _), aup_s _ _ _⟩
            · have hj : j < k := by omega
              rw [aup_n _ _ ze, aup_n _ _ ze, if_neg ze, if_neg ze]
              obtain ⟨r1, ⟨r2, r3⟩, f, r4, r5, r6⟩ := hR7 j hj
              have hjg : pl j ≠ g := by omega
              exact ⟨r1, ⟨r2, by omega⟩, f, ((fr53.2.2 (pl j) (by omega) (fun z9 => z9 (Or.inl (hK7 j hj)))).trans ((fr47.2.2 (pl j) (by omega) (fun z9 => z9 (Or.inl (hK7 j hj)))).trans ((fr41.2.2 (pl j) (by omega) (fun z9 => z9 (Or.inl (hK7 j hj)))).trans ((w37.2.2.2 (pl j) (by omega)).trans ((w33.2.2.2 (pl j) (by omega)).trans ((fr29.2.2 (pl j) (by omega) (by omega)).trans ((fr26.2.2 (pl j) (by omega) (by omega)).trans ((w22.2.2.2 (pl j) (by omega)).trans ((fr18.2.2 (pl j) (by omega) (by omega)).trans ((w14.2.2.2 (pl j) (by omega)).trans r4)))))))))), r5, r6⟩
          have hdis9 : ∀ i j, i < k + 1 → j < k + 1 → aup pl k Sa.2.1 i = aup pl k Sa.2.1 j → i = j := fun i j hi hj hij => by
            by_cases zi : i = k
            · by_cases zj : j = k
              · omega
              · rw [zi, aup_s, aup_n _ _ zj] at hij
                have := (hR7 j (by omega)).2.1
                omega
            · by_cases zj : j = k
              · rw [zj, aup_s, aup_n _ _ zi] at hij
                have := (hR7 i (by omega)).2.1
                omega
              · rw [aup_n _ _ zi, aup_n _ _ zj] at hij
                exact hdis i j (by omega) (by omega) hij
          have hK9 : ∀ j, j < k + 1 → (K7 (aup pl k Sa.2.1 j) ∨ aup pl k Sa.2.1 j = Sa.2.1) := fun j hj9 => by
            by_cases ze : j = k
            · rw [ze, aup_s]; exact Or.inr rfl
            · rw [aup_n _ _ ze]; exact Or.inl (hK7 j (by omega))
          have hp56 : S52.1 g = oI0 0 1 fg3 := ((fr53.2.2 g (by omega) (fun z9 => z9 (Or.inl (hK4 g hKg)))).trans ((fr47.2.2 g (by omega) (fun z9 => z9 (Or.inl (hK4 g hKg)))).trans ((fr41.2.2 g (by omega) (fun z9 => z9 (Or.inl (hK4 g hKg)))).trans ((w37.2.2.2 g (by omega)).trans ((w33.2.2.2 g (by omega)).trans hG3)))))
          have hp57 : S52.1 e = oO 10 (aup V 10 (.ref S1.2.1)) := ((fr53.2.2 e (by omega) (fun z9 => z9 (Or.inl (hK4 e hKe)))).trans hp49)
          have hp58 : S52.1 S1.2.1 = oQ (1 + km) (aup W k (.ref Sa.2.1)) := ((fr53.2.2 S1.2.1 (by omega) (fun z9 => z9 (Or.inl hK6))).trans hp50)
          refine r_lv (lv' := [(5, .int (nI (k + 1))), (4, .int (nI (1 + km))), (0, .ref t), (1, .ref g), (2, .ref e)]) [0, 1, 2, 3, 4] rfl ?_
          exact ih (k + 1) S52 (k8 + 1 + 1 + 1 + 1) (n8 + 2 + 1500 + 1500 + 1500) _ (aup pl k Sa.2.1) (up3 d7 5 6 1 kv y) _ _ (fun i => K7 i ∨ i = Sa.2.1) (by omega) fr53.2.1 (by omega) (by omega) (by omega) hF9 (by omega) hp56 hp57 hBF ⟨fun i z9 => Or.inl (hK4 i z9), (fun i z => z.elim (fun z => by have := hK5 i z; omega) (fun z => by omega)), Or.inl hK6, hK9⟩ ⟨hp58, hR9, hdis9⟩ ⟨hT8, hlen⟩ ⟨hd0, by rw [u3_c, hdc], hdO.tr (u3_O _ _ _ _ _ _)⟩
        · refine r_aload_n rfl rfl ?_
          refine r_ldcS (i := 29) rfl rfl ?_
          obtain ⟨VtC, hVtC, -, hltC⟩ := hBB.o
          refine c_virA [.retAddr 29] [] rfl lkL_38 (by omega) hVtC rfl rfl (a_S (S := S46) fr47.2.1 hBB (fun i z => z.elim (fun z => by have := hK5 i z; omega) (fun z => by omega)) (z := [32, 99, 104, 97, 114, 103, 101, 32]) rfl (by decide) (by decide) (by decide) (by simp only [List.length_append, List.length_cons, List.length_nil, digs_len]; omega)) rfl rfl (by omega) (by omega) rfl ?_
          rintro _ S59 ⟨rfl, fr60, hBC⟩
          have z61 := fr60.1
          refine r_aload_n rfl rfl ?_
          have hp62 : S59.1 e = oO 10 (aup V 10 (.ref S1.2.1)) := ((fr60.2.2 e (by omega) (fun z9 => z9 (Or.inl (hK4 e hKe)))).trans hp49)
          refine r_getfN (v := .ref S1.2.1) rfl flL_79.f (by omega) hp62 (aup_s _ _ _) ?_
          refine r_iload rfl rfl ?_
          have hp63 : S59.1 S1.2.1 = oQ (1 + km) (aup W k (.ref Sa.2.1)) := ((fr60.2.2 S1.2.1 (by omega) (fun z9 => z9 (Or.inl hK6))).trans hp50)
          refine r_aald (x := Sa.2.1) rfl (by omega) hp63 (by omega) (by omega) (aup_s _ _ _) ?_
          refine n_iconst 1 rfl ?_
          have hp64 : S59.1 Sa.2.1 = oI0 0 2 (aup (aup (fun _ => 0) 0 (nI kv)) 1 (nI y)) := ((fr60.2.2 Sa.2.1 (by omega) (fun z9 => z9 (Or.inr rfl))).trans hp51)
          refine r_iald rfl (by omega) hp64 (by decide) (by decide) ?_
          refine r_top (y := nI y) (aup_s _ _ _) ?_
          obtain ⟨VtD, hVtD, -, hltD⟩ := hBC.o
          refine c_virA [.int (nI y)] [] rfl lkL_46 (by omega) hVtD rfl rfl (a_I (S := S59) fr60.2.1 hBC (fun i z => z.elim (fun z => by have := hK5 i z; omega) (fun z => by omega)) (by omega) (by simp only [List.length_append, List.length_cons, List.length_nil, digs_len]; omega)) rfl rfl (by omega) (by omega) rfl ?_
          rintro _ S65 ⟨rfl, fr66, hBD⟩
          have z67 := fr66.1
          refine r_pop rfl rfl ?_
          refine r_aload_n rfl rfl ?_
          refine n_bipush 59 rfl (by decide) ?_
          obtain ⟨VtF, hVtF, -, hltF⟩ := hBD.o
          refine c_virA [.int (nI 59)] [] rfl lkL_43 (by omega) hVtF rfl rfl (a_C (S := S65) fr66.2.1 hBD (fun i z => z.elim (fun z => by have := hK5 i z; omega) (fun z => by omega)) (by decide) (by simp only [List.length_append, List.length_cons, List.length_nil, digs_len]; omega)) rfl rfl (by omega) (by omega) rfl ?_
          rintro _ S68 ⟨rfl, fr69, hBF⟩
          have z70 := fr69.1
          refine r_pop rfl rfl ?_
          refine n_iinc (lv' := [(5, .int (nI (k + 1))), (4, .int (nI (1 + km))), (0, .ref t), (1, .ref g), (2, .ref e)]) 1 rfl rfl (Nat.le_of_ble_eq_true rfl) rfl ?_
          refine r_goto (tgt := 277) rfl rfl ?_
          have hlen : (l7 ++ [97, 115, 115, 101, 116, 32] ++ digs kv ++ [32, 99, 104, 97, 114, 103, 101, 32] ++ digs y ++ [59]).length ≤ l.length + 23 * (k + 1) := (by simp only [List.length_append, List.length_cons, List.length_nil, digs_len]; omega)
          have hT8 := hT9
          rw [← lit_A1 _ _ h8] at hT8
          have hF9 : Fr S S68 (fun i => ¬ K i ∨ i = g ∨ i = e) := ⟨by omega, fr69.2.1, fun i hi hn => by
            have hKi : K i := Classical.byContradiction fun z9 => hn (Or.inl z9)
            have hig : i ≠ g := fun z9 => hn (Or.inr (Or.inl z9))
            have hie : i ≠ e := fun z9 => hn (Or.inr (Or.inr z9))
            exact ((fr69.2.2 i (by omega) (fun z9 => z9 (Or.inl (hK4 i hKi)))).trans ((fr66.2.2 i (by omega) (fun z9 => z9 (Or.inl (hK4 i hKi)))).trans ((fr60.2.2 i (by omega) (fun z9 => z9 (Or.inl (hK4 i hKi)))).trans ((fr47.2.2 i (by omega) (fun z9 => z9 (Or.inl (hK4 i hKi)))).trans ((fr41.2.2 i (by omega) (fun z9 => z9 (Or.inl (hK4 i hKi)))).trans ((w37.2.2.2 i (by omega)).trans ((w33.2.2.2 i (by omega)).trans ((fr29.2.2 i (by omega) (by omega)).trans ((fr26.2.2 i (by omega) (by omega)).trans ((w22.2.2.2 i (by omega)).trans ((fr18.2.2 i (by omega) (by omega)).trans ((w14.2.2.2 i (by omega)).trans (hF7.2.2 i hi hn)))))))))))))⟩
          have hp71 : S68.1 Sa.2.1 = oI0 0 2 (aup (aup (fun _ => 0) 0 (nI kv)) 1 (nI y)) := ((fr69.2.2 Sa.2.1 (by omega) (fun z9 => z9 (Or.inr rfl))).trans ((fr66.2.2 Sa.2.1 (by omega) (fun z9 => z9 (Or.inr rfl))).trans hp64))
          have hR9 : ∀ j, j < k + 1 → (aup W k (.ref Sa.2.1)) j = .ref (aup pl k Sa.2.1 j) ∧ (S1.2.1 < aup pl k Sa.2.1 j ∧ aup pl k Sa.2.1 j < S68.2.1) ∧ ∃ f, S68.1 (aup pl k Sa.2.1 j) = oI0 0 2 f ∧ f 0 = nI (up3 d7 5 6 1 kv y 5 j) ∧ f 1 = nI (up3 d7 5 6 1 kv y 6 j) := fun j hj9 => by
            rw [u3_a (by decide) (by decide), u3_b (by decide) (by decide), hdc]
            by_cases ze : j = k
            · rw [ze, aup_s, aup_s, if_pos rfl, if_pos rfl]
              exact ⟨rfl, ⟨by omega, by omega⟩, _, hp71, (aup_n _ _ (by decide)).trans (aup_s _ _ _), aup_s _ _ _⟩
            · have hj : j < k := by omega
              rw [aup_n _ _ ze, aup_n _ _ ze, if_neg ze, if_neg ze]
              obtain ⟨r1, ⟨r2, r3⟩, f, r4, r5, r6⟩ := hR7 j hj
              have hjg : pl j ≠ g := by omega
              exact ⟨r1, ⟨r2, by omega⟩, f, ((fr69.2.2 (pl j) (by omega) (fun z9 => z9 (Or.inl (hK7 j hj)))).trans ((fr66.2.2 (pl j) (by omega) (fun z9 => z9 (Or.inl (hK7 j hj)))).trans ((fr60.2.2 (pl j) (by omega) (fun z9 => z9 (Or.inl (hK7 j hj)))).trans ((fr47.2.2 (pl j) (by omega) (fun z9 => z9 (Or.inl (hK7 j hj)))).trans ((fr41.2.2 (pl j) (by omega) (fun z9 => z9 (Or.inl (hK7 j hj)))).trans ((w37.2.2.2 (pl j) (by omega)).trans ((w33.2.2.2 (pl j) (by omega)).trans ((fr29.2.2 (pl j) (by omega) (by omega)).trans ((fr26.2.2 (pl j) (by omega) (by omega)).trans ((w22.2.2.2 (pl j) (by omega)).trans ((fr18.2.2 (pl j) (by omega) (by omega)).trans ((w14.2.2.2 (pl j) (by omega)).trans r4)))))))))))), r5, r6⟩
          have hdis9 : ∀ i j, i < k + 1 → j < k + 1 → aup pl k Sa.2.1 i = aup pl k Sa.2.1 j → i = j := fun i j hi hj hij => by
            by_cases zi : i = k
            · by_cases zj : j = k
              · omega
              · rw [zi, aup_s, aup_n _ _ zj] at hij
                have := (hR7 j (by omega)).2.1
                omega
            · by_cases zj : j = k
              · rw [zj, aup_s, aup_n _ _ zi] at hij
                have := (hR7 i (by omega)).2.1
                omega
              · rw [aup_n _ _ zi, aup_n _ _ zj] at hij
                exact hdis i j (by omega) (by omega) hij
          have hK9 : ∀ j, j < k + 1 → (K7 (aup pl k Sa.2.1 j) ∨ aup pl k Sa.2.1 j = Sa.2.1) := fun j hj9 => by
            by_cases ze : j = k
            · rw [ze, aup_s]; exact Or.inr rfl
            · rw [aup_n _ _ ze]; exact Or.inl (hK7 j (by omega))
          have hp72 : S68.1 g = oI0 0 1 fg3 := ((fr69.2.2 g (by omega) (fun z9 => z9 (Or.inl (hK4 g hKg)))).trans ((fr66.2.2 g (by omega) (fun z9 => z9 (Or.inl (hK4 g hKg)))).trans ((fr60.2.2 g (by omega) (fun z9 => z9 (Or.inl (hK4 g hKg)))).trans ((fr47.2.2 g (by omega) (fun z9 => z9 (Or.inl (hK4 g hKg)))).trans ((fr41.2.2 g (by omega) (fun z9 => z9 (Or.inl (hK4 g hKg)))).trans ((w37.2.2.2 g (by omega)).trans ((w33.2.2.2 g (by omega)).trans hG3)))))))
          have hp73 : S68.1 e = oO 10 (aup V 10 (.ref S1.2.1)) := ((fr69.2.2 e (by omega) (fun z9 => z9 (Or.inl (hK4 e hKe)))).trans ((fr66.2.2 e (by omega) (fun z9 => z9 (Or.inl (hK4 e hKe)))).trans hp62))
          have hp74 : S68.1 S1.2.1 = oQ (1 + km) (aup W k (.ref Sa.2.1)) := ((fr69.2.2 S1.2.1 (by omega) (fun z9 => z9 (Or.inl hK6))).trans ((fr66.2.2 S1.2.1 (by omega) (fun z9 => z9 (Or.inl hK6))).trans hp63))
          refine r_lv (lv' := [(5, .int (nI (k + 1))), (4, .int (nI (1 + km))), (0, .ref t), (1, .ref g), (2, .ref e)]) [0, 1, 2, 3, 4] rfl ?_
          exact ih (k + 1) S68 (k8 + 1 + 1 + 1 + 1 + 1 + 1) (n8 + 2 + 1500 + 1500 + 1500 + 1500 + 1500) _ (aup pl k Sa.2.1) (up3 d7 5 6 1 kv y) _ _ (fun i => K7 i ∨ i = Sa.2.1) (by omega) fr69.2.1 (by omega) (by omega) (by omega) hF9 (by omega) hp72 hp73 hBF ⟨fun i z9 => Or.inl (hK4 i z9), (fun i z => z.elim (fun z => by have := hK5 i z; omega) (fun z => by omega)), Or.inl hK6, hK9⟩ ⟨hp74, hR9, hdis9⟩ ⟨hT8, hlen⟩ ⟨hd0, by rw [u3_c, hdc], hdO.tr (u3_O _ _ _ _ _ _)⟩
  exact loopR (1 + km + 1) 0 S8 (k9 + 1) (n9 + (1 + km)) (fun _ => .null) (fun _ => 0) d l _ (fun i => K i ∨ i = S1.2.1) (by omega) w9.2.1 (Nat.zero_le _) (by omega) (by omega) (hF1.wk (fun i z => Or.inr z)) (by omega) hp11 w9.2.2.1 hB1 ⟨fun _ z => Or.inl z, fun i z => z.elim (fun z => by have := hK1 i z; omega) (fun z => by omega), Or.inr rfl, fun j hj => absurd hj (Nat.not_lt_zero _)⟩ ⟨hp12, fun j hj => absurd hj (Nat.not_lt_zero _), fun i j hi => absurd hi (Nat.not_lt_zero _)⟩ ⟨hPT, by omega⟩ ⟨rfl, hz.1, fun _ _ _ _ _ => rfl⟩

