/-- a call that makes nothing keeps the heap's size known -/
theorem Cal.exact {sc : SC} {μ : MI} {ms nn : Nat} {as : List Value} {G : Nat → AE} {Q Q' : Out → AS → Prop} (h : Cal sc μ 0 ms as (G, nn, false) Q) (hno : ∀ ec S', ¬ Q (.inr ec) S') (hq : ∀ o S', Q o S' → S'.2.1 = nn ∧ Q' o (S'.1, S'.2.1, true)) : Cal sc μ 0 ms as (G, nn, true) Q' := by
  intro l κ hfl p e ha hc hk s m args below hf happ hP hK
  obtain ⟨hP1, hP2, hP3⟩ := hP
  obtain ⟨n, o, h1, h2, h3, h4⟩ := h l κ hfl p e ha hc hk s m args below hf happ ⟨hP1, hP2, ⟨hP3.1, ⟨hP3.2.1.1, fun z => absurd z Bool.false_ne_true⟩, hP3.2.2⟩⟩ hK
  refine ⟨n, o, h1, h2, h3, ?_⟩
  rcases h4 with ⟨⟨⟨r, S', e1, e2, e3⟩, hF⟩, hL⟩ | ⟨q, e1, E, ce, L, ⟨⟨ec, S', f1, f2, f3, f4⟩, hF⟩, hr⟩
  · obtain ⟨L, hFE, hL2⟩ := hL
    refine Or.inl ⟨⟨⟨r, _, e1, (hq _ _ e2).2, ⟨e3.1, ⟨e3.2.1.1, fun _ => ?_⟩, e3.2.2⟩⟩, hF⟩, ⟨L, hFE, hL2⟩⟩
    have g1 := hFE.2.2.2.1
    have g2 := hFE.2.2.2.2.1
    have g3 : s.heap.size = kB κ + nn := hP3.2.1.2 rfl
    have g4 := (hq _ _ e2).1
    have g5 : s.heap.size ≤ _ := g1
    have g6 : _ ≤ s.heap.size + 0 := g2
    show _ = kB κ + S'.2.1
    rw [g4]
    exact Nat.le_antisymm (by rw [← g3]; exact g6) (by rw [← g3]; exact g5)
  · exact (hno _ _ f3).elim
theorem Cs.exact {z : SZ} {sc : SC} {μ : MI} {ms : Nat} {as : List Value} {σ : SS} {P : SS → Prop} (h : Cs z sc μ 0 ms as σ (RV P)) : Cal sc μ 0 ms as (mkG z σ, nZ z, true) (fun o S' => o = .inl none ∧ ∃ σ', S' = (mkG z σ', nZ z, true) ∧ P σ') :=
  Cal.exact h (fun ec S' ⟨_, _, z, _⟩ => nomatch z) (fun o S' ⟨σ', h1, h2, h3⟩ => ⟨by rw [h1]; rfl, h2, σ', by rw [h1]; rfl, h3⟩)
theorem Wp.weak {sc : SC} {μ : MI} {mc ms k n pc : Nat} {lv : List (Nat × Value)} {st : List Value} {G : Nat → AE} {nn : Nat} {Q : Out → AS → Prop} (h : Wp sc μ mc ms k n pc lv st (G, nn, false) Q) : Wp sc μ mc ms k n pc lv st (G, nn, true) Q :=
  fun l κ p e s m args below meth c H locs ls hfl hC hS hR hlv => h l κ p e s m args below meth c H locs ls hfl hC hS ⟨hR.1, ⟨hR.2.1.1, fun z => absurd z Bool.false_ne_true⟩, hR.2.2⟩ hlv
/-- the heap just made -/
def s0 : SS := (aup (aup (aup (aup (aup (aup (aup (aup (fun _ _ => nI 0) 4 (aup (aup (aup (fun _ => nI 0) 3 (-1)) 9 (nI 4)) 10 (nI 1))) 12 (aup (aup (aup (fun _ => nI 0) 3 (-1)) 9 (nI 4)) 10 (nI 1))) 1 (aup (aup (fun _ => nI 0) 3 (-1)) 9 (-1))) 0 (aup (fun _ => nI 0) 7 (-1))) 11 (aup (fun _ => nI 0) 78 (nI 1))) 19 (aup (fun _ => nI 0) 78 (nI 1))) 35 (aup (fun _ => nI 0) 78 (nI 1))) 53 (aup (fun _ => nI 0) 14 (-1)), fun _ _ => 0)
/-- an object's fields when it is born -/
def dV (o ci N : Nat) (k : Nat) : Value := if k < N then defaultValue (tyOf ci k) else fv s0 o ci k
theorem dV_cv (o ci N : Nat) (κ : KX) (j : Nat) (hj : j < N) : defaultValue (tyOf ci j) = cv κ (dV o ci N j) := by
  unfold dV
  rw [if_pos hj]
  cases tyOf ci j <;> rfl
abbrev TB : Nat → AE := mkG (true, true) s0
def QB (B : Nat → AE) (n' : Nat) : Out → AS → Prop := fun r S' => r = .inl none ∧ S'.2 = (n', true) ∧ ∀ i, i < n' → S'.1 i = B i
theorem q_newa0 {sc : SC} {μ : MI} {mc ms k n pc : Nat} {lv : List (Nat × Value)} {st : List Value} {B : Nat → AE} {m nn : Nat} {Q : Out → AS → Prop} (h : cf (mCd μ) pc = some (.newarray .int, 2)) (hn : nn < 65536) (hB : B m = .inl (0, nn, fun _ => 0)) (hk : k + 1 ≤ mc) (hs : n + nn ≤ ms) (kk : Wp sc μ mc ms (k + 1) (n + nn) (pc + 2) lv (.ref m :: st) (B, m + 1, true) Q) : Wp sc μ mc ms k n pc lv (.int (nI nn) :: st) (B, m, true) Q :=
  r_newa0 h ac_int hn rfl hk hs (Wp.congr (S' := (B, m + 1, true)) rfl (fun i _ => by
    show B i = aup B m _ i
    by_cases e : i = m
    · rw [e, aup_s]; exact hB
    · rw [aup_n _ _ e]) kk)
theorem q_newa1 {sc : SC} {μ : MI} {mc ms k n pc : Nat} {lv : List (Nat × Value)} {st : List Value} {B : Nat → AE} {m nn : Nat} {Q : Out → AS → Prop} (h : cf (mCd μ) pc = some (.newarray .byte, 2)) (hn : nn < 65536) (hB : B m = .inl (1, nn, fun _ => 0)) (hk : k + 1 ≤ mc) (hs : n + nn ≤ ms) (kk : Wp sc μ mc ms (k + 1) (n + nn) (pc + 2) lv (.ref m :: st) (B, m + 1, true) Q) : Wp sc μ mc ms k n pc lv (.int (nI nn) :: st) (B, m, true) Q :=
  r_newa1 h ac_byte hn rfl hk hs (Wp.congr (S' := (B, m + 1, true)) rfl (fun i _ => by
    show B i = aup B m _ i
    by_cases e : i = m
    · rw [e, aup_s]; exact hB
    · rw [aup_n _ _ e]) kk)
theorem q_newa2 {sc : SC} {μ : MI} {mc ms k n pc : Nat} {lv : List (Nat × Value)} {st : List Value} {B : Nat → AE} {m nn : Nat} {Q : Out → AS → Prop} (h : cf (mCd μ) pc = some (.newarray .boolean, 2)) (hn : nn < 65536) (hB : B m = .inl (2, nn, fun _ => 0)) (hk : k + 1 ≤ mc) (hs : n + nn ≤ ms) (kk : Wp sc μ mc ms (k + 1) (n + nn) (pc + 2) lv (.ref m :: st) (B, m + 1, true) Q) : Wp sc μ mc ms k n pc lv (.int (nI nn) :: st) (B, m, true) Q :=
  r_newa2 h ac_boolean hn rfl hk hs (Wp.congr (S' := (B, m + 1, true)) rfl (fun i _ => by
    show B i = aup B m _ i
    by_cases e : i = m
    · rw [e, aup_s]; exact hB
    · rw [aup_n _ _ e]) kk)
theorem q_newa3 {sc : SC} {μ : MI} {mc ms k n pc : Nat} {lv : List (Nat × Value)} {st : List Value} {B : Nat → AE} {m nn : Nat} {Q : Out → AS → Prop} (h : cf (mCd μ) pc = some (.newarray .long, 2)) (hn : nn < 65536) (hB : B m = .inr (.inl (nn, fun _ => 0))) (hk : k + 1 ≤ mc) (hs : n + nn ≤ ms) (kk : Wp sc μ mc ms (k + 1) (n + nn) (pc + 2) lv (.ref m :: st) (B, m + 1, true) Q) : Wp sc μ mc ms k n pc lv (.int (nI nn) :: st) (B, m, true) Q :=
  r_newa3 h ac_long hn rfl hk hs (Wp.congr (S' := (B, m + 1, true)) rfl (fun i _ => by
    show B i = aup B m _ i
    by_cases e : i = m
    · rw [e, aup_s]; exact hB
    · rw [aup_n _ _ e]) kk)
theorem q_putF {sc : SC} {μ : MI} {mc ms k n pc : Nat} {lv : List (Nat × Value)} {st : List Value} {B : Nat → AE} {Q : Out → AS → Prop} {o ci kf idx m : Nat} {t : FieldType} {V : Nat → Value} {v : Value} (h : cf (mCd μ) pc = some (.putfield idx, 3)) (hf : FL (mNm μ).cls idx ci kf true t) (hdecl : ∀ r : vw_C, vwCl[ci]? = some r → (r.2.1 kf).1 = (mNm μ).cls) (hni : (mNm μ).name = "<init>") (hv : okv t v) (hlt : o < m) (kk : Wp sc μ mc ms k n (pc + 3) lv st (aup B o (.inr (.inr (ci, aup V kf v))), m, true) Q) : Wp sc μ mc ms k n pc lv (v :: .ref o :: st) (aup B o (.inr (.inr (ci, V))), m, true) Q :=
  r_putF h hf hdecl hni hv hlt (aup_s _ _ _) (Wp.congr (S' := (aup B o (.inr (.inr (ci, aup V kf v))), m, true)) rfl (fun i _ => by
    show aup B o _ i = aup (aup B o _) o _ i
    by_cases e : i = o
    · rw [e, aup_s, aup_s]
    · rw [aup_n _ _ e, aup_n _ _ e, aup_n _ _ e]) kk)
theorem q_putf {sc : SC} {μ : MI} {mc ms k n pc : Nat} {lv : List (Nat × Value)} {st : List Value} {B : Nat → AE} {Q : Out → AS → Prop} {o ci kf idx m : Nat} {t : FieldType} {V : Nat → Value} {v : Value} (h : cf (mCd μ) pc = some (.putfield idx, 3)) (hf : FL (mNm μ).cls idx ci kf false t) (hv : okv t v) (hlt : o < m) (kk : Wp sc μ mc ms k n (pc + 3) lv st (aup B o (.inr (.inr (ci, aup V kf v))), m, true) Q) : Wp sc μ mc ms k n pc lv (v :: .ref o :: st) (aup B o (.inr (.inr (ci, V))), m, true) Q :=
  r_putf h hf hv hlt (aup_s _ _ _) (Wp.congr (S' := (aup B o (.inr (.inr (ci, aup V kf v))), m, true)) rfl (fun i _ => by
    show aup B o _ i = aup (aup B o _) o _ i
    by_cases e : i = o
    · rw [e, aup_s, aup_s]
    · rw [aup_n _ _ e, aup_n _ _ e, aup_n _ _ e]) kk)
theorem q_ini {sc : SC} {μ ν : MI} {mc ms k n mc1 ms1 pc : Nat} {lv : List (Nat × Value)} {rest : List Value} {S : AS} {B : Nat → AE} {Q : Out → AS → Prop} {idx a m' : Nat} (h : cf (mCd μ) pc = some (.invokespecial idx, 3)) (hL : LI (mNm μ).cls idx ν 0) (hcal : Cal sc ν mc1 ms1 [.ref a] S (QB B m')) (hrm : rmB μ ν rest = true) (hmc : k + mc1 ≤ mc) (hms : n + ms1 ≤ ms) (kk : Wp sc μ mc ms (k + mc1) (n + ms1) (pc + 3) lv rest (B, m', true) Q) : Wp sc μ mc ms k n pc lv (.ref a :: rest) S Q :=
  r_ini [] rest h hL hcal (fun ec S' q => nomatch q.1) rfl hrm hmc hms (fun r S' ⟨hr, h2, h3⟩ => by
    cases hr
    exact Wp.congr (S' := (B, m', true)) h2.symm (fun i hi => (h3 i (by rw [h2] at hi; exact hi)).symm) kk)
theorem q_iniN {sc : SC} {μ ν : MI} {mc ms k n mc1 ms1 pc : Nat} {lv : List (Nat × Value)} {rest : List Value} {S : AS} {B : Nat → AE} {Q : Out → AS → Prop} {idx a m' : Nat} (h : cf (mCd μ) pc = some (.invokespecial idx, 3)) (hL : LIN (mNm μ).cls idx ν 0) (hcal : Cal sc ν mc1 ms1 [.ref a] S (QB B m')) (hrm : rmB μ ν rest = true) (hmc : k + mc1 ≤ mc) (hms : n + ms1 ≤ ms) (kk : Wp sc μ mc ms (k + mc1) (n + ms1) (pc + 3) lv rest (B, m', true) Q) : Wp sc μ mc ms k n pc lv (.ref a :: rest) S Q :=
  r_iniN [] rest h hL hcal (fun ec S' q => nomatch q.1) rfl hrm hmc hms (fun r S' ⟨hr, h2, h3⟩ => by
    cases hr
    exact Wp.congr (S' := (B, m', true)) h2.symm (fun i hi => (h3 i (by rw [h2] at hi; exact hi)).symm) kk)
theorem mk_zz {z z' : SZ} {σ : SS} {i : Nat} (h : i < 53) : mkG z σ i = mkG z' σ i := by
  have e : shp z i = shp z' i := by
    unfold shp
    rw [show Nat.blt i 53 = true from Nat.ble_eq_true_of_le h]
    rfl
  unfold mkG
  rw [e]
theorem mk_76 {b : Bool} {σ : SS} {i : Nat} (h : i < 76) : mkG (true, b) σ i = mkG (true, true) σ i := by
  have e : shp (true, b) i = shp (true, true) i := by
    unfold shp
    rw [show Nat.blt i 76 = true from Nat.ble_eq_true_of_le h]
    rfl
  unfold mkG
  rw [e]
theorem v_X1_2 : (aup (aup (aup (aup (aup (aup (dV 2 1 6) 0 (.ref 3)) 1 (.int (nI 0))) 2 (.int (nI 0))) 3 (.int (nI 0))) 4 (.int (nI 0))) 5 (.int (nI 0))) = fv s0 2 1 := by
  funext k
  exact match k with | 0 => rfl | 1 => rfl | 2 => rfl | 3 => rfl | 4 => rfl | 5 => rfl | q + 6 => rfl
theorem n_X1_2 {sc : SC} {B : Nat → AE} (hB : ∀ i, 2 ≤ i → i < 4 → B i = TB i) : Cal sc mX1_init 1 700 [.ref 2] (aup B 2 (.inr (.inr (1, dV 2 1 6))), 3, true) (QB B 4) := by
  refine Cal.of gmX1_init (Nat.le_of_ble_eq_true rfl) ?_
  show Wp sc mX1_init 1 700 0 0 0 [(0, .ref 2)] [] (aup B 2 (.inr (.inr (1, dV 2 1 6))), 3, true) (QB B 4)
  refine r_aload_n rfl rfl ?_
  refine r_obj rfl obX1_3 obI obC rfl rfl ?_
  refine r_aload_n rfl rfl ?_
  refine n_sipush 700 rfl (by decide) ?_
  refine q_newa1 rfl (by decide) ((aup_n _ _ (by decide)).trans ((hB 3 (by decide) (by decide)).trans rfl)) (by decide) (by decide) ?_
  refine q_putF rfl flX1_9 (fun r hr => by cases hr; rfl) rfl (okv_a _ _) (by decide) ?_
  refine r_aload_n rfl rfl ?_
  refine n_iconst 0 rfl ?_
  refine q_putf rfl flX1_15 (okv_i _) (by decide) ?_
  refine r_aload_n rfl rfl ?_
  refine n_iconst 0 rfl ?_
  refine q_putf rfl flX1_19 (okv_i _) (by decide) ?_
  refine r_aload_n rfl rfl ?_
  refine n_iconst 0 rfl ?_
  refine q_putf rfl flX1_22 (okv_i _) (by decide) ?_
  refine r_aload_n rfl rfl ?_
  refine n_iconst 0 rfl ?_
  refine q_putf rfl flX1_25 (okv_i _) (by decide) ?_
  refine r_aload_n rfl rfl ?_
  refine n_iconst 0 rfl ?_
  refine q_putf rfl flX1_28 (okv_i _) (by decide) ?_
  refine r_vret rfl rfl (by decide) (by decide) ⟨rfl, rfl, fun i hi => ?_⟩
  show aup B 2 _ i = B i
  by_cases e : i = 2
  · rw [e, aup_s, hB 2 (by decide) (by decide)]; exact congrArg (fun V => (.inr (.inr (1, V)) : AE)) v_X1_2
  · exact aup_n _ _ e
theorem v_X0_4 : (aup (aup (aup (aup (aup (aup (aup (aup (aup (aup (aup (aup (dV 4 0 12) 0 (.int (nI 0))) 1 (.ref 5)) 2 (.ref 6)) 3 (.int (-1))) 4 (.int (nI 0))) 5 (.ref 7)) 6 (.int (nI 0))) 7 (.ref 8)) 8 (.ref 9)) 9 (.int (nI 4))) 10 (.int (nI 1))) 11 (.int (nI 0))) = fv s0 4 0 := by
  funext k
  exact match k with | 0 => rfl | 1 => rfl | 2 => rfl | 3 => rfl | 4 => rfl | 5 => rfl | 6 => rfl | 7 => rfl | 8 => rfl | 9 => rfl | 10 => rfl | 11 => rfl | q + 12 => rfl
theorem n_X0_4 {sc : SC} {B : Nat → AE} (hB : ∀ i, 4 ≤ i → i < 10 → B i = TB i) : Cal sc mX0_init 5 48 [.ref 4] (aup B 4 (.inr (.inr (0, dV 4 0 12))), 5, true) (QB B 10) := by
  refine Cal.of gmX0_init (Nat.le_of_ble_eq_true rfl) ?_
  show Wp sc mX0_init 5 48 0 0 0 [(0, .ref 4)] [] (aup B 4 (.inr (.inr (0, dV 4 0 12))), 5, true) (QB B 10)
  refine r_aload_n rfl rfl ?_
  refine r_obj rfl obX0_3 obI obC rfl rfl ?_
  refine r_aload_n rfl rfl ?_
  refine n_iconst 0 rfl ?_
  refine q_putf rfl flX0_9 (okv_i _) (by decide) ?_
  refine r_aload_n rfl rfl ?_
  refine n_bipush 12 rfl (by decide) ?_
  refine q_newa3 rfl (by decide) ((aup_n _ _ (by decide)).trans ((hB 5 (by decide) (by decide)).trans rfl)) (by decide) (by decide) ?_
  refine q_putF rfl flX0_15 (fun r hr => by cases hr; rfl) rfl (okv_a _ _) (by decide) ?_
  refine r_aload_n rfl rfl ?_
  refine n_bipush 12 rfl (by decide) ?_
  refine q_newa0 rfl (by decide) ((aup_n _ _ (by decide)).trans ((hB 6 (by decide) (by decide)).trans rfl)) (by decide) (by decide) ?_
  refine q_putF rfl flX0_19 (fun r hr => by cases hr; rfl) rfl (okv_a _ _) (by decide) ?_
  refine r_aload_n rfl rfl ?_
  refine r_iconst (v := -1) rfl rfl ?_
  refine q_putf rfl flX0_23 (okv_i _) (by decide) ?_
  refine r_aload_n rfl rfl ?_
  refine n_iconst 0 rfl ?_
  refine q_putf rfl flX0_26 (okv_i _) (by decide) ?_
  refine r_aload_n rfl rfl ?_
  refine n_bipush 8 rfl (by decide) ?_
  refine q_newa0 rfl (by decide) ((aup_n _ _ (by decide)).trans ((hB 7 (by decide) (by decide)).trans rfl)) (by decide) (by decide) ?_
  refine q_putF rfl flX0_29 (fun r hr => by cases hr; rfl) rfl (okv_a _ _) (by decide) ?_
  refine r_aload_n rfl rfl ?_
  refine n_iconst 0 rfl ?_
  refine q_putf rfl flX0_32 (okv_i _) (by decide) ?_
  refine r_aload_n rfl rfl ?_
  refine n_bipush 8 rfl (by decide) ?_
  refine q_newa0 rfl (by decide) ((aup_n _ _ (by decide)).trans ((hB 8 (by decide) (by decide)).trans rfl)) (by decide) (by decide) ?_
  refine q_putF rfl flX0_35 (fun r hr => by cases hr; rfl) rfl (okv_a _ _) (by decide) ?_
  refine r_aload_n rfl rfl ?_
  refine n_bipush 8 rfl (by decide) ?_
  refine q_newa0 rfl (by decide) ((aup_n _ _ (by decide)).trans ((hB 9 (by decide) (by decide)).trans rfl)) (by decide) (by decide) ?_
  refine q_putF rfl flX0_38 (fun r hr => by cases hr; rfl) rfl (okv_a _ _) (by decide) ?_
  refine r_aload_n rfl rfl ?_
  refine n_iconst 4 rfl ?_
  refine q_putf rfl flX0_41 (okv_i _) (by decide) ?_
  refine r_aload_n rfl rfl ?_
  refine n_iconst 1 rfl ?_
  refine q_putf rfl flX0_44 (okv_i _) (by decide) ?_
  refine r_aload_n rfl rfl ?_
  refine n_iconst 0 rfl ?_
  refine q_putf rfl flX0_47 (okv_i _) (by decide) ?_
  refine r_vret rfl rfl (by decide) (by decide) ⟨rfl, rfl, fun i hi => ?_⟩
  show aup B 4 _ i = B i
  by_cases e : i = 4
  · rw [e, aup_s, hB 4 (by decide) (by decide)]; exact congrArg (fun V => (.inr (.inr (0, V)) : AE)) v_X0_4
  · exact aup_n _ _ e
theorem v_X8_10 : (aup (dV 10 8 1) 0 (.ref 11)) = fv s0 10 8 := by
  funext k
  exact match k with | 0 => rfl | q + 1 => rfl
theorem n_X8_10 {sc : SC} {B : Nat → AE} (hB : ∀ i, 10 ≤ i → i < 12 → B i = TB i) : Cal sc mX8_init 1 79 [.ref 10] (aup B 10 (.inr (.inr (8, dV 10 8 1))), 11, true) (QB B 12) := by
  refine Cal.of gmX8_init (Nat.le_of_ble_eq_true rfl) ?_
  show Wp sc mX8_init 1 79 0 0 0 [(0, .ref 10)] [] (aup B 10 (.inr (.inr (8, dV 10 8 1))), 11, true) (QB B 12)
  refine r_aload_n rfl rfl ?_
  refine r_obj rfl obX8_5 obI obC rfl rfl ?_
  refine r_aload_n rfl rfl ?_
  refine n_bipush 79 rfl (by decide) ?_
  refine r_newa0 rfl ac_int (by decide) rfl (by decide) (by decide) ?_
  show Wp sc mX8_init _ _ _ _ _ [(0, .ref 10)] _ (aup (aup B 10 (.inr (.inr (8, (dV 10 8 1))))) 11 (.inl (0, 79, fun _ => 0)), 12, true) _
  refine r_putF (V := (dV 10 8 1)) rfl flX8_11 (fun r hr => by cases hr; rfl) rfl (okv_a _ _) (show 10 < 12 by decide) rfl ?_
  refine r_aload_n rfl rfl ?_
  refine r_getf (V := (aup (dV 10 8 1) 0 (.ref 11))) (v := .ref 11) rfl flX8_11 (show 10 < 12 by decide) rfl rfl ?_
  refine n_bipush 78 rfl (by decide) ?_
  refine n_iconst 1 rfl ?_
  refine r_iast (nn := 79) (f := fun _ => 0) rfl (show 11 < 12 by decide) rfl (show 78 < 79 by decide) (show 79 < 2147483648 by decide) ?_
  refine r_vret rfl rfl (by decide) (by decide) ⟨rfl, rfl, fun i hi => ?_⟩
  show aup _ 11 _ i = B i
  by_cases e1 : i = 11
  · rw [e1, aup_s, hB 11 (by decide) (by decide)]; rfl
  · rw [aup_n _ _ e1]
    show aup _ 10 _ i = B i
    by_cases e : i = 10
    · rw [e, aup_s, hB 10 (by decide) (by decide)]; exact congrArg (fun V => (.inr (.inr (8, V)) : AE)) v_X8_10
    · rw [aup_n _ _ e]; show aup _ 11 _ i = B i; rw [aup_n _ _ e1, aup_n _ _ e]
theorem v_X5_1 : (aup (aup (aup (aup (aup (aup (aup (aup (aup (aup (dV 1 5 10) 0 (.ref 2)) 1 (.ref 4)) 2 (.ref 10)) 3 (.int (-1))) 4 (.int (nI 0))) 5 (.int (nI 0))) 6 (.int (nI 0))) 7 (.int (nI 0))) 8 (.int (nI 0))) 9 (.int (-1))) = fv s0 1 5 := by
  funext k
  exact match k with | 0 => rfl | 1 => rfl | 2 => rfl | 3 => rfl | 4 => rfl | 5 => rfl | 6 => rfl | 7 => rfl | 8 => rfl | 9 => rfl | q + 10 => rfl
theorem n_X5_1 {sc : SC} {B : Nat → AE} (hB : ∀ i, 1 ≤ i → i < 12 → B i = TB i) : Cal sc mX5_init 10 846 [.ref 1] (aup B 1 (.inr (.inr (5, dV 1 5 10))), 2, true) (QB B 12) := by
  refine Cal.of gmX5_init (Nat.le_of_ble_eq_true rfl) ?_
  show Wp sc mX5_init 10 846 0 0 0 [(0, .ref 1)] [] (aup B 1 (.inr (.inr (5, dV 1 5 10))), 2, true) (QB B 12)
  refine r_aload_n rfl rfl ?_
  refine r_obj rfl obX5_3 obI obC rfl rfl ?_
  refine r_aload_n rfl rfl ?_
  refine r_new (V := dV 2 1 6) rfl ciX1 nwX5_9.1 nwX5_9.2.1 nwX5_9.2.2 (dV_cv 2 1 6) rfl (by decide) (by decide) ?_
  show Wp sc mX5_init _ _ _ _ _ [(0, .ref 1)] _ (aup (aup B 1 (.inr (.inr (5, (dV 1 5 10))))) 2 (.inr (.inr (1, dV 2 1 6))), 3, true) _
  refine r_dup rfl rfl ?_
  refine q_iniN (B := aup B 1 (.inr (.inr (5, (dV 1 5 10))))) rfl lkX5_11 (n_X1_2 (fun i h1 h2 => (aup_n _ _ (by omega)).trans (hB i (by omega) (by omega)))) rfl (by decide) (by decide) ?_
  refine q_putF rfl flX5_12 (fun r hr => by cases hr; rfl) rfl (okv_o _ _) (by decide) ?_
  refine r_aload_n rfl rfl ?_
  refine r_new (V := dV 4 0 12) rfl ciX0 nwX5_18.1 nwX5_18.2.1 nwX5_18.2.2 (dV_cv 4 0 12) rfl (by decide) (by decide) ?_
  show Wp sc mX5_init _ _ _ _ _ [(0, .ref 1)] _ (aup (aup B 1 (.inr (.inr (5, (aup (dV 1 5 10) 0 (.ref 2)))))) 4 (.inr (.inr (0, dV 4 0 12))), 5, true) _
  refine r_dup rfl rfl ?_
  refine q_iniN (B := aup B 1 (.inr (.inr (5, (aup (dV 1 5 10) 0 (.ref 2)))))) rfl lkX5_20 (n_X0_4 (fun i h1 h2 => (aup_n _ _ (by omega)).trans (hB i (by omega) (by omega)))) rfl (by decide) (by decide) ?_
  refine q_putF rfl flX5_21 (fun r hr => by cases hr; rfl) rfl (okv_o _ _) (by decide) ?_
  refine r_aload_n rfl rfl ?_
  refine r_new (V := dV 10 8 1) rfl ciX8 nwX5_25.1 nwX5_25.2.1 nwX5_25.2.2 (dV_cv 10 8 1) rfl (by decide) (by decide) ?_
  show Wp sc mX5_init _ _ _ _ _ [(0, .ref 1)] _ (aup (aup B 1 (.inr (.inr (5, (aup (aup (dV 1 5 10) 0 (.ref 2)) 1 (.ref 4)))))) 10 (.inr (.inr (8, dV 10 8 1))), 11, true) _
  refine r_dup rfl rfl ?_
  refine q_ini (B := aup B 1 (.inr (.inr (5, (aup (aup (dV 1 5 10) 0 (.ref 2)) 1 (.ref 4)))))) rfl lkX5_27 (n_X8_10 (fun i h1 h2 => (aup_n _ _ (by omega)).trans (hB i (by omega) (by omega)))) rfl (by decide) (by decide) ?_
  refine q_putF rfl flX5_28 (fun r hr => by cases hr; rfl) rfl (okv_o _ _) (by decide) ?_
  refine r_aload_n rfl rfl ?_
  refine r_iconst (v := -1) rfl rfl ?_
  refine q_putf rfl flX5_32 (okv_i _) (by decide) ?_
  refine r_aload_n rfl rfl ?_
  refine n_iconst 0 rfl ?_
  refine q_putf rfl flX5_36 (okv_i _) (by decide) ?_
  refine r_aload_n rfl rfl ?_
  refine n_iconst 0 rfl ?_
  refine q_putf rfl flX5_39 (okv_z (Or.inl rfl)) (by decide) ?_
  refine r_aload_n rfl rfl ?_
  refine n_iconst 0 rfl ?_
  refine q_putf rfl flX5_43 (okv_z (Or.inl rfl)) (by decide) ?_
  refine r_aload_n rfl rfl ?_
  refine n_iconst 0 rfl ?_
  refine q_putf rfl flX5_46 (okv_z (Or.inl rfl)) (by decide) ?_
  refine r_aload_n rfl rfl ?_
  refine n_iconst 0 rfl ?_
  refine q_putf rfl flX5_49 (okv_i _) (by decide) ?_
  refine r_aload_n rfl rfl ?_
  refine r_iconst (v := -1) rfl rfl ?_
  refine q_putf rfl flX5_52 (okv_i _) (by decide) ?_
  refine r_vret rfl rfl (by decide) (by decide) ⟨rfl, rfl, fun i hi => ?_⟩
  show aup B 1 _ i = B i
  by_cases e : i = 1
  · rw [e, aup_s, hB 1 (by decide) (by decide)]; exact congrArg (fun V => (.inr (.inr (5, V)) : AE)) v_X5_1
  · exact aup_n _ _ e
theorem v_X0_12 : (aup (aup (aup (aup (aup (aup (aup (aup (aup (aup (aup (aup (dV 12 0 12) 0 (.int (nI 0))) 1 (.ref 13)) 2 (.ref 14)) 3 (.int (-1))) 4 (.int (nI 0))) 5 (.ref 15)) 6 (.int (nI 0))) 7 (.ref 16)) 8 (.ref 17)) 9 (.int (nI 4))) 10 (.int (nI 1))) 11 (.int (nI 0))) = fv s0 12 0 := by
  funext k
  exact match k with | 0 => rfl | 1 => rfl | 2 => rfl | 3 => rfl | 4 => rfl | 5 => rfl | 6 => rfl | 7 => rfl | 8 => rfl | 9 => rfl | 10 => rfl | 11 => rfl | q + 12 => rfl
theorem n_X0_12 {sc : SC} {B : Nat → AE} (hB : ∀ i, 12 ≤ i → i < 18 → B i = TB i) : Cal sc mX0_init 5 48 [.ref 12] (aup B 12 (.inr (.inr (0, dV 12 0 12))), 13, true) (QB B 18) := by
  refine Cal.of gmX0_init (Nat.le_of_ble_eq_true rfl) ?_
  show Wp sc mX0_init 5 48 0 0 0 [(0, .ref 12)] [] (aup B 12 (.inr (.inr (0, dV 12 0 12))), 13, true) (QB B 18)
  refine r_aload_n rfl rfl ?_
  refine r_obj rfl obX0_3 obI obC rfl rfl ?_
  refine r_aload_n rfl rfl ?_
  refine n_iconst 0 rfl ?_
  refine q_putf rfl flX0_9 (okv_i _) (by decide) ?_
  refine r_aload_n rfl rfl ?_
  refine n_bipush 12 rfl (by decide) ?_
  refine q_newa3 rfl (by decide) ((aup_n _ _ (by decide)).trans ((hB 13 (by decide) (by decide)).trans rfl)) (by decide) (by decide) ?_
  refine q_putF rfl flX0_15 (fun r hr => by cases hr; rfl) rfl (okv_a _ _) (by decide) ?_
  refine r_aload_n rfl rfl ?_
  refine n_bipush 12 rfl (by decide) ?_
  refine q_newa0 rfl (by decide) ((aup_n _ _ (by decide)).trans ((hB 14 (by decide) (by decide)).trans rfl)) (by decide) (by decide) ?_
  refine q_putF rfl flX0_19 (fun r hr => by cases hr; rfl) rfl (okv_a _ _) (by decide) ?_
  refine r_aload_n rfl rfl ?_
  refine r_iconst (v := -1) rfl rfl ?_
  refine q_putf rfl flX0_23 (okv_i _) (by decide) ?_
  refine r_aload_n rfl rfl ?_
  refine n_iconst 0 rfl ?_
  refine q_putf rfl flX0_26 (okv_i _) (by decide) ?_
  refine r_aload_n rfl rfl ?_
  refine n_bipush 8 rfl (by decide) ?_
  refine q_newa0 rfl (by decide) ((aup_n _ _ (by decide)).trans ((hB 15 (by decide) (by decide)).trans rfl)) (by decide) (by decide) ?_
  refine q_putF rfl flX0_29 (fun r hr => by cases hr; rfl) rfl (okv_a _ _) (by decide) ?_
  refine r_aload_n rfl rfl ?_
  refine n_iconst 0 rfl ?_
  refine q_putf rfl flX0_32 (okv_i _) (by decide) ?_
  refine r_aload_n rfl rfl ?_
  refine n_bipush 8 rfl (by decide) ?_
  refine q_newa0 rfl (by decide) ((aup_n _ _ (by decide)).trans ((hB 16 (by decide) (by decide)).trans rfl)) (by decide) (by decide) ?_
  refine q_putF rfl flX0_35 (fun r hr => by cases hr; rfl) rfl (okv_a _ _) (by decide) ?_
  refine r_aload_n rfl rfl ?_
  refine n_bipush 8 rfl (by decide) ?_
  refine q_newa0 rfl (by decide) ((aup_n _ _ (by decide)).trans ((hB 17 (by decide) (by decide)).trans rfl)) (by decide) (by decide) ?_
  refine q_putF rfl flX0_38 (fun r hr => by cases hr; rfl) rfl (okv_a _ _) (by decide) ?_
  refine r_aload_n rfl rfl ?_
  refine n_iconst 4 rfl ?_
  refine q_putf rfl flX0_41 (okv_i _) (by decide) ?_
  refine r_aload_n rfl rfl ?_
  refine n_iconst 1 rfl ?_
  refine q_putf rfl flX0_44 (okv_i _) (by decide) ?_
  refine r_aload_n rfl rfl ?_
  refine n_iconst 0 rfl ?_
  refine q_putf rfl flX0_47 (okv_i _) (by decide) ?_
  refine r_vret rfl rfl (by decide) (by decide) ⟨rfl, rfl, fun i hi => ?_⟩
  show aup B 12 _ i = B i
  by_cases e : i = 12
  · rw [e, aup_s, hB 12 (by decide) (by decide)]; exact congrArg (fun V => (.inr (.inr (0, V)) : AE)) v_X0_12
  · exact aup_n _ _ e
theorem v_X8_18 : (aup (dV 18 8 1) 0 (.ref 19)) = fv s0 18 8 := by
  funext k
  exact match k with | 0 => rfl | q + 1 => rfl
theorem n_X8_18 {sc : SC} {B : Nat → AE} (hB : ∀ i, 18 ≤ i → i < 20 → B i = TB i) : Cal sc mX8_init 1 79 [.ref 18] (aup B 18 (.inr (.inr (8, dV 18 8 1))), 19, true) (QB B 20) := by
  refine Cal.of gmX8_init (Nat.le_of_ble_eq_true rfl) ?_
  show Wp sc mX8_init 1 79 0 0 0 [(0, .ref 18)] [] (aup B 18 (.inr (.inr (8, dV 18 8 1))), 19, true) (QB B 20)
  refine r_aload_n rfl rfl ?_
  refine r_obj rfl obX8_5 obI obC rfl rfl ?_
  refine r_aload_n rfl rfl ?_
  refine n_bipush 79 rfl (by decide) ?_
  refine r_newa0 rfl ac_int (by decide) rfl (by decide) (by decide) ?_
  show Wp sc mX8_init _ _ _ _ _ [(0, .ref 18)] _ (aup (aup B 18 (.inr (.inr (8, (dV 18 8 1))))) 19 (.inl (0, 79, fun _ => 0)), 20, true) _
  refine r_putF (V := (dV 18 8 1)) rfl flX8_11 (fun r hr => by cases hr; rfl) rfl (okv_a _ _) (show 18 < 20 by decide) rfl ?_
  refine r_aload_n rfl rfl ?_
  refine r_getf (V := (aup (dV 18 8 1) 0 (.ref 19))) (v := .ref 19) rfl flX8_11 (show 18 < 20 by decide) rfl rfl ?_
  refine n_bipush 78 rfl (by decide) ?_
  refine n_iconst 1 rfl ?_
  refine r_iast (nn := 79) (f := fun _ => 0) rfl (show 19 < 20 by decide) rfl (show 78 < 79 by decide) (show 79 < 2147483648 by decide) ?_
  refine r_vret rfl rfl (by decide) (by decide) ⟨rfl, rfl, fun i hi => ?_⟩
  show aup _ 19 _ i = B i
  by_cases e1 : i = 19
  · rw [e1, aup_s, hB 19 (by decide) (by decide)]; rfl
  · rw [aup_n _ _ e1]
    show aup _ 18 _ i = B i
    by_cases e : i = 18
    · rw [e, aup_s, hB 18 (by decide) (by decide)]; exact congrArg (fun V => (.inr (.inr (8, V)) : AE)) v_X8_18
    · rw [aup_n _ _ e]; show aup _ 19 _ i = B i; rw [aup_n _ _ e1, aup_n _ _ e]
theorem v_X2_21 : (aup (aup (aup (aup (aup (aup (aup (aup (aup (dV 21 2 9) 0 (.int (nI 0))) 1 (.int (nI 0))) 2 (.int (nI 0))) 3 (.int (nI 0))) 4 (.int (nI 0))) 5 (.ref 22)) 6 (.ref 23)) 7 (.ref 24)) 8 (.ref 25)) = fv s0 21 2 := by
  funext k
  exact match k with | 0 => rfl | 1 => rfl | 2 => rfl | 3 => rfl | 4 => rfl | 5 => rfl | 6 => rfl | 7 => rfl | 8 => rfl | q + 9 => rfl
theorem n_X2_21 {sc : SC} {B : Nat → AE} (hB : ∀ i, 21 ≤ i → i < 26 → B i = TB i) : Cal sc mX2_init 4 32 [.ref 21] (aup B 21 (.inr (.inr (2, dV 21 2 9))), 22, true) (QB B 26) := by
  refine Cal.of gmX2_init (Nat.le_of_ble_eq_true rfl) ?_
  show Wp sc mX2_init 4 32 0 0 0 [(0, .ref 21)] [] (aup B 21 (.inr (.inr (2, dV 21 2 9))), 22, true) (QB B 26)
  refine r_aload_n rfl rfl ?_
  refine r_obj rfl obX2_3 obI obC rfl rfl ?_
  refine r_aload_n rfl rfl ?_
  refine n_iconst 0 rfl ?_
  refine q_putf rfl flX2_9 (okv_i _) (by decide) ?_
  refine r_aload_n rfl rfl ?_
  refine n_iconst 0 rfl ?_
  refine q_putf rfl flX2_15 (okv_i _) (by decide) ?_
  refine r_aload_n rfl rfl ?_
  refine n_iconst 0 rfl ?_
  refine q_putf rfl flX2_18 (okv_i _) (by decide) ?_
  refine r_aload_n rfl rfl ?_
  refine n_iconst 0 rfl ?_
  refine q_putf rfl flX2_21 (okv_i _) (by decide) ?_
  refine r_aload_n rfl rfl ?_
  refine n_iconst 0 rfl ?_
  refine q_putf rfl flX2_24 (okv_i _) (by decide) ?_
  refine r_aload_n rfl rfl ?_
  refine n_bipush 8 rfl (by decide) ?_
  refine q_newa0 rfl (by decide) ((aup_n _ _ (by decide)).trans ((hB 22 (by decide) (by decide)).trans rfl)) (by decide) (by decide) ?_
  refine q_putF rfl flX2_27 (fun r hr => by cases hr; rfl) rfl (okv_a _ _) (by decide) ?_
  refine r_aload_n rfl rfl ?_
  refine n_bipush 8 rfl (by decide) ?_
  refine q_newa0 rfl (by decide) ((aup_n _ _ (by decide)).trans ((hB 23 (by decide) (by decide)).trans rfl)) (by decide) (by decide) ?_
  refine q_putF rfl flX2_31 (fun r hr => by cases hr; rfl) rfl (okv_a _ _) (by decide) ?_
  refine r_aload_n rfl rfl ?_
  refine n_bipush 8 rfl (by decide) ?_
  refine q_newa0 rfl (by decide) ((aup_n _ _ (by decide)).trans ((hB 24 (by decide) (by decide)).trans rfl)) (by decide) (by decide) ?_
  refine q_putF rfl flX2_34 (fun r hr => by cases hr; rfl) rfl (okv_a _ _) (by decide) ?_
  refine r_aload_n rfl rfl ?_
  refine n_bipush 8 rfl (by decide) ?_
  refine q_newa0 rfl (by decide) ((aup_n _ _ (by decide)).trans ((hB 25 (by decide) (by decide)).trans rfl)) (by decide) (by decide) ?_
  refine q_putF rfl flX2_37 (fun r hr => by cases hr; rfl) rfl (okv_a _ _) (by decide) ?_
  refine r_vret rfl rfl (by decide) (by decide) ⟨rfl, rfl, fun i hi => ?_⟩
  show aup B 21 _ i = B i
  by_cases e : i = 21
  · rw [e, aup_s, hB 21 (by decide) (by decide)]; exact congrArg (fun V => (.inr (.inr (2, V)) : AE)) v_X2_21
  · exact aup_n _ _ e
theorem v_X3_26 : (aup (aup (aup (aup (aup (dV 26 3 5) 0 (.int (nI 0))) 1 (.int (nI 0))) 2 (.ref 27)) 3 (.ref 28)) 4 (.ref 29)) = fv s0 26 3 := by
  funext k
  exact match k with | 0 => rfl | 1 => rfl | 2 => rfl | 3 => rfl | 4 => rfl | q + 5 => rfl
theorem n_X3_26 {sc : SC} {B : Nat → AE} (hB : ∀ i, 26 ≤ i → i < 30 → B i = TB i) : Cal sc mX3_init 3 37 [.ref 26] (aup B 26 (.inr (.inr (3, dV 26 3 5))), 27, true) (QB B 30) := by
  refine Cal.of gmX3_init (Nat.le_of_ble_eq_true rfl) ?_
  show Wp sc mX3_init 3 37 0 0 0 [(0, .ref 26)] [] (aup B 26 (.inr (.inr (3, dV 26 3 5))), 27, true) (QB B 30)
  refine r_aload_n rfl rfl ?_
  refine r_obj rfl obX3_3 obI obC rfl rfl ?_
  refine r_aload_n rfl rfl ?_
  refine n_iconst 0 rfl ?_
  refine q_putf rfl flX3_9 (okv_i _) (by decide) ?_
  refine r_aload_n rfl rfl ?_
  refine n_iconst 0 rfl ?_
  refine q_putf rfl flX3_15 (okv_i _) (by decide) ?_
  refine r_aload_n rfl rfl ?_
  refine n_bipush 13 rfl (by decide) ?_
  refine q_newa0 rfl (by decide) ((aup_n _ _ (by decide)).trans ((hB 27 (by decide) (by decide)).trans rfl)) (by decide) (by decide) ?_
  refine q_putF rfl flX3_18 (fun r hr => by cases hr; rfl) rfl (okv_a _ _) (by decide) ?_
  refine r_aload_n rfl rfl ?_
  refine n_bipush 12 rfl (by decide) ?_
  refine q_newa0 rfl (by decide) ((aup_n _ _ (by decide)).trans ((hB 28 (by decide) (by decide)).trans rfl)) (by decide) (by decide) ?_
  refine q_putF rfl flX3_22 (fun r hr => by cases hr; rfl) rfl (okv_a _ _) (by decide) ?_
  refine r_aload_n rfl rfl ?_
  refine n_bipush 12 rfl (by decide) ?_
  refine q_newa0 rfl (by decide) ((aup_n _ _ (by decide)).trans ((hB 29 (by decide) (by decide)).trans rfl)) (by decide) (by decide) ?_
  refine q_putF rfl flX3_25 (fun r hr => by cases hr; rfl) rfl (okv_a _ _) (by decide) ?_
  refine r_vret rfl rfl (by decide) (by decide) ⟨rfl, rfl, fun i hi => ?_⟩
  show aup B 26 _ i = B i
  by_cases e : i = 26
  · rw [e, aup_s, hB 26 (by decide) (by decide)]; exact congrArg (fun V => (.inr (.inr (3, V)) : AE)) v_X3_26
  · exact aup_n _ _ e
theorem v_X6_30 : (aup (aup (aup (aup (aup (aup (dV 30 6 6) 0 (.int (nI 0))) 1 (.int (nI 0))) 2 (.int (nI 0))) 3 (.ref 31)) 4 (.ref 32)) 5 (.ref 33)) = fv s0 30 6 := by
  funext k
  exact match k with | 0 => rfl | 1 => rfl | 2 => rfl | 3 => rfl | 4 => rfl | 5 => rfl | q + 6 => rfl
theorem n_X6_30 {sc : SC} {B : Nat → AE} (hB : ∀ i, 30 ≤ i → i < 34 → B i = TB i) : Cal sc mX6_init 3 36 [.ref 30] (aup B 30 (.inr (.inr (6, dV 30 6 6))), 31, true) (QB B 34) := by
  refine Cal.of gmX6_init (Nat.le_of_ble_eq_true rfl) ?_
  show Wp sc mX6_init 3 36 0 0 0 [(0, .ref 30)] [] (aup B 30 (.inr (.inr (6, dV 30 6 6))), 31, true) (QB B 34)
  refine r_aload_n rfl rfl ?_
  refine r_obj rfl obX6_3 obI obC rfl rfl ?_
  refine r_aload_n rfl rfl ?_
  refine n_iconst 0 rfl ?_
  refine q_putf rfl flX6_9 (okv_i _) (by decide) ?_
  refine r_aload_n rfl rfl ?_
  refine n_iconst 0 rfl ?_
  refine q_putf rfl flX6_15 (okv_i _) (by decide) ?_
  refine r_aload_n rfl rfl ?_
  refine n_iconst 0 rfl ?_
  refine q_putf rfl flX6_18 (okv_i _) (by decide) ?_
  refine r_aload_n rfl rfl ?_
  refine n_bipush 12 rfl (by decide) ?_
  refine q_newa0 rfl (by decide) ((aup_n _ _ (by decide)).trans ((hB 31 (by decide) (by decide)).trans rfl)) (by decide) (by decide) ?_
  refine q_putF rfl flX6_21 (fun r hr => by cases hr; rfl) rfl (okv_a _ _) (by decide) ?_
  refine r_aload_n rfl rfl ?_
  refine n_bipush 12 rfl (by decide) ?_
  refine q_newa0 rfl (by decide) ((aup_n _ _ (by decide)).trans ((hB 32 (by decide) (by decide)).trans rfl)) (by decide) (by decide) ?_
  refine q_putF rfl flX6_25 (fun r hr => by cases hr; rfl) rfl (okv_a _ _) (by decide) ?_
  refine r_aload_n rfl rfl ?_
  refine n_bipush 12 rfl (by decide) ?_
  refine q_newa0 rfl (by decide) ((aup_n _ _ (by decide)).trans ((hB 33 (by decide) (by decide)).trans rfl)) (by decide) (by decide) ?_
  refine q_putF rfl flX6_28 (fun r hr => by cases hr; rfl) rfl (okv_a _ _) (by decide) ?_
  refine r_vret rfl rfl (by decide) (by decide) ⟨rfl, rfl, fun i hi => ?_⟩
  show aup B 30 _ i = B i
  by_cases e : i = 30
  · rw [e, aup_s, hB 30 (by decide) (by decide)]; exact congrArg (fun V => (.inr (.inr (6, V)) : AE)) v_X6_30
  · exact aup_n _ _ e
theorem v_X7_20 : (aup (aup (aup (aup (aup (aup (aup (aup (dV 20 7 8) 0 (.ref 21)) 1 (.ref 26)) 2 (.ref 30)) 3 (.int (nI 0))) 4 (.int (nI 0))) 5 (.int (nI 0))) 6 (.int (nI 0))) 7 (.int (nI 0))) = fv s0 20 7 := by
  funext k
  exact match k with | 0 => rfl | 1 => rfl | 2 => rfl | 3 => rfl | 4 => rfl | 5 => rfl | 6 => rfl | 7 => rfl | q + 8 => rfl
theorem n_X7_20 {sc : SC} {B : Nat → AE} (hB : ∀ i, 20 ≤ i → i < 34 → B i = TB i) : Cal sc mX7_init 13 125 [.ref 20] (aup B 20 (.inr (.inr (7, dV 20 7 8))), 21, true) (QB B 34) := by
  refine Cal.of gmX7_init (Nat.le_of_ble_eq_true rfl) ?_
  show Wp sc mX7_init 13 125 0 0 0 [(0, .ref 20)] [] (aup B 20 (.inr (.inr (7, dV 20 7 8))), 21, true) (QB B 34)
  refine r_aload_n rfl rfl ?_
  refine r_obj rfl obX7_3 obI obC rfl rfl ?_
  refine r_aload_n rfl rfl ?_
  refine r_new (V := dV 21 2 9) rfl ciX2 nwX7_9.1 nwX7_9.2.1 nwX7_9.2.2 (dV_cv 21 2 9) rfl (by decide) (by decide) ?_
  show Wp sc mX7_init _ _ _ _ _ [(0, .ref 20)] _ (aup (aup B 20 (.inr (.inr (7, (dV 20 7 8))))) 21 (.inr (.inr (2, dV 21 2 9))), 22, true) _
  refine r_dup rfl rfl ?_
  refine q_iniN (B := aup B 20 (.inr (.inr (7, (dV 20 7 8))))) rfl lkX7_11 (n_X2_21 (fun i h1 h2 => (aup_n _ _ (by omega)).trans (hB i (by omega) (by omega)))) rfl (by decide) (by decide) ?_
  refine q_putF rfl flX7_12 (fun r hr => by cases hr; rfl) rfl (okv_o _ _) (by decide) ?_
  refine r_aload_n rfl rfl ?_
  refine r_new (V := dV 26 3 5) rfl ciX3 nwX7_18.1 nwX7_18.2.1 nwX7_18.2.2 (dV_cv 26 3 5) rfl (by decide) (by decide) ?_
  show Wp sc mX7_init _ _ _ _ _ [(0, .ref 20)] _ (aup (aup B 20 (.inr (.inr (7, (aup (dV 20 7 8) 0 (.ref 21)))))) 26 (.inr (.inr (3, dV 26 3 5))), 27, true) _
  refine r_dup rfl rfl ?_
  refine q_iniN (B := aup B 20 (.inr (.inr (7, (aup (dV 20 7 8) 0 (.ref 21)))))) rfl lkX7_20 (n_X3_26 (fun i h1 h2 => (aup_n _ _ (by omega)).trans (hB i (by omega) (by omega)))) rfl (by decide) (by decide) ?_
  refine q_putF rfl flX7_21 (fun r hr => by cases hr; rfl) rfl (okv_o _ _) (by decide) ?_
  refine r_aload_n rfl rfl ?_
  refine r_new (V := dV 30 6 6) rfl ciX6 nwX7_25.1 nwX7_25.2.1 nwX7_25.2.2 (dV_cv 30 6 6) rfl (by decide) (by decide) ?_
  show Wp sc mX7_init _ _ _ _ _ [(0, .ref 20)] _ (aup (aup B 20 (.inr (.inr (7, (aup (aup (dV 20 7 8) 0 (.ref 21)) 1 (.ref 26)))))) 30 (.inr (.inr (6, dV 30 6 6))), 31, true) _
  refine r_dup rfl rfl ?_
  refine q_iniN (B := aup B 20 (.inr (.inr (7, (aup (aup (dV 20 7 8) 0 (.ref 21)) 1 (.ref 26)))))) rfl lkX7_27 (n_X6_30 (fun i h1 h2 => (aup_n _ _ (by omega)).trans (hB i (by omega) (by omega)))) rfl (by decide) (by decide) ?_
  refine q_putF rfl flX7_28 (fun r hr => by cases hr; rfl) rfl (okv_o _ _) (by decide) ?_
  refine r_aload_n rfl rfl ?_
  refine n_iconst 0 rfl ?_
  refine q_putf rfl flX7_32 (okv_i _) (by decide) ?_
  refine r_aload_n rfl rfl ?_
  refine n_iconst 0 rfl ?_
  refine q_putf rfl flX7_36 (okv_i _) (by decide) ?_
  refine r_aload_n rfl rfl ?_
  refine n_iconst 0 rfl ?_
  refine q_putf rfl flX7_39 (okv_i _) (by decide) ?_
  refine r_aload_n rfl rfl ?_
  refine n_iconst 0 rfl ?_
  refine q_putf rfl flX7_42 (okv_i _) (by decide) ?_
  refine r_aload_n rfl rfl ?_
  refine n_iconst 0 rfl ?_
  refine q_putf rfl flX7_45 (okv_i _) (by decide) ?_
  refine r_vret rfl rfl (by decide) (by decide) ⟨rfl, rfl, fun i hi => ?_⟩
  show aup B 20 _ i = B i
  by_cases e : i = 20
  · rw [e, aup_s, hB 20 (by decide) (by decide)]; exact congrArg (fun V => (.inr (.inr (7, V)) : AE)) v_X7_20
  · exact aup_n _ _ e
theorem v_X8_34 : (aup (dV 34 8 1) 0 (.ref 35)) = fv s0 34 8 := by
  funext k
  exact match k with | 0 => rfl | q + 1 => rfl
theorem n_X8_34 {sc : SC} {B : Nat → AE} (hB : ∀ i, 34 ≤ i → i < 36 → B i = TB i) : Cal sc mX8_init 1 79 [.ref 34] (aup B 34 (.inr (.inr (8, dV 34 8 1))), 35, true) (QB B 36) := by
  refine Cal.of gmX8_init (Nat.le_of_ble_eq_true rfl) ?_
  show Wp sc mX8_init 1 79 0 0 0 [(0, .ref 34)] [] (aup B 34 (.inr (.inr (8, dV 34 8 1))), 35, true) (QB B 36)
  refine r_aload_n rfl rfl ?_
  refine r_obj rfl obX8_5 obI obC rfl rfl ?_
  refine r_aload_n rfl rfl ?_
  refine n_bipush 79 rfl (by decide) ?_
  refine r_newa0 rfl ac_int (by decide) rfl (by decide) (by decide) ?_
  show Wp sc mX8_init _ _ _ _ _ [(0, .ref 34)] _ (aup (aup B 34 (.inr (.inr (8, (dV 34 8 1))))) 35 (.inl (0, 79, fun _ => 0)), 36, true) _
  refine r_putF (V := (dV 34 8 1)) rfl flX8_11 (fun r hr => by cases hr; rfl) rfl (okv_a _ _) (show 34 < 36 by decide) rfl ?_
  refine r_aload_n rfl rfl ?_
  refine r_getf (V := (aup (dV 34 8 1) 0 (.ref 35))) (v := .ref 35) rfl flX8_11 (show 34 < 36 by decide) rfl rfl ?_
  refine n_bipush 78 rfl (by decide) ?_
  refine n_iconst 1 rfl ?_
  refine r_iast (nn := 79) (f := fun _ => 0) rfl (show 35 < 36 by decide) rfl (show 78 < 79 by decide) (show 79 < 2147483648 by decide) ?_
  refine r_vret rfl rfl (by decide) (by decide) ⟨rfl, rfl, fun i hi => ?_⟩
  show aup _ 35 _ i = B i
  by_cases e1 : i = 35
  · rw [e1, aup_s, hB 35 (by decide) (by decide)]; rfl
  · rw [aup_n _ _ e1]
    show aup _ 34 _ i = B i
    by_cases e : i = 34
    · rw [e, aup_s, hB 34 (by decide) (by decide)]; exact congrArg (fun V => (.inr (.inr (8, V)) : AE)) v_X8_34
    · rw [aup_n _ _ e]; show aup _ 35 _ i = B i; rw [aup_n _ _ e1, aup_n _ _ e]
theorem v_X2_37 : (aup (aup (aup (aup (aup (aup (aup (aup (aup (dV 37 2 9) 0 (.int (nI 0))) 1 (.int (nI 0))) 2 (.int (nI 0))) 3 (.int (nI 0))) 4 (.int (nI 0))) 5 (.ref 38)) 6 (.ref 39)) 7 (.ref 40)) 8 (.ref 41)) = fv s0 37 2 := by
  funext k
  exact match k with | 0 => rfl | 1 => rfl | 2 => rfl | 3 => rfl | 4 => rfl | 5 => rfl | 6 => rfl | 7 => rfl | 8 => rfl | q + 9 => rfl
theorem n_X2_37 {sc : SC} {B : Nat → AE} (hB : ∀ i, 37 ≤ i → i < 42 → B i = TB i) : Cal sc mX2_init 4 32 [.ref 37] (aup B 37 (.inr (.inr (2, dV 37 2 9))), 38, true) (QB B 42) := by
  refine Cal.of gmX2_init (Nat.le_of_ble_eq_true rfl) ?_
  show Wp sc mX2_init 4 32 0 0 0 [(0, .ref 37)] [] (aup B 37 (.inr (.inr (2, dV 37 2 9))), 38, true) (QB B 42)
  refine r_aload_n rfl rfl ?_
  refine r_obj rfl obX2_3 obI obC rfl rfl ?_
  refine r_aload_n rfl rfl ?_
  refine n_iconst 0 rfl ?_
  refine q_putf rfl flX2_9 (okv_i _) (by decide) ?_
  refine r_aload_n rfl rfl ?_
  refine n_iconst 0 rfl ?_
  refine q_putf rfl flX2_15 (okv_i _) (by decide) ?_
  refine r_aload_n rfl rfl ?_
  refine n_iconst 0 rfl ?_
  refine q_putf rfl flX2_18 (okv_i _) (by decide) ?_
  refine r_aload_n rfl rfl ?_
  refine n_iconst 0 rfl ?_
  refine q_putf rfl flX2_21 (okv_i _) (by decide) ?_
  refine r_aload_n rfl rfl ?_
  refine n_iconst 0 rfl ?_
  refine q_putf rfl flX2_24 (okv_i _) (by decide) ?_
  refine r_aload_n rfl rfl ?_
  refine n_bipush 8 rfl (by decide) ?_
  refine q_newa0 rfl (by decide) ((aup_n _ _ (by decide)).trans ((hB 38 (by decide) (by decide)).trans rfl)) (by decide) (by decide) ?_
  refine q_putF rfl flX2_27 (fun r hr => by cases hr; rfl) rfl (okv_a _ _) (by decide) ?_
  refine r_aload_n rfl rfl ?_
  refine n_bipush 8 rfl (by decide) ?_
  refine q_newa0 rfl (by decide) ((aup_n _ _ (by decide)).trans ((hB 39 (by decide) (by decide)).trans rfl)) (by decide) (by decide) ?_
  refine q_putF rfl flX2_31 (fun r hr => by cases hr; rfl) rfl (okv_a _ _) (by decide) ?_
  refine r_aload_n rfl rfl ?_
  refine n_bipush 8 rfl (by decide) ?_
  refine q_newa0 rfl (by decide) ((aup_n _ _ (by decide)).trans ((hB 40 (by decide) (by decide)).trans rfl)) (by decide) (by decide) ?_
  refine q_putF rfl flX2_34 (fun r hr => by cases hr; rfl) rfl (okv_a _ _) (by decide) ?_
  refine r_aload_n rfl rfl ?_
  refine n_bipush 8 rfl (by decide) ?_
  refine q_newa0 rfl (by decide) ((aup_n _ _ (by decide)).trans ((hB 41 (by decide) (by decide)).trans rfl)) (by decide) (by decide) ?_
  refine q_putF rfl flX2_37 (fun r hr => by cases hr; rfl) rfl (okv_a _ _) (by decide) ?_
  refine r_vret rfl rfl (by decide) (by decide) ⟨rfl, rfl, fun i hi => ?_⟩
  show aup B 37 _ i = B i
  by_cases e : i = 37
  · rw [e, aup_s, hB 37 (by decide) (by decide)]; exact congrArg (fun V => (.inr (.inr (2, V)) : AE)) v_X2_37
  · exact aup_n _ _ e
theorem v_X3_42 : (aup (aup (aup (aup (aup (dV 42 3 5) 0 (.int (nI 0))) 1 (.int (nI 0))) 2 (.ref 43)) 3 (.ref 44)) 4 (.ref 45)) = fv s0 42 3 := by
  funext k
  exact match k with | 0 => rfl | 1 => rfl | 2 => rfl | 3 => rfl | 4 => rfl | q + 5 => rfl
theorem n_X3_42 {sc : SC} {B : Nat → AE} (hB : ∀ i, 42 ≤ i → i < 46 → B i = TB i) : Cal sc mX3_init 3 37 [.ref 42] (aup B 42 (.inr (.inr (3, dV 42 3 5))), 43, true) (QB B 46) := by
  refine Cal.of gmX3_init (Nat.le_of_ble_eq_true rfl) ?_
  show Wp sc mX3_init 3 37 0 0 0 [(0, .ref 42)] [] (aup B 42 (.inr (.inr (3, dV 42 3 5))), 43, true) (QB B 46)
  refine r_aload_n rfl rfl ?_
  refine r_obj rfl obX3_3 obI obC rfl rfl ?_
  refine r_aload_n rfl rfl ?_
  refine n_iconst 0 rfl ?_
  refine q_putf rfl flX3_9 (okv_i _) (by decide) ?_
  refine r_aload_n rfl rfl ?_
  refine n_iconst 0 rfl ?_
  refine q_putf rfl flX3_15 (okv_i _) (by decide) ?_
  refine r_aload_n rfl rfl ?_
  refine n_bipush 13 rfl (by decide) ?_
  refine q_newa0 rfl (by decide) ((aup_n _ _ (by decide)).trans ((hB 43 (by decide) (by decide)).trans rfl)) (by decide) (by decide) ?_
  refine q_putF rfl flX3_18 (fun r hr => by cases hr; rfl) rfl (okv_a _ _) (by decide) ?_
  refine r_aload_n rfl rfl ?_
  refine n_bipush 12 rfl (by decide) ?_
  refine q_newa0 rfl (by decide) ((aup_n _ _ (by decide)).trans ((hB 44 (by decide) (by decide)).trans rfl)) (by decide) (by decide) ?_
  refine q_putF rfl flX3_22 (fun r hr => by cases hr; rfl) rfl (okv_a _ _) (by decide) ?_
  refine r_aload_n rfl rfl ?_
  refine n_bipush 12 rfl (by decide) ?_
  refine q_newa0 rfl (by decide) ((aup_n _ _ (by decide)).trans ((hB 45 (by decide) (by decide)).trans rfl)) (by decide) (by decide) ?_
  refine q_putF rfl flX3_25 (fun r hr => by cases hr; rfl) rfl (okv_a _ _) (by decide) ?_
  refine r_vret rfl rfl (by decide) (by decide) ⟨rfl, rfl, fun i hi => ?_⟩
  show aup B 42 _ i = B i
  by_cases e : i = 42
  · rw [e, aup_s, hB 42 (by decide) (by decide)]; exact congrArg (fun V => (.inr (.inr (3, V)) : AE)) v_X3_42
  · exact aup_n _ _ e
theorem v_X6_46 : (aup (aup (aup (aup (aup (aup (dV 46 6 6) 0 (.int (nI 0))) 1 (.int (nI 0))) 2 (.int (nI 0))) 3 (.ref 47)) 4 (.ref 48)) 5 (.ref 49)) = fv s0 46 6 := by
  funext k
  exact match k with | 0 => rfl | 1 => rfl | 2 => rfl | 3 => rfl | 4 => rfl | 5 => rfl | q + 6 => rfl
theorem n_X6_46 {sc : SC} {B : Nat → AE} (hB : ∀ i, 46 ≤ i → i < 50 → B i = TB i) : Cal sc mX6_init 3 36 [.ref 46] (aup B 46 (.inr (.inr (6, dV 46 6 6))), 47, true) (QB B 50) := by
  refine Cal.of gmX6_init (Nat.le_of_ble_eq_true rfl) ?_
  show Wp sc mX6_init 3 36 0 0 0 [(0, .ref 46)] [] (aup B 46 (.inr (.inr (6, dV 46 6 6))), 47, true) (QB B 50)
  refine r_aload_n rfl rfl ?_
  refine r_obj rfl obX6_3 obI obC rfl rfl ?_
  refine r_aload_n rfl rfl ?_
  refine n_iconst 0 rfl ?_
  refine q_putf rfl flX6_9 (okv_i _) (by decide) ?_
  refine r_aload_n rfl rfl ?_
  refine n_iconst 0 rfl ?_
  refine q_putf rfl flX6_15 (okv_i _) (by decide) ?_
  refine r_aload_n rfl rfl ?_
  refine n_iconst 0 rfl ?_
  refine q_putf rfl flX6_18 (okv_i _) (by decide) ?_
  refine r_aload_n rfl rfl ?_
  refine n_bipush 12 rfl (by decide) ?_
  refine q_newa0 rfl (by decide) ((aup_n _ _ (by decide)).trans ((hB 47 (by decide) (by decide)).trans rfl)) (by decide) (by decide) ?_
  refine q_putF rfl flX6_21 (fun r hr => by cases hr; rfl) rfl (okv_a _ _) (by decide) ?_
  refine r_aload_n rfl rfl ?_
  refine n_bipush 12 rfl (by decide) ?_
  refine q_newa0 rfl (by decide) ((aup_n _ _ (by decide)).trans ((hB 48 (by decide) (by decide)).trans rfl)) (by decide) (by decide) ?_
  refine q_putF rfl flX6_25 (fun r hr => by cases hr; rfl) rfl (okv_a _ _) (by decide) ?_
  refine r_aload_n rfl rfl ?_
  refine n_bipush 12 rfl (by decide) ?_
  refine q_newa0 rfl (by decide) ((aup_n _ _ (by decide)).trans ((hB 49 (by decide) (by decide)).trans rfl)) (by decide) (by decide) ?_
  refine q_putF rfl flX6_28 (fun r hr => by cases hr; rfl) rfl (okv_a _ _) (by decide) ?_
  refine r_vret rfl rfl (by decide) (by decide) ⟨rfl, rfl, fun i hi => ?_⟩
  show aup B 46 _ i = B i
  by_cases e : i = 46
  · rw [e, aup_s, hB 46 (by decide) (by decide)]; exact congrArg (fun V => (.inr (.inr (6, V)) : AE)) v_X6_46
  · exact aup_n _ _ e
theorem v_X7_36 : (aup (aup (aup (aup (aup (aup (aup (aup (dV 36 7 8) 0 (.ref 37)) 1 (.ref 42)) 2 (.ref 46)) 3 (.int (nI 0))) 4 (.int (nI 0))) 5 (.int (nI 0))) 6 (.int (nI 0))) 7 (.int (nI 0))) = fv s0 36 7 := by
  funext k
  exact match k with | 0 => rfl | 1 => rfl | 2 => rfl | 3 => rfl | 4 => rfl | 5 => rfl | 6 => rfl | 7 => rfl | q + 8 => rfl
theorem n_X7_36 {sc : SC} {B : Nat → AE} (hB : ∀ i, 36 ≤ i → i < 50 → B i = TB i) : Cal sc mX7_init 13 125 [.ref 36] (aup B 36 (.inr (.inr (7, dV 36 7 8))), 37, true) (QB B 50) := by
  refine Cal.of gmX7_init (Nat.le_of_ble_eq_true rfl) ?_
  show Wp sc mX7_init 13 125 0 0 0 [(0, .ref 36)] [] (aup B 36 (.inr (.inr (7, dV 36 7 8))), 37, true) (QB B 50)
  refine r_aload_n rfl rfl ?_
  refine r_obj rfl obX7_3 obI obC rfl rfl ?_
  refine r_aload_n rfl rfl ?_
  refine r_new (V := dV 37 2 9) rfl ciX2 nwX7_9.1 nwX7_9.2.1 nwX7_9.2.2 (dV_cv 37 2 9) rfl (by decide) (by decide) ?_
  show Wp sc mX7_init _ _ _ _ _ [(0, .ref 36)] _ (aup (aup B 36 (.inr (.inr (7, (dV 36 7 8))))) 37 (.inr (.inr (2, dV 37 2 9))), 38, true) _
  refine r_dup rfl rfl ?_
  refine q_iniN (B := aup B 36 (.inr (.inr (7, (dV 36 7 8))))) rfl lkX7_11 (n_X2_37 (fun i h1 h2 => (aup_n _ _ (by omega)).trans (hB i (by omega) (by omega)))) rfl (by decide) (by decide) ?_
  refine q_putF rfl flX7_12 (fun r hr => by cases hr; rfl) rfl (okv_o _ _) (by decide) ?_
  refine r_aload_n rfl rfl ?_
  refine r_new (V := dV 42 3 5) rfl ciX3 nwX7_18.1 nwX7_18.2.1 nwX7_18.2.2 (dV_cv 42 3 5) rfl (by decide) (by decide) ?_
  show Wp sc mX7_init _ _ _ _ _ [(0, .ref 36)] _ (aup (aup B 36 (.inr (.inr (7, (aup (dV 36 7 8) 0 (.ref 37)))))) 42 (.inr (.inr (3, dV 42 3 5))), 43, true) _
  refine r_dup rfl rfl ?_
  refine q_iniN (B := aup B 36 (.inr (.inr (7, (aup (dV 36 7 8) 0 (.ref 37)))))) rfl lkX7_20 (n_X3_42 (fun i h1 h2 => (aup_n _ _ (by omega)).trans (hB i (by omega) (by omega)))) rfl (by decide) (by decide) ?_
  refine q_putF rfl flX7_21 (fun r hr => by cases hr; rfl) rfl (okv_o _ _) (by decide) ?_
  refine r_aload_n rfl rfl ?_
  refine r_new (V := dV 46 6 6) rfl ciX6 nwX7_25.1 nwX7_25.2.1 nwX7_25.2.2 (dV_cv 46 6 6) rfl (by decide) (by decide) ?_
  show Wp sc mX7_init _ _ _ _ _ [(0, .ref 36)] _ (aup (aup B 36 (.inr (.inr (7, (aup (aup (dV 36 7 8) 0 (.ref 37)) 1 (.ref 42)))))) 46 (.inr (.inr (6, dV 46 6 6))), 47, true) _
  refine r_dup rfl rfl ?_
  refine q_iniN (B := aup B 36 (.inr (.inr (7, (aup (aup (dV 36 7 8) 0 (.ref 37)) 1 (.ref 42)))))) rfl lkX7_27 (n_X6_46 (fun i h1 h2 => (aup_n _ _ (by omega)).trans (hB i (by omega) (by omega)))) rfl (by decide) (by decide) ?_
  refine q_putF rfl flX7_28 (fun r hr => by cases hr; rfl) rfl (okv_o _ _) (by decide) ?_
  refine r_aload_n rfl rfl ?_
  refine n_iconst 0 rfl ?_
  refine q_putf rfl flX7_32 (okv_i _) (by decide) ?_
  refine r_aload_n rfl rfl ?_
  refine n_iconst 0 rfl ?_
  refine q_putf rfl flX7_36 (okv_i _) (by decide) ?_
  refine r_aload_n rfl rfl ?_
  refine n_iconst 0 rfl ?_
  refine q_putf rfl flX7_39 (okv_i _) (by decide) ?_
  refine r_aload_n rfl rfl ?_
  refine n_iconst 0 rfl ?_
  refine q_putf rfl flX7_42 (okv_i _) (by decide) ?_
  refine r_aload_n rfl rfl ?_
  refine n_iconst 0 rfl ?_
  refine q_putf rfl flX7_45 (okv_i _) (by decide) ?_
  refine r_vret rfl rfl (by decide) (by decide) ⟨rfl, rfl, fun i hi => ?_⟩
  show aup B 36 _ i = B i
  by_cases e : i = 36
  · rw [e, aup_s, hB 36 (by decide) (by decide)]; exact congrArg (fun V => (.inr (.inr (7, V)) : AE)) v_X7_36
  · exact aup_n _ _ e
theorem v_X4_50 : (aup (aup (aup (aup (dV 50 4 4) 0 (.ref 51)) 1 (.ref 52)) 2 (.int (nI 0))) 3 (.int (nI 0))) = fv s0 50 4 := by
  funext k
  exact match k with | 0 => rfl | 1 => rfl | 2 => rfl | 3 => rfl | q + 4 => rfl
theorem n_X4_50 {sc : SC} {B : Nat → AE} (hB : ∀ i, 50 ≤ i → i < 53 → B i = TB i) : Cal sc mX4_init 2 948 [.ref 50] (aup B 50 (.inr (.inr (4, dV 50 4 4))), 51, true) (QB B 53) := by
  refine Cal.of gmX4_init (Nat.le_of_ble_eq_true rfl) ?_
  show Wp sc mX4_init 2 948 0 0 0 [(0, .ref 50)] [] (aup B 50 (.inr (.inr (4, dV 50 4 4))), 51, true) (QB B 53)
  refine r_aload_n rfl rfl ?_
  refine r_obj rfl obX4_3 obI obC rfl rfl ?_
  refine r_aload_n rfl rfl ?_
  refine n_sipush 790 rfl (by decide) ?_
  refine q_newa0 rfl (by decide) ((aup_n _ _ (by decide)).trans ((hB 51 (by decide) (by decide)).trans rfl)) (by decide) (by decide) ?_
  refine q_putF rfl flX4_11 (fun r hr => by cases hr; rfl) rfl (okv_a _ _) (by decide) ?_
  refine r_aload_n rfl rfl ?_
  refine n_sipush 158 rfl (by decide) ?_
  refine q_newa0 rfl (by decide) ((aup_n _ _ (by decide)).trans ((hB 52 (by decide) (by decide)).trans rfl)) (by decide) (by decide) ?_
  refine q_putF rfl flX4_17 (fun r hr => by cases hr; rfl) rfl (okv_a _ _) (by decide) ?_
  refine r_aload_n rfl rfl ?_
  refine n_iconst 0 rfl ?_
  refine q_putf rfl flX4_20 (okv_i _) (by decide) ?_
  refine r_aload_n rfl rfl ?_
  refine n_iconst 0 rfl ?_
  refine q_putf rfl flX4_24 (okv_i _) (by decide) ?_
  refine r_vret rfl rfl (by decide) (by decide) ⟨rfl, rfl, fun i hi => ?_⟩
  show aup B 50 _ i = B i
  by_cases e : i = 50
  · rw [e, aup_s, hB 50 (by decide) (by decide)]; exact congrArg (fun V => (.inr (.inr (4, V)) : AE)) v_X4_50
  · exact aup_n _ _ e
