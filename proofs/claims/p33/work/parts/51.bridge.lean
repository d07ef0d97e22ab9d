/-! Between the law's heap and the class's: the class's 53 places stand first; what lies behind them a call of the class leaves alone. -/
def jkE : AE := .inr (.inr (50, fun _ => .null))
theorem Rep.sync {κ : KX} {S : AS} {H : Heap} (hR : Rep κ S H) (h : 54 ≤ S.2.1) : Rep κ (fun i => if i < S.2.1 then S.1 i else jkE, H.size - kB κ, true) H := by
  have hz := hR.2.1.1
  have h53 := hR.2.2 53 (by omega)
  refine ⟨fun i hi hj => ?_, ⟨?_, fun _ => ?_⟩, fun i hi => ?_⟩
  · by_cases q : i < S.2.1
    · have e : (if i < S.2.1 then S.1 i else jkE) = S.1 i := if_pos q
      have hj2 : jk (if i < S.2.1 then S.1 i else jkE) = false := hj
      show va_at _ _ (_, conv κ (if i < S.2.1 then S.1 i else jkE)) H
      rw [e] at hj2 ⊢
      exact hR.1 i q hj2
    · have e : (if i < S.2.1 then S.1 i else jkE) = jkE := if_neg q
      have hj2 : jk (if i < S.2.1 then S.1 i else jkE) = false := hj
      rw [e] at hj2
      exact absurd hj2 (by decide)
  · show kB κ + (H.size - kB κ) ≤ H.size
    omega
  · show H.size = kB κ + (H.size - kB κ)
    omega
  · by_cases q : i < 53
    · exact ⟨Nat.le_add_right _ _, Or.inr (by omega)⟩
    · refine ⟨Nat.le_add_right _ _, Or.inl ?_⟩
      rcases h53.2 with h1 | h1 <;> omega
/-- the heap's size is known again -/
theorem Wp.sync {sc : SC} {μ : MI} {mc ms k n pc : Nat} {lv : List (Nat × Value)} {st : List Value} {S : AS} {Q : Out → AS → Prop} (h : 54 ≤ S.2.1) (kk : ∀ S' : AS, S.2.1 ≤ S'.2.1 → S'.2.2 = true → (∀ i, i < S.2.1 → S'.1 i = S.1 i) → Wp sc μ mc ms k n pc lv st S' Q) : Wp sc μ mc ms k n pc lv st S Q :=
  fun l κ p e s m args below meth c H locs ls hfl hC hS hR hlv => kk (fun i => if i < S.2.1 then S.1 i else jkE, H.size - kB κ, true) (by have := hR.2.1.1; show S.2.1 ≤ H.size - kB κ; omega) rfl (fun i hi => if_pos hi) l κ p e s m args below meth c H locs ls hfl hC hS (hR.sync h) hlv
def κU (κ : KX) (u : Nat) : KX := (κ.1, κ.2.1, κ.2.2.1, κ.2.2.2.1, κ.2.2.2.2.1, κ.2.2.2.2.2.1, u, κ.2.2.2.2.2.2.2)
theorem cvU (κ : KX) (u : Nat) (v : Value) : cv (κU κ u) v = cv κ v := by cases v <;> rfl
theorem cvsU (κ : KX) (u : Nat) (as : List Value) : cvs (κU κ u) as = cvs κ as := List.map_congr_left fun v _ => cvU κ u v
theorem adrU (κ : KX) (u : Nat) (v : Value) : adr (κU κ u) v = adr κ v := by cases v <;> rfl
theorem convU (κ : KX) (u : Nat) (e : AE) : conv (κU κ u) e = conv κ e := by
  rcases e with a | a | o
  · rfl
  · rfl
  · show (if o.1 < 50 then _ else _) = (if o.1 < 50 then _ else _)
    split
    · congr 2
    · congr 2
theorem kFU {κ : KX} {u : Nat} (hu : kU κ ≤ u) : ∀ q, kF (κU κ u) q → kF κ q := fun q hq => ⟨hq.1, hq.2.imp (fun h => Nat.le_trans hu h) id⟩
theorem Gd.sub {κ : KX} {sc : SC} {U : State} (h : Gd κ sc U) : Gd (κU κ U.heap.size) sc U := by
  obtain ⟨⟨g1, g1b⟩, g2, ⟨g3, g4, g4b, g4c, g4d⟩, ⟨g5, g6⟩, g7, ⟨g10, g11, g12⟩⟩ := h
  have hs := kFU g1b.2
  exact ⟨⟨g1, g1b.1, Nat.le_refl _⟩, fun i x hx => ⟨⟨(g2 i x hx).1.1.narrow hs, (g2 i x hx).1.2.1.narrow hs, (g2 i x hx).1.2.2.1.narrow hs, (g2 i x hx).1.2.2.2.narrow hs⟩, (g2 i x hx).2⟩, ⟨g3.narrow hs, g4.narrow hs, fun i hi => ⟨(g4b i hi).1.narrow hs, (g4b i hi).2.narrow hs⟩, g4c, g4d⟩, ⟨g5.narrow hs, g6.narrow hs⟩, g7, ⟨g10, g11, fun z => g12 (hs _ z)⟩⟩
/-- the frame: a call that knows the first 53 places alone -/
theorem Cal.frame {sc : SC} {ν : MI} {ms : Nat} {as : List Value} {S0 S : AS} {Q : Out → AS → Prop} (h : Cal sc ν 0 ms as S0 Q) (h0 : S0.2 = (53, false)) (hn : 53 ≤ S.2.1) (hag : ∀ i, i < 53 → S0.1 i = S.1 i) (hq : ∀ o S1, Q o S1 → S1.2 = (53, false)) (hno : ∀ ec S1, ¬ Q (.inr ec) S1) : Cal sc ν 0 ms as S (fun o S' => ∃ S1 : AS, Q o S1 ∧ S' = (fun i => if i < 53 then S1.1 i else S.1 i, S.2)) := by
  intro l κ hfl p e ha hc hk s m args below hf happ hP hK
  obtain ⟨hP1, hP2, hP3⟩ := hP
  have hs := kFU (κ := κ) (u := s.heap.size) hP2.1.2.2
  have h01 : S0.2.1 = 53 := by rw [h0]
  have hR0 : Rep (κU κ s.heap.size) S0 s.heap := by
    refine ⟨fun i hi hj => ?_, ⟨?_, fun z => ?_⟩, fun i hi => ⟨Nat.le_add_right _ _, Or.inr ?_⟩⟩
    · rw [h01] at hi
      rw [convU, hag i hi]
      rw [hag i hi] at hj
      exact hP3.1 i (by omega) hj
    · have := hP3.2.1.1
      show kB κ + S0.2.1 ≤ _
      omega
    · rw [h0] at z
      cases z
    · rw [h01] at hi
      show kB κ + i < kB κ + 53
      omega
  obtain ⟨n, o, h1, h2, h3, h4⟩ := h l (κU κ s.heap.size) hfl p e ha hc hk s m args below hf happ ⟨by rw [cvsU]; exact hP1, hP2.sub, hR0⟩ hK
  refine ⟨n, o, h1, h2, h3, ?_⟩
  rcases h4 with ⟨⟨⟨r, S', e1, e2, e3⟩, hF⟩, hL⟩ | ⟨q, e1, E, ce, L, ⟨⟨ec, S', f1, f2, f3, f4⟩, hF⟩, hr⟩
  · have hs1 : S'.2.1 = 53 := by rw [hq _ _ e2]
    obtain ⟨L, hFE, hL2⟩ := hL
    refine Or.inl ⟨⟨⟨r, _, ?_, ⟨S', e2, rfl⟩, ⟨fun i hi hj => ?_, ⟨?_, fun z => ?_⟩, hP3.2.2⟩⟩, ⟨hF.1, fun q q1 q2 => hF.2 q q1 (fun z => q2 (hs q z))⟩⟩, ⟨L, hFE, fun q hq9 => hs _ (hL2 q hq9)⟩⟩
    · rw [e1]
      congr 1
    · by_cases q : i < 53
      · have e : (if i < 53 then S'.1 i else S.1 i) = S'.1 i := if_pos q
        have hj2 : jk (if i < 53 then S'.1 i else S.1 i) = false := hj
        show va_at _ _ (_, conv κ (if i < 53 then S'.1 i else S.1 i)) _
        rw [e] at hj2 ⊢
        rw [← convU κ s.heap.size]
        exact e3.1 i (by omega) hj2
      · have e : (if i < 53 then S'.1 i else S.1 i) = S.1 i := if_neg q
        have hj2 : jk (if i < 53 then S'.1 i else S.1 i) = false := hj
        show va_at _ _ (_, conv κ (if i < 53 then S'.1 i else S.1 i)) _
        rw [e] at hj2 ⊢
        have hi2 : i < S.2.1 := hi
        have hz := hP3.2.1.1
        refine (hP3.1 i hi2 hj2).kept (hF.2 _ (by show kB κ + i < s.heap.size; omega) (fun z => ?_))
        have z2 : s.heap.size ≤ kB κ + i ∨ kB κ + i < kB κ + 53 := z.2
        omega
    · exact Nat.le_trans hP3.2.1.1 hF.1
    · have g1 : s.heap.size ≤ _ := hFE.2.2.2.1
      have g2 : _ ≤ s.heap.size + 0 := hFE.2.2.2.2.1
      have g3 := hP3.2.1.2 z
      show _ = kB κ + S.2.1
      rw [← g3]
      exact Nat.le_antisymm g2 g1
  · exact (hno _ _ f3).elim
abbrev zf : SZ := (false, false)
/-- the class's places -/
def CL (S : AS) (σ : SS) : Prop := 54 ≤ S.2.1 ∧ ∀ i, i < 53 → S.1 i = mkG zf σ i
theorem CL.of {S S' : AS} {σ : SS} (h : CL S σ) (hn : S.2.1 ≤ S'.2.1) (hk : ∀ i, i < 53 → S'.1 i = S.1 i) : CL S' σ := ⟨Nat.le_trans h.1 hn, fun i hi => (hk i hi).trans (h.2 i hi)⟩
theorem cls_cal {sc : SC} {ν : MI} {as : List Value} {S : AS} {σ : SS} {P : Int32 → SS → Prop} (hcal : Cs zf sc ν 0 0 as σ (RI P)) (hCL : CL S σ) : Cal sc ν 0 0 as S (fun o S' => ∃ v σ', o = .inl (some (.int v)) ∧ P v σ' ∧ CL S' σ' ∧ S'.2 = S.2 ∧ ∀ i, 53 ≤ i → S'.1 i = S.1 i) := by
  refine Cal.mono (Cal.frame (S := S) hcal rfl (by have := hCL.1; omega) (fun i hi => (hCL.2 i hi).symm) ?_ ?_) ?_
  · rintro o S1 ⟨σ', rfl, -⟩
    rfl
  · rintro ec S1 ⟨σ', -, v, h, -⟩
    cases h
  · rintro o S' ⟨S1, ⟨σ', rfl, v, rfl, hp⟩, rfl⟩
    exact ⟨v, σ', rfl, hp, ⟨hCL.1, fun i hi => if_pos hi⟩, rfl, fun i hi => if_neg (by omega)⟩
/-- a call of the class by the law -/
theorem r_cls {sc : SC} {μ ν : MI} {mc ms k n pc : Nat} {lv : List (Nat × Value)} {st : List Value} {S : AS} {Q : Out → AS → Prop} {σ : SS} {P : Int32 → SS → Prop} {idx : Nat} (as rest : List Value) (h : cf (mCd μ) pc = some (.invokevirtual idx, 3)) (hL : LV (mNm μ).cls idx ν as.length) (hc : RX9 = (mNm ν).cls) (hcal : Cs zf sc ν 0 0 (.ref 0 :: as) σ (RI P)) (hst : st = as.reverse ++ .ref 0 :: rest) (hrm : rmB μ ν rest = true) (hk : k ≤ mc) (hn : n ≤ ms) (hh : mHh μ = []) (hCL : CL S σ)
    (kk : ∀ v σ' S', P v σ' → CL S' σ' → S'.2 = S.2 → (∀ i, 53 ≤ i → S'.1 i = S.1 i) → Wp sc μ mc ms k n (pc + 3) lv (.int v :: rest) S' Q) : Wp sc μ mc ms k n pc lv st S Q := by
  refine r_vir as rest h hL (o := 0) (ci := 9) (V := fv σ 0 9) (by have := hCL.1; omega) ((hCL.2 0 (by decide)).trans (mkG_o rfl)) (r := (RX9, TX9, 8)) rfl hc (cls_cal hcal hCL) hst hrm hk hn hh ?_ ?_
  · rintro ec S' ⟨v, σ', z, -⟩
    cases z
  · rintro r S' ⟨v, σ', z, hp, h1, h2, h3⟩
    cases z
    exact kk v σ' S' hp h1 h2 h3
