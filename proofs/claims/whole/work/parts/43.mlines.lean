/-- the model's places while it parses, and the numbers of its own that stay -/
def inQ (k : Nat) : Bool := Nat.ble 8 k && (Nat.ble k 11 || (Nat.ble 13 k && Nat.ble k 16))
def FrQ (σ σ' : SS) : Prop := (∀ o, o ≠ 53 → o ≠ 55 → σ'.1 o = σ.1 o) ∧ (∀ o, o ≠ 53 → o ≠ 57 → σ'.2 o = σ.2 o) ∧ ∀ k, inQ k = false → σ'.1 53 k = σ.1 53 k
theorem FrQ.rf (σ : SS) : FrQ σ σ := ⟨fun _ _ _ => rfl, fun _ _ _ => rfl, fun _ _ => rfl⟩
theorem FrQ.tr {σ σ' σ2 : SS} (h : FrQ σ σ') (g : FrQ σ' σ2) : FrQ σ σ2 := ⟨fun o a b => (g.1 o a b).trans (h.1 o a b), fun o a b => (g.2.1 o a b).trans (h.2.1 o a b), fun k q => (g.2.2 k q).trans (h.2.2 k q)⟩
def inQ1 (o : Nat) : Bool := Nat.beq o 53 || Nat.beq o 55
def inQ2 (o : Nat) : Bool := Nat.beq o 53 || Nat.beq o 57
theorem FrQ_mz {σ : SS} {L : List (Nat × (Nat → Int32))} {M : List (Nat × (Nat → Int64))} (h1 : L.all (fun e => inQ1 e.1) = true) (h2 : M.all (fun e => inQ2 e.1) = true) (h3 : ∀ k, inQ k = false → (mz σ L M).1 53 k = σ.1 53 k) : FrQ σ (mz σ L M) := by
  refine ⟨fun o a b => gt_no (fun e he q => ?_), fun o a b => gt_no (fun e he q => ?_), h3⟩
  · have := List.all_eq_true.mp h1 e he
    unfold inQ1 at this
    rw [q, nbq_f a, nbq_f b] at this; exact absurd this (by decide)
  · have := List.all_eq_true.mp h2 e he
    unfold inQ2 at this
    rw [q, nbq_f a, nbq_f b] at this; exact absurd this (by decide)
theorem FrQ.T {σ σ' : SS} (h : FrQ σ σ') : σ'.1 58 = σ.1 58 := h.1 58 (by decide) (by decide)
def NM2 (g : Nat → Int64) (m : Nat) (u : Nat → List Nat) : Prop := ∀ p, p < m → g p = lN (w256 (u p) 0)
theorem NM2_cg {g : Nat → Int64} {m n : Nat} {u : Nat → List Nat} (h : NM2 g m u) (e : n = m) : NM2 g n u := by rw [e]; exact h
theorem NM2_up {g : Nat → Int64} {m : Nat} {u : Nat → List Nat} {v : List Nat} (h : NM2 g m u) : NM2 (aup g m (lN (w256 v 0))) (m + 1) (aup u m v) := by
  intro p hp
  by_cases q : p = m
  · rw [q, aup_s, aup_s]
  · rw [aup_n _ _ q, aup_n _ _ q]; exact h p (by omega)
theorem NM2_lt {g : Nat → Int64} {m : Nat} {u : Nat → List Nat} {y : Int64} (h : NM2 g m u) : NM2 (aup g m y) m u := fun p hp => by rw [aup_n _ _ (by omega)]; exact h p hp
/-- error, its place, what was told once -/
def FE (f : Nat → Int32) (o : Nat → Bool) : Prop := f 13 = nI 0 ∧ f 14 = -1 ∧ f 16 = nI (mk o 3)
theorem FE_k {f g : Nat → Int32} {o : Nat → Bool} (h : FE f o) (hk : ∀ k, k ≠ 8 → k ≠ 9 → k ≠ 10 → k ≠ 11 → k ≠ 15 → g k = f k) : FE g o := ⟨(hk 13 (by decide) (by decide) (by decide) (by decide) (by decide)).trans h.1, (hk 14 (by decide) (by decide) (by decide) (by decide) (by decide)).trans h.2.1, (hk 16 (by decide) (by decide) (by decide) (by decide) (by decide)).trans h.2.2⟩
def MP (σ : SS) (x : TX) (s : PS) : Prop := MT (σ.1 53) (σ.2 53) x s.1 ∧ MR (σ.1 55) s.2.1 ∧ NM2 (σ.2 57) (s.2.1 0 0) s.2.2.1 ∧ FE (σ.1 53) s.2.2.2
def MF (f : Nat → Int32) (x : TX) (c j : Nat) : Prop := f 13 = nI c ∧ f 14 = nI (tS x j)
def MW (σ : SS) (x : TX) (r : PR) : Prop := (r.1 = 0 → MP σ x r.2) ∧ (r.1 ≠ 0 → MF (σ.1 53) x r.1 r.2.1)
theorem MW_no {σ : SS} {x : TX} {c j : Nat} {q : D × (Nat → List Nat) × (Nat → Bool)} (hc : c ≠ 0) (h : MF (σ.1 53) x c j) : MW σ x (c, j, q) := ⟨fun z => absurd z hc, fun _ => h⟩
theorem MW_ok {σ : SS} {x : TX} {s : PS} (h : MP σ x s) : MW σ x (0, s) := ⟨fun _ => h, fun z => absurd rfl z⟩
/-- an item read: the numbers of its own that stay -/
def KP (e f : Nat → Int32) : Prop := ∀ k, k ≠ 8 → k ≠ 9 → k ≠ 10 → k ≠ 11 → k ≠ 15 → e k = f k
theorem KP.Q {e f : Nat → Int32} (h : KP e f) : ∀ k, inQ k = false → e k = f k := by
  intro k hk
  refine h k ?_ ?_ ?_ ?_ ?_ <;> (intro z; rw [z] at hk; exact absurd hk (by decide))
theorem KP.rf (f : Nat → Int32) : KP f f := fun _ _ _ _ _ _ => rfl
theorem KP.tr {e f g : Nat → Int32} (h : KP e f) (k : KP f g) : KP e g := fun i a b c d q => (h i a b c d q).trans (k i a b c d q)
theorem KPq {e f : Nat → Int32} {k : Nat} {y : Int32} (h : ∀ i, inQ i = false → e i = f i) (hk : inQ k = true) : ∀ i, inQ i = false → aup e k y i = f i := by
  intro i hi
  rw [aup_n _ _ (fun z => by rw [z, hk] at hi; exact absurd hi (by decide))]
  exact h i hi
theorem mk_or3 {o : Nat → Bool} {q : Nat} (hq : q < 3) : nI (mk o 3) ||| (nI 1 <<< (nI q &&& 31)) = nI (mk (aup o q true) 3) := by
  rw [bt_one (by omega), nI_or, mk_set (c := aup o q true) hq ?_]
  intro i _
  by_cases e : i = q
  · subst e; rw [aup_s, beq_self_eq_true, Bool.or_true]
  · rw [aup_n _ _ e, beq_false_of_ne e, Bool.or_false]
theorem up_cm {d : D} {a i v b j y : Nat} (h : a ≠ b ∨ i ≠ j) : up (up d a i v) b j y = up (up d b j y) a i v := by
  funext c k
  by_cases h1 : c = b ∧ k = j
  · obtain ⟨rfl, rfl⟩ := h1
    rw [up_s, up_n _ _ (by omega), up_s]
  · rw [up_n _ _ h1]
    by_cases h2 : c = a ∧ k = i
    · obtain ⟨rfl, rfl⟩ := h2
      rw [up_s, up_s]
    · rw [up_n _ _ h2, up_n _ _ h2, up_n _ _ h1]
theorem up_up (d : D) (a i v y : Nat) : up (up d a i v) a i y = up d a i y := by
  funext c k
  by_cases h1 : c = a ∧ k = i
  · obtain ⟨rfl, rfl⟩ := h1
    rw [up_s, up_s]
  · rw [up_n _ _ h1, up_n _ _ h1, up_n _ _ h1]
theorem up_id {d : D} {a i v : Nat} (h : d a i = v) : up d a i v = d := by
  funext c k
  by_cases h1 : c = a ∧ k = i
  · obtain ⟨rfl, rfl⟩ := h1
    rw [up_s, h]
  · rw [up_n _ _ h1]
theorem MR_e {f : Nat → Int32} {d e : D} (h : MR f d) (q : d = e) : MR f e := by rw [← q]; exact h
theorem k_fails {l9 : Bool} {sc : SC} {σ : SS} {c j : Nat} (h0 : σ.1 53 13 = nI 0) (h : σ.1 53 8 = nI j) : Cs (true, l9) sc mX10_fails 0 0 [.ref 53, .int (nI c)] σ (PI (nI 0) (mz σ [(53, aup (aup (σ.1 53) 13 (nI c)) 14 (nI j))] [])) := by
  refine Cs.of gmX10_fails (Nat.le_of_ble_eq_true rfl) ?_
  show Ws (true, l9) sc mX10_fails 0 0 0 0 0 [(0, .ref 53), (1, .int (nI c))] [] (mz σ [] []) (PI (nI 0) (mz σ [(53, aup (aup (σ.1 53) 13 (nI c)) 14 (nI j))] []))
  refine r_aload_n rfl rfl ?_
  refine s_getI (x := nI 0) rfl flX10_138 rfl rfl h0 ?_
  refine n_if_ne (tgt := 20) rfl rfl (by decide) (fun hq => absurd hq (by decide)) (fun _ => ?_)
  refine r_aload_n rfl rfl ?_
  refine r_iload_n rfl rfl ?_
  refine m_putI (L' := [(53, (aup (σ.1 53) 13 (nI c)))]) rfl flX10_138 rfl rfl (okv_i _) rfl ?_
  refine r_aload_n rfl rfl ?_
  refine r_aload_n rfl rfl ?_
  refine s_getI (x := nI j) rfl flX10_117 rfl rfl h ?_
  refine m_putI (L' := [(53, (aup (aup (σ.1 53) 13 (nI c)) 14 (nI j)))]) rfl flX10_27 rfl rfl (okv_i _) rfl ?_
  refine n_iconst 0 rfl ?_
  exact s_ret (st := []) rfl rfl rfl (Nat.zero_le _) (Nat.zero_le _) (pI rfl rfl)

theorem k_starts_no {l9 : Bool} {sc : SC} {σ : SS} {c j : Nat} (h0 : σ.1 53 13 = nI 0) (h : σ.1 53 8 = nI j) : Cs (true, l9) sc mX10_starts 0 0 [.ref 53, .int (nI c), .int (nI 0)] σ (PI (nI 0) (mz σ [(53, aup (aup (σ.1 53) 13 (nI c)) 14 (nI j))] [])) := by
  refine Cs.of gmX10_starts (Nat.le_of_ble_eq_true rfl) ?_
  show Ws (true, l9) sc mX10_starts 0 0 0 0 0 [(0, .ref 53), (1, .int (nI c)), (2, .int (nI 0))] [] (mz σ [] []) (PI (nI 0) (mz σ [(53, aup (aup (σ.1 53) 13 (nI c)) 14 (nI j))] []))
  refine r_iload_n rfl rfl ?_
  refine n_if_ne (tgt := 10) rfl rfl (by decide) (fun hq => absurd hq (by decide)) (fun _ => ?_)
  refine r_aload_n rfl rfl ?_
  refine r_iload_n rfl rfl ?_
  refine s_virI [.int (nI c)] [] rfl lkX10_141 rfl rfl rfl (k_fails h0 h) rfl rfl (Nat.le_refl _) (Nat.le_refl _) rfl (rI (e1 := nI 0) rfl ?_)
  refine m_mz (L' := [(53, (aup (aup (σ.1 53) 13 (nI c)) 14 (nI j)))]) (M' := []) rfl rfl ?_
  exact s_ret (st := []) rfl rfl rfl (Nat.zero_le _) (Nat.zero_le _) (pI rfl rfl)

theorem k_starts {l9 : Bool} {sc : SC} {σ : SS} {c j : Nat} {x : TX} (hx : x.1 ≤ 700) (hb : ∀ i, x.2 i < 256) (hT : ∀ i, i < x.1 → σ.1 58 i = bI (x.2 i)) (hC : MT (σ.1 53) (σ.2 53) x j) (hk : tK x j ≠ 0) : Cs (true, l9) sc mX10_starts 0 0 [.ref 53, .int (nI c), .int (nI 1)] σ (RI fun v σ' => ∃ f g, v = nI 1 ∧ σ' = mz σ [(53, f)] [(53, g)] ∧ MT f g x (tE x j) ∧ KP f (σ.1 53)) := by
  refine Cs.of gmX10_starts (Nat.le_of_ble_eq_true rfl) ?_
  show Ws (true, l9) sc mX10_starts 0 0 0 0 0 [(0, .ref 53), (1, .int (nI c)), (2, .int (nI 1))] [] (mz σ [] []) (RI fun v σ' => ∃ f g, v = nI 1 ∧ σ' = mz σ [(53, f)] [(53, g)] ∧ MT f g x (tE x j) ∧ KP f (σ.1 53))
  refine r_iload_n rfl rfl ?_
  refine n_if_ne (tgt := 10) rfl rfl (by decide) (fun _ => ?_) (fun hq => absurd hq (by decide))
  refine r_aload_n rfl rfl ?_
  refine s_virV [] [] rfl lkX10_145 rfl rfl rfl (k_adv hx hb hT hC.1 (hC.2.2.1 hk) (tE_le hk)) rfl rfl (Nat.le_refl _) (Nat.le_refl _) rfl ?_
  rintro _ ⟨m1, l1, rfl, t1, s1, y1⟩
  refine m_mz (L' := [(53, m1)]) (M' := [(53, l1)]) rfl rfl ?_
  have p1 : KP m1 _ := fun k a b c d _ => s1 k a b c d
  refine n_iconst 1 rfl ?_
  exact s_ret (st := []) rfl rfl rfl (Nat.zero_le _) (Nat.zero_le _) (⟨_, rfl, m1, l1, rfl, rfl, t1, p1⟩)

theorem k_once_no {l9 : Bool} {sc : SC} {σ : SS} {q j : Nat} {o : Nat → Bool} (hq : q < 3) (h0 : σ.1 53 13 = nI 0) (h : σ.1 53 8 = nI j) (h16 : σ.1 53 16 = nI (mk o 3)) (ho : o q = true) : Cs (true, l9) sc mX10_once 0 0 [.ref 53, .int (nI q)] σ (PI (nI 0) (mz σ [(53, aup (aup (aup (σ.1 53) 16 (nI (mk (aup o q true) 3))) 13 (nI 2)) 14 (nI j))] [])) := by
  refine Cs.of gmX10_once (Nat.le_of_ble_eq_true rfl) ?_
  show Ws (true, l9) sc mX10_once 0 0 0 0 0 [(0, .ref 53), (1, .int (nI q))] [] (mz σ [] []) (PI (nI 0) (mz σ [(53, aup (aup (aup (σ.1 53) 16 (nI (mk (aup o q true) 3))) 13 (nI 2)) 14 (nI j))] []))
  have hmk := mk_lt12 o (show 3 ≤ 12 by decide)
  refine r_aload_n rfl rfl ?_
  refine s_getI (x := nI (mk o 3)) rfl flX10_148 rfl rfl h16 ?_
  refine r_iload_n rfl rfl ?_
  refine r_ishr rfl ?_
  refine n_iconst 1 rfl ?_
  refine r_iand rfl ?_
  refine r_top (y := nI (tb (o q))) (by rw [bt_has hmk (by omega), mk_bit, decide_eq_true hq, Bool.true_and]) ?_
  rw [ho]
  show Ws (true, l9) sc mX10_once 0 0 0 0 8 [(0, .ref 53), (1, .int (nI q))] [.int (nI 1)] (mz σ [] []) (PI (nI 0) (mz σ [(53, aup (aup (aup (σ.1 53) 16 (nI (mk (aup o q true) 3))) 13 (nI 2)) 14 (nI j))] []))
  refine n_if_ne (tgt := 15) rfl rfl (by decide) (fun _ => ?_) (fun hq => absurd hq (by decide))
  refine n_iconst 0 rfl ?_
  refine r_istore_n (lv' := [(2, .int (nI 0)), (0, .ref 53), (1, .int (nI q))]) rfl rfl (Nat.le_of_ble_eq_true rfl) rfl ?_
  refine r_aload_n rfl rfl ?_
  refine r_dup rfl rfl ?_
  refine s_getI (x := nI (mk o 3)) rfl flX10_148 rfl rfl h16 ?_
  refine n_iconst 1 rfl ?_
  refine r_iload_n rfl rfl ?_
  refine r_ishl rfl ?_
  refine r_ior rfl ?_
  refine r_top (y := nI (mk (aup o q true) 3)) (mk_or3 hq) ?_
  refine m_putI (L' := [(53, (aup (σ.1 53) 16 (nI (mk (aup o q true) 3))))]) rfl flX10_148 rfl rfl (okv_i _) rfl ?_
  refine r_aload_n rfl rfl ?_
  refine n_iconst 2 rfl ?_
  refine r_iload_n rfl rfl ?_
  refine s_virI [.int (nI 2), .int (nI 0)] [] rfl lkX10_151 rfl rfl rfl (k_starts_no (j := j) h0 h) rfl rfl (Nat.le_refl _) (Nat.le_refl _) rfl (rI (e1 := nI 0) rfl ?_)
  refine m_mz (L' := [(53, (aup (aup (aup (σ.1 53) 16 (nI (mk (aup o q true) 3))) 13 (nI 2)) 14 (nI j)))]) (M' := []) rfl rfl ?_
  exact s_ret (st := []) rfl rfl rfl (Nat.zero_le _) (Nat.zero_le _) (pI rfl rfl)

theorem k_once {l9 : Bool} {sc : SC} {σ : SS} {q j : Nat} {o : Nat → Bool} (hq : q < 3) {x : TX} (hx : x.1 ≤ 700) (hb : ∀ i, x.2 i < 256) (hT : ∀ i, i < x.1 → σ.1 58 i = bI (x.2 i)) (hC : MT (σ.1 53) (σ.2 53) x j) (hk : tK x j ≠ 0) (hF : FE (σ.1 53) o) (ho : o q = false) : Cs (true, l9) sc mX10_once 0 0 [.ref 53, .int (nI q)] σ (RI fun v σ' => ∃ f g, v = nI 1 ∧ σ' = mz σ [(53, f)] [(53, g)] ∧ MT f g x (tE x j) ∧ FE f (aup o q true) ∧ ∀ k, inQ k = false → f k = σ.1 53 k) := by
  refine Cs.of gmX10_once (Nat.le_of_ble_eq_true rfl) ?_
  show Ws (true, l9) sc mX10_once 0 0 0 0 0 [(0, .ref 53), (1, .int (nI q))] [] (mz σ [] []) (RI fun v σ' => ∃ f g, v = nI 1 ∧ σ' = mz σ [(53, f)] [(53, g)] ∧ MT f g x (tE x j) ∧ FE f (aup o q true) ∧ ∀ k, inQ k = false → f k = σ.1 53 k)
  have h16 := hF.2.2
  have hmk := mk_lt12 o (show 3 ≤ 12 by decide)
  refine r_aload_n rfl rfl ?_
  refine s_getI (x := nI (mk o 3)) rfl flX10_148 rfl rfl h16 ?_
  refine r_iload_n rfl rfl ?_
  refine r_ishr rfl ?_
  refine n_iconst 1 rfl ?_
  refine r_iand rfl ?_
  refine r_top (y := nI (tb (o q))) (by rw [bt_has hmk (by omega), mk_bit, decide_eq_true hq, Bool.true_and]) ?_
  rw [ho]
  show Ws (true, l9) sc mX10_once 0 0 0 0 8 [(0, .ref 53), (1, .int (nI q))] [.int (nI 0)] (mz σ [] []) (RI fun v σ' => ∃ f g, v = nI 1 ∧ σ' = mz σ [(53, f)] [(53, g)] ∧ MT f g x (tE x j) ∧ FE f (aup o q true) ∧ ∀ k, inQ k = false → f k = σ.1 53 k)
  refine n_if_ne (tgt := 15) rfl rfl (by decide) (fun hq => absurd hq (by decide)) (fun _ => ?_)
  refine n_iconst 1 rfl ?_
  refine r_goto (tgt := 16) rfl rfl ?_
  refine r_istore_n (lv' := [(2, .int (nI 1)), (0, .ref 53), (1, .int (nI q))]) rfl rfl (Nat.le_of_ble_eq_true rfl) rfl ?_
  refine r_aload_n rfl rfl ?_
  refine r_dup rfl rfl ?_
  refine s_getI (x := nI (mk o 3)) rfl flX10_148 rfl rfl h16 ?_
  refine n_iconst 1 rfl ?_
  refine r_iload_n rfl rfl ?_
  refine r_ishl rfl ?_
  refine r_ior rfl ?_
  refine r_top (y := nI (mk (aup o q true) 3)) (mk_or3 hq) ?_
  refine m_putI (L' := [(53, (aup (σ.1 53) 16 (nI (mk (aup o q true) 3))))]) rfl flX10_148 rfl rfl (okv_i _) rfl ?_
  refine r_aload_n rfl rfl ?_
  refine n_iconst 2 rfl ?_
  refine r_iload_n rfl rfl ?_
  refine s_virI [.int (nI 2), .int (nI 1)] [] rfl lkX10_151 rfl rfl rfl (k_starts hx hb hT (j := j) ⟨hC.1, hC.2.1, hC.2.2.1, hC.2.2.2.1, hC.2.2.2.2.1, hC.2.2.2.2.2⟩ hk) rfl rfl (Nat.le_refl _) (Nat.le_refl _) rfl ?_
  rintro _ _ ⟨f, g, rfl, rfl, t1, p1⟩
  refine m_mz (L' := [(53, f)]) (M' := [(53, g)]) rfl rfl ?_
  exact s_ret (st := []) rfl rfl rfl (Nat.zero_le _) (Nat.zero_le _) (⟨_, rfl, f, g, rfl, rfl, t1, FE_k (f := aup (σ.1 53) 16 (nI (mk (aup o q true) 3))) ⟨hF.1, hF.2.1, rfl⟩ p1, fun k hk => (p1.Q k hk).trans (aup_n _ _ (fun z => by rw [z] at hk; exact absurd hk (by decide)))⟩)

theorem k_named_56 {l9 : Bool} {sc : SC} {σ : SS} {m v : Nat} {f : Nat → Nat} (hm12 : m ≤ 12) (hN : ∀ p, p < m → σ.2 56 p = lN (f p)) (hf : ∀ p, p < m → f p < 9223372036854775808) (hv : v < 9223372036854775808) : Cs (true, l9) sc mX10_named 0 0 [.ref 56, .int (nI m), .long (lN v)] σ (PI (oI (nmv f v m)) σ) := by
  refine Cs.of gmX10_named (Nat.le_of_ble_eq_true rfl) ?_
  show Ws (true, l9) sc mX10_named 0 0 0 0 0 [(0, .ref 56), (1, .int (nI m)), (2, .long (lN v))] [] (mz σ [] []) (PI (oI (nmv f v m)) σ)
  refine n_iconst 0 rfl ?_
  refine r_istore (lv' := [(4, .int (nI 0)), (0, .ref 56), (1, .int (nI m)), (2, .long (lN v))]) rfl (Nat.le_of_ble_eq_true rfl) rfl ?_
  refine r_lv (lv' := [(4, .int (nI 0)), (0, .ref 56), (1, .int (nI m)), (2, .long (lN v))]) [0, 1, 2, 3] rfl ?_
  have loop : ∀ (m9 : Nat) (p : Nat) , m - p < m9 → (p ≤ m) → (nmv f v p = 0) → Ws (true, l9) sc mX10_named 0 0 0 0 3 [(4, .int (nI p)), (0, .ref 56), (1, .int (nI m)), (2, .long (lN v))] [] (mz σ [] []) (PI (oI (nmv f v m)) σ) := by
    intro m9
    induction m9 with
    | zero => intro p  hme; exact absurd hme (Nat.not_lt_zero _)
    | succ m9 ih =>
      intro p  hme hp h0
      refine r_iload rfl rfl ?_
      refine r_iload_n rfl rfl ?_
      refine n_icmp_ge (tgt := 27) rfl rfl (by omega) (by omega) (fun h1 => ?_) (fun h1 => ?_)
      · have hpm : p = m := by omega
        subst hpm
        refine n_m1 rfl ?_
        exact s_ret (st := []) rfl rfl rfl (Nat.zero_le _) (Nat.zero_le _) (pI (by rw [h0, oI_0]) rfl)
      · have hfp := hf p (by omega)
        refine r_aload_n rfl rfl ?_
        refine r_iload rfl rfl ?_
        refine s_lald (x := lN (f p)) rfl rfl (by omega) (hN p (by omega)) ?_
        refine r_lload_n rfl rfl ?_
        refine n_lcmp_ne (tgt := 21) rfl rfl rfl (by omega) (by omega) (fun h3 => ?_) (fun h3 => ?_)
        · refine n_iinc (lv' := [(4, .int (nI (p + 1))), (0, .ref 56), (1, .int (nI m)), (2, .long (lN v))]) 1 rfl rfl (Nat.le_of_ble_eq_true rfl) rfl ?_
          refine r_goto (tgt := 3) rfl rfl ?_
          refine r_lv (lv' := [(4, .int (nI (p + 1))), (0, .ref 56), (1, .int (nI m)), (2, .long (lN v))]) [0, 1, 2, 3] rfl ?_
          exact ih (p + 1) (by omega) (by omega) (nmv_no h0 h3)
        · refine r_iload rfl rfl ?_
          exact s_ret (st := []) rfl rfl rfl (Nat.zero_le _) (Nat.zero_le _) (pI (by rw [nmv_hit h0 h3 (by omega : p < m), oI_s]) rfl)
  exact loop (m + 1) 0 (by omega) (by omega) rfl

theorem k_named_57 {l9 : Bool} {sc : SC} {σ : SS} {m v : Nat} {f : Nat → Nat} (hm12 : m ≤ 12) (hN : ∀ p, p < m → σ.2 57 p = lN (f p)) (hf : ∀ p, p < m → f p < 9223372036854775808) (hv : v < 9223372036854775808) : Cs (true, l9) sc mX10_named 0 0 [.ref 57, .int (nI m), .long (lN v)] σ (PI (oI (nmv f v m)) σ) := by
  refine Cs.of gmX10_named (Nat.le_of_ble_eq_true rfl) ?_
  show Ws (true, l9) sc mX10_named 0 0 0 0 0 [(0, .ref 57), (1, .int (nI m)), (2, .long (lN v))] [] (mz σ [] []) (PI (oI (nmv f v m)) σ)
  refine n_iconst 0 rfl ?_
  refine r_istore (lv' := [(4, .int (nI 0)), (0, .ref 57), (1, .int (nI m)), (2, .long (lN v))]) rfl (Nat.le_of_ble_eq_true rfl) rfl ?_
  refine r_lv (lv' := [(4, .int (nI 0)), (0, .ref 57), (1, .int (nI m)), (2, .long (lN v))]) [0, 1, 2, 3] rfl ?_
  have loop : ∀ (m9 : Nat) (p : Nat) , m - p < m9 → (p ≤ m) → (nmv f v p = 0) → Ws (true, l9) sc mX10_named 0 0 0 0 3 [(4, .int (nI p)), (0, .ref 57), (1, .int (nI m)), (2, .long (lN v))] [] (mz σ [] []) (PI (oI (nmv f v m)) σ) := by
    intro m9
    induction m9 with
    | zero => intro p  hme; exact absurd hme (Nat.not_lt_zero _)
    | succ m9 ih =>
      intro p  hme hp h0
      refine r_iload rfl rfl ?_
      refine r_iload_n rfl rfl ?_
      refine n_icmp_ge (tgt := 27) rfl rfl (by omega) (by omega) (fun h1 => ?_) (fun h1 => ?_)
      · have hpm : p = m := by omega
        subst hpm
        refine n_m1 rfl ?_
        exact s_ret (st := []) rfl rfl rfl (Nat.zero_le _) (Nat.zero_le _) (pI (by rw [h0, oI_0]) rfl)
      · have hfp := hf p (by omega)
        refine r_aload_n rfl rfl ?_
        refine r_iload rfl rfl ?_
        refine s_lald (x := lN (f p)) rfl rfl (by omega) (hN p (by omega)) ?_
        refine r_lload_n rfl rfl ?_
        refine n_lcmp_ne (tgt := 21) rfl rfl rfl (by omega) (by omega) (fun h3 => ?_) (fun h3 => ?_)
        · refine n_iinc (lv' := [(4, .int (nI (p + 1))), (0, .ref 57), (1, .int (nI m)), (2, .long (lN v))]) 1 rfl rfl (Nat.le_of_ble_eq_true rfl) rfl ?_
          refine r_goto (tgt := 3) rfl rfl ?_
          refine r_lv (lv' := [(4, .int (nI (p + 1))), (0, .ref 57), (1, .int (nI m)), (2, .long (lN v))]) [0, 1, 2, 3] rfl ?_
          exact ih (p + 1) (by omega) (by omega) (nmv_no h0 h3)
        · refine r_iload rfl rfl ?_
          exact s_ret (st := []) rfl rfl rfl (Nat.zero_le _) (Nat.zero_le _) (pI (by rw [nmv_hit h0 h3 (by omega : p < m), oI_s]) rfl)
  exact loop (m + 1) 0 (by omega) (by omega) rfl

theorem k_takes {l9 : Bool} {sc : SC} {σ : SS} {j l m : Nat} {x : TX} (hx : x.1 ≤ 700) (hb : ∀ i, x.2 i < 256) (hT : ∀ i, i < x.1 → σ.1 58 i = bI (x.2 i)) (hC : MT (σ.1 53) (σ.2 53) x j) (h0 : σ.1 53 13 = nI 0) (hl : l < 1000000000) (hm : m < 1000000000) : Cs (true, l9) sc mX10_takes 0 0 [.ref 53, .int (nI l), .int (nI m)] σ (RI fun v σ' => ∃ f g, v = nI (tb ((nu x j l m).1 == 0)) ∧ σ' = mz σ [(53, f)] [(53, g)] ∧ ((nu x j l m).1 = 0 → MT f g x (nu x j l m).2.1 ∧ f 15 = nI (nu x j l m).2.2 ∧ KP f (σ.1 53)) ∧ ((nu x j l m).1 ≠ 0 → MF f x (nu x j l m).1 (nu x j l m).2.1 ∧ ∀ k, inQ k = false → f k = σ.1 53 k)) := by
  refine Cs.of gmX10_takes (Nat.le_of_ble_eq_true rfl) ?_
  show Ws (true, l9) sc mX10_takes 0 0 0 0 0 [(0, .ref 53), (1, .int (nI l)), (2, .int (nI m))] [] (mz σ [] []) (RI fun v σ' => ∃ f g, v = nI (tb ((nu x j l m).1 == 0)) ∧ σ' = mz σ [(53, f)] [(53, g)] ∧ ((nu x j l m).1 = 0 → MT f g x (nu x j l m).2.1 ∧ f 15 = nI (nu x j l m).2.2 ∧ KP f (σ.1 53)) ∧ ((nu x j l m).1 ≠ 0 → MF f x (nu x j l m).1 (nu x j l m).2.1 ∧ ∀ k, inQ k = false → f k = σ.1 53 k))
  have hml := mt_le (tK_le x j)
  have hm2 := mt_eq (c := 2) (by decide) (tK_4 x j)
  refine m_newI (L' := [(53, (σ.1 53))]) 53 rfl ?_
  refine m_newL (M' := [(53, (σ.2 53))]) 53 rfl ?_
  refine r_aload_n rfl rfl ?_
  refine s_getI (x := nI (mt (tK x j))) rfl flX10_123 rfl rfl hC.2.2.2.1 ?_
  refine n_iconst 2 rfl ?_
  refine n_icmp_eq (tgt := 14) rfl rfl (by omega) (by omega) (fun h1 => ?_) (fun h1 => ?_)
  · have hk2 := hm2.mp h1
    have hvl := vl_lt hk2
    refine r_aload_n rfl rfl ?_
    refine s_getI (x := nI (vl x j)) rfl flX10_120 rfl rfl (hC.2.2.2.2.1 hk2) ?_
    refine r_iload_n rfl rfl ?_
    refine r_iload_n rfl rfl ?_
    refine s_staI [.int (nI (vl x j)), .int (nI l), .int (nI m)] [] rfl lkX10_113 (k_within (by omega) (by omega) (by omega)) rfl rfl (Nat.le_refl _) (Nat.le_refl _) rfl (rI (e1 := nI (tb (decide (l ≤ vl x j ∧ vl x j ≤ m)))) rfl ?_)
    have ht := tb_le (decide (l ≤ vl x j ∧ vl x j ≤ m))
    refine n_if_ne (tgt := 32) rfl rfl (by omega) (fun h2 => ?_) (fun h2 => ?_)
    · have hz := of_decide_eq_true (tb_ne h2)
      refine r_aload_n rfl rfl ?_
      refine r_aload_n rfl rfl ?_
      refine s_getI (x := nI (vl x j)) rfl flX10_120 rfl rfl (hC.2.2.2.2.1 hk2) ?_
      refine m_putI (L' := [(53, (aup (σ.1 53) 15 (nI (vl x j))))]) rfl flX10_155 rfl rfl (okv_i _) rfl ?_
      refine r_aload_n rfl rfl ?_
      refine s_virV [] [] rfl lkX10_145 rfl rfl rfl (k_adv hx hb hT hC.1 (hC.2.2.1 (by omega)) (tE_le (by omega))) rfl rfl (Nat.le_refl _) (Nat.le_refl _) rfl ?_
      rintro _ ⟨m1, l1, rfl, t1, s1, y1⟩
      refine m_mz (L' := [(53, m1)]) (M' := [(53, l1)]) rfl rfl ?_
      have p1 : KP m1 _ := fun k a b c d _ => s1 k a b c d
      refine n_iconst 1 rfl ?_
      have e9 : nu x j l m = (0, tE x j, vl x j) := nu_0 hk2 (by omega)
      exact s_ret (st := []) rfl rfl rfl (Nat.zero_le _) (Nat.zero_le _) (⟨_, rfl, _, _, by rw [e9]; rfl, rfl, fun _ => by rw [e9]; exact ⟨t1, (s1 15 (by decide) (by decide) (by decide) (by decide)), fun k a b c d q => (s1 k a b c d).trans (aup_n _ _ q)⟩, fun z => absurd (by rw [e9]) z⟩)
    · have hz := of_decide_eq_false (tb_z h2)
      refine r_aload_n rfl rfl ?_
      refine n_iconst 3 rfl ?_
      refine s_virI [.int (nI 3)] [] rfl lkX10_141 rfl rfl rfl (k_fails h0 hC.2.1) rfl rfl (Nat.le_refl _) (Nat.le_refl _) rfl (rI (e1 := nI 0) rfl ?_)
      refine m_mz (L' := [(53, (aup (aup (σ.1 53) 13 (nI 3)) 14 (nI (tS x j))))]) (M' := [(53, (σ.2 53))]) rfl rfl ?_
      have e9 : nu x j l m = (3, j, 0) := nu_3 hk2 (by omega)
      exact s_ret (st := []) rfl rfl rfl (Nat.zero_le _) (Nat.zero_le _) (⟨_, rfl, _, _, by rw [e9]; rfl, rfl, fun z => absurd (show (3 : Nat) = 0 from by rw [e9] at z; exact z) (by decide), fun _ => by rw [e9]; exact ⟨⟨rfl, rfl⟩, fun k hk => KPq (KPq (fun _ _ => rfl) rfl) rfl k hk⟩⟩)
  · refine r_aload_n rfl rfl ?_
    refine n_iconst 1 rfl ?_
    refine s_virI [.int (nI 1)] [] rfl lkX10_141 rfl rfl rfl (k_fails h0 hC.2.1) rfl rfl (Nat.le_refl _) (Nat.le_refl _) rfl (rI (e1 := nI 0) rfl ?_)
    refine m_mz (L' := [(53, (aup (aup (σ.1 53) 13 (nI 1)) 14 (nI (tS x j))))]) (M' := [(53, (σ.2 53))]) rfl rfl ?_
    have e9 : nu x j l m = (1, j, 0) := nu_1 (fun z => h1 (hm2.mpr z))
    exact s_ret (st := []) rfl rfl rfl (Nat.zero_le _) (Nat.zero_le _) (⟨_, rfl, _, _, by rw [e9]; rfl, rfl, fun z => absurd (show (1 : Nat) = 0 from by rw [e9] at z; exact z) (by decide), fun _ => by rw [e9]; exact ⟨⟨rfl, rfl⟩, fun k hk => KPq (KPq (fun _ _ => rfl) rfl) rfl k hk⟩⟩)

theorem k_lays {l9 : Bool} {sc : SC} {σ : SS} {j l m b : Nat} {x : TX} (hx : x.1 ≤ 700) (hb : ∀ i, x.2 i < 256) (hT : ∀ i, i < x.1 → σ.1 58 i = bI (x.2 i)) (hC : MT (σ.1 53) (σ.2 53) x j) (h0 : σ.1 53 13 = nI 0) (hl : l < 1000000000) (hm : m < 1000000000) (hbb : b < 122) : Cs (true, l9) sc mX10_lays 0 0 [.ref 53, .int (nI b), .int (nI l), .int (nI m)] σ (RI fun v σ' => ∃ f e g, v = nI (tb ((nu x j l m).1 == 0)) ∧ σ' = mz σ [(53, f), (55, e)] [(53, g)] ∧ ((nu x j l m).1 = 0 → MT f g x (nu x j l m).2.1 ∧ e = aup (σ.1 55) b (nI (nu x j l m).2.2) ∧ KP f (σ.1 53)) ∧ ((nu x j l m).1 ≠ 0 → MF f x (nu x j l m).1 (nu x j l m).2.1 ∧ ∀ k, inQ k = false → f k = σ.1 53 k)) := by
  refine Cs.of gmX10_lays (Nat.le_of_ble_eq_true rfl) ?_
  show Ws (true, l9) sc mX10_lays 0 0 0 0 0 [(0, .ref 53), (1, .int (nI b)), (2, .int (nI l)), (3, .int (nI m))] [] (mz σ [] []) (RI fun v σ' => ∃ f e g, v = nI (tb ((nu x j l m).1 == 0)) ∧ σ' = mz σ [(53, f), (55, e)] [(53, g)] ∧ ((nu x j l m).1 = 0 → MT f g x (nu x j l m).2.1 ∧ e = aup (σ.1 55) b (nI (nu x j l m).2.2) ∧ KP f (σ.1 53)) ∧ ((nu x j l m).1 ≠ 0 → MF f x (nu x j l m).1 (nu x j l m).2.1 ∧ ∀ k, inQ k = false → f k = σ.1 53 k))
  refine r_aload_n rfl rfl ?_
  refine r_iload_n rfl rfl ?_
  refine r_iload_n rfl rfl ?_
  refine s_virI [.int (nI l), .int (nI m)] [] rfl lkX10_158 rfl rfl rfl (k_takes (l := l) (m := m) hx hb hT hC h0 hl hm) rfl rfl (Nat.le_refl _) (Nat.le_refl _) rfl ?_
  rintro _ _ ⟨f, g, rfl, rfl, r1⟩
  refine m_mz (L' := [(53, f)]) (M' := [(53, g)]) rfl rfl ?_
  have ht := tb_le ((nu x j l m).1 == 0)
  refine m_newI (L' := [(53, f), (55, (σ.1 55))]) 55 rfl ?_
  refine n_if_ne (tgt := 11) rfl rfl (by omega) (fun h1 => ?_) (fun h1 => ?_)
  · have hz := tbq_y h1
    obtain ⟨a1, a2, a3⟩ := r1.1 hz
    refine r_aload_n rfl rfl ?_
    refine s_getR (r := 55) rfl flX10_13 rfl rfl ?_
    refine r_iload_n rfl rfl ?_
    refine r_aload_n rfl rfl ?_
    refine s_getI (x := nI ((nu x j l m).2.2)) rfl flX10_155 rfl rfl a2 ?_
    refine m_iast (L' := [(53, f), (55, (aup (σ.1 55) b (nI ((nu x j l m).2.2))))]) rfl rfl (by omega) rfl ?_
    refine n_iconst 1 rfl ?_
    exact s_ret (st := []) rfl rfl rfl (Nat.zero_le _) (Nat.zero_le _) (⟨_, rfl, _, _, _, by rw [hz]; rfl, rfl, fun _ => ⟨a1, rfl, a3⟩, fun z => absurd hz z⟩)
  · have hn := tbq_n h1
    refine n_iconst 0 rfl ?_
    exact s_ret (st := []) rfl rfl rfl (Nat.zero_le _) (Nat.zero_le _) (⟨_, rfl, _, _, _, tb_no hn, rfl, fun z => absurd z hn, r1.2⟩)

theorem k_laysPerson_1 {l9 : Bool} {sc : SC} {σ : SS} {j b : Nat} {d : D} {u : Nat → List Nat} {x : TX} (hx : x.1 ≤ 700) (hb : ∀ i, x.2 i < 256) (hT : ∀ i, i < x.1 → σ.1 58 i = bI (x.2 i)) (hC : MT (σ.1 53) (σ.2 53) x j) (h0 : σ.1 53 13 = nI 0) (hm : σ.1 55 0 = nI (d 0 0)) (h5 : σ.1 55 5 = oI (d 0 5)) (hd : d 0 0 ≤ 12) (hd5 : d 0 5 ≤ 12) (hN : NM2 (σ.2 57) (d 0 0) u) (hu : ∀ p, p < d 0 0 → okW (u p)) (hbb : b < 122) : Cs (true, l9) sc mX10_laysPerson 0 0 [.ref 53, .int (nI b), .int (nI 1)] σ (RI fun v σ' => ∃ f e g, v = nI (tb ((kp x j (d 0 0) u (d 0 5)).1 == 0)) ∧ σ' = mz σ [(53, f), (55, e)] [(53, g)] ∧ ((kp x j (d 0 0) u (d 0 5)).1 = 0 → MT f g x (kp x j (d 0 0) u (d 0 5)).2.1 ∧ e = aup (σ.1 55) b (oI (kp x j (d 0 0) u (d 0 5)).2.2) ∧ KP f (σ.1 53)) ∧ ((kp x j (d 0 0) u (d 0 5)).1 ≠ 0 → MF f x (kp x j (d 0 0) u (d 0 5)).1 (kp x j (d 0 0) u (d 0 5)).2.1 ∧ ∀ k, inQ k = false → f k = σ.1 53 k)) := by
  refine Cs.of gmX10_laysPerson (Nat.le_of_ble_eq_true rfl) ?_
  show Ws (true, l9) sc mX10_laysPerson 0 0 0 0 0 [(0, .ref 53), (1, .int (nI b)), (2, .int (nI 1))] [] (mz σ [] []) (RI fun v σ' => ∃ f e g, v = nI (tb ((kp x j (d 0 0) u (d 0 5)).1 == 0)) ∧ σ' = mz σ [(53, f), (55, e)] [(53, g)] ∧ ((kp x j (d 0 0) u (d 0 5)).1 = 0 → MT f g x (kp x j (d 0 0) u (d 0 5)).2.1 ∧ e = aup (σ.1 55) b (oI (kp x j (d 0 0) u (d 0 5)).2.2) ∧ KP f (σ.1 53)) ∧ ((kp x j (d 0 0) u (d 0 5)).1 ≠ 0 → MF f x (kp x j (d 0 0) u (d 0 5)).1 (kp x j (d 0 0) u (d 0 5)).2.1 ∧ ∀ k, inQ k = false → f k = σ.1 53 k))
  have hml := mt_le (tK_le x j)
  have hm1 := mt_eq (c := 1) (by decide) (tK_4 x j)
  refine m_newI (L' := [(53, (σ.1 53))]) 53 rfl ?_
  refine m_newI (L' := [(53, (σ.1 53)), (55, (σ.1 55))]) 55 rfl ?_
  refine m_newL (M' := [(53, (σ.2 53))]) 53 rfl ?_
  refine r_aload_n rfl rfl ?_
  refine s_getI (x := nI (mt (tK x j))) rfl flX10_123 rfl rfl hC.2.2.2.1 ?_
  refine n_iconst 1 rfl ?_
  refine n_icmp_eq (tgt := 14) rfl rfl (by omega) (by omega) (fun h1 => ?_) (fun h1 => ?_)
  · have hk1 := hm1.mp h1
    have hw := wl_ok hk1
    have hnl := nmd_le u (d 0 0) (wl x j)
    refine r_aload_n rfl rfl ?_
    refine s_getR (r := 57) rfl flX10_20 rfl rfl ?_
    refine r_aload_n rfl rfl ?_
    refine s_getR (r := 55) rfl flX10_13 rfl rfl ?_
    refine n_iconst 0 rfl ?_
    refine s_iald (x := nI (d 0 0)) rfl rfl (by decide) hm ?_
    refine r_aload_n rfl rfl ?_
    refine s_getL (x := lN (w256 (wl x j) 0)) rfl flX10_102 rfl rfl (hC.2.2.2.2.2 hk1) ?_
    refine s_staI [.ref 57, .int (nI (d 0 0)), .long (lN (w256 (wl x j) 0))] [] rfl lkX10_162 (k_named_57 hd hN (fun p hp => w256_lt (hu p hp)) (w256_lt hw)) rfl rfl (Nat.le_refl _) (Nat.le_refl _) rfl (rI (e1 := oI (nmd u (d 0 0) (wl x j))) (by rw [nmd_256 hu hw]) ?_)
    refine r_istore_n (lv' := [(3, .int (oI (nmd u (d 0 0) (wl x j)))), (0, .ref 53), (1, .int (nI b)), (2, .int (nI 1))]) rfl rfl (Nat.le_of_ble_eq_true rfl) rfl ?_
    refine r_iload_n rfl rfl ?_
    refine n_m1 rfl ?_
    refine r_icmp_eq (tgt := 51) rfl rfl (fun h2 => ?_) (fun h2 => ?_)
    · refine r_aload_n rfl rfl ?_
      refine n_iconst 4 rfl ?_
      refine s_virI [.int (nI 4)] [] rfl lkX10_141 rfl rfl rfl (k_fails h0 hC.2.1) rfl rfl (Nat.le_refl _) (Nat.le_refl _) rfl (rI (e1 := nI 0) rfl ?_)
      refine m_mz (L' := [(53, (aup (aup (σ.1 53) 13 (nI 4)) 14 (nI (tS x j)))), (55, (σ.1 55))]) (M' := [(53, (σ.2 53))]) rfl rfl ?_
      have e9 : kp x j (d 0 0) u (d 0 5) = (4, j, 0) := kp_4 hk1 (Or.inl (oI_z (by omega) h2))
      exact s_ret (st := []) rfl rfl rfl (Nat.zero_le _) (Nat.zero_le _) (⟨_, rfl, _, _, _, by rw [e9]; rfl, rfl, fun z => absurd (show (4 : Nat) = 0 from by rw [e9] at z; exact z) (by decide), fun _ => by rw [e9]; exact ⟨⟨rfl, rfl⟩, fun k hk => KPq (KPq (fun _ _ => rfl) rfl) rfl k hk⟩⟩)
    · have hz0 := oI_nz h2
      refine r_iload_n rfl rfl ?_
      refine n_if_eq (tgt := 57) rfl rfl (by decide) (fun hq => absurd hq (by decide)) (fun _ => ?_)
      refine r_iload_n rfl rfl ?_
      refine r_aload_n rfl rfl ?_
      refine s_getR (r := 55) rfl flX10_13 rfl rfl ?_
      refine n_iconst 5 rfl ?_
      refine s_iald (x := oI (d 0 5)) rfl rfl (by decide) h5 ?_
      refine r_icmp_ne (tgt := 57) rfl rfl (fun h3 => ?_) (fun h3 => ?_)
      · refine r_aload_n rfl rfl ?_
        refine s_getR (r := 55) rfl flX10_13 rfl rfl ?_
        refine r_iload_n rfl rfl ?_
        refine r_iload_n rfl rfl ?_
        refine m_iast (L' := [(53, (σ.1 53)), (55, (aup (σ.1 55) b (oI (nmd u (d 0 0) (wl x j)))))]) rfl rfl (by omega) rfl ?_
        refine r_aload_n rfl rfl ?_
        refine s_virV [] [] rfl lkX10_145 rfl rfl rfl (k_adv hx hb hT hC.1 (hC.2.2.1 (by omega)) (tE_le (by omega))) rfl rfl (Nat.le_refl _) (Nat.le_refl _) rfl ?_
        rintro _ ⟨m1, l1, rfl, t1, s1, y1⟩
        refine m_mz (L' := [(53, m1), (55, (aup (σ.1 55) b (oI (nmd u (d 0 0) (wl x j)))))]) (M' := [(53, l1)]) rfl rfl ?_
        have p1 : KP m1 _ := fun k a b c d _ => s1 k a b c d
        refine n_iconst 1 rfl ?_
        have e9 : kp x j (d 0 0) u (d 0 5) = (0, tE x j, nmd u (d 0 0) (wl x j)) := kp_0 hk1 (fun z => z.elim hz0 (fun z => h3 (by rw [z])))
        exact s_ret (st := []) rfl rfl rfl (Nat.zero_le _) (Nat.zero_le _) (⟨_, rfl, _, _, _, by rw [e9]; rfl, rfl, fun _ => by rw [e9]; exact ⟨t1, rfl, p1⟩, fun z => absurd (by rw [e9]) z⟩)
      · refine r_aload_n rfl rfl ?_
        refine n_iconst 4 rfl ?_
        refine s_virI [.int (nI 4)] [] rfl lkX10_141 rfl rfl rfl (k_fails h0 hC.2.1) rfl rfl (Nat.le_refl _) (Nat.le_refl _) rfl (rI (e1 := nI 0) rfl ?_)
        refine m_mz (L' := [(53, (aup (aup (σ.1 53) 13 (nI 4)) 14 (nI (tS x j)))), (55, (σ.1 55))]) (M' := [(53, (σ.2 53))]) rfl rfl ?_
        have e9 : kp x j (d 0 0) u (d 0 5) = (4, j, 0) := kp_4 hk1 (Or.inr ((oI_eq (by omega) (by omega)).mp h3))
        exact s_ret (st := []) rfl rfl rfl (Nat.zero_le _) (Nat.zero_le _) (⟨_, rfl, _, _, _, by rw [e9]; rfl, rfl, fun z => absurd (show (4 : Nat) = 0 from by rw [e9] at z; exact z) (by decide), fun _ => by rw [e9]; exact ⟨⟨rfl, rfl⟩, fun k hk => KPq (KPq (fun _ _ => rfl) rfl) rfl k hk⟩⟩)
  · refine r_aload_n rfl rfl ?_
    refine n_iconst 1 rfl ?_
    refine s_virI [.int (nI 1)] [] rfl lkX10_141 rfl rfl rfl (k_fails h0 hC.2.1) rfl rfl (Nat.le_refl _) (Nat.le_refl _) rfl (rI (e1 := nI 0) rfl ?_)
    refine m_mz (L' := [(53, (aup (aup (σ.1 53) 13 (nI 1)) 14 (nI (tS x j)))), (55, (σ.1 55))]) (M' := [(53, (σ.2 53))]) rfl rfl ?_
    have e9 : kp x j (d 0 0) u (d 0 5) = (1, j, 0) := kp_1 (fun z => h1 (hm1.mpr z))
    exact s_ret (st := []) rfl rfl rfl (Nat.zero_le _) (Nat.zero_le _) (⟨_, rfl, _, _, _, by rw [e9]; rfl, rfl, fun z => absurd (show (1 : Nat) = 0 from by rw [e9] at z; exact z) (by decide), fun _ => by rw [e9]; exact ⟨⟨rfl, rfl⟩, fun k hk => KPq (KPq (fun _ _ => rfl) rfl) rfl k hk⟩⟩)

theorem k_laysPerson_0 {l9 : Bool} {sc : SC} {σ : SS} {j b : Nat} {d : D} {u : Nat → List Nat} {x : TX} (hx : x.1 ≤ 700) (hb : ∀ i, x.2 i < 256) (hT : ∀ i, i < x.1 → σ.1 58 i = bI (x.2 i)) (hC : MT (σ.1 53) (σ.2 53) x j) (h0 : σ.1 53 13 = nI 0) (hm : σ.1 55 0 = nI (d 0 0)) (h5 : σ.1 55 5 = oI (d 0 5)) (hd : d 0 0 ≤ 12) (hd5 : d 0 5 ≤ 12) (hN : NM2 (σ.2 57) (d 0 0) u) (hu : ∀ p, p < d 0 0 → okW (u p)) (hbb : b < 122) : Cs (true, l9) sc mX10_laysPerson 0 0 [.ref 53, .int (nI b), .int (nI 0)] σ (RI fun v σ' => ∃ f e g, v = nI (tb ((kp x j (d 0 0) u (0)).1 == 0)) ∧ σ' = mz σ [(53, f), (55, e)] [(53, g)] ∧ ((kp x j (d 0 0) u (0)).1 = 0 → MT f g x (kp x j (d 0 0) u (0)).2.1 ∧ e = aup (σ.1 55) b (oI (kp x j (d 0 0) u (0)).2.2) ∧ KP f (σ.1 53)) ∧ ((kp x j (d 0 0) u (0)).1 ≠ 0 → MF f x (kp x j (d 0 0) u (0)).1 (kp x j (d 0 0) u (0)).2.1 ∧ ∀ k, inQ k = false → f k = σ.1 53 k)) := by
  refine Cs.of gmX10_laysPerson (Nat.le_of_ble_eq_true rfl) ?_
  show Ws (true, l9) sc mX10_laysPerson 0 0 0 0 0 [(0, .ref 53), (1, .int (nI b)), (2, .int (nI 0))] [] (mz σ [] []) (RI fun v σ' => ∃ f e g, v = nI (tb ((kp x j (d 0 0) u (0)).1 == 0)) ∧ σ' = mz σ [(53, f), (55, e)] [(53, g)] ∧ ((kp x j (d 0 0) u (0)).1 = 0 → MT f g x (kp x j (d 0 0) u (0)).2.1 ∧ e = aup (σ.1 55) b (oI (kp x j (d 0 0) u (0)).2.2) ∧ KP f (σ.1 53)) ∧ ((kp x j (d 0 0) u (0)).1 ≠ 0 → MF f x (kp x j (d 0 0) u (0)).1 (kp x j (d 0 0) u (0)).2.1 ∧ ∀ k, inQ k = false → f k = σ.1 53 k))
  have hml := mt_le (tK_le x j)
  have hm1 := mt_eq (c := 1) (by decide) (tK_4 x j)
  refine m_newI (L' := [(53, (σ.1 53))]) 53 rfl ?_
  refine m_newI (L' := [(53, (σ.1 53)), (55, (σ.1 55))]) 55 rfl ?_
  refine m_newL (M' := [(53, (σ.2 53))]) 53 rfl ?_
  refine r_aload_n rfl rfl ?_
  refine s_getI (x := nI (mt (tK x j))) rfl flX10_123 rfl rfl hC.2.2.2.1 ?_
  refine n_iconst 1 rfl ?_
  refine n_icmp_eq (tgt := 14) rfl rfl (by omega) (by omega) (fun h1 => ?_) (fun h1 => ?_)
  · have hk1 := hm1.mp h1
    have hw := wl_ok hk1
    have hnl := nmd_le u (d 0 0) (wl x j)
    refine r_aload_n rfl rfl ?_
    refine s_getR (r := 57) rfl flX10_20 rfl rfl ?_
    refine r_aload_n rfl rfl ?_
    refine s_getR (r := 55) rfl flX10_13 rfl rfl ?_
    refine n_iconst 0 rfl ?_
    refine s_iald (x := nI (d 0 0)) rfl rfl (by decide) hm ?_
    refine r_aload_n rfl rfl ?_
    refine s_getL (x := lN (w256 (wl x j) 0)) rfl flX10_102 rfl rfl (hC.2.2.2.2.2 hk1) ?_
    refine s_staI [.ref 57, .int (nI (d 0 0)), .long (lN (w256 (wl x j) 0))] [] rfl lkX10_162 (k_named_57 hd hN (fun p hp => w256_lt (hu p hp)) (w256_lt hw)) rfl rfl (Nat.le_refl _) (Nat.le_refl _) rfl (rI (e1 := oI (nmd u (d 0 0) (wl x j))) (by rw [nmd_256 hu hw]) ?_)
    refine r_istore_n (lv' := [(3, .int (oI (nmd u (d 0 0) (wl x j)))), (0, .ref 53), (1, .int (nI b)), (2, .int (nI 0))]) rfl rfl (Nat.le_of_ble_eq_true rfl) rfl ?_
    refine r_iload_n rfl rfl ?_
    refine n_m1 rfl ?_
    refine r_icmp_eq (tgt := 51) rfl rfl (fun h2 => ?_) (fun h2 => ?_)
    · refine r_aload_n rfl rfl ?_
      refine n_iconst 4 rfl ?_
      refine s_virI [.int (nI 4)] [] rfl lkX10_141 rfl rfl rfl (k_fails h0 hC.2.1) rfl rfl (Nat.le_refl _) (Nat.le_refl _) rfl (rI (e1 := nI 0) rfl ?_)
      refine m_mz (L' := [(53, (aup (aup (σ.1 53) 13 (nI 4)) 14 (nI (tS x j)))), (55, (σ.1 55))]) (M' := [(53, (σ.2 53))]) rfl rfl ?_
      have e9 : kp x j (d 0 0) u (0) = (4, j, 0) := kp_4 hk1 (Or.inl (oI_z (by omega) h2))
      exact s_ret (st := []) rfl rfl rfl (Nat.zero_le _) (Nat.zero_le _) (⟨_, rfl, _, _, _, by rw [e9]; rfl, rfl, fun z => absurd (show (4 : Nat) = 0 from by rw [e9] at z; exact z) (by decide), fun _ => by rw [e9]; exact ⟨⟨rfl, rfl⟩, fun k hk => KPq (KPq (fun _ _ => rfl) rfl) rfl k hk⟩⟩)
    · have hz0 := oI_nz h2
      refine r_iload_n rfl rfl ?_
      refine n_if_eq (tgt := 57) rfl rfl (by decide) (fun _ => ?_) (fun hq => absurd hq (by decide))
      refine r_aload_n rfl rfl ?_
      refine s_getR (r := 55) rfl flX10_13 rfl rfl ?_
      refine r_iload_n rfl rfl ?_
      refine r_iload_n rfl rfl ?_
      refine m_iast (L' := [(53, (σ.1 53)), (55, (aup (σ.1 55) b (oI (nmd u (d 0 0) (wl x j)))))]) rfl rfl (by omega) rfl ?_
      refine r_aload_n rfl rfl ?_
      refine s_virV [] [] rfl lkX10_145 rfl rfl rfl (k_adv hx hb hT hC.1 (hC.2.2.1 (by omega)) (tE_le (by omega))) rfl rfl (Nat.le_refl _) (Nat.le_refl _) rfl ?_
      rintro _ ⟨m1, l1, rfl, t1, s1, y1⟩
      refine m_mz (L' := [(53, m1), (55, (aup (σ.1 55) b (oI (nmd u (d 0 0) (wl x j)))))]) (M' := [(53, l1)]) rfl rfl ?_
      have p1 : KP m1 _ := fun k a b c d _ => s1 k a b c d
      refine n_iconst 1 rfl ?_
      have e9 : kp x j (d 0 0) u (0) = (0, tE x j, nmd u (d 0 0) (wl x j)) := kp_0 hk1 (by omega)
      exact s_ret (st := []) rfl rfl rfl (Nat.zero_le _) (Nat.zero_le _) (⟨_, rfl, _, _, _, by rw [e9]; rfl, rfl, fun _ => by rw [e9]; exact ⟨t1, rfl, p1⟩, fun z => absurd (by rw [e9]) z⟩)
  · refine r_aload_n rfl rfl ?_
    refine n_iconst 1 rfl ?_
    refine s_virI [.int (nI 1)] [] rfl lkX10_141 rfl rfl rfl (k_fails h0 hC.2.1) rfl rfl (Nat.le_refl _) (Nat.le_refl _) rfl (rI (e1 := nI 0) rfl ?_)
    refine m_mz (L' := [(53, (aup (aup (σ.1 53) 13 (nI 1)) 14 (nI (tS x j)))), (55, (σ.1 55))]) (M' := [(53, (σ.2 53))]) rfl rfl ?_
    have e9 : kp x j (d 0 0) u (0) = (1, j, 0) := kp_1 (fun z => h1 (hm1.mpr z))
    exact s_ret (st := []) rfl rfl rfl (Nat.zero_le _) (Nat.zero_le _) (⟨_, rfl, _, _, _, by rw [e9]; rfl, rfl, fun z => absurd (show (1 : Nat) = 0 from by rw [e9] at z; exact z) (by decide), fun _ => by rw [e9]; exact ⟨⟨rfl, rfl⟩, fun k hk => KPq (KPq (fun _ _ => rfl) rfl) rfl k hk⟩⟩)

theorem k_debtLine {l9 : Bool} {sc : SC} {σ : SS} {j : Nat} {d : D} {u : Nat → List Nat} {o : Nat → Bool} {x : TX} (hx : x.1 ≤ 700) (hb : ∀ i, x.2 i < 256) (hT : ∀ i, i < x.1 → σ.1 58 i = bI (x.2 i)) (hP : MP σ x (j, d, u, o)) (hVP : VP x (j, d, u, o)) (hk : tK x j = 1) : Cs (true, l9) sc mX10_debtLine 0 0 [.ref 53] σ (RI fun v σ' => v = nI (tb ((sDeb x (j, d, u, o)).1 == 0)) ∧ FrQ σ σ' ∧ MW σ' x (sDeb x (j, d, u, o))) := by
  refine Cs.of gmX10_debtLine (Nat.le_of_ble_eq_true rfl) ?_
  show Ws (true, l9) sc mX10_debtLine 0 0 0 0 0 [(0, .ref 53)] [] (mz σ [] []) (RI fun v σ' => v = nI (tb ((sDeb x (j, d, u, o)).1 == 0)) ∧ FrQ σ σ' ∧ MW σ' x (sDeb x (j, d, u, o)))
  have hC : MT (σ.1 53) (σ.2 53) x j := hP.1
  have hM : MR (σ.1 55) d := hP.2.1
  have hN : NM2 (σ.2 57) (d 0 0) u := hP.2.2.1
  have hF : FE (σ.1 53) o := hP.2.2.2
  have hV : Vd d := hVP.1
  have h6 : Z6 d := hVP.2.1
  have hu : ∀ p, p < d 0 0 → okW (u p) := hVP.2.2.1
  have hj : j ≤ x.1 := hVP.2.2.2
  have hCC := vC hV
  have hEg := tE_j x j
  have hk0 : tK x j ≠ 0 := by omega
  refine n_bipush 74 rfl (by decide) ?_
  refine n_iconst 2 rfl ?_
  refine r_aload_n rfl rfl ?_
  refine s_getR (r := 55) rfl flX10_13 rfl rfl ?_
  refine n_iconst 2 rfl ?_
  refine s_iald (x := nI (d 0 2)) rfl rfl (by decide) (MRat hM 0 2 (by decide) (by decide)) ?_
  refine n_imul rfl ?_
  refine n_iadd rfl ?_
  refine r_istore_n (lv' := [(1, .int (nI (74 + (2 * (d 0 2))))), (0, .ref 53)]) rfl rfl (Nat.le_of_ble_eq_true rfl) rfl ?_
  refine r_aload_n rfl rfl ?_
  refine n_iconst 5 rfl ?_
  refine r_aload_n rfl rfl ?_
  refine s_getR (r := 55) rfl flX10_13 rfl rfl ?_
  refine n_iconst 2 rfl ?_
  refine s_iald (x := nI (d 0 2)) rfl rfl (by decide) (MRat hM 0 2 (by decide) (by decide)) ?_
  refine n_bipush 8 rfl (by decide) ?_
  suffices K : Ws (true, l9) sc mX10_debtLine 0 0 0 0 30 [(1, .int (nI (74 + (2 * (d 0 2))))), (0, .ref 53)] [.int (nI (tb (decide (d 0 2 < 8)))), .int (nI 5), .ref 53] (mz σ [] []) (RI fun v σ' => v = nI (tb ((sDeb x (j, d, u, o)).1 == 0)) ∧ FrQ σ σ' ∧ MW σ' x (sDeb x (j, d, u, o))) by
    refine n_icmp_ge (tgt := 29) rfl rfl (by omega) (by omega) (fun hc => ?_) (fun hc => ?_)
    · refine n_iconst 0 rfl ?_
      exact r_top (by rw [decide_eq_false (by omega)]; rfl) K
    · refine n_iconst 1 rfl ?_
      refine r_goto (tgt := 30) rfl rfl ?_
      exact r_top (by rw [decide_eq_true (by omega)]; rfl) K
  have hcb := tb_le (decide (d 0 2 < 8))
  by_cases hc9 : d 0 2 < 8
  · rw [decide_eq_true hc9]
    show Ws (true, l9) sc mX10_debtLine 0 0 0 0 30 [(1, .int (nI (74 + (2 * (d 0 2))))), (0, .ref 53)] [.int (nI 1), .int (nI 5), .ref 53] (mz σ [] []) (RI fun v σ' => v = nI (tb ((sDeb x (j, d, u, o)).1 == 0)) ∧ FrQ σ σ' ∧ MW σ' x (sDeb x (j, d, u, o)))
    refine s_virI [.int (nI 5), .int (nI 1)] [] rfl lkX10_151 rfl rfl rfl (k_starts hx hb hT hC hk0) rfl rfl (Nat.le_refl _) (Nat.le_refl _) rfl ?_
    rintro _ _ ⟨m1, l1, rfl, rfl, t1, p1⟩
    refine m_mz (L' := [(53, m1)]) (M' := [(53, l1)]) rfl rfl ?_
    refine n_if_eq (tgt := 59) rfl rfl (by decide) (fun hq => absurd hq (by decide)) (fun _ => ?_)
    refine r_aload_n rfl rfl ?_
    refine r_iload_n rfl rfl ?_
    refine n_iconst 1 rfl ?_
    refine n_iconst 5 rfl ?_
    have eT : sDeb x (j, d, u, o) = two x (j, d, u, o) (nu x (tE x j) 1 5) 9999999 (fun v w => up3 d 7 8 2 v w) o := if_neg (by show ¬ 8 ≤ d 0 2; omega)
    have F1 := FE_k hF p1
    refine s_virI [.int (nI (74 + (2 * (d 0 2)))), .int (nI 1), .int (nI 5)] [] rfl lkX10_177 rfl rfl rfl (k_lays (b := 74 + 2 * d 0 2) (l := 1) (m := 5) hx hb hT t1 F1.1 (by omega) (by omega) (by omega)) rfl rfl (Nat.le_refl _) (Nat.le_refl _) rfl ?_
    rintro _ _ ⟨m2, e2, l2, rfl, rfl, r2⟩
    refine m_mz (L' := [(53, m2), (55, e2)]) (M' := [(53, l2)]) rfl rfl ?_
    have hb2 := tb_le ((nu x (tE x j) 1 5).1 == 0)
    refine n_if_eq (tgt := 59) rfl rfl (by omega) (fun hh1 => ?_) (fun hh1 => ?_)
    · have hn2 := tbq_n hh1
      refine n_iconst 0 rfl ?_
      have e9 : _ := eT.trans (two_1 hn2)
      exact s_ret (st := []) rfl rfl rfl (Nat.zero_le _) (Nat.zero_le _) (⟨_, rfl, by rw [e9]; exact tb_no hn2, FrQ_mz rfl rfl (fun k hk => ((r2.2 hn2).2 k hk).trans ((p1.Q) k hk)), by rw [e9]; exact MW_no hn2 (r2.2 hn2).1⟩)
    · have hz1 := tbq_y hh1
      obtain ⟨t2, q2, p2⟩ := r2.1 hz1
      have w1 := nu_fw hz1
      have F2 := FE_k F1 p2
      refine r_aload_n rfl rfl ?_
      refine r_iload_n rfl rfl ?_
      refine n_iconst 1 rfl ?_
      refine n_iadd rfl ?_
      refine n_iconst 0 rfl ?_
      refine r_ldc (v := nI 9999999) rfl kcX10_187 ?_
      refine s_virI [.int (nI ((74 + (2 * (d 0 2))) + 1)), .int (nI 0), .int (nI 9999999)] [] rfl lkX10_177 rfl rfl rfl (k_lays (b := 74 + 2 * d 0 2 + 1) (l := 0) (m := 9999999) hx hb hT t2 F2.1 (by omega) (by omega) (by omega)) rfl rfl (Nat.le_refl _) (Nat.le_refl _) rfl ?_
      rintro _ _ ⟨m3, e3, l3, rfl, rfl, r3⟩
      refine m_mz (L' := [(53, m3), (55, e3)]) (M' := [(53, l3)]) rfl rfl ?_
      have hb3 := tb_le ((nu x (nu x (tE x j) 1 5).2.1 0 9999999).1 == 0)
      refine n_if_ne (tgt := 61) rfl rfl (by omega) (fun hh2 => ?_) (fun hh2 => ?_)
      · have hz2 := tbq_y hh2
        obtain ⟨t3, q3, p3⟩ := r3.1 hz2
        have w2 := nu_fw hz2
        have F3 := FE_k F2 p3
        have E3 : e3 = aup (aup (σ.1 55) (74 + 2 * d 0 2) (nI (nu x (tE x j) 1 5).2.2)) (74 + 2 * d 0 2 + 1) (nI (nu x (nu x (tE x j) 1 5).2.1 0 9999999).2.2) := by rw [q3]; show aup e2 _ _ = _; rw [q2]; rfl
        have hg : e3 2 = nI (d 0 2) := by rw [E3, aup_n _ _ (by omega), aup_n _ _ (by omega)]; exact MRat hM 0 2 (by decide) (by decide)
        refine r_aload_n rfl rfl ?_
        refine s_getR (r := 55) rfl flX10_13 rfl rfl ?_
        refine n_iconst 2 rfl ?_
        refine r_dup2 rfl rfl rfl ?_
        refine s_iald (x := nI (d 0 2)) rfl rfl (by decide) hg ?_
        refine n_iconst 1 rfl ?_
        refine n_iadd rfl ?_
        refine m_iast (L' := [(53, m3), (55, (aup e3 2 (nI ((d 0 2) + 1))))]) rfl rfl (by decide) rfl ?_
        refine n_iconst 1 rfl ?_
        have e9 := eT.trans (two_0 hz1 hz2)
        exact s_ret (st := []) rfl rfl rfl (Nat.zero_le _) (Nat.zero_le _) (⟨_, rfl, by rw [e9]; rfl, FrQ_mz rfl rfl (fun k hk => (p3.Q k hk).trans ((p2.Q k hk).trans (p1.Q k hk))), by rw [e9]; exact MW_ok ⟨t3, by show MR (aup e3 2 _) _; rw [E3]; exact MRup (MRup (MRup hM (by omega) (mPd (w := 0) hc9 (by decide)) rfl) (by omega) (mPd (w := 1) hc9 (by decide)) rfl) (by decide) (mP0 (by decide)) rfl, NM2_cg hN (up3_z (v := (nu x (tE x j) 1 5).2.2) (w := (nu x (nu x (tE x j) 1 5).2.1 0 9999999).2.2) (a := 7) (b := 8) (i := 2) (k := 0) d (by decide) (by decide) (by decide)), F3⟩⟩)
      · have hn3 := tbq_n hh2
        refine n_iconst 0 rfl ?_
        have e9 : _ := eT.trans (two_2 hz1 hn3)
        exact s_ret (st := []) rfl rfl rfl (Nat.zero_le _) (Nat.zero_le _) (⟨_, rfl, by rw [e9]; exact tb_no hn3, FrQ_mz rfl rfl (fun k hk => ((r3.2 hn3).2 k hk).trans ((fun k hk => (p2.Q k hk).trans (p1.Q k hk)) k hk)), by rw [e9]; exact MW_no hn3 (r3.2 hn3).1⟩)
  · rw [decide_eq_false hc9]
    show Ws (true, l9) sc mX10_debtLine 0 0 0 0 30 [(1, .int (nI (74 + (2 * (d 0 2))))), (0, .ref 53)] [.int (nI 0), .int (nI 5), .ref 53] (mz σ [] []) (RI fun v σ' => v = nI (tb ((sDeb x (j, d, u, o)).1 == 0)) ∧ FrQ σ σ' ∧ MW σ' x (sDeb x (j, d, u, o)))
    refine s_virI [.int (nI 5), .int (nI 0)] [] rfl lkX10_151 rfl rfl rfl (k_starts_no (j := tS x j) hF.1 hC.2.1) rfl rfl (Nat.le_refl _) (Nat.le_refl _) rfl (rI (e1 := nI 0) rfl ?_)
    refine m_mz (L' := [(53, (aup (aup (σ.1 53) 13 (nI 5)) 14 (nI (tS x j))))]) (M' := []) rfl rfl ?_
    refine n_if_eq (tgt := 59) rfl rfl (by decide) (fun _ => ?_) (fun hq => absurd hq (by decide))
    refine n_iconst 0 rfl ?_
    have e9 : sDeb x (j, d, u, o) = (5, j, d, u, o) := if_pos (by show 8 ≤ d 0 2; omega)
    exact s_ret (st := []) rfl rfl rfl (Nat.zero_le _) (Nat.zero_le _) (⟨_, rfl, by rw [e9]; exact tb_nr rfl, FrQ_mz rfl rfl (fun k hk => KPq (KPq (fun _ _ => rfl) rfl) rfl k hk), by rw [e9]; exact MW_no (by decide) ⟨rfl, rfl⟩⟩)

theorem k_givenLine_3 {l9 : Bool} {sc : SC} {σ : SS} {j : Nat} {d : D} {u : Nat → List Nat} {o : Nat → Bool} {x : TX} (hx : x.1 ≤ 700) (hb : ∀ i, x.2 i < 256) (hT : ∀ i, i < x.1 → σ.1 58 i = bI (x.2 i)) (hP : MP σ x (j, d, u, o)) (hVP : VP x (j, d, u, o)) (hk : tK x j = 1) : Cs (true, l9) sc mX10_givenLine 0 0 [.ref 53, .int (nI 3), .int (nI 90)] σ (RI fun v σ' => v = nI (tb ((sGif x (j, d, u, o)).1 == 0)) ∧ FrQ σ σ' ∧ MW σ' x (sGif x (j, d, u, o))) := by
  refine Cs.of gmX10_givenLine (Nat.le_of_ble_eq_true rfl) ?_
  show Ws (true, l9) sc mX10_givenLine 0 0 0 0 0 [(0, .ref 53), (1, .int (nI 3)), (2, .int (nI 90))] [] (mz σ [] []) (RI fun v σ' => v = nI (tb ((sGif x (j, d, u, o)).1 == 0)) ∧ FrQ σ σ' ∧ MW σ' x (sGif x (j, d, u, o)))
  have hC : MT (σ.1 53) (σ.2 53) x j := hP.1
  have hM : MR (σ.1 55) d := hP.2.1
  have hN : NM2 (σ.2 57) (d 0 0) u := hP.2.2.1
  have hF : FE (σ.1 53) o := hP.2.2.2
  have hV : Vd d := hVP.1
  have h6 : Z6 d := hVP.2.1
  have hu : ∀ p, p < d 0 0 → okW (u p) := hVP.2.2.1
  have hj : j ≤ x.1 := hVP.2.2.2
  have hCC := vC hV
  have hEg := tE_j x j
  have hk0 : tK x j ≠ 0 := by omega
  refine r_iload_n rfl rfl ?_
  refine n_iconst 2 rfl ?_
  refine r_aload_n rfl rfl ?_
  refine s_getR (r := 55) rfl flX10_13 rfl rfl ?_
  refine r_iload_n rfl rfl ?_
  refine s_iald (x := nI (d 0 3)) rfl rfl (by decide) (MRat hM 0 3 (by decide) (by decide)) ?_
  refine n_imul rfl ?_
  refine n_iadd rfl ?_
  refine r_istore_n (lv' := [(3, .int (nI (90 + (2 * (d 0 3))))), (0, .ref 53), (1, .int (nI 3)), (2, .int (nI 90))]) rfl rfl (Nat.le_of_ble_eq_true rfl) rfl ?_
  refine r_aload_n rfl rfl ?_
  refine n_iconst 5 rfl ?_
  refine r_aload_n rfl rfl ?_
  refine s_getR (r := 55) rfl flX10_13 rfl rfl ?_
  refine r_iload_n rfl rfl ?_
  refine s_iald (x := nI (d 0 3)) rfl rfl (by decide) (MRat hM 0 3 (by decide) (by decide)) ?_
  refine n_bipush 8 rfl (by decide) ?_
  suffices K : Ws (true, l9) sc mX10_givenLine 0 0 0 0 29 [(3, .int (nI (90 + (2 * (d 0 3))))), (0, .ref 53), (1, .int (nI 3)), (2, .int (nI 90))] [.int (nI (tb (decide (d 0 3 < 8)))), .int (nI 5), .ref 53] (mz σ [] []) (RI fun v σ' => v = nI (tb ((sGif x (j, d, u, o)).1 == 0)) ∧ FrQ σ σ' ∧ MW σ' x (sGif x (j, d, u, o))) by
    refine n_icmp_ge (tgt := 28) rfl rfl (by omega) (by omega) (fun hc => ?_) (fun hc => ?_)
    · refine n_iconst 0 rfl ?_
      exact r_top (by rw [decide_eq_false (by omega)]; rfl) K
    · refine n_iconst 1 rfl ?_
      refine r_goto (tgt := 29) rfl rfl ?_
      exact r_top (by rw [decide_eq_true (by omega)]; rfl) K
  have hcb := tb_le (decide (d 0 3 < 8))
  by_cases hc9 : d 0 3 < 8
  · rw [decide_eq_true hc9]
    show Ws (true, l9) sc mX10_givenLine 0 0 0 0 29 [(3, .int (nI (90 + (2 * (d 0 3))))), (0, .ref 53), (1, .int (nI 3)), (2, .int (nI 90))] [.int (nI 1), .int (nI 5), .ref 53] (mz σ [] []) (RI fun v σ' => v = nI (tb ((sGif x (j, d, u, o)).1 == 0)) ∧ FrQ σ σ' ∧ MW σ' x (sGif x (j, d, u, o)))
    refine s_virI [.int (nI 5), .int (nI 1)] [] rfl lkX10_151 rfl rfl rfl (k_starts hx hb hT hC hk0) rfl rfl (Nat.le_refl _) (Nat.le_refl _) rfl ?_
    rintro _ _ ⟨m1, l1, rfl, rfl, t1, p1⟩
    refine m_mz (L' := [(53, m1)]) (M' := [(53, l1)]) rfl rfl ?_
    refine n_if_eq (tgt := 57) rfl rfl (by decide) (fun hq => absurd hq (by decide)) (fun _ => ?_)
    refine r_aload_n rfl rfl ?_
    refine r_iload_n rfl rfl ?_
    refine n_iconst 0 rfl ?_
    have eT : sGif x (j, d, u, o) = two x (j, d, u, o) (kp x (tE x j) (d 0 0) u 0) 9999999 (fun v w => up3 d 9 10 3 (v - 1) w) o := if_neg (by show ¬ 8 ≤ d 0 3; omega)
    have F1 := FE_k hF p1
    refine s_virI [.int (nI (90 + (2 * (d 0 3)))), .int (nI 0)] [] rfl lkX10_172 rfl rfl rfl (k_laysPerson_0 (b := 90 + 2 * d 0 3) (d := d) hx hb hT t1 F1.1 (MRat hM 0 0 (by decide) (by decide)) (MRat hM 0 5 (by decide) (by decide)) (by omega) (by omega) hN hu (by omega)) rfl rfl (Nat.le_refl _) (Nat.le_refl _) rfl ?_
    rintro _ _ ⟨m2, e2, l2, rfl, rfl, r2⟩
    refine m_mz (L' := [(53, m2), (55, e2)]) (M' := [(53, l2)]) rfl rfl ?_
    have hb2 := tb_le ((kp x (tE x j) (d 0 0) u 0).1 == 0)
    refine n_if_eq (tgt := 57) rfl rfl (by omega) (fun hh1 => ?_) (fun hh1 => ?_)
    · have hn2 := tbq_n hh1
      refine n_iconst 0 rfl ?_
      have e9 : _ := eT.trans (two_1 hn2)
      exact s_ret (st := []) rfl rfl rfl (Nat.zero_le _) (Nat.zero_le _) (⟨_, rfl, by rw [e9]; exact tb_no hn2, FrQ_mz rfl rfl (fun k hk => ((r2.2 hn2).2 k hk).trans ((p1.Q) k hk)), by rw [e9]; exact MW_no hn2 (r2.2 hn2).1⟩)
    · have hz1 := tbq_y hh1
      obtain ⟨t2, q2, p2⟩ := r2.1 hz1
      have w1 := kp_fw hz1
      have F2 := FE_k F1 p2
      refine r_aload_n rfl rfl ?_
      refine r_iload_n rfl rfl ?_
      refine n_iconst 1 rfl ?_
      refine n_iadd rfl ?_
      refine n_iconst 0 rfl ?_
      refine r_ldc (v := nI 9999999) rfl kcX10_187 ?_
      refine s_virI [.int (nI ((90 + (2 * (d 0 3))) + 1)), .int (nI 0), .int (nI 9999999)] [] rfl lkX10_177 rfl rfl rfl (k_lays (b := 90 + 2 * d 0 3 + 1) (l := 0) (m := 9999999) hx hb hT t2 F2.1 (by omega) (by omega) (by omega)) rfl rfl (Nat.le_refl _) (Nat.le_refl _) rfl ?_
      rintro _ _ ⟨m3, e3, l3, rfl, rfl, r3⟩
      refine m_mz (L' := [(53, m3), (55, e3)]) (M' := [(53, l3)]) rfl rfl ?_
      have hb3 := tb_le ((nu x (kp x (tE x j) (d 0 0) u 0).2.1 0 9999999).1 == 0)
      refine n_if_ne (tgt := 59) rfl rfl (by omega) (fun hh2 => ?_) (fun hh2 => ?_)
      · have hz2 := tbq_y hh2
        obtain ⟨t3, q3, p3⟩ := r3.1 hz2
        have w2 := nu_fw hz2
        have F3 := FE_k F2 p3
        have E3 : e3 = aup (aup (σ.1 55) (90 + 2 * d 0 3) (oI (kp x (tE x j) (d 0 0) u 0).2.2)) (90 + 2 * d 0 3 + 1) (nI (nu x (kp x (tE x j) (d 0 0) u 0).2.1 0 9999999).2.2) := by rw [q3]; show aup e2 _ _ = _; rw [q2]; rfl
        have hg : e3 3 = nI (d 0 3) := by rw [E3, aup_n _ _ (by omega), aup_n _ _ (by omega)]; exact MRat hM 0 3 (by decide) (by decide)
        refine r_aload_n rfl rfl ?_
        refine s_getR (r := 55) rfl flX10_13 rfl rfl ?_
        refine r_iload_n rfl rfl ?_
        refine r_dup2 rfl rfl rfl ?_
        refine s_iald (x := nI (d 0 3)) rfl rfl (by decide) hg ?_
        refine n_iconst 1 rfl ?_
        refine n_iadd rfl ?_
        refine m_iast (L' := [(53, m3), (55, (aup e3 3 (nI ((d 0 3) + 1))))]) rfl rfl (by decide) rfl ?_
        refine n_iconst 1 rfl ?_
        have e9 := eT.trans (two_0 hz1 hz2)
        exact s_ret (st := []) rfl rfl rfl (Nat.zero_le _) (Nat.zero_le _) (⟨_, rfl, by rw [e9]; rfl, FrQ_mz rfl rfl (fun k hk => (p3.Q k hk).trans ((p2.Q k hk).trans (p1.Q k hk))), by rw [e9]; exact MW_ok ⟨t3, by show MR (aup e3 3 _) _; rw [E3]; exact MRup (MRup (MRup hM (by omega) (mPg (w := 0) hc9 (by decide)) (oI_pr w1.2.2.1)) (by omega) (mPg (w := 1) hc9 (by decide)) rfl) (by decide) (mP0 (by decide)) rfl, NM2_cg hN (up3_z (v := (kp x (tE x j) (d 0 0) u 0).2.2 - 1) (w := (nu x (kp x (tE x j) (d 0 0) u 0).2.1 0 9999999).2.2) (a := 9) (b := 10) (i := 3) (k := 0) d (by decide) (by decide) (by decide)), F3⟩⟩)
      · have hn3 := tbq_n hh2
        refine n_iconst 0 rfl ?_
        have e9 : _ := eT.trans (two_2 hz1 hn3)
        exact s_ret (st := []) rfl rfl rfl (Nat.zero_le _) (Nat.zero_le _) (⟨_, rfl, by rw [e9]; exact tb_no hn3, FrQ_mz rfl rfl (fun k hk => ((r3.2 hn3).2 k hk).trans ((fun k hk => (p2.Q k hk).trans (p1.Q k hk)) k hk)), by rw [e9]; exact MW_no hn3 (r3.2 hn3).1⟩)
  · rw [decide_eq_false hc9]
    show Ws (true, l9) sc mX10_givenLine 0 0 0 0 29 [(3, .int (nI (90 + (2 * (d 0 3))))), (0, .ref 53), (1, .int (nI 3)), (2, .int (nI 90))] [.int (nI 0), .int (nI 5), .ref 53] (mz σ [] []) (RI fun v σ' => v = nI (tb ((sGif x (j, d, u, o)).1 == 0)) ∧ FrQ σ σ' ∧ MW σ' x (sGif x (j, d, u, o)))
    refine s_virI [.int (nI 5), .int (nI 0)] [] rfl lkX10_151 rfl rfl rfl (k_starts_no (j := tS x j) hF.1 hC.2.1) rfl rfl (Nat.le_refl _) (Nat.le_refl _) rfl (rI (e1 := nI 0) rfl ?_)
    refine m_mz (L' := [(53, (aup (aup (σ.1 53) 13 (nI 5)) 14 (nI (tS x j))))]) (M' := []) rfl rfl ?_
    refine n_if_eq (tgt := 57) rfl rfl (by decide) (fun _ => ?_) (fun hq => absurd hq (by decide))
    refine n_iconst 0 rfl ?_
    have e9 : sGif x (j, d, u, o) = (5, j, d, u, o) := if_pos (by show 8 ≤ d 0 3; omega)
    exact s_ret (st := []) rfl rfl rfl (Nat.zero_le _) (Nat.zero_le _) (⟨_, rfl, by rw [e9]; exact tb_nr rfl, FrQ_mz rfl rfl (fun k hk => KPq (KPq (fun _ _ => rfl) rfl) rfl k hk), by rw [e9]; exact MW_no (by decide) ⟨rfl, rfl⟩⟩)

theorem k_givenLine_4 {l9 : Bool} {sc : SC} {σ : SS} {j : Nat} {d : D} {u : Nat → List Nat} {o : Nat → Bool} {x : TX} (hx : x.1 ≤ 700) (hb : ∀ i, x.2 i < 256) (hT : ∀ i, i < x.1 → σ.1 58 i = bI (x.2 i)) (hP : MP σ x (j, d, u, o)) (hVP : VP x (j, d, u, o)) (hk : tK x j = 1) : Cs (true, l9) sc mX10_givenLine 0 0 [.ref 53, .int (nI 4), .int (nI 106)] σ (RI fun v σ' => v = nI (tb ((sLeg x (j, d, u, o)).1 == 0)) ∧ FrQ σ σ' ∧ MW σ' x (sLeg x (j, d, u, o))) := by
  refine Cs.of gmX10_givenLine (Nat.le_of_ble_eq_true rfl) ?_
  show Ws (true, l9) sc mX10_givenLine 0 0 0 0 0 [(0, .ref 53), (1, .int (nI 4)), (2, .int (nI 106))] [] (mz σ [] []) (RI fun v σ' => v = nI (tb ((sLeg x (j, d, u, o)).1 == 0)) ∧ FrQ σ σ' ∧ MW σ' x (sLeg x (j, d, u, o)))
  have hC : MT (σ.1 53) (σ.2 53) x j := hP.1
  have hM : MR (σ.1 55) d := hP.2.1
  have hN : NM2 (σ.2 57) (d 0 0) u := hP.2.2.1
  have hF : FE (σ.1 53) o := hP.2.2.2
  have hV : Vd d := hVP.1
  have h6 : Z6 d := hVP.2.1
  have hu : ∀ p, p < d 0 0 → okW (u p) := hVP.2.2.1
  have hj : j ≤ x.1 := hVP.2.2.2
  have hCC := vC hV
  have hEg := tE_j x j
  have hk0 : tK x j ≠ 0 := by omega
  refine r_iload_n rfl rfl ?_
  refine n_iconst 2 rfl ?_
  refine r_aload_n rfl rfl ?_
  refine s_getR (r := 55) rfl flX10_13 rfl rfl ?_
  refine r_iload_n rfl rfl ?_
  refine s_iald (x := nI (d 0 4)) rfl rfl (by decide) (MRat hM 0 4 (by decide) (by decide)) ?_
  refine n_imul rfl ?_
  refine n_iadd rfl ?_
  refine r_istore_n (lv' := [(3, .int (nI (106 + (2 * (d 0 4))))), (0, .ref 53), (1, .int (nI 4)), (2, .int (nI 106))]) rfl rfl (Nat.le_of_ble_eq_true rfl) rfl ?_
  refine r_aload_n rfl rfl ?_
  refine n_iconst 5 rfl ?_
  refine r_aload_n rfl rfl ?_
  refine s_getR (r := 55) rfl flX10_13 rfl rfl ?_
  refine r_iload_n rfl rfl ?_
  refine s_iald (x := nI (d 0 4)) rfl rfl (by decide) (MRat hM 0 4 (by decide) (by decide)) ?_
  refine n_bipush 8 rfl (by decide) ?_
  suffices K : Ws (true, l9) sc mX10_givenLine 0 0 0 0 29 [(3, .int (nI (106 + (2 * (d 0 4))))), (0, .ref 53), (1, .int (nI 4)), (2, .int (nI 106))] [.int (nI (tb (decide (d 0 4 < 8)))), .int (nI 5), .ref 53] (mz σ [] []) (RI fun v σ' => v = nI (tb ((sLeg x (j, d, u, o)).1 == 0)) ∧ FrQ σ σ' ∧ MW σ' x (sLeg x (j, d, u, o))) by
    refine n_icmp_ge (tgt := 28) rfl rfl (by omega) (by omega) (fun hc => ?_) (fun hc => ?_)
    · refine n_iconst 0 rfl ?_
      exact r_top (by rw [decide_eq_false (by omega)]; rfl) K
    · refine n_iconst 1 rfl ?_
      refine r_goto (tgt := 29) rfl rfl ?_
      exact r_top (by rw [decide_eq_true (by omega)]; rfl) K
  have hcb := tb_le (decide (d 0 4 < 8))
  by_cases hc9 : d 0 4 < 8
  · rw [decide_eq_true hc9]
    show Ws (true, l9) sc mX10_givenLine 0 0 0 0 29 [(3, .int (nI (106 + (2 * (d 0 4))))), (0, .ref 53), (1, .int (nI 4)), (2, .int (nI 106))] [.int (nI 1), .int (nI 5), .ref 53] (mz σ [] []) (RI fun v σ' => v = nI (tb ((sLeg x (j, d, u, o)).1 == 0)) ∧ FrQ σ σ' ∧ MW σ' x (sLeg x (j, d, u, o)))
    refine s_virI [.int (nI 5), .int (nI 1)] [] rfl lkX10_151 rfl rfl rfl (k_starts hx hb hT hC hk0) rfl rfl (Nat.le_refl _) (Nat.le_refl _) rfl ?_
    rintro _ _ ⟨m1, l1, rfl, rfl, t1, p1⟩
    refine m_mz (L' := [(53, m1)]) (M' := [(53, l1)]) rfl rfl ?_
    refine n_if_eq (tgt := 57) rfl rfl (by decide) (fun hq => absurd hq (by decide)) (fun _ => ?_)
    refine r_aload_n rfl rfl ?_
    refine r_iload_n rfl rfl ?_
    refine n_iconst 0 rfl ?_
    have eT : sLeg x (j, d, u, o) = two x (j, d, u, o) (kp x (tE x j) (d 0 0) u 0) 9999999 (fun v w => up3 d 11 12 4 (v - 1) w) o := if_neg (by show ¬ 8 ≤ d 0 4; omega)
    have F1 := FE_k hF p1
    refine s_virI [.int (nI (106 + (2 * (d 0 4)))), .int (nI 0)] [] rfl lkX10_172 rfl rfl rfl (k_laysPerson_0 (b := 106 + 2 * d 0 4) (d := d) hx hb hT t1 F1.1 (MRat hM 0 0 (by decide) (by decide)) (MRat hM 0 5 (by decide) (by decide)) (by omega) (by omega) hN hu (by omega)) rfl rfl (Nat.le_refl _) (Nat.le_refl _) rfl ?_
    rintro _ _ ⟨m2, e2, l2, rfl, rfl, r2⟩
    refine m_mz (L' := [(53, m2), (55, e2)]) (M' := [(53, l2)]) rfl rfl ?_
    have hb2 := tb_le ((kp x (tE x j) (d 0 0) u 0).1 == 0)
    refine n_if_eq (tgt := 57) rfl rfl (by omega) (fun hh1 => ?_) (fun hh1 => ?_)
    · have hn2 := tbq_n hh1
      refine n_iconst 0 rfl ?_
      have e9 : _ := eT.trans (two_1 hn2)
      exact s_ret (st := []) rfl rfl rfl (Nat.zero_le _) (Nat.zero_le _) (⟨_, rfl, by rw [e9]; exact tb_no hn2, FrQ_mz rfl rfl (fun k hk => ((r2.2 hn2).2 k hk).trans ((p1.Q) k hk)), by rw [e9]; exact MW_no hn2 (r2.2 hn2).1⟩)
    · have hz1 := tbq_y hh1
      obtain ⟨t2, q2, p2⟩ := r2.1 hz1
      have w1 := kp_fw hz1
      have F2 := FE_k F1 p2
      refine r_aload_n rfl rfl ?_
      refine r_iload_n rfl rfl ?_
      refine n_iconst 1 rfl ?_
      refine n_iadd rfl ?_
      refine n_iconst 0 rfl ?_
      refine r_ldc (v := nI 9999999) rfl kcX10_187 ?_
      refine s_virI [.int (nI ((106 + (2 * (d 0 4))) + 1)), .int (nI 0), .int (nI 9999999)] [] rfl lkX10_177 rfl rfl rfl (k_lays (b := 106 + 2 * d 0 4 + 1) (l := 0) (m := 9999999) hx hb hT t2 F2.1 (by omega) (by omega) (by omega)) rfl rfl (Nat.le_refl _) (Nat.le_refl _) rfl ?_
      rintro _ _ ⟨m3, e3, l3, rfl, rfl, r3⟩
      refine m_mz (L' := [(53, m3), (55, e3)]) (M' := [(53, l3)]) rfl rfl ?_
      have hb3 := tb_le ((nu x (kp x (tE x j) (d 0 0) u 0).2.1 0 9999999).1 == 0)
      refine n_if_ne (tgt := 59) rfl rfl (by omega) (fun hh2 => ?_) (fun hh2 => ?_)
      · have hz2 := tbq_y hh2
        obtain ⟨t3, q3, p3⟩ := r3.1 hz2
        have w2 := nu_fw hz2
        have F3 := FE_k F2 p3
        have E3 : e3 = aup (aup (σ.1 55) (106 + 2 * d 0 4) (oI (kp x (tE x j) (d 0 0) u 0).2.2)) (106 + 2 * d 0 4 + 1) (nI (nu x (kp x (tE x j) (d 0 0) u 0).2.1 0 9999999).2.2) := by rw [q3]; show aup e2 _ _ = _; rw [q2]; rfl
        have hg : e3 4 = nI (d 0 4) := by rw [E3, aup_n _ _ (by omega), aup_n _ _ (by omega)]; exact MRat hM 0 4 (by decide) (by decide)
        refine r_aload_n rfl rfl ?_
        refine s_getR (r := 55) rfl flX10_13 rfl rfl ?_
        refine r_iload_n rfl rfl ?_
        refine r_dup2 rfl rfl rfl ?_
        refine s_iald (x := nI (d 0 4)) rfl rfl (by decide) hg ?_
        refine n_iconst 1 rfl ?_
        refine n_iadd rfl ?_
        refine m_iast (L' := [(53, m3), (55, (aup e3 4 (nI ((d 0 4) + 1))))]) rfl rfl (by decide) rfl ?_
        refine n_iconst 1 rfl ?_
        have e9 := eT.trans (two_0 hz1 hz2)
        exact s_ret (st := []) rfl rfl rfl (Nat.zero_le _) (Nat.zero_le _) (⟨_, rfl, by rw [e9]; rfl, FrQ_mz rfl rfl (fun k hk => (p3.Q k hk).trans ((p2.Q k hk).trans (p1.Q k hk))), by rw [e9]; exact MW_ok ⟨t3, by show MR (aup e3 4 _) _; rw [E3]; exact MRup (MRup (MRup hM (by omega) (mPl (w := 0) hc9 (by decide)) (oI_pr w1.2.2.1)) (by omega) (mPl (w := 1) hc9 (by decide)) rfl) (by decide) (mP0 (by decide)) rfl, NM2_cg hN (up3_z (v := (kp x (tE x j) (d 0 0) u 0).2.2 - 1) (w := (nu x (kp x (tE x j) (d 0 0) u 0).2.1 0 9999999).2.2) (a := 11) (b := 12) (i := 4) (k := 0) d (by decide) (by decide) (by decide)), F3⟩⟩)
      · have hn3 := tbq_n hh2
        refine n_iconst 0 rfl ?_
        have e9 : _ := eT.trans (two_2 hz1 hn3)
        exact s_ret (st := []) rfl rfl rfl (Nat.zero_le _) (Nat.zero_le _) (⟨_, rfl, by rw [e9]; exact tb_no hn3, FrQ_mz rfl rfl (fun k hk => ((r3.2 hn3).2 k hk).trans ((fun k hk => (p2.Q k hk).trans (p1.Q k hk)) k hk)), by rw [e9]; exact MW_no hn3 (r3.2 hn3).1⟩)
  · rw [decide_eq_false hc9]
    show Ws (true, l9) sc mX10_givenLine 0 0 0 0 29 [(3, .int (nI (106 + (2 * (d 0 4))))), (0, .ref 53), (1, .int (nI 4)), (2, .int (nI 106))] [.int (nI 0), .int (nI 5), .ref 53] (mz σ [] []) (RI fun v σ' => v = nI (tb ((sLeg x (j, d, u, o)).1 == 0)) ∧ FrQ σ σ' ∧ MW σ' x (sLeg x (j, d, u, o)))
    refine s_virI [.int (nI 5), .int (nI 0)] [] rfl lkX10_151 rfl rfl rfl (k_starts_no (j := tS x j) hF.1 hC.2.1) rfl rfl (Nat.le_refl _) (Nat.le_refl _) rfl (rI (e1 := nI 0) rfl ?_)
    refine m_mz (L' := [(53, (aup (aup (σ.1 53) 13 (nI 5)) 14 (nI (tS x j))))]) (M' := []) rfl rfl ?_
    refine n_if_eq (tgt := 57) rfl rfl (by decide) (fun _ => ?_) (fun hq => absurd hq (by decide))
    refine n_iconst 0 rfl ?_
    have e9 : sLeg x (j, d, u, o) = (5, j, d, u, o) := if_pos (by show 8 ≤ d 0 4; omega)
    exact s_ret (st := []) rfl rfl rfl (Nat.zero_le _) (Nat.zero_le _) (⟨_, rfl, by rw [e9]; exact tb_nr rfl, FrQ_mz rfl rfl (fun k hk => KPq (KPq (fun _ _ => rfl) rfl) rfl k hk), by rw [e9]; exact MW_no (by decide) ⟨rfl, rfl⟩⟩)

theorem k_assetLine {l9 : Bool} {sc : SC} {σ : SS} {j : Nat} {d : D} {u : Nat → List Nat} {o : Nat → Bool} {x : TX} (hx : x.1 ≤ 700) (hb : ∀ i, x.2 i < 256) (hT : ∀ i, i < x.1 → σ.1 58 i = bI (x.2 i)) (hP : MP σ x (j, d, u, o)) (hVP : VP x (j, d, u, o)) (hk : tK x j = 1) : Cs (true, l9) sc mX10_assetLine 0 0 [.ref 53] σ (RI fun v σ' => v = nI (tb ((sAss x (j, d, u, o)).1 == 0)) ∧ FrQ σ σ' ∧ MW σ' x (sAss x (j, d, u, o))) := by
  refine Cs.of gmX10_assetLine (Nat.le_of_ble_eq_true rfl) ?_
  show Ws (true, l9) sc mX10_assetLine 0 0 0 0 0 [(0, .ref 53)] [] (mz σ [] []) (RI fun v σ' => v = nI (tb ((sAss x (j, d, u, o)).1 == 0)) ∧ FrQ σ σ' ∧ MW σ' x (sAss x (j, d, u, o)))
  have hC : MT (σ.1 53) (σ.2 53) x j := hP.1
  have hM : MR (σ.1 55) d := hP.2.1
  have hN : NM2 (σ.2 57) (d 0 0) u := hP.2.2.1
  have hF : FE (σ.1 53) o := hP.2.2.2
  have hV : Vd d := hVP.1
  have h6 : Z6 d := hVP.2.1
  have hu : ∀ p, p < d 0 0 → okW (u p) := hVP.2.2.1
  have hj : j ≤ x.1 := hVP.2.2.2
  have hCC := vC hV
  have hEg := tE_j x j
  have hk0 : tK x j ≠ 0 := by omega
  refine n_bipush 58 rfl (by decide) ?_
  refine n_iconst 2 rfl ?_
  refine r_aload_n rfl rfl ?_
  refine s_getR (r := 55) rfl flX10_13 rfl rfl ?_
  refine n_iconst 1 rfl ?_
  refine s_iald (x := nI (d 0 1)) rfl rfl (by decide) (MRat hM 0 1 (by decide) (by decide)) ?_
  refine n_imul rfl ?_
  refine n_iadd rfl ?_
  refine r_istore_n (lv' := [(1, .int (nI (58 + (2 * (d 0 1))))), (0, .ref 53)]) rfl rfl (Nat.le_of_ble_eq_true rfl) rfl ?_
  refine r_aload_n rfl rfl ?_
  refine n_iconst 5 rfl ?_
  refine r_aload_n rfl rfl ?_
  refine s_getR (r := 55) rfl flX10_13 rfl rfl ?_
  refine n_iconst 1 rfl ?_
  refine s_iald (x := nI (d 0 1)) rfl rfl (by decide) (MRat hM 0 1 (by decide) (by decide)) ?_
  refine n_bipush 8 rfl (by decide) ?_
  suffices K : Ws (true, l9) sc mX10_assetLine 0 0 0 0 30 [(1, .int (nI (58 + (2 * (d 0 1))))), (0, .ref 53)] [.int (nI (tb (decide (d 0 1 < 8)))), .int (nI 5), .ref 53] (mz σ [] []) (RI fun v σ' => v = nI (tb ((sAss x (j, d, u, o)).1 == 0)) ∧ FrQ σ σ' ∧ MW σ' x (sAss x (j, d, u, o))) by
    refine n_icmp_ge (tgt := 29) rfl rfl (by omega) (by omega) (fun hc => ?_) (fun hc => ?_)
    · refine n_iconst 0 rfl ?_
      exact r_top (by rw [decide_eq_false (by omega)]; rfl) K
    · refine n_iconst 1 rfl ?_
      refine r_goto (tgt := 30) rfl rfl ?_
      exact r_top (by rw [decide_eq_true (by omega)]; rfl) K
  have hcb := tb_le (decide (d 0 1 < 8))
  by_cases hc9 : d 0 1 < 8
  · rw [decide_eq_true hc9]
    show Ws (true, l9) sc mX10_assetLine 0 0 0 0 30 [(1, .int (nI (58 + (2 * (d 0 1))))), (0, .ref 53)] [.int (nI 1), .int (nI 5), .ref 53] (mz σ [] []) (RI fun v σ' => v = nI (tb ((sAss x (j, d, u, o)).1 == 0)) ∧ FrQ σ σ' ∧ MW σ' x (sAss x (j, d, u, o)))
    have hnc : ¬ 8 ≤ d 0 1 := by omega
    refine s_virI [.int (nI 5), .int (nI 1)] [] rfl lkX10_151 rfl rfl rfl (k_starts hx hb hT hC hk0) rfl rfl (Nat.le_refl _) (Nat.le_refl _) rfl ?_
    rintro _ _ ⟨m1, l1, rfl, rfl, t1, p1⟩
    refine m_mz (L' := [(53, m1)]) (M' := [(53, l1)]) rfl rfl ?_
    refine n_if_eq (tgt := 47) rfl rfl (by decide) (fun hq => absurd hq (by decide)) (fun _ => ?_)
    refine r_aload_n rfl rfl ?_
    refine r_iload_n rfl rfl ?_
    refine n_iconst 0 rfl ?_
    refine r_ldc (v := nI 9999999) rfl kcX10_187 ?_
    have F1 := FE_k hF p1
    refine s_virI [.int (nI (58 + (2 * (d 0 1)))), .int (nI 0), .int (nI 9999999)] [] rfl lkX10_177 rfl rfl rfl (k_lays (b := 58 + 2 * d 0 1) (l := 0) (m := 9999999) hx hb hT t1 F1.1 (by omega) (by omega) (by omega)) rfl rfl (Nat.le_refl _) (Nat.le_refl _) rfl ?_
    rintro _ _ ⟨m2, e2, l2, rfl, rfl, r2⟩
    refine m_mz (L' := [(53, m2), (55, e2)]) (M' := [(53, l2)]) rfl rfl ?_
    have hb2 := tb_le ((nu x (tE x j) 0 9999999).1 == 0)
    refine n_if_ne (tgt := 49) rfl rfl (by omega) (fun hh1 => ?_) (fun hh1 => ?_)
    · have hz1 := tbq_y hh1
      obtain ⟨t2, q2, p2⟩ := r2.1 hz1
      have w1 := nu_fw hz1
      have F2 := FE_k F1 p2
      have hg : e2 1 = nI (d 0 1) := by rw [q2, aup_n _ _ (by omega)]; exact MRat hM 0 1 (by decide) (by decide)
      refine r_aload_n rfl rfl ?_
      refine s_getR (r := 55) rfl flX10_13 rfl rfl ?_
      refine n_iconst 1 rfl ?_
      refine r_dup2 rfl rfl rfl ?_
      refine s_iald (x := nI (d 0 1)) rfl rfl (by decide) hg ?_
      refine n_iconst 1 rfl ?_
      refine n_iadd rfl ?_
      refine m_iast (L' := [(53, m2), (55, (aup e2 1 (nI ((d 0 1) + 1))))]) rfl rfl (by decide) rfl ?_
      refine r_aload_n rfl rfl ?_
      refine r_ldcS (i := 32) rfl rfl ?_
      refine s_virI [.retAddr 32] [] rfl lkX10_168 rfl rfl rfl (k_isWord sq32 sv32 hx hb hT t2) rfl rfl (Nat.le_refl _) (Nat.le_refl _) rfl (rI (e1 := nI (tb (iw x ((nu x (tE x j) 0 9999999).2.1) Wcharge))) rfl ?_)
      have hbcharge := tb_le (iw x ((nu x (tE x j) 0 9999999).2.1) Wcharge)
      refine n_if_ne (tgt := 70) rfl rfl (by omega) (fun h2 => ?_) (fun h2 => ?_)
      · have hiw := tb_ne h2
        have eC : chr x (nu x (tE x j) 0 9999999).2.1 = nu x (tE x (nu x (tE x j) 0 9999999).2.1) 0 100 := if_pos hiw
        refine r_aload_n rfl rfl ?_
        refine s_virV [] [] rfl lkX10_145 rfl rfl rfl (k_adv hx hb hT t2.1 (t2.2.2.1 (by rw [iw_1 hiw]; decide)) (iw_E hiw)) rfl rfl (Nat.le_refl _) (Nat.le_refl _) rfl ?_
        rintro _ ⟨m4, l4, rfl, t4, s4, y4⟩
        refine m_mz (L' := [(53, m4), (55, (aup e2 1 (nI ((d 0 1) + 1))))]) (M' := [(53, l4)]) rfl rfl ?_
        have p4 : KP m4 _ := fun k a b c d _ => s4 k a b c d
        have F4 := FE_k F2 p4
        refine r_aload_n rfl rfl ?_
        refine r_iload_n rfl rfl ?_
        refine n_iconst 1 rfl ?_
        refine n_iadd rfl ?_
        refine n_iconst 0 rfl ?_
        refine n_bipush 100 rfl (by decide) ?_
        refine s_virI [.int (nI ((58 + (2 * (d 0 1))) + 1)), .int (nI 0), .int (nI 100)] [] rfl lkX10_177 rfl rfl rfl (k_lays (b := 58 + 2 * d 0 1 + 1) (l := 0) (m := 100) hx hb hT t4 F4.1 (by omega) (by omega) (by omega)) rfl rfl (Nat.le_refl _) (Nat.le_refl _) rfl ?_
        rintro _ _ ⟨m3, e3, l3, rfl, rfl, r3⟩
        refine m_mz (L' := [(53, m3), (55, e3)]) (M' := [(53, l3)]) rfl rfl ?_
        have hb3 := tb_le ((nu x (tE x (nu x (tE x j) 0 9999999).2.1) 0 100).1 == 0)
        rcases (show (nu x (tE x (nu x (tE x j) 0 9999999).2.1) 0 100).1 = 0 ∨ (nu x (tE x (nu x (tE x j) 0 9999999).2.1) 0 100).1 ≠ 0 by omega) with hz2 | hn3
        · obtain ⟨t3, q3, p3⟩ := r3.1 hz2
          have F3 := FE_k F4 p3
          have e9 : sAss x (j, d, u, o) = (0, (chr x (nu x (tE x j) 0 9999999).2.1).2.1, up3 d 5 6 1 (nu x (tE x j) 0 9999999).2.2 (chr x (nu x (tE x j) 0 9999999).2.1).2.2, u, o) := (if_neg hnc).trans ((if_neg (fun z => z hz1)).trans (if_neg (fun z => z (by rw [eC]; exact hz2))))
          have E3 : e3 = aup (aup (aup (σ.1 55) (58 + 2 * d 0 1) (nI (nu x (tE x j) 0 9999999).2.2)) 1 (nI (d 0 1 + 1))) (58 + 2 * d 0 1 + 1) (nI (nu x (tE x (nu x (tE x j) 0 9999999).2.1) 0 100).2.2) := by rw [q3]; show aup (aup e2 1 _) _ _ = _; rw [q2]; rfl
          have eD : up (up (up d 5 (d 0 1) (nu x (tE x j) 0 9999999).2.2) 0 1 (d 0 1 + 1)) 6 (d 0 1) (nu x (tE x (nu x (tE x j) 0 9999999).2.1) 0 100).2.2 = up3 d 5 6 1 (nu x (tE x j) 0 9999999).2.2 (nu x (tE x (nu x (tE x j) 0 9999999).2.1) 0 100).2.2 := by unfold up3; exact up_cm (Or.inl (by decide))
          exact s_ret (st := []) rfl rfl (nar_tb _) (Nat.zero_le _) (Nat.zero_le _) (⟨_, rfl, by rw [e9, hz2], FrQ_mz rfl rfl (fun k hk => (p3.Q k hk).trans ((p4.Q k hk).trans ((p2.Q k hk).trans (p1.Q k hk)))), by rw [e9, eC]; exact MW_ok ⟨t3, MR_e (by show MR e3 _; rw [E3]; exact MRup (MRup (MRup hM (by omega) (mPa (w := 0) hc9 (by decide)) rfl) (by decide) (mP0 (by decide)) rfl) (by omega) (mPa (w := 1) hc9 (by decide)) rfl) eD, NM2_cg hN (up3_z (v := (nu x (tE x j) 0 9999999).2.2) (w := (nu x (tE x (nu x (tE x j) 0 9999999).2.1) 0 100).2.2) (a := 5) (b := 6) (i := 1) (k := 0) d (by decide) (by decide) (by decide)), F3⟩⟩)
        · have e9 : sAss x (j, d, u, o) = ((nu x (tE x (nu x (tE x j) 0 9999999).2.1) 0 100).1, (nu x (tE x (nu x (tE x j) 0 9999999).2.1) 0 100).2.1, d, u, o) := by rw [← eC]; exact (if_neg hnc).trans ((if_neg (fun z => z hz1)).trans (if_pos (by rw [eC]; exact hn3)))
          exact s_ret (st := []) rfl rfl (nar_tb _) (Nat.zero_le _) (Nat.zero_le _) (⟨_, rfl, by rw [e9], FrQ_mz rfl rfl (fun k hk => ((r3.2 hn3).2 k hk).trans ((p4.Q k hk).trans ((p2.Q k hk).trans (p1.Q k hk)))), by rw [e9]; exact MW_no hn3 (r3.2 hn3).1⟩)
      · have eC : chr x (nu x (tE x j) 0 9999999).2.1 = (0, (nu x (tE x j) 0 9999999).2.1, 0) := if_neg (by rw [tb_z h2]; decide)
        refine n_iconst 1 rfl ?_
        have e9 : sAss x (j, d, u, o) = (0, (chr x (nu x (tE x j) 0 9999999).2.1).2.1, up3 d 5 6 1 (nu x (tE x j) 0 9999999).2.2 (chr x (nu x (tE x j) 0 9999999).2.1).2.2, u, o) := (if_neg hnc).trans ((if_neg (fun z => z hz1)).trans (if_neg (fun z => z (by rw [eC]))))
        have eD : up (up d 5 (d 0 1) (nu x (tE x j) 0 9999999).2.2) 0 1 (d 0 1 + 1) = up3 d 5 6 1 (nu x (tE x j) 0 9999999).2.2 0 := by unfold up3; rw [up_id (d := up d 5 (d 0 1) (nu x (tE x j) 0 9999999).2.2) (a := 6) (by rw [up_n1 _ _ (by decide)]; exact h6 _ (Nat.le_refl _))]
        exact s_ret (st := []) rfl rfl rfl (Nat.zero_le _) (Nat.zero_le _) (⟨_, rfl, by rw [e9]; rfl, FrQ_mz rfl rfl (fun k hk => (p2.Q k hk).trans (p1.Q k hk)), by rw [e9, eC]; exact MW_ok ⟨t2, MR_e (by show MR (aup e2 1 _) _; rw [q2]; exact MRup (MRup hM (by omega) (mPa (w := 0) hc9 (by decide)) rfl) (by decide) (mP0 (by decide)) rfl) eD, NM2_cg hN (up3_z (v := (nu x (tE x j) 0 9999999).2.2) (w := 0) (a := 5) (b := 6) (i := 1) (k := 0) d (by decide) (by decide) (by decide)), F2⟩⟩)
    · have hn2 := tbq_n hh1
      refine n_iconst 0 rfl ?_
      have e9 : sAss x (j, d, u, o) = ((nu x (tE x j) 0 9999999).1, (nu x (tE x j) 0 9999999).2.1, d, u, o) := (if_neg hnc).trans (if_pos hn2)
      exact s_ret (st := []) rfl rfl rfl (Nat.zero_le _) (Nat.zero_le _) (⟨_, rfl, by rw [e9]; exact tb_no hn2, FrQ_mz rfl rfl (fun k hk => ((r2.2 hn2).2 k hk).trans ((p1.Q) k hk)), by rw [e9]; exact MW_no hn2 (r2.2 hn2).1⟩)
  · rw [decide_eq_false hc9]
    show Ws (true, l9) sc mX10_assetLine 0 0 0 0 30 [(1, .int (nI (58 + (2 * (d 0 1))))), (0, .ref 53)] [.int (nI 0), .int (nI 5), .ref 53] (mz σ [] []) (RI fun v σ' => v = nI (tb ((sAss x (j, d, u, o)).1 == 0)) ∧ FrQ σ σ' ∧ MW σ' x (sAss x (j, d, u, o)))
    refine s_virI [.int (nI 5), .int (nI 0)] [] rfl lkX10_151 rfl rfl rfl (k_starts_no (j := tS x j) hF.1 hC.2.1) rfl rfl (Nat.le_refl _) (Nat.le_refl _) rfl (rI (e1 := nI 0) rfl ?_)
    refine m_mz (L' := [(53, (aup (aup (σ.1 53) 13 (nI 5)) 14 (nI (tS x j))))]) (M' := []) rfl rfl ?_
    refine n_if_eq (tgt := 47) rfl rfl (by decide) (fun _ => ?_) (fun hq => absurd hq (by decide))
    refine n_iconst 0 rfl ?_
    have e9 : sAss x (j, d, u, o) = (5, j, d, u, o) := if_pos (by show 8 ≤ d 0 1; omega)
    exact s_ret (st := []) rfl rfl rfl (Nat.zero_le _) (Nat.zero_le _) (⟨_, rfl, by rw [e9]; exact tb_nr rfl, FrQ_mz rfl rfl (fun k hk => KPq (KPq (fun _ _ => rfl) rfl) rfl k hk), by rw [e9]; exact MW_no (by decide) ⟨rfl, rfl⟩⟩)

theorem k_accrueLine {l9 : Bool} {sc : SC} {σ : SS} {j : Nat} {d : D} {u : Nat → List Nat} {o : Nat → Bool} {x : TX} (hx : x.1 ≤ 700) (hb : ∀ i, x.2 i < 256) (hT : ∀ i, i < x.1 → σ.1 58 i = bI (x.2 i)) (hP : MP σ x (j, d, u, o)) (hVP : VP x (j, d, u, o)) (hk : tK x j = 1) : Cs (true, l9) sc mX10_accrueLine 0 0 [.ref 53] σ (RI fun v σ' => v = nI (tb ((sAcc x (j, d, u, o)).1 == 0)) ∧ FrQ σ σ' ∧ MW σ' x (sAcc x (j, d, u, o))) := by
  refine Cs.of gmX10_accrueLine (Nat.le_of_ble_eq_true rfl) ?_
  show Ws (true, l9) sc mX10_accrueLine 0 0 0 0 0 [(0, .ref 53)] [] (mz σ [] []) (RI fun v σ' => v = nI (tb ((sAcc x (j, d, u, o)).1 == 0)) ∧ FrQ σ σ' ∧ MW σ' x (sAcc x (j, d, u, o)))
  have hC : MT (σ.1 53) (σ.2 53) x j := hP.1
  have hM : MR (σ.1 55) d := hP.2.1
  have hN : NM2 (σ.2 57) (d 0 0) u := hP.2.2.1
  have hF : FE (σ.1 53) o := hP.2.2.2
  have hV : Vd d := hVP.1
  have h6 : Z6 d := hVP.2.1
  have hu : ∀ p, p < d 0 0 → okW (u p) := hVP.2.2.1
  have hj : j ≤ x.1 := hVP.2.2.2
  have hCC := vC hV
  have hEg := tE_j x j
  have hk0 : tK x j ≠ 0 := by omega
  refine r_aload_n rfl rfl ?_
  refine n_iconst 2 rfl ?_
  rcases Bool.eq_false_or_eq_true (o 2) with ho | ho
  · refine s_virI [.int (nI 2)] [] rfl lkX10_190 rfl rfl rfl (k_once_no (j := tS x j) (by decide) hF.1 hC.2.1 hF.2.2 ho) rfl rfl (Nat.le_refl _) (Nat.le_refl _) rfl (rI (e1 := nI 0) rfl ?_)
    refine m_mz (L' := [(53, (aup (aup (aup (σ.1 53) 16 (nI (mk (aup o 2 true) 3))) 13 (nI 2)) 14 (nI (tS x j))))]) (M' := []) rfl rfl ?_
    refine n_if_ne (tgt := 10) rfl rfl (by decide) (fun hq => absurd hq (by decide)) (fun _ => ?_)
    refine n_iconst 0 rfl ?_
    have e9 : sAcc x (j, d, u, o) = (2, j, d, u, o) := if_pos ho
    exact s_ret (st := []) rfl rfl rfl (Nat.zero_le _) (Nat.zero_le _) (⟨_, rfl, by rw [e9]; exact tb_nr rfl, FrQ_mz rfl rfl (fun k hk => KPq (KPq (KPq (fun _ _ => rfl) rfl) rfl) rfl k hk), by rw [e9]; exact MW_no (by decide) ⟨rfl, rfl⟩⟩)
  · have ho1 : ¬ o 2 = true := by rw [ho]; decide
    refine s_virI [.int (nI 2)] [] rfl lkX10_190 rfl rfl rfl (k_once (q := 2) (by decide) hx hb hT hC hk0 hF ho) rfl rfl (Nat.le_refl _) (Nat.le_refl _) rfl ?_
    rintro _ _ ⟨m1, l1, rfl, rfl, t1, F1, p1⟩
    refine m_mz (L' := [(53, m1)]) (M' := [(53, l1)]) rfl rfl ?_
    refine n_if_ne (tgt := 10) rfl rfl (by decide) (fun _ => ?_) (fun hq => absurd hq (by decide))
    refine r_aload_n rfl rfl ?_
    refine s_getR (r := 55) rfl flX10_13 rfl rfl ?_
    refine n_bipush 9 rfl (by decide) ?_
    refine r_aload_n rfl rfl ?_
    refine r_ldcS (i := 39) rfl rfl ?_
    refine s_virI [.retAddr 39] [.int (nI 9), .ref 55] rfl lkX10_168 rfl rfl rfl (k_isWord sq39 sv39 hx hb hT t1) rfl rfl (Nat.le_refl _) (Nat.le_refl _) rfl (rI (e1 := nI (tb (iw x (tE x j) Wline))) rfl ?_)
    have hbline := tb_le (iw x (tE x j) Wline)
    suffices K : Ws (true, l9) sc mX10_accrueLine 0 0 0 0 30 [(0, .ref 53)] [.int (nI (tb (iw x (tE x j) Wline))), .int (nI 9), .ref 55] (mz σ [(53, m1)] [(53, l1)]) (RI fun v σ' => v = nI (tb ((sAcc x (j, d, u, o)).1 == 0)) ∧ FrQ σ σ' ∧ MW σ' x (sAcc x (j, d, u, o))) by
      refine n_if_eq (tgt := 29) rfl rfl (by omega) (fun h3 => ?_) (fun h3 => ?_)
      · refine n_iconst 0 rfl ?_
        exact r_top (by rw [h3]) K
      · refine n_iconst 1 rfl ?_
        refine r_goto (tgt := 30) rfl rfl ?_
        exact r_top (by rw [tb_ne h3]; rfl) K
    refine m_iast (L' := [(53, m1), (55, (aup (σ.1 55) 9 (nI (tb (iw x (tE x j) Wline)))))]) rfl rfl (by decide) rfl ?_
    refine r_aload_n rfl rfl ?_
    refine n_iconst 1 rfl ?_
    refine r_aload_n rfl rfl ?_
    refine r_ldcS (i := 39) rfl rfl ?_
    refine s_virI [.retAddr 39] [.int (nI 1), .ref 53] rfl lkX10_168 rfl rfl rfl (k_isWord sq39 sv39 hx hb hT t1) rfl rfl (Nat.le_refl _) (Nat.le_refl _) rfl (rI (e1 := nI (tb (iw x (tE x j) Wline))) rfl ?_)
    suffices K : Ws (true, l9) sc mX10_accrueLine 0 0 0 0 56 [(0, .ref 53)] [.int (nI (tb (iw x (tE x j) Wline || iw x (tE x j) Wothers))), .int (nI 1), .ref 53] (mz σ [(53, m1), (55, (aup (σ.1 55) 9 (nI (tb (iw x (tE x j) Wline)))))] [(53, l1)]) (RI fun v σ' => v = nI (tb ((sAcc x (j, d, u, o)).1 == 0)) ∧ FrQ σ σ' ∧ MW σ' x (sAcc x (j, d, u, o))) by
      refine n_if_ne (tgt := 51) rfl rfl (by omega) (fun h3 => ?_) (fun h3 => ?_)
      · refine n_iconst 1 rfl ?_
        refine r_goto (tgt := 56) rfl rfl ?_
        exact r_top (by rw [tb_ne h3]; rfl) K
      · refine r_aload_n rfl rfl ?_
        refine r_ldcS (i := 40) rfl rfl ?_
        refine s_virI [.retAddr 40] [.int (nI 1), .ref 53] rfl lkX10_168 rfl rfl rfl (k_isWord sq40 sv40 hx hb hT t1) rfl rfl (Nat.le_refl _) (Nat.le_refl _) rfl (rI (e1 := nI (tb (iw x (tE x j) Wothers))) rfl ?_)
        have hbothers := tb_le (iw x (tE x j) Wothers)
        refine n_if_eq (tgt := 55) rfl rfl (by omega) (fun h4 => ?_) (fun h4 => ?_)
        · refine n_iconst 0 rfl ?_
          exact r_top (by rw [tb_z h3, tb_z h4]; rfl) K
        · refine n_iconst 1 rfl ?_
          refine r_goto (tgt := 56) rfl rfl ?_
          exact r_top (by rw [tb_ne h4, Bool.or_true]; rfl) K
    rcases Bool.eq_false_or_eq_true (iw x (tE x j) Wline || iw x (tE x j) Wothers) with hcc | hcc
    · rw [hcc]
      show Ws (true, l9) sc mX10_accrueLine 0 0 0 0 56 [(0, .ref 53)] [.int (nI 1), .int (nI 1), .ref 53] (mz σ [(53, m1), (55, (aup (σ.1 55) 9 (nI (tb (iw x (tE x j) Wline)))))] [(53, l1)]) (RI fun v σ' => v = nI (tb ((sAcc x (j, d, u, o)).1 == 0)) ∧ FrQ σ σ' ∧ MW σ' x (sAcc x (j, d, u, o)))
      have hkw : tK x (tE x j) ≠ 0 := by rcases Bool.or_eq_true_iff.mp hcc with z | z <;> (rw [iw_1 z]; decide)
      refine s_virI [.int (nI 1), .int (nI 1)] [] rfl lkX10_151 rfl rfl rfl (k_starts hx hb hT t1 hkw) rfl rfl (Nat.le_refl _) (Nat.le_refl _) rfl ?_
      rintro _ _ ⟨m2, l2, rfl, rfl, t2, p2⟩
      refine m_mz (L' := [(53, m2), (55, (aup (σ.1 55) 9 (nI (tb (iw x (tE x j) Wline)))))]) (M' := [(53, l2)]) rfl rfl ?_
      have F2 := FE_k F1 p2
      have e9 : sAcc x (j, d, u, o) = (0, tE x (tE x j), up d 0 9 (tb (iw x (tE x j) Wline)), u, aup o 2 true) := by
        rcases Bool.eq_false_or_eq_true (iw x (tE x j) Wline) with z | z
        · rw [z]; exact (if_neg ho1).trans (if_pos z)
        · rw [z]; rw [z, Bool.false_or] at hcc; exact (if_neg ho1).trans ((if_neg (by rw [z]; decide)).trans (if_pos hcc))
      exact s_ret (st := []) rfl rfl rfl (Nat.zero_le _) (Nat.zero_le _) (⟨_, rfl, by rw [e9]; rfl, FrQ_mz rfl rfl (fun k hk => (p2.Q k hk).trans (p1 k hk)), by rw [e9]; exact MW_ok ⟨t2, MRup hM (by decide) (mP0 (by decide)) rfl, NM2_cg hN rfl, F2⟩⟩)
    · rw [hcc]
      show Ws (true, l9) sc mX10_accrueLine 0 0 0 0 56 [(0, .ref 53)] [.int (nI 0), .int (nI 1), .ref 53] (mz σ [(53, m1), (55, (aup (σ.1 55) 9 (nI (tb (iw x (tE x j) Wline)))))] [(53, l1)]) (RI fun v σ' => v = nI (tb ((sAcc x (j, d, u, o)).1 == 0)) ∧ FrQ σ σ' ∧ MW σ' x (sAcc x (j, d, u, o)))
      refine s_virI [.int (nI 1), .int (nI 0)] [] rfl lkX10_151 rfl rfl rfl (k_starts_no (j := tS x (tE x j)) F1.1 t1.2.1) rfl rfl (Nat.le_refl _) (Nat.le_refl _) rfl (rI (e1 := nI 0) rfl ?_)
      refine m_mz (L' := [(53, (aup (aup m1 13 (nI 1)) 14 (nI (tS x (tE x j))))), (55, (aup (σ.1 55) 9 (nI (tb (iw x (tE x j) Wline)))))]) (M' := [(53, l1)]) rfl rfl ?_
      have hff := Bool.or_eq_false_iff.mp hcc
      have e9 : sAcc x (j, d, u, o) = (1, tE x j, d, u, o) := (if_neg ho1).trans ((if_neg (by rw [hff.1]; decide)).trans (if_neg (by rw [hff.2]; decide)))
      exact s_ret (st := []) rfl rfl rfl (Nat.zero_le _) (Nat.zero_le _) (⟨_, rfl, by rw [e9]; exact tb_nr rfl, FrQ_mz rfl rfl (fun k hk => KPq (KPq (fun i hi => p1 i hi) rfl) rfl k hk), by rw [e9]; exact MW_no (by decide) ⟨rfl, rfl⟩⟩)

