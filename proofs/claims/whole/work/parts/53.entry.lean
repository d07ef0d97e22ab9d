def strQ : List Cond := Jvm.Free.XT.flat (Jvm.Cond.and given_1 narrow_1)
def sT (x : String × Nat × String × List Int32) : Term := .string x.1 x.2.1
def strW (x : String × Nat × String × List Int32) : List Cond := [.exactly (sT x) "java/lang/String", .eq (.field (sT x) "java/lang/String" "coder" "B") (.int 0), .arrayOf (.field (sT x) "java/lang/String" "value" "[B") .byte, .eq (.length (.field (sT x) "java/lang/String" "value" "[B")) (.int (Int32.ofNat x.2.2.2.length))] ++ (List.range x.2.2.2.length).map (fun j => .eq (.elem (.field (sT x) "java/lang/String" "value" "[B") (.int (Int32.ofNat j))) (.int (x.2.2.2.getD j 0)))
def sPos : List Nat := [50, 60, 70, 79, 86, 94, 104, 113, 123, 131, 139, 149, 158, 166, 176, 184, 194, 202, 213, 223, 232, 243, 259, 268, 277, 285, 299, 311, 321, 329, 338, 349, 360, 371, 381, 390, 402, 412, 421, 432, 441]
def sD0 : String × Nat × String × List Int32 := ("", 0, "", [])
set_option maxRecDepth 100000 in
theorem str_tab : ∀ i, i < 41 → (strQ.drop (sPos.getD i 0)).take (4 + (strJ.getD i sD0).2.2.2.length) = strW (strJ.getD i sD0) := by decide +kernel
theorem strl_ok : ∀ i, i < 41 → (strJ.getD i sD0).2.2.2.length < 100 := by decide +kernel
theorem str_in {x : String × Nat × String × List Int32} {i : Nat} (h : strJ[i]? = some x) : (∀ w ∈ strW x, w ∈ strQ) ∧ x.2.2.2.length < 100 := by
  have hi : i < 41 := (List.getElem?_eq_some_iff.mp h).1
  have e : strJ.getD i sD0 = x := by rw [List.getD_eq_getElem?_getD, h]; rfl
  have t := str_tab i hi
  have t2 := strl_ok i hi
  rw [e] at t t2
  refine ⟨fun w hw => ?_, t2⟩
  rw [← t] at hw
  exact List.mem_of_mem_drop (List.mem_of_mem_take hw)
set_option maxRecDepth 100000 in
theorem strR_in : ∀ x ∈ strJ, Cond.stringRef x.1 x.2.1 x.2.2.1 ∈ lw_tbl := List.forall_mem_cons.mpr ⟨List.mem_of_getElem? (i := 766) (by decide +kernel), List.forall_mem_cons.mpr ⟨List.mem_of_getElem? (i := 809) (by decide +kernel), List.forall_mem_cons.mpr ⟨List.mem_of_getElem? (i := 873) (by decide +kernel), List.forall_mem_cons.mpr ⟨List.mem_of_getElem? (i := 878) (by decide +kernel), List.forall_mem_cons.mpr ⟨List.mem_of_getElem? (i := 903) (by decide +kernel), List.forall_mem_cons.mpr ⟨List.mem_of_getElem? (i := 908) (by decide +kernel), List.forall_mem_cons.mpr ⟨List.mem_of_getElem? (i := 909) (by decide +kernel), List.forall_mem_cons.mpr ⟨List.mem_of_getElem? (i := 915) (by decide +kernel), List.forall_mem_cons.mpr ⟨List.mem_of_getElem? (i := 924) (by decide +kernel), List.forall_mem_cons.mpr ⟨List.mem_of_getElem? (i := 935) (by decide +kernel), List.forall_mem_cons.mpr ⟨List.mem_of_getElem? (i := 945) (by decide +kernel), List.forall_mem_cons.mpr ⟨List.mem_of_getElem? (i := 954) (by decide +kernel), List.forall_mem_cons.mpr ⟨List.mem_of_getElem? (i := 959) (by decide +kernel), List.forall_mem_cons.mpr ⟨List.mem_of_getElem? (i := 964) (by decide +kernel), List.forall_mem_cons.mpr ⟨List.mem_of_getElem? (i := 969) (by decide +kernel), List.forall_mem_cons.mpr ⟨List.mem_of_getElem? (i := 970) (by decide +kernel), List.forall_mem_cons.mpr ⟨List.mem_of_getElem? (i := 1003) (by decide +kernel), List.forall_mem_cons.mpr ⟨List.mem_of_getElem? (i := 1032) (by decide +kernel), List.forall_mem_cons.mpr ⟨List.mem_of_getElem? (i := 1065) (by decide +kernel), List.forall_mem_cons.mpr ⟨List.mem_of_getElem? (i := 1075) (by decide +kernel), List.forall_mem_cons.mpr ⟨List.mem_of_getElem? (i := 1085) (by decide +kernel), List.forall_mem_cons.mpr ⟨List.mem_of_getElem? (i := 1104) (by decide +kernel), List.forall_mem_cons.mpr ⟨List.mem_of_getElem? (i := 1214) (by decide +kernel), List.forall_mem_cons.mpr ⟨List.mem_of_getElem? (i := 1229) (by decide +kernel), List.forall_mem_cons.mpr ⟨List.mem_of_getElem? (i := 1249) (by decide +kernel), List.forall_mem_cons.mpr ⟨List.mem_of_getElem? (i := 1261) (by decide +kernel), List.forall_mem_cons.mpr ⟨List.mem_of_getElem? (i := 1432) (by decide +kernel), List.forall_mem_cons.mpr ⟨List.mem_of_getElem? (i := 1454) (by decide +kernel), List.forall_mem_cons.mpr ⟨List.mem_of_getElem? (i := 1459) (by decide +kernel), List.forall_mem_cons.mpr ⟨List.mem_of_getElem? (i := 1472) (by decide +kernel), List.forall_mem_cons.mpr ⟨List.mem_of_getElem? (i := 1473) (by decide +kernel), List.forall_mem_cons.mpr ⟨List.mem_of_getElem? (i := 1474) (by decide +kernel), List.forall_mem_cons.mpr ⟨List.mem_of_getElem? (i := 1480) (by decide +kernel), List.forall_mem_cons.mpr ⟨List.mem_of_getElem? (i := 1481) (by decide +kernel), List.forall_mem_cons.mpr ⟨List.mem_of_getElem? (i := 1486) (by decide +kernel), List.forall_mem_cons.mpr ⟨List.mem_of_getElem? (i := 1491) (by decide +kernel), List.forall_mem_cons.mpr ⟨List.mem_of_getElem? (i := 1492) (by decide +kernel), List.forall_mem_cons.mpr ⟨List.mem_of_getElem? (i := 1497) (by decide +kernel), List.forall_mem_cons.mpr ⟨List.mem_of_getElem? (i := 1498) (by decide +kernel), List.forall_mem_cons.mpr ⟨List.mem_of_getElem? (i := 1503) (by decide +kernel), List.forall_mem_cons.mpr ⟨List.mem_of_getElem? (i := 1504) (by decide +kernel), fun _ h => absurd h List.not_mem_nil⟩⟩⟩⟩⟩⟩⟩⟩⟩⟩⟩⟩⟩⟩⟩⟩⟩⟩⟩⟩⟩⟩⟩⟩⟩⟩⟩⟩⟩⟩⟩⟩⟩⟩⟩⟩⟩⟩⟩⟩⟩
theorem nest_in : ∀ x ∈ lw_nest, Cond.methodLinkNest x.1 x.2.1 x.2.2.1 x.2.2.2 ∈ lw_tbl := List.forall_mem_cons.mpr ⟨List.mem_of_getElem? (i := 114) (by decide +kernel), List.forall_mem_cons.mpr ⟨List.mem_of_getElem? (i := 120) (by decide +kernel), List.forall_mem_cons.mpr ⟨List.mem_of_getElem? (i := 149) (by decide +kernel), List.forall_mem_cons.mpr ⟨List.mem_of_getElem? (i := 269) (by decide +kernel), List.forall_mem_cons.mpr ⟨List.mem_of_getElem? (i := 274) (by decide +kernel), List.forall_mem_cons.mpr ⟨List.mem_of_getElem? (i := 280) (by decide +kernel), List.forall_mem_cons.mpr ⟨List.mem_of_getElem? (i := 323) (by decide +kernel), List.forall_mem_cons.mpr ⟨List.mem_of_getElem? (i := 351) (by decide +kernel), List.forall_mem_cons.mpr ⟨List.mem_of_getElem? (i := 412) (by decide +kernel), List.forall_mem_cons.mpr ⟨List.mem_of_getElem? (i := 450) (by decide +kernel), List.forall_mem_cons.mpr ⟨List.mem_of_getElem? (i := 453) (by decide +kernel), List.forall_mem_cons.mpr ⟨List.mem_of_getElem? (i := 476) (by decide +kernel), List.forall_mem_cons.mpr ⟨List.mem_of_getElem? (i := 482) (by decide +kernel), List.forall_mem_cons.mpr ⟨List.mem_of_getElem? (i := 504) (by decide +kernel), List.forall_mem_cons.mpr ⟨List.mem_of_getElem? (i := 521) (by decide +kernel), List.forall_mem_cons.mpr ⟨List.mem_of_getElem? (i := 524) (by decide +kernel), List.forall_mem_cons.mpr ⟨List.mem_of_getElem? (i := 535) (by decide +kernel), List.forall_mem_cons.mpr ⟨List.mem_of_getElem? (i := 570) (by decide +kernel), List.forall_mem_cons.mpr ⟨List.mem_of_getElem? (i := 583) (by decide +kernel), List.forall_mem_cons.mpr ⟨List.mem_of_getElem? (i := 584) (by decide +kernel), List.forall_mem_cons.mpr ⟨List.mem_of_getElem? (i := 683) (by decide +kernel), List.forall_mem_cons.mpr ⟨List.mem_of_getElem? (i := 702) (by decide +kernel), fun _ h => absurd h List.not_mem_nil⟩⟩⟩⟩⟩⟩⟩⟩⟩⟩⟩⟩⟩⟩⟩⟩⟩⟩⟩⟩⟩⟩
theorem cst_in : ∀ x ∈ lw_cst, Cond.castable x.1 x.2 ∈ lw_tbl := List.forall_mem_cons.mpr ⟨List.mem_of_getElem? (i := 727) (by decide +kernel), List.forall_mem_cons.mpr ⟨List.mem_of_getElem? (i := 1025) (by decide +kernel), List.forall_mem_cons.mpr ⟨List.mem_of_getElem? (i := 1207) (by decide +kernel), fun _ h => absurd h List.not_mem_nil⟩⟩⟩
theorem ncst_in : ∀ x ∈ lw_ncst, Cond.not (.castable x.1 x.2) ∈ strQ := List.forall_mem_cons.mpr ⟨List.mem_of_getElem? (i := 35) (by decide +kernel), List.forall_mem_cons.mpr ⟨List.mem_of_getElem? (i := 48) (by decide +kernel), List.forall_mem_cons.mpr ⟨List.mem_of_getElem? (i := 22) (by decide +kernel), List.forall_mem_cons.mpr ⟨List.mem_of_getElem? (i := 49) (by decide +kernel), List.forall_mem_cons.mpr ⟨List.mem_of_getElem? (i := 36) (by decide +kernel), List.forall_mem_cons.mpr ⟨List.mem_of_getElem? (i := 23) (by decide +kernel), fun _ h => absurd h List.not_mem_nil⟩⟩⟩⟩⟩⟩
theorem dcl_in : ∀ x ∈ lw_dcl, Cond.declares x ∈ lw_tbl := List.forall_mem_cons.mpr ⟨List.mem_of_getElem? (i := 729) (by decide +kernel), List.forall_mem_cons.mpr ⟨List.mem_of_getElem? (i := 731) (by decide +kernel), List.forall_mem_cons.mpr ⟨List.mem_of_getElem? (i := 733) (by decide +kernel), fun _ h => absurd h List.not_mem_nil⟩⟩⟩
theorem SK1 {args : Array Value} {s : State} {A : Nat → Prop} (hF : ∀ w ∈ strQ, w.before args s = true) (hA : ∀ a : Nat, a < s.heap.size → ¬ A a) {x : String × Nat × String × List Int32} (hx : ∀ w ∈ strW x, w ∈ strQ) (hlen : x.2.2.2.length < 100) : ∃ q : Nat × Nat, (sT x).eval args s none [] s = some (.ref q.1) ∧ va_O "java/lang/String" q.1 A s s.heap ∧ va_OF "java/lang/String" "coder" "B" (.int 0) q.1 A s s.heap ∧ va_OF "java/lang/String" "value" "[B" (.ref q.2) q.1 A s s.heap ∧ va_T .byte q.2 x.2.2.2.length (fun j => .int (x.2.2.2.getD j 0)) A s s.heap := by
  have g : ∀ w ∈ strW x, w.before args s = true := fun w hw => hF w (hx w hw)
  have h1 := g _ (List.mem_append_left _ List.mem_cons_self)
  have h2 := g _ (List.mem_append_left _ (List.mem_cons_of_mem _ List.mem_cons_self))
  have h3 := g _ (List.mem_append_left _ (List.mem_cons_of_mem _ (List.mem_cons_of_mem _ List.mem_cons_self)))
  have h4 := g _ (List.mem_append_left _ (List.mem_cons_of_mem _ (List.mem_cons_of_mem _ (List.mem_cons_of_mem _ List.mem_cons_self))))
  have h5 := fun (j : Nat) (hj : j < x.2.2.2.length) => g _ (List.mem_append_right _ (List.mem_map.mpr ⟨j, List.mem_range.mpr hj, rfl⟩))
  obtain ⟨a, c, cell, k, q1, q2, q3, q4, q5, q6, -⟩ := Cond.exactly_spec (args := args) (first := s) (o := none) (s := s) (idx := []) h1
  obtain ⟨t, ht, hT⟩ := va_Tof (f := fun j => .int (x.2.2.2.getD j 0)) (A := A) (Nat.lt_trans hlen (by decide)) h3 (va_eqt h4) (fun j hj => va_eqt (h5 j hj)) hA
  exact ⟨(a, t), q1, ⟨cell, q3, q5, by rw [q6]; exact q2, hA a (Array.getElem?_eq_some_iff.mp q3).1⟩, vk_OFof q1 (va_eqt h2) hA, vk_OFof q1 ht hA, hT⟩
theorem arr1 {args : Array Value} {s : State} {ty : FieldType} (h : (Cond.arrayClass ty).before args s = true) : ∃ cA, ArrOfT s cA ty ∧ s.vm.findClass ("[" ++ ty.toString) = some cA := by
  obtain ⟨cA, kA, comp, h1, h2, h3⟩ := Cond.arrayClass_spec h
  exact ⟨cA, fun n z => ⟨fun k h => (by cases h), kA, h2, comp, h3⟩, h1⟩
/-- a launch's numbers -/
theorem start_Gd {s : State} {b L : Nat} {xs : Nat → Int32} (hts : ∀ w ∈ lw_tbl, w.before #[Value.ref b] s = true) (hX : va_X b L xs s s.heap) (hbl : b < s.heap.size) (hgv : (Jvm.Cond.and given_1 narrow_1).before #[Value.ref b] s = true) : ∃ κ : KX, kB κ = s.heap.size ∧ kSb κ = b ∧ Gd κ (L, xs) s := by
  have hF : ∀ w ∈ strQ, w.before #[Value.ref b] s = true := flat_of_before _ hgv
  have hgd : ∀ w ∈ lw_gd, w.before #[Value.ref b] s = true := fun w hw => hts w (List.mem_filter.mp hw).1
  have hA : ∀ a : Nat, a < s.heap.size → ¬ (fun q : Nat => s.heap.size ≤ q) a := fun a ha h => absurd ha (Nat.not_lt.mpr h)
  have hc : ∀ k : Nat, ∃ y : ClassId × (Nat → Nat), ∀ q, vwCl[k]? = some q → u_Kn s q.1 q.2.1 q.2.2 y.1 y.2 := by
    intro k
    match k with
    | 0 => obtain ⟨c, i, h⟩ := u_known (n := 12) hgd ciX0.2.1 (hgd _ nwX5_18.2.1); exact ⟨(c, i), fun q hq => by cases hq; exact h⟩
    | 1 => obtain ⟨c, i, h⟩ := u_known (n := 6) hgd ciX1.2.1 (hgd _ nwX5_9.2.1); exact ⟨(c, i), fun q hq => by cases hq; exact h⟩
    | 2 => obtain ⟨c, i, h⟩ := u_known (n := 9) hgd ciX2.2.1 (hgd _ nwX7_9.2.1); exact ⟨(c, i), fun q hq => by cases hq; exact h⟩
    | 3 => obtain ⟨c, i, h⟩ := u_known (n := 5) hgd ciX3.2.1 (hgd _ nwX7_18.2.1); exact ⟨(c, i), fun q hq => by cases hq; exact h⟩
    | 4 => obtain ⟨c, i, h⟩ := u_known (n := 4) hgd ciX4.2.1 (hgd _ nwX9_43.2.1); exact ⟨(c, i), fun q hq => by cases hq; exact h⟩
    | 5 => obtain ⟨c, i, h⟩ := u_known (n := 10) hgd ciX5.2.1 (hgd _ nwX9_7.2.1); exact ⟨(c, i), fun q hq => by cases hq; exact h⟩
    | 6 => obtain ⟨c, i, h⟩ := u_known (n := 6) hgd ciX6.2.1 (hgd _ nwX7_25.2.1); exact ⟨(c, i), fun q hq => by cases hq; exact h⟩
    | 7 => obtain ⟨c, i, h⟩ := u_known (n := 8) hgd ciX7.2.1 (hgd _ nwX9_30.2.1); exact ⟨(c, i), fun q hq => by cases hq; exact h⟩
    | 8 => obtain ⟨c, i, h⟩ := u_known (n := 1) hgd ciX8.2.1 (hgd _ nwX5_25.2.1); exact ⟨(c, i), fun q hq => by cases hq; exact h⟩
    | 9 => obtain ⟨c, i, h⟩ := u_known (n := 8) hgd ciX9.2.1 (hgd _ nwL_8.2.1); exact ⟨(c, i), fun q hq => by cases hq; exact h⟩
    | 10 => obtain ⟨c, i, h⟩ := u_known (n := 36) hgd ciX10.2.1 (hgd _ nwL_86.2.1); exact ⟨(c, i), fun q hq => by cases hq; exact h⟩
    | k + 11 => exact ⟨(0, fun _ => 0), fun q hq => absurd (List.getElem?_eq_some_iff.mp hq).1 (by show ¬ k + 11 < 11; omega)⟩
  obtain ⟨dc, hdc⟩ := Classical.axiomOfChoice hc
  have hst : ∀ i : Nat, ∃ q : Nat × Nat, ∀ x, strJ[i]? = some x → (sT x).eval #[Value.ref b] s none [] s = some (.ref q.1) ∧ va_O "java/lang/String" q.1 (fun q : Nat => s.heap.size ≤ q) s s.heap ∧ va_OF "java/lang/String" "coder" "B" (.int 0) q.1 (fun q : Nat => s.heap.size ≤ q) s s.heap ∧ va_OF "java/lang/String" "value" "[B" (.ref q.2) q.1 (fun q : Nat => s.heap.size ≤ q) s s.heap ∧ va_T .byte q.2 x.2.2.2.length (fun j => .int (x.2.2.2.getD j 0)) (fun q : Nat => s.heap.size ≤ q) s s.heap := by
    intro i
    cases h : strJ[i]? with
    | none => exact ⟨(0, 0), fun x hx => nomatch hx⟩
    | some x =>
      obtain ⟨q, hq⟩ := SK1 hF hA (str_in h).1 (str_in h).2
      exact ⟨q, fun y hy => by cases hy; exact hq⟩
  obtain ⟨ds, hds⟩ := Classical.axiomOfChoice hst
  obtain ⟨a0, i0, n0⟩ := arr1 (hgd _ ac_int)
  obtain ⟨a1, i1, n1⟩ := arr1 (hgd _ ac_byte)
  obtain ⟨a2, i2, n2⟩ := arr1 (hgd _ ac_boolean)
  obtain ⟨a3, i3, n3⟩ := arr1 (hgd _ ac_long)
  obtain ⟨z, hz⟩ : ∃ z : Option Nat, va_Z "jdk/internal/util/Preconditions" "SIOOBE_FORMATTER" "Ljava/util/function/BiFunction;" (match z with | some t => .ref t | none => .null) (fun q : Nat => s.heap.size ≤ q) s s.heap := by
    rcases va_Zqof (C := "jdk/internal/util/Preconditions") (n := "SIOOBE_FORMATTER") (d := "Ljava/util/function/BiFunction;") (hts _ (List.mem_of_getElem? (i := 839) (by decide +kernel))) (hts _ (List.mem_of_getElem? (i := 100) (by decide +kernel))) (hF _ (List.mem_of_getElem? (i := 7) (by decide +kernel))) hA with h | ⟨t, h⟩
    · exact ⟨none, h⟩
    · exact ⟨some t, h⟩
  refine ⟨(((fun k => (dc k).1, fun k => (dc k).2), fun k => if k = 0 then a0 else if k = 1 then a1 else if k = 2 then a2 else a3), (s.heap.size, fun i => (ds i).1, fun i => (ds i).2, b, z)), rfl, rfl, ?_⟩
  refine ⟨⟨⟨fun c q hq => hdc c q hq, fun k q hk => ?_⟩, Nat.le_refl _⟩, fun i x hx => ⟨(hds i x hx).2, vk_R.of (hts _ (strR_in x (List.mem_of_getElem? hx))) (hds i x hx).1⟩, ⟨?_, ?_⟩, ⟨?_, hz⟩, ⟨fun x hx => va_Nw.of rfl (hts _ (nest_in x hx)), fun x hx => va_Nw.of rfl (hts _ (cst_in x hx)), fun x hx => va_Nc.of (hF _ (ncst_in x hx)), fun x hx => va_Nw.of rfl (hts _ (dcl_in x hx))⟩, ⟨hX, hbl, hA b hbl⟩⟩
  · match k, hk with
    | 0, hk => cases hk; exact ⟨i0, n0⟩
    | 1, hk => cases hk; exact ⟨i1, n1⟩
    | 2, hk => cases hk; exact ⟨i2, n2⟩
    | 3, hk => cases hk; exact ⟨i3, n3⟩
    | k + 4, hk => exact absurd (List.getElem?_eq_some_iff.mp hk).1 (by show ¬ k + 4 < 4; omega)
  · exact vx_Zqof (hts _ (List.mem_of_getElem? (i := 752) (by decide +kernel))) (hts _ (List.mem_of_getElem? (i := 94) (by decide +kernel))) (hF _ (List.mem_of_getElem? (i := 4) (by decide +kernel))) hA
  · exact vx_Zqof (hts _ (List.mem_of_getElem? (i := 754) (by decide +kernel))) (hts _ (List.mem_of_getElem? (i := 94) (by decide +kernel))) (hF _ (List.mem_of_getElem? (i := 5) (by decide +kernel))) hA
  · exact va_Zof (hts _ (List.mem_of_getElem? (i := 823) (by decide +kernel))) (hts _ (List.mem_of_getElem? (i := 98) (by decide +kernel))) (va_eqt (hF _ (List.mem_of_getElem? (i := 6) (by decide +kernel)))) hA
