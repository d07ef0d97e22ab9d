def strQ : List Cond := Jvm.Free.XT.flat (Jvm.Cond.and given_1 narrow_1)
def sT (x : String × Nat × String × List Int32) : Term := .string x.1 x.2.1
def strW (x : String × Nat × String × List Int32) : List Cond := [.exactly (sT x) "java/lang/String", .eq (.field (sT x) "java/lang/String" "coder" "B") (.int 0), .arrayOf (.field (sT x) "java/lang/String" "value" "[B") .byte, .eq (.length (.field (sT x) "java/lang/String" "value" "[B")) (.int (Int32.ofNat x.2.2.2.length))] ++ (List.range x.2.2.2.length).map (fun j => .eq (.elem (.field (sT x) "java/lang/String" "value" "[B") (.int (Int32.ofNat j))) (.int (x.2.2.2.getD j 0)))
def sPos : List Nat := [364, 374, 384, 393, 400, 408, 418, 427, 437, 446, 455, 466, 475, 483, 493, 502, 523, 543, 579, 513, 531, 554, 570, 217, 228, 239, 248, 259, 268, 278, 290, 298, 306, 316, 326, 335, 346, 354]
def sD0 : String × Nat × String × List Int32 := ("", 0, "", [])
set_option maxRecDepth 100000 in
theorem str_tab : ∀ i, i < 38 → (strQ.drop (sPos.getD i 0)).take (4 + (strJ.getD i sD0).2.2.2.length) = strW (strJ.getD i sD0) := by decide +kernel
theorem strl_ok : ∀ i, i < 38 → (strJ.getD i sD0).2.2.2.length < 100 := by decide +kernel
theorem str_in {x : String × Nat × String × List Int32} {i : Nat} (h : strJ[i]? = some x) : (∀ w ∈ strW x, w ∈ strQ) ∧ x.2.2.2.length < 100 := by
  have hi : i < 38 := (List.getElem?_eq_some_iff.mp h).1
  have e : strJ.getD i sD0 = x := by rw [List.getD_eq_getElem?_getD, h]; rfl
  have t := str_tab i hi
  have t2 := strl_ok i hi
  rw [e] at t t2
  refine ⟨fun w hw => ?_, t2⟩
  rw [← t] at hw
  exact List.mem_of_mem_drop (List.mem_of_mem_take hw)
set_option maxRecDepth 100000 in
theorem strR_in : ∀ x ∈ strJ, Cond.stringRef x.1 x.2.1 x.2.2.1 ∈ lw_tbl := List.forall_mem_cons.mpr ⟨List.mem_of_getElem? (i := 1099) (by decide +kernel), List.forall_mem_cons.mpr ⟨List.mem_of_getElem? (i := 1153) (by decide +kernel), List.forall_mem_cons.mpr ⟨List.mem_of_getElem? (i := 1182) (by decide +kernel), List.forall_mem_cons.mpr ⟨List.mem_of_getElem? (i := 1187) (by decide +kernel), List.forall_mem_cons.mpr ⟨List.mem_of_getElem? (i := 1212) (by decide +kernel), List.forall_mem_cons.mpr ⟨List.mem_of_getElem? (i := 1217) (by decide +kernel), List.forall_mem_cons.mpr ⟨List.mem_of_getElem? (i := 1218) (by decide +kernel), List.forall_mem_cons.mpr ⟨List.mem_of_getElem? (i := 1224) (by decide +kernel), List.forall_mem_cons.mpr ⟨List.mem_of_getElem? (i := 1233) (by decide +kernel), List.forall_mem_cons.mpr ⟨List.mem_of_getElem? (i := 1244) (by decide +kernel), List.forall_mem_cons.mpr ⟨List.mem_of_getElem? (i := 1254) (by decide +kernel), List.forall_mem_cons.mpr ⟨List.mem_of_getElem? (i := 1263) (by decide +kernel), List.forall_mem_cons.mpr ⟨List.mem_of_getElem? (i := 1268) (by decide +kernel), List.forall_mem_cons.mpr ⟨List.mem_of_getElem? (i := 1273) (by decide +kernel), List.forall_mem_cons.mpr ⟨List.mem_of_getElem? (i := 1278) (by decide +kernel), List.forall_mem_cons.mpr ⟨List.mem_of_getElem? (i := 1279) (by decide +kernel), List.forall_mem_cons.mpr ⟨List.mem_of_getElem? (i := 1340) (by decide +kernel), List.forall_mem_cons.mpr ⟨List.mem_of_getElem? (i := 1401) (by decide +kernel), List.forall_mem_cons.mpr ⟨List.mem_of_getElem? (i := 1538) (by decide +kernel), List.forall_mem_cons.mpr ⟨List.mem_of_getElem? (i := 1330) (by decide +kernel), List.forall_mem_cons.mpr ⟨List.mem_of_getElem? (i := 1348) (by decide +kernel), List.forall_mem_cons.mpr ⟨List.mem_of_getElem? (i := 1507) (by decide +kernel), List.forall_mem_cons.mpr ⟨List.mem_of_getElem? (i := 1522) (by decide +kernel), List.forall_mem_cons.mpr ⟨List.mem_of_getElem? (i := 743) (by decide +kernel), List.forall_mem_cons.mpr ⟨List.mem_of_getElem? (i := 880) (by decide +kernel), List.forall_mem_cons.mpr ⟨List.mem_of_getElem? (i := 881) (by decide +kernel), List.forall_mem_cons.mpr ⟨List.mem_of_getElem? (i := 907) (by decide +kernel), List.forall_mem_cons.mpr ⟨List.mem_of_getElem? (i := 908) (by decide +kernel), List.forall_mem_cons.mpr ⟨List.mem_of_getElem? (i := 910) (by decide +kernel), List.forall_mem_cons.mpr ⟨List.mem_of_getElem? (i := 911) (by decide +kernel), List.forall_mem_cons.mpr ⟨List.mem_of_getElem? (i := 912) (by decide +kernel), List.forall_mem_cons.mpr ⟨List.mem_of_getElem? (i := 916) (by decide +kernel), List.forall_mem_cons.mpr ⟨List.mem_of_getElem? (i := 917) (by decide +kernel), List.forall_mem_cons.mpr ⟨List.mem_of_getElem? (i := 918) (by decide +kernel), List.forall_mem_cons.mpr ⟨List.mem_of_getElem? (i := 919) (by decide +kernel), List.forall_mem_cons.mpr ⟨List.mem_of_getElem? (i := 920) (by decide +kernel), List.forall_mem_cons.mpr ⟨List.mem_of_getElem? (i := 921) (by decide +kernel), List.forall_mem_cons.mpr ⟨List.mem_of_getElem? (i := 922) (by decide +kernel), fun _ h => absurd h List.not_mem_nil⟩⟩⟩⟩⟩⟩⟩⟩⟩⟩⟩⟩⟩⟩⟩⟩⟩⟩⟩⟩⟩⟩⟩⟩⟩⟩⟩⟩⟩⟩⟩⟩⟩⟩⟩⟩⟩⟩
theorem nest_in : ∀ x ∈ lw_nest, Cond.methodLinkNest x.1 x.2.1 x.2.2.1 x.2.2.2 ∈ lw_tbl := List.forall_mem_cons.mpr ⟨List.mem_of_getElem? (i := 73) (by decide +kernel), List.forall_mem_cons.mpr ⟨List.mem_of_getElem? (i := 79) (by decide +kernel), List.forall_mem_cons.mpr ⟨List.mem_of_getElem? (i := 108) (by decide +kernel), List.forall_mem_cons.mpr ⟨List.mem_of_getElem? (i := 228) (by decide +kernel), List.forall_mem_cons.mpr ⟨List.mem_of_getElem? (i := 233) (by decide +kernel), List.forall_mem_cons.mpr ⟨List.mem_of_getElem? (i := 239) (by decide +kernel), List.forall_mem_cons.mpr ⟨List.mem_of_getElem? (i := 282) (by decide +kernel), List.forall_mem_cons.mpr ⟨List.mem_of_getElem? (i := 310) (by decide +kernel), List.forall_mem_cons.mpr ⟨List.mem_of_getElem? (i := 371) (by decide +kernel), List.forall_mem_cons.mpr ⟨List.mem_of_getElem? (i := 407) (by decide +kernel), List.forall_mem_cons.mpr ⟨List.mem_of_getElem? (i := 410) (by decide +kernel), List.forall_mem_cons.mpr ⟨List.mem_of_getElem? (i := 433) (by decide +kernel), List.forall_mem_cons.mpr ⟨List.mem_of_getElem? (i := 439) (by decide +kernel), List.forall_mem_cons.mpr ⟨List.mem_of_getElem? (i := 461) (by decide +kernel), List.forall_mem_cons.mpr ⟨List.mem_of_getElem? (i := 478) (by decide +kernel), List.forall_mem_cons.mpr ⟨List.mem_of_getElem? (i := 481) (by decide +kernel), List.forall_mem_cons.mpr ⟨List.mem_of_getElem? (i := 492) (by decide +kernel), List.forall_mem_cons.mpr ⟨List.mem_of_getElem? (i := 527) (by decide +kernel), List.forall_mem_cons.mpr ⟨List.mem_of_getElem? (i := 540) (by decide +kernel), List.forall_mem_cons.mpr ⟨List.mem_of_getElem? (i := 541) (by decide +kernel), List.forall_mem_cons.mpr ⟨List.mem_of_getElem? (i := 606) (by decide +kernel), List.forall_mem_cons.mpr ⟨List.mem_of_getElem? (i := 1284) (by decide +kernel), List.forall_mem_cons.mpr ⟨List.mem_of_getElem? (i := 1368) (by decide +kernel), List.forall_mem_cons.mpr ⟨List.mem_of_getElem? (i := 1403) (by decide +kernel), fun _ h => absurd h List.not_mem_nil⟩⟩⟩⟩⟩⟩⟩⟩⟩⟩⟩⟩⟩⟩⟩⟩⟩⟩⟩⟩⟩⟩⟩⟩
theorem cst_in : ∀ x ∈ lw_cst, Cond.castable x.1 x.2 ∈ lw_tbl := List.forall_mem_cons.mpr ⟨List.mem_of_getElem? (i := 1060) (by decide +kernel), List.forall_mem_cons.mpr ⟨List.mem_of_getElem? (i := 1323) (by decide +kernel), List.forall_mem_cons.mpr ⟨List.mem_of_getElem? (i := 1515) (by decide +kernel), List.forall_mem_cons.mpr ⟨List.mem_of_getElem? (i := 780) (by decide +kernel), fun _ h => absurd h List.not_mem_nil⟩⟩⟩⟩
theorem ncst_in : ∀ x ∈ lw_ncst, Cond.not (.castable x.1 x.2) ∈ strQ := fun _ h => absurd h List.not_mem_nil
theorem dcl_in : ∀ x ∈ lw_dcl, Cond.declares x ∈ lw_tbl := List.forall_mem_cons.mpr ⟨List.mem_of_getElem? (i := 1062) (by decide +kernel), List.forall_mem_cons.mpr ⟨List.mem_of_getElem? (i := 1064) (by decide +kernel), List.forall_mem_cons.mpr ⟨List.mem_of_getElem? (i := 1066) (by decide +kernel), fun _ h => absurd h List.not_mem_nil⟩⟩⟩
theorem SK1 {args : Array Value} {s : State} {A : Nat → Prop} (hF : ∀ w ∈ strQ, w.before args s = true) (hA : ∀ a : Nat, a < s.heap.size → ¬ A a) {x : String × Nat × String × List Int32} (hx : ∀ w ∈ strW x, w ∈ strQ) (hlen : x.2.2.2.length < 100) : ∃ q : Nat × Nat, (sT x).eval args s none [] s = some (.ref q.1) ∧ va_O "java/lang/String" q.1 A s s.heap ∧ va_OF "java/lang/String" "coder" "B" (.int 0) q.1 A s s.heap ∧ va_OF "java/lang/String" "value" "[B" (.ref q.2) q.1 A s s.heap ∧ va_T .byte q.2 x.2.2.2.length (fun j => .int (x.2.2.2.getD j 0)) A s s.heap := by
  have g : ∀ w ∈ strW x, w.before args s = true := fun w hw => hF w (hx w hw)
  have h1 := g _ (List.mem_append_left _ List.mem_cons_self)
  have h2 := g _ (List.mem_append_left _ (List.mem_cons_of_mem _ List.mem_cons_self))
  have h3 := g _ (List.mem_append_left _ (List.mem_cons_of_mem _ (List.mem_cons_of_mem _ List.mem_cons_self)))
  have h4 := g _ (List.mem_append_left _ (List.mem_cons_of_mem _ (List.mem_cons_of_mem _ (List.mem_cons_of_mem _ List.mem_cons_self))))
  have h5 := fun (j : Nat) (hj : j < x.2.2.2.length) => g _ (List.mem_append_right _ (List.mem_map.mpr ⟨j, List.mem_range.mpr hj, rfl⟩))
  obtain ⟨a, c, cell, k, q1, q2, q3, q4, q5, q6, -⟩ := Cond.exactly_spec (args := args) (first := s) (o := none) (s := s) (idx := []) h1
  obtain ⟨t, ht, hT⟩ := va_Tof (f := fun j => .int (x.2.2.2.getD j 0)) (A := A) (Nat.lt_trans hlen (by decide)) h3 (va_eqt h4) (fun j hj => va_eqt (h5 j hj)) hA
  exact ⟨(a, t), q1, ⟨cell, q3, q5, by rw [q6]; exact q2, hA a (Array.getElem?_eq_some_iff.mp q3).1⟩, vk_OFof q1 (va_eqt h2) hA, vk_OFof q1 ht hA, hT⟩
theorem arr1 {args : Array Value} {s : State} {ty : FieldType} (h : (Cond.arrayClass ty).before args s = true) : ∃ cA, ArrOfT s cA ty ∧ s.vm.findClass ("[" ++ ty.toString) = some cA := by
  obtain ⟨cA, kA, comp, h1, h2, h3⟩ := Cond.arrayClass_spec h
  exact ⟨cA, fun n z => ⟨fun k h => (by cases h), kA, h2, comp, h3⟩, h1⟩
theorem fnest_in : ∀ x ∈ lw_fnest, Cond.fieldLinkNest x.1 x.2.1 x.2.2.1 x.2.2.2.1 x.2.2.2.2.1 x.2.2.2.2.2 ∈ lw_tbl := List.forall_mem_cons.mpr ⟨List.mem_of_getElem? (i := 613) (by decide +kernel), List.forall_mem_cons.mpr ⟨List.mem_of_getElem? (i := 615) (by decide +kernel), List.forall_mem_cons.mpr ⟨List.mem_of_getElem? (i := 617) (by decide +kernel), List.forall_mem_cons.mpr ⟨List.mem_of_getElem? (i := 619) (by decide +kernel), List.forall_mem_cons.mpr ⟨List.mem_of_getElem? (i := 620) (by decide +kernel), List.forall_mem_cons.mpr ⟨List.mem_of_getElem? (i := 623) (by decide +kernel), List.forall_mem_cons.mpr ⟨List.mem_of_getElem? (i := 625) (by decide +kernel), List.forall_mem_cons.mpr ⟨List.mem_of_getElem? (i := 627) (by decide +kernel), List.forall_mem_cons.mpr ⟨List.mem_of_getElem? (i := 629) (by decide +kernel), List.forall_mem_cons.mpr ⟨List.mem_of_getElem? (i := 631) (by decide +kernel), List.forall_mem_cons.mpr ⟨List.mem_of_getElem? (i := 633) (by decide +kernel), List.forall_mem_cons.mpr ⟨List.mem_of_getElem? (i := 635) (by decide +kernel), List.forall_mem_cons.mpr ⟨List.mem_of_getElem? (i := 637) (by decide +kernel), List.forall_mem_cons.mpr ⟨List.mem_of_getElem? (i := 639) (by decide +kernel), List.forall_mem_cons.mpr ⟨List.mem_of_getElem? (i := 640) (by decide +kernel), List.forall_mem_cons.mpr ⟨List.mem_of_getElem? (i := 642) (by decide +kernel), List.forall_mem_cons.mpr ⟨List.mem_of_getElem? (i := 645) (by decide +kernel), List.forall_mem_cons.mpr ⟨List.mem_of_getElem? (i := 646) (by decide +kernel), List.forall_mem_cons.mpr ⟨List.mem_of_getElem? (i := 648) (by decide +kernel), List.forall_mem_cons.mpr ⟨List.mem_of_getElem? (i := 650) (by decide +kernel), List.forall_mem_cons.mpr ⟨List.mem_of_getElem? (i := 652) (by decide +kernel), List.forall_mem_cons.mpr ⟨List.mem_of_getElem? (i := 654) (by decide +kernel), List.forall_mem_cons.mpr ⟨List.mem_of_getElem? (i := 656) (by decide +kernel), List.forall_mem_cons.mpr ⟨List.mem_of_getElem? (i := 658) (by decide +kernel), List.forall_mem_cons.mpr ⟨List.mem_of_getElem? (i := 660) (by decide +kernel), List.forall_mem_cons.mpr ⟨List.mem_of_getElem? (i := 662) (by decide +kernel), List.forall_mem_cons.mpr ⟨List.mem_of_getElem? (i := 664) (by decide +kernel), List.forall_mem_cons.mpr ⟨List.mem_of_getElem? (i := 666) (by decide +kernel), List.forall_mem_cons.mpr ⟨List.mem_of_getElem? (i := 668) (by decide +kernel), List.forall_mem_cons.mpr ⟨List.mem_of_getElem? (i := 670) (by decide +kernel), List.forall_mem_cons.mpr ⟨List.mem_of_getElem? (i := 672) (by decide +kernel), fun _ h => absurd h List.not_mem_nil⟩⟩⟩⟩⟩⟩⟩⟩⟩⟩⟩⟩⟩⟩⟩⟩⟩⟩⟩⟩⟩⟩⟩⟩⟩⟩⟩⟩⟩⟩⟩
/-- a private method of a class above the receiver's -/
theorem sel_priv {C : String} {y z : MethodName} {args : Array Value} {s : State} (h1 : (Cond.selects C z z).before args s = true) (hz : z.cls = y.cls) (hy : y.cls ≠ "java/lang/invoke/MethodHandle" ∧ y.cls ≠ "java/lang/invoke/VarHandle") (hpriv : (Cond.privateMethod y).before args s = true) (hinst : (Cond.instanceMethod y).before args s = true) : (Cond.selects C y y).before args s = true := by
  obtain ⟨c, r, m9, q1, -, q3, -, kP, hkP, hkPi⟩ := Cond.selects_spec h1
  obtain ⟨mk, methM, hnamed, hmethM, -, -⟩ := Cond.instanceMethod_spec hinst
  have hfound : s.methodFound? y.cls y.name y.desc = some mk := State.methodFound?_of_named hnamed hy
  have hsel : selectMethod {} s.vm c mk = .method mk := selectMethod_private hmethM (Cond.privateMethod_at hpriv mk methM hnamed hmethM)
  have hcls : mk.cls = m9.cls := by
    have e1 := findClass_of_methodNamed hnamed
    have e2 := findClass_of_methodNamed q3
    rw [hz] at e2
    exact Option.some.inj (e1.symm.trans e2)
  simp only [Cond.before, Cond.holds, Cond.value, q1, hfound, hnamed, hsel, hcls, hkP]
  simp; exact hkPi
theorem sx_in : ∀ y ∈ lw_xw, y.cls = "java/lang/AbstractStringBuilder" ∧ Cond.privateMethod y ∈ lw_tbl ∧ Cond.instanceMethod y ∈ lw_tbl := List.forall_mem_cons.mpr ⟨⟨rfl, List.mem_of_getElem? (i := 756) (by decide +kernel), List.mem_of_getElem? (i := 757) (by decide +kernel)⟩, List.forall_mem_cons.mpr ⟨⟨rfl, List.mem_of_getElem? (i := 760) (by decide +kernel), List.mem_of_getElem? (i := 761) (by decide +kernel)⟩, List.forall_mem_cons.mpr ⟨⟨rfl, List.mem_of_getElem? (i := 825) (by decide +kernel), List.mem_of_getElem? (i := 826) (by decide +kernel)⟩, List.forall_mem_cons.mpr ⟨⟨rfl, List.mem_of_getElem? (i := 829) (by decide +kernel), List.mem_of_getElem? (i := 830) (by decide +kernel)⟩, fun _ h => absurd h List.not_mem_nil⟩⟩⟩⟩
theorem gd_of {args : Array Value} {s : State} (hts : ∀ w ∈ lw_tbl, w.before args s = true) : ∀ w ∈ lw_gd, w.before args s = true := by
  intro w hw
  rcases List.mem_append.mp hw with h | h
  · obtain ⟨y, hy, rfl⟩ := List.mem_map.mp h
    obtain ⟨h1, h2, h3⟩ := sx_in y hy
    exact sel_priv (z := ⟨"java/lang/AbstractStringBuilder", "isLatin1", "()Z"⟩) (hts _ (List.mem_of_getElem? (i := 787) (by decide +kernel))) h1.symm ⟨by rw [h1]; decide, by rw [h1]; decide⟩ (hts _ h2) (hts _ h3)
  · exact hts w (List.mem_filter.mp h).1
theorem arrA {args : Array Value} {s : State} (h : (Cond.arrayOver (.array .int)).before args s = true) : ∃ cA, ArrOfT s cA (.array .int) ∧ va_RA s cA (.array .int) := by
  obtain ⟨comp, cA, kA4, q1, q2, q3, q4, q5⟩ := arrayOverA_spec h
  exact ⟨cA, fun n z => ⟨fun k h => (by cases h), kA4, q3, comp, q4⟩, q5⟩
/-- the rows of digits -/
def dT (i : Nat) : Term := .static "java/lang/Integer" (nmD i) "[B"
def dP (i : Nat) : Nat := if i = 0 then 113 else 10
set_option maxRecDepth 100000 in
theorem dig_tab : ∀ i, i < 2 → (strQ.drop (dP i)).take 102 = [Cond.arrayOf (dT i) .byte, .eq (.length (dT i)) (.int (Int32.ofNat 100))] ++ (List.range 100).map (fun j => .eq (.elem (dT i) (.int (Int32.ofNat j))) (.int (nI (tbD i j)))) := by decide +kernel
theorem dig_in {i : Nat} (h : i < 2) : ∀ w ∈ [Cond.arrayOf (dT i) .byte, .eq (.length (dT i)) (.int (Int32.ofNat 100))] ++ (List.range 100).map (fun j => Cond.eq (.elem (dT i) (.int (Int32.ofNat j))) (.int (nI (tbD i j)))), w ∈ strQ := fun w hw => by
  rw [← dig_tab i h] at hw
  exact List.mem_of_mem_drop (List.mem_of_mem_take hw)
theorem lays_in {i : Nat} (h : i < 2) : Cond.laysStatic "java/lang/Integer" (nmD i) "[B" ∈ lw_tbl := by
  rcases (show i = 0 ∨ i = 1 by omega) with rfl | rfl
  · exact List.mem_of_getElem? (i := 898) (by decide +kernel)
  · exact List.mem_of_getElem? (i := 896) (by decide +kernel)
theorem DG1 {args : Array Value} {s : State} {A : Nat → Prop} (hF : ∀ w ∈ strQ, w.before args s = true) (hts : ∀ w ∈ lw_tbl, w.before args s = true) (hA : ∀ a : Nat, a < s.heap.size → ¬ A a) {i : Nat} (hi : i < 2) : ∃ t, va_Z "java/lang/Integer" (nmD i) "[B" (.ref t) A s s.heap ∧ va_T .byte t 100 (fun j => .int (nI (tbD i j))) A s s.heap := by
  have g := fun w hw => hF w (dig_in hi w hw)
  obtain ⟨t, h1, h2⟩ := va_Tof (f := fun j => .int (nI (tbD i j))) (A := A) (N := 100) (by decide) (g _ (List.mem_append_left _ List.mem_cons_self)) (va_eqt (g _ (List.mem_append_left _ (List.mem_cons_of_mem _ List.mem_cons_self)))) (fun j hj => va_eqt (g _ (List.mem_append_right _ (List.mem_map.mpr ⟨j, List.mem_range.mpr hj, rfl⟩)))) hA
  exact ⟨t, va_Zof (hts _ (lays_in hi)) (hts _ (List.mem_of_getElem? (i := 56) (by decide +kernel))) h1 hA, h2⟩
/-- a launch's numbers -/
theorem start_Gd {s : State} {b L : Nat} {xs : Nat → Int32} (hts : ∀ w ∈ lw_tbl, w.before #[Value.ref b] s = true) (hX : va_X b L xs s s.heap) (hbl : b < s.heap.size) (hgv : (Jvm.Cond.and given_1 narrow_1).before #[Value.ref b] s = true) : ∃ κ : KX, kB κ = s.heap.size ∧ kSb κ = b ∧ Gd κ (L, xs) s := by
  have hF : ∀ w ∈ strQ, w.before #[Value.ref b] s = true := flat_of_before _ hgv
  have hgd : ∀ w ∈ lw_gd, w.before #[Value.ref b] s = true := gd_of hts
  have hA : ∀ a : Nat, a < s.heap.size → ¬ (fun q : Nat => s.heap.size ≤ q ∧ (s.heap.size ≤ q ∨ q < s.heap.size + 53)) a := fun a ha h => absurd ha (Nat.not_lt.mpr h.1)
  have hc : ∀ k : Nat, ∃ y : ClassId × (Nat → Nat), ∀ q, vwCl[k]? = some q → u_Kn s q.1 q.2.1 q.2.2 y.1 y.2 := by
    intro k
    match k with
    | 0 => obtain ⟨c, i, h⟩ := u_known (n := 12) hgd ciX0.2.1 (hgd _ nwX5_18.2.1); exact ⟨(c, i), fun q hq => by cases hq; exact h⟩
    | 1 => obtain ⟨c, i, h⟩ := u_known (n := 6) hgd ciX1.2.1 (hgd _ nwX5_9.2.1); exact ⟨(c, i), fun q hq => by cases hq; exact h⟩
    | 2 => obtain ⟨c, i, h⟩ := u_known (n := 9) hgd ciX2.2.1 (hgd _ nwX7_9.2.1); exact ⟨(c, i), fun q hq => by cases hq; exact h⟩
    | 3 => obtain ⟨c, i, h⟩ := u_known (n := 5) hgd ciX3.2.1 (hgd _ nwX7_18.2.1); exact ⟨(c, i), fun q hq => by cases hq; exact h⟩
    | 4 => obtain ⟨c, i, h⟩ := u_known (n := 4) hgd ciX4.2.1 (hgd _ nwX9_43.2.1); exact ⟨(c, i), fun q hq => by cases hq; exact h⟩
    | 5 => obtain ⟨c, i, h⟩ := u_known (n := 10) hgd ciX5.2.1 (hgd _ nwX9_7.2.1); exact ⟨(c, i), fun q hq => by cases hq; exact h⟩
    | 6 => obtain ⟨c, i, h⟩ := u_known (n := 6) hgd ciX6.2.1 (hgd _ nwX7_25.2.1); exact ⟨(c, i), fun q hq => by cases hq; exact h⟩
    | 7 => obtain ⟨c, i, h⟩ := u_known (n := 8) hgd ciX7.2.1 (hgd _ nwX9_30.2.1); exact ⟨(c, i), fun q hq => by cases hq; exact h⟩
    | 8 => obtain ⟨c, i, h⟩ := u_known (n := 1) hgd ciX8.2.1 (hgd _ nwX5_25.2.1); exact ⟨(c, i), fun q hq => by cases hq; exact h⟩
    | 9 => obtain ⟨c, i, h⟩ := u_known (n := 8) hgd ciX9.2.1 (hgd _ nwL_18.2.1); exact ⟨(c, i), fun q hq => by cases hq; exact h⟩
    | 10 => obtain ⟨c, i, h⟩ := u_known (n := 31) hgd ciX10.2.1 (hgd _ nwL_49.2.1); exact ⟨(c, i), fun q hq => by cases hq; exact h⟩
    | 11 => obtain ⟨c, i, h⟩ := u_known (n := 4) hgd ciJ0.2.1 (hgd _ nwJ4_18.2.1); exact ⟨(c, i), fun q hq => by cases hq; exact h⟩
    | 12 => obtain ⟨c, i, h⟩ := u_known (n := 4) hgd ciJ4.2.1 (hgd _ nwL_39.2.1); exact ⟨(c, i), fun q hq => by cases hq; exact h⟩
    | k + 13 => exact ⟨(0, fun _ => 0), fun q hq => absurd (List.getElem?_eq_some_iff.mp hq).1 (by show ¬ k + 13 < 13; omega)⟩
  obtain ⟨dc, hdc⟩ := Classical.axiomOfChoice hc
  have hst : ∀ i : Nat, ∃ q : Nat × Nat, ∀ x, strJ[i]? = some x → (sT x).eval #[Value.ref b] s none [] s = some (.ref q.1) ∧ va_O "java/lang/String" q.1 (fun q : Nat => s.heap.size ≤ q ∧ (s.heap.size ≤ q ∨ q < s.heap.size + 53)) s s.heap ∧ va_OF "java/lang/String" "coder" "B" (.int 0) q.1 (fun q : Nat => s.heap.size ≤ q ∧ (s.heap.size ≤ q ∨ q < s.heap.size + 53)) s s.heap ∧ va_OF "java/lang/String" "value" "[B" (.ref q.2) q.1 (fun q : Nat => s.heap.size ≤ q ∧ (s.heap.size ≤ q ∨ q < s.heap.size + 53)) s s.heap ∧ va_T .byte q.2 x.2.2.2.length (fun j => .int (x.2.2.2.getD j 0)) (fun q : Nat => s.heap.size ≤ q ∧ (s.heap.size ≤ q ∨ q < s.heap.size + 53)) s s.heap := by
    intro i
    cases h : strJ[i]? with
    | none => exact ⟨(0, 0), fun x hx => nomatch hx⟩
    | some x =>
      obtain ⟨q, hq⟩ := SK1 hF hA (str_in h).1 (str_in h).2
      exact ⟨q, fun y hy => by cases hy; exact hq⟩
  obtain ⟨ds, hds⟩ := Classical.axiomOfChoice hst
  have hdt : ∀ i : Nat, ∃ t : Nat, i < 2 → va_Z "java/lang/Integer" (nmD i) "[B" (.ref t) (fun q : Nat => s.heap.size ≤ q ∧ (s.heap.size ≤ q ∨ q < s.heap.size + 53)) s s.heap ∧ va_T .byte t 100 (fun j => .int (nI (tbD i j))) (fun q : Nat => s.heap.size ≤ q ∧ (s.heap.size ≤ q ∨ q < s.heap.size + 53)) s s.heap := by
    intro i
    by_cases hi : i < 2
    · obtain ⟨t, ht⟩ := DG1 hF hts hA hi
      exact ⟨t, fun _ => ht⟩
    · exact ⟨0, fun h => absurd h hi⟩
  obtain ⟨dd, hdd⟩ := Classical.axiomOfChoice hdt
  obtain ⟨a0, i0, n0⟩ := arr1 (hgd _ ac_int)
  obtain ⟨a1, i1, n1⟩ := arr1 (hgd _ ac_byte)
  obtain ⟨a2, i2, n2⟩ := arr1 (hgd _ ac_boolean)
  obtain ⟨a3, i3, n3⟩ := arr1 (hgd _ ac_long)
  have hov : (Cond.arrayOver (.array .int)).before #[Value.ref b] s = true := hts _ (List.mem_of_getElem? (i := 611) (by decide +kernel))
  obtain ⟨a4, i4, n4⟩ := arrA hov
  obtain ⟨z, hz⟩ : ∃ z : Option Nat, va_Z "jdk/internal/util/Preconditions" "SIOOBE_FORMATTER" "Ljava/util/function/BiFunction;" (match z with | some t => .ref t | none => .null) (fun q : Nat => s.heap.size ≤ q ∧ (s.heap.size ≤ q ∨ q < s.heap.size + 53)) s s.heap := by
    rcases va_Zqof (C := "jdk/internal/util/Preconditions") (n := "SIOOBE_FORMATTER") (d := "Ljava/util/function/BiFunction;") (hts _ (List.mem_of_getElem? (i := 802) (by decide +kernel))) (hts _ (List.mem_of_getElem? (i := 54) (by decide +kernel))) (hF _ (List.mem_of_getElem? (i := 5) (by decide +kernel))) hA with h | ⟨t, h⟩
    · exact ⟨none, h⟩
    · exact ⟨some t, h⟩
  refine ⟨(((fun k => (dc k).1, fun k => (dc k).2), fun k => if k = 0 then a0 else if k = 1 then a1 else if k = 2 then a2 else if k = 3 then a3 else a4), (s.heap.size, fun i => (ds i).1, fun i => (ds i).2, b, z, s.heap.size, dd)), rfl, rfl, ?_⟩
  refine ⟨⟨⟨fun c q hq => hdc c q hq, fun k q hk => ?_⟩, ⟨Nat.le_refl _, Nat.le_refl _⟩⟩, fun i x hx => ⟨(hds i x hx).2, vk_R.of (hts _ (strR_in x (List.mem_of_getElem? hx))) (hds i x hx).1⟩, ⟨?_, ?_, fun i hi => hdd i hi, hov, fun x hx => va_Nw.of rfl (hts _ (fnest_in x hx))⟩, ⟨?_, hz⟩, ⟨fun x hx => va_Nw.of rfl (hts _ (nest_in x hx)), fun x hx => va_Nw.of rfl (hts _ (cst_in x hx)), fun x hx => va_Nc.of (hF _ (ncst_in x hx)), fun x hx => va_Nw.of rfl (hts _ (dcl_in x hx))⟩, ⟨hX, hbl, hA b hbl⟩⟩
  · match k, hk with
    | 0, hk => cases hk; exact ⟨i0, n0⟩
    | 1, hk => cases hk; exact ⟨i1, n1⟩
    | 2, hk => cases hk; exact ⟨i2, n2⟩
    | 3, hk => cases hk; exact ⟨i3, n3⟩
    | 4, hk => cases hk; exact ⟨i4, n4⟩
    | k + 5, hk => exact absurd (List.getElem?_eq_some_iff.mp hk).1 (by show ¬ k + 5 < 5; omega)
  · exact vx_Zqof (hts _ (List.mem_of_getElem? (i := 1085) (by decide +kernel))) (hts _ (List.mem_of_getElem? (i := 57) (by decide +kernel))) (hF _ (List.mem_of_getElem? (i := 215) (by decide +kernel))) hA
  · exact vx_Zqof (hts _ (List.mem_of_getElem? (i := 1087) (by decide +kernel))) (hts _ (List.mem_of_getElem? (i := 57) (by decide +kernel))) (hF _ (List.mem_of_getElem? (i := 216) (by decide +kernel))) hA
  · exact va_Zof (hts _ (List.mem_of_getElem? (i := 580) (by decide +kernel))) (hts _ (List.mem_of_getElem? (i := 49) (by decide +kernel))) (va_eqt (hF _ (List.mem_of_getElem? (i := 4) (by decide +kernel)))) hA
