section
-- ===== PART A: goes FIRST, ahead of the names: the tables' words, and 'selects' of the private methods out of them =====
/-- a private method of a class that the tables say can be made, by its rows of tables_1 -/
def lw_okq (q : MethodName × Nat) : Prop := (q.1.cls ≠ "java/lang/invoke/MethodHandle" ∧ q.1.cls ≠ "java/lang/invoke/VarHandle") ∧ Cond.instantiable q.1.cls q.2 ∈ tables_1 ∧ Cond.privateMethod q.1 ∈ tables_1 ∧ Cond.instanceMethod q.1 ∈ tables_1
theorem lw_p0 : lw_okq (⟨"EstateSettlement$State", "cell", "(III)I"⟩, 1) := ⟨⟨by decide +kernel, by decide +kernel⟩, List.mem_of_getElem? (i := 149) (by decide +kernel), List.mem_of_getElem? (i := 370) (by decide +kernel), List.mem_of_getElem? (i := 371) (by decide +kernel)⟩
theorem lw_p1 : lw_okq (⟨"EstateSettlement$Inventory", "claimDebts", "(LEstateSettlement$State;I)V"⟩, 9) := ⟨⟨by decide +kernel, by decide +kernel⟩, List.mem_of_getElem? (i := 204) (by decide +kernel), List.mem_of_getElem? (i := 384) (by decide +kernel), List.mem_of_getElem? (i := 385) (by decide +kernel)⟩
theorem lw_p2 : lw_okq (⟨"EstateSettlement$Lines", "countLine", "(I)V"⟩, 5) := ⟨⟨by decide +kernel, by decide +kernel⟩, List.mem_of_getElem? (i := 247) (by decide +kernel), List.mem_of_getElem? (i := 429) (by decide +kernel), List.mem_of_getElem? (i := 430) (by decide +kernel)⟩
theorem lw_p3 : lw_okq (⟨"EstateSettlement$Lines", "divisorBelow", "(LEstateSettlement$State;I)I"⟩, 5) := ⟨⟨by decide +kernel, by decide +kernel⟩, List.mem_of_getElem? (i := 247) (by decide +kernel), List.mem_of_getElem? (i := 437) (by decide +kernel), List.mem_of_getElem? (i := 438) (by decide +kernel)⟩
theorem lw_p4 : lw_okq (⟨"EstateSettlement$Settlement", "divideResidue", "(LEstateSettlement$Estate;LEstateSettlement$State;)V"⟩, 8) := ⟨⟨by decide +kernel, by decide +kernel⟩, List.mem_of_getElem? (i := 198) (by decide +kernel), List.mem_of_getElem? (i := 454) (by decide +kernel), List.mem_of_getElem? (i := 455) (by decide +kernel)⟩
theorem lw_p5 : lw_okq (⟨"EstateSettlement$Portions", "reckon", "(I)V"⟩, 6) := ⟨⟨by decide +kernel, by decide +kernel⟩, List.mem_of_getElem? (i := 275) (by decide +kernel), List.mem_of_getElem? (i := 490) (by decide +kernel), List.mem_of_getElem? (i := 491) (by decide +kernel)⟩
theorem lw_p6 : lw_okq (⟨"EstateSettlement$Portions", "isInAccount", "(I)Z"⟩, 6) := ⟨⟨by decide +kernel, by decide +kernel⟩, List.mem_of_getElem? (i := 275) (by decide +kernel), List.mem_of_getElem? (i := 495) (by decide +kernel), List.mem_of_getElem? (i := 496) (by decide +kernel)⟩
theorem lw_p7 : lw_okq (⟨"EstateSettlement$Portions", "findOverpaid", "()I"⟩, 6) := ⟨⟨by decide +kernel, by decide +kernel⟩, List.mem_of_getElem? (i := 275) (by decide +kernel), List.mem_of_getElem? (i := 499) (by decide +kernel), List.mem_of_getElem? (i := 500) (by decide +kernel)⟩
theorem lw_p8 : lw_okq (⟨"EstateSettlementLaw$Estate", "goes", "(II)V"⟩, 31) := ⟨⟨by decide +kernel, by decide +kernel⟩, List.mem_of_getElem? (i := 571) (by decide +kernel), List.mem_of_getElem? (i := 905) (by decide +kernel), List.mem_of_getElem? (i := 906) (by decide +kernel)⟩
theorem lw_p9 : lw_okq (⟨"EstateSettlementLaw$Estate", "lines", "(I)I"⟩, 31) := ⟨⟨by decide +kernel, by decide +kernel⟩, List.mem_of_getElem? (i := 571) (by decide +kernel), List.mem_of_getElem? (i := 909) (by decide +kernel), List.mem_of_getElem? (i := 910) (by decide +kernel)⟩
theorem lw_p10 : lw_okq (⟨"EstateSettlementLaw$Estate", "isEmpty", "(I)Z"⟩, 31) := ⟨⟨by decide +kernel, by decide +kernel⟩, List.mem_of_getElem? (i := 571) (by decide +kernel), List.mem_of_getElem? (i := 913) (by decide +kernel), List.mem_of_getElem? (i := 914) (by decide +kernel)⟩
theorem lw_p11 : lw_okq (⟨"EstateSettlementLaw$Estate", "shares", "()V"⟩, 31) := ⟨⟨by decide +kernel, by decide +kernel⟩, List.mem_of_getElem? (i := 571) (by decide +kernel), List.mem_of_getElem? (i := 917) (by decide +kernel), List.mem_of_getElem? (i := 918) (by decide +kernel)⟩
theorem lw_p12 : lw_okq (⟨"java/lang/Throwable", "fillInStackTrace", "(I)Ljava/lang/Throwable;"⟩, 6) := ⟨⟨by decide +kernel, by decide +kernel⟩, List.mem_of_getElem? (i := 1063) (by decide +kernel), List.mem_of_getElem? (i := 1061) (by decide +kernel), List.mem_of_getElem? (i := 1062) (by decide +kernel)⟩
theorem lw_p13 : lw_okq (⟨"EstateSettlement$Input", "kindAt", "(I)I"⟩, 6) := ⟨⟨by decide +kernel, by decide +kernel⟩, List.mem_of_getElem? (i := 44) (by decide +kernel), List.mem_of_getElem? (i := 1112) (by decide +kernel), List.mem_of_getElem? (i := 1113) (by decide +kernel)⟩
theorem lw_p14 : lw_okq (⟨"EstateSettlement$Parser", "readStatement", "()Z"⟩, 10) := ⟨⟨by decide +kernel, by decide +kernel⟩, List.mem_of_getElem? (i := 38) (by decide +kernel), List.mem_of_getElem? (i := 1116) (by decide +kernel), List.mem_of_getElem? (i := 1117) (by decide +kernel)⟩
theorem lw_p15 : lw_okq (⟨"EstateSettlement$Input", "byteAt", "(I)I"⟩, 6) := ⟨⟨by decide +kernel, by decide +kernel⟩, List.mem_of_getElem? (i := 44) (by decide +kernel), List.mem_of_getElem? (i := 1126) (by decide +kernel), List.mem_of_getElem? (i := 1127) (by decide +kernel)⟩
def lw_privs_1 : List (MethodName × Nat) := [(⟨"EstateSettlement$State", "cell", "(III)I"⟩, 1), (⟨"EstateSettlement$Inventory", "claimDebts", "(LEstateSettlement$State;I)V"⟩, 9), (⟨"EstateSettlement$Lines", "countLine", "(I)V"⟩, 5), (⟨"EstateSettlement$Lines", "divisorBelow", "(LEstateSettlement$State;I)I"⟩, 5), (⟨"EstateSettlement$Settlement", "divideResidue", "(LEstateSettlement$Estate;LEstateSettlement$State;)V"⟩, 8), (⟨"EstateSettlement$Portions", "reckon", "(I)V"⟩, 6), (⟨"EstateSettlement$Portions", "isInAccount", "(I)Z"⟩, 6), (⟨"EstateSettlement$Portions", "findOverpaid", "()I"⟩, 6), (⟨"EstateSettlementLaw$Estate", "goes", "(II)V"⟩, 31), (⟨"EstateSettlementLaw$Estate", "lines", "(I)I"⟩, 31), (⟨"EstateSettlementLaw$Estate", "isEmpty", "(I)Z"⟩, 31), (⟨"EstateSettlementLaw$Estate", "shares", "()V"⟩, 31), (⟨"java/lang/Throwable", "fillInStackTrace", "(I)Ljava/lang/Throwable;"⟩, 6), (⟨"EstateSettlement$Input", "kindAt", "(I)I"⟩, 6), (⟨"EstateSettlement$Parser", "readStatement", "()Z"⟩, 10), (⟨"EstateSettlement$Input", "byteAt", "(I)I"⟩, 6)]
theorem lw_r1 : ∀ q ∈ lw_privs_1, lw_okq q := List.forall_mem_cons.mpr ⟨lw_p0, List.forall_mem_cons.mpr ⟨lw_p1, List.forall_mem_cons.mpr ⟨lw_p2, List.forall_mem_cons.mpr ⟨lw_p3, List.forall_mem_cons.mpr ⟨lw_p4, List.forall_mem_cons.mpr ⟨lw_p5, List.forall_mem_cons.mpr ⟨lw_p6, List.forall_mem_cons.mpr ⟨lw_p7, List.forall_mem_cons.mpr ⟨lw_p8, List.forall_mem_cons.mpr ⟨lw_p9, List.forall_mem_cons.mpr ⟨lw_p10, List.forall_mem_cons.mpr ⟨lw_p11, List.forall_mem_cons.mpr ⟨lw_p12, List.forall_mem_cons.mpr ⟨lw_p13, List.forall_mem_cons.mpr ⟨lw_p14, List.forall_mem_cons.mpr ⟨lw_p15, fun _ h => absurd h List.not_mem_nil⟩⟩⟩⟩⟩⟩⟩⟩⟩⟩⟩⟩⟩⟩⟩⟩
theorem lw_p16 : lw_okq (⟨"EstateSettlement$Parser", "readPerson", "()Z"⟩, 10) := ⟨⟨by decide +kernel, by decide +kernel⟩, List.mem_of_getElem? (i := 38) (by decide +kernel), List.mem_of_getElem? (i := 1131) (by decide +kernel), List.mem_of_getElem? (i := 1132) (by decide +kernel)⟩
theorem lw_p17 : lw_okq (⟨"EstateSettlement$Parser", "fail", "(I)Z"⟩, 10) := ⟨⟨by decide +kernel, by decide +kernel⟩, List.mem_of_getElem? (i := 38) (by decide +kernel), List.mem_of_getElem? (i := 1135) (by decide +kernel), List.mem_of_getElem? (i := 1136) (by decide +kernel)⟩
theorem lw_p18 : lw_okq (⟨"EstateSettlement$Parser", "readKnownPerson", "(I)Z"⟩, 10) := ⟨⟨by decide +kernel, by decide +kernel⟩, List.mem_of_getElem? (i := 38) (by decide +kernel), List.mem_of_getElem? (i := 1150) (by decide +kernel), List.mem_of_getElem? (i := 1151) (by decide +kernel)⟩
theorem lw_p19 : lw_okq (⟨"EstateSettlement$Parser", "readNumber", "(II)Z"⟩, 10) := ⟨⟨by decide +kernel, by decide +kernel⟩, List.mem_of_getElem? (i := 38) (by decide +kernel), List.mem_of_getElem? (i := 1155) (by decide +kernel), List.mem_of_getElem? (i := 1156) (by decide +kernel)⟩
theorem lw_p20 : lw_okq (⟨"EstateSettlement$State", "putCell", "(IIII)V"⟩, 1) := ⟨⟨by decide +kernel, by decide +kernel⟩, List.mem_of_getElem? (i := 149) (by decide +kernel), List.mem_of_getElem? (i := 1171) (by decide +kernel), List.mem_of_getElem? (i := 1172) (by decide +kernel)⟩
theorem lw_p21 : lw_okq (⟨"EstateSettlement$Parser", "readStanding", "(II)Z"⟩, 10) := ⟨⟨by decide +kernel, by decide +kernel⟩, List.mem_of_getElem? (i := 38) (by decide +kernel), List.mem_of_getElem? (i := 1175) (by decide +kernel), List.mem_of_getElem? (i := 1176) (by decide +kernel)⟩
theorem lw_p22 : lw_okq (⟨"EstateSettlement$Parser", "readAsset", "()Z"⟩, 10) := ⟨⟨by decide +kernel, by decide +kernel⟩, List.mem_of_getElem? (i := 38) (by decide +kernel), List.mem_of_getElem? (i := 1186) (by decide +kernel), List.mem_of_getElem? (i := 1187) (by decide +kernel)⟩
theorem lw_p23 : lw_okq (⟨"EstateSettlement$Parser", "readDebt", "()Z"⟩, 10) := ⟨⟨by decide +kernel, by decide +kernel⟩, List.mem_of_getElem? (i := 38) (by decide +kernel), List.mem_of_getElem? (i := 1201) (by decide +kernel), List.mem_of_getElem? (i := 1202) (by decide +kernel)⟩
theorem lw_p24 : lw_okq (⟨"EstateSettlement$Parser", "readGift", "()Z"⟩, 10) := ⟨⟨by decide +kernel, by decide +kernel⟩, List.mem_of_getElem? (i := 38) (by decide +kernel), List.mem_of_getElem? (i := 1212) (by decide +kernel), List.mem_of_getElem? (i := 1213) (by decide +kernel)⟩
theorem lw_p25 : lw_okq (⟨"EstateSettlement$Parser", "readLegacy", "()Z"⟩, 10) := ⟨⟨by decide +kernel, by decide +kernel⟩, List.mem_of_getElem? (i := 38) (by decide +kernel), List.mem_of_getElem? (i := 1222) (by decide +kernel), List.mem_of_getElem? (i := 1223) (by decide +kernel)⟩
theorem lw_p26 : lw_okq (⟨"EstateSettlement$Parser", "readShare", "()Z"⟩, 10) := ⟨⟨by decide +kernel, by decide +kernel⟩, List.mem_of_getElem? (i := 38) (by decide +kernel), List.mem_of_getElem? (i := 1231) (by decide +kernel), List.mem_of_getElem? (i := 1232) (by decide +kernel)⟩
theorem lw_p27 : lw_okq (⟨"EstateSettlement$Parser", "readLife", "()Z"⟩, 10) := ⟨⟨by decide +kernel, by decide +kernel⟩, List.mem_of_getElem? (i := 38) (by decide +kernel), List.mem_of_getElem? (i := 1236) (by decide +kernel), List.mem_of_getElem? (i := 1237) (by decide +kernel)⟩
theorem lw_p28 : lw_okq (⟨"EstateSettlement$Parser", "readAccrue", "()Z"⟩, 10) := ⟨⟨by decide +kernel, by decide +kernel⟩, List.mem_of_getElem? (i := 38) (by decide +kernel), List.mem_of_getElem? (i := 1241) (by decide +kernel), List.mem_of_getElem? (i := 1242) (by decide +kernel)⟩
theorem lw_p29 : lw_okq (⟨"EstateSettlement$Parser", "readSemicolon", "()Z"⟩, 10) := ⟨⟨by decide +kernel, by decide +kernel⟩, List.mem_of_getElem? (i := 38) (by decide +kernel), List.mem_of_getElem? (i := 1254) (by decide +kernel), List.mem_of_getElem? (i := 1255) (by decide +kernel)⟩
theorem lw_p30 : lw_okq (⟨"EstateSettlement", "requirePerson", "(I)V"⟩, 8) := ⟨⟨by decide +kernel, by decide +kernel⟩, List.mem_of_getElem? (i := 30) (by decide +kernel), List.mem_of_getElem? (i := 1364) (by decide +kernel), List.mem_of_getElem? (i := 1365) (by decide +kernel)⟩
theorem lw_p31 : lw_okq (⟨"EstateSettlement", "givenIfRefused", "(II)I"⟩, 8) := ⟨⟨by decide +kernel, by decide +kernel⟩, List.mem_of_getElem? (i := 30) (by decide +kernel), List.mem_of_getElem? (i := 1415) (by decide +kernel), List.mem_of_getElem? (i := 1416) (by decide +kernel)⟩
def lw_privs_2 : List (MethodName × Nat) := [(⟨"EstateSettlement$Parser", "readPerson", "()Z"⟩, 10), (⟨"EstateSettlement$Parser", "fail", "(I)Z"⟩, 10), (⟨"EstateSettlement$Parser", "readKnownPerson", "(I)Z"⟩, 10), (⟨"EstateSettlement$Parser", "readNumber", "(II)Z"⟩, 10), (⟨"EstateSettlement$State", "putCell", "(IIII)V"⟩, 1), (⟨"EstateSettlement$Parser", "readStanding", "(II)Z"⟩, 10), (⟨"EstateSettlement$Parser", "readAsset", "()Z"⟩, 10), (⟨"EstateSettlement$Parser", "readDebt", "()Z"⟩, 10), (⟨"EstateSettlement$Parser", "readGift", "()Z"⟩, 10), (⟨"EstateSettlement$Parser", "readLegacy", "()Z"⟩, 10), (⟨"EstateSettlement$Parser", "readShare", "()Z"⟩, 10), (⟨"EstateSettlement$Parser", "readLife", "()Z"⟩, 10), (⟨"EstateSettlement$Parser", "readAccrue", "()Z"⟩, 10), (⟨"EstateSettlement$Parser", "readSemicolon", "()Z"⟩, 10), (⟨"EstateSettlement", "requirePerson", "(I)V"⟩, 8), (⟨"EstateSettlement", "givenIfRefused", "(II)I"⟩, 8)]
theorem lw_r2 : ∀ q ∈ lw_privs_2, lw_okq q := List.forall_mem_cons.mpr ⟨lw_p16, List.forall_mem_cons.mpr ⟨lw_p17, List.forall_mem_cons.mpr ⟨lw_p18, List.forall_mem_cons.mpr ⟨lw_p19, List.forall_mem_cons.mpr ⟨lw_p20, List.forall_mem_cons.mpr ⟨lw_p21, List.forall_mem_cons.mpr ⟨lw_p22, List.forall_mem_cons.mpr ⟨lw_p23, List.forall_mem_cons.mpr ⟨lw_p24, List.forall_mem_cons.mpr ⟨lw_p25, List.forall_mem_cons.mpr ⟨lw_p26, List.forall_mem_cons.mpr ⟨lw_p27, List.forall_mem_cons.mpr ⟨lw_p28, List.forall_mem_cons.mpr ⟨lw_p29, List.forall_mem_cons.mpr ⟨lw_p30, List.forall_mem_cons.mpr ⟨lw_p31, fun _ h => absurd h List.not_mem_nil⟩⟩⟩⟩⟩⟩⟩⟩⟩⟩⟩⟩⟩⟩⟩⟩
theorem lw_p32 : lw_okq (⟨"EstateSettlement", "isLeftOutWith", "(II)Z"⟩, 8) := ⟨⟨by decide +kernel, by decide +kernel⟩, List.mem_of_getElem? (i := 30) (by decide +kernel), List.mem_of_getElem? (i := 1428) (by decide +kernel), List.mem_of_getElem? (i := 1429) (by decide +kernel)⟩
theorem lw_p33 : lw_okq (⟨"EstateSettlement", "requireAsset", "(I)V"⟩, 8) := ⟨⟨by decide +kernel, by decide +kernel⟩, List.mem_of_getElem? (i := 30) (by decide +kernel), List.mem_of_getElem? (i := 1501) (by decide +kernel), List.mem_of_getElem? (i := 1502) (by decide +kernel)⟩
def lw_privs_3 : List (MethodName × Nat) := [(⟨"EstateSettlement", "isLeftOutWith", "(II)Z"⟩, 8), (⟨"EstateSettlement", "requireAsset", "(I)V"⟩, 8)]
theorem lw_r3 : ∀ q ∈ lw_privs_3, lw_okq q := List.forall_mem_cons.mpr ⟨lw_p32, List.forall_mem_cons.mpr ⟨lw_p33, fun _ h => absurd h List.not_mem_nil⟩⟩
def lw_privs : List (MethodName × Nat) := lw_privs_1 ++ (lw_privs_2 ++ (lw_privs_3))
def lw_tbl : List Cond := k2_sels lw_privs ++ tables_1
theorem lw_privs_ok : ∀ q ∈ lw_privs, lw_okq q := by
  show ∀ q ∈ lw_privs_1 ++ (lw_privs_2 ++ (lw_privs_3)), lw_okq q
  exact List.forall_mem_append.mpr ⟨lw_r1, List.forall_mem_append.mpr ⟨lw_r2, lw_r3⟩⟩
/-! ===== BEGIN words of one list among another's, by their places ===== -/
theorem goodIn_r {big : List Cond} (ws : List Cond) (ps : List Nat) (hp : ws = ps.filterMap (fun i => big[i]?)) (h : ws.all goodWord = true) : GoodIn big ws := by
  intro w hw
  have h1 := List.all_eq_true.mp h w hw
  rw [hp] at hw
  obtain ⟨i, -, hi⟩ := List.mem_filterMap.mp hw
  have hm : w ∈ big := by first | exact List.mem_of_getElem? hi | exact List.getElem?_mem hi
  exact ⟨hm, good_of_word h1⟩
theorem goodIn_app {big a b : List Cond} (ha : GoodIn big a) (hb : GoodIn big b) : GoodIn big (a ++ b) := fun w h => (List.mem_append.mp h).elim (ha w) (hb w)
theorem goodIn_ca {big a b : List Cond} {c : Cond} (ha : GoodIn big (c :: a)) (hb : GoodIn big b) : GoodIn big (c :: (a ++ b)) := fun w h => (List.mem_cons.mp h).elim (fun e => ha w (List.mem_cons.mpr (Or.inl e))) (fun h => (List.mem_append.mp h).elim (fun h => ha w (List.mem_cons.mpr (Or.inr h))) (hb w))
theorem goodIn_sub {big ws : List Cond} (hm : ∀ w ∈ ws, w ∈ big) (h : ws.all goodWord = true) : GoodIn big ws := fun w hw => ⟨hm w hw, good_of_word (List.all_eq_true.mp h w hw)⟩
/-! ===== END ===== -/

/-! ===== BEGIN exceptions that leave a method, and their catching by the caller (launches without stack traces) ===== -/
section VXA
/-! The laws vx_back, vx_callV, vx_callS, vx_callSW, vx_throw0, vx_throwS follow proofs of the library, with one case more: JvmDerived/Free/Laws.lean (Back.of_free), Shelf42/LK1.lean (callV, callS), Shelf/KitTraced.lean (throwNew0V, throwNewS). -/
/-- where a method has thrown q: the class by its name, the cell, what was written, the world -/
def vx_T (XC : String → State → State → Prop) (st : State) (q : Addr) (t : State) (mc ms : Nat) (free : Addr → Prop) : Prop :=
  ∃ (E : String) (ce : Cell) (L : List Loc), XC E st t ∧ t.heap[q]? = some ce ∧ ce.vm = .none ∧ st.vm.findClass E = some ce.cls ∧ st.WarmedH t.vm ∧ st.sameButNew ({ t with vm := st.vm } : State) L mc ms ∧ ∀ z ∈ L, free z.base
def vx_Q (Qc : Array Value → State → Outcome → State → Prop) (XC : String → State → State → Prop) (mc ms : Nat) (free : Addr → Prop) : Array Value → State → Outcome → State → Prop := fun a st o t =>
  (Qc a st o t ∧ ∃ L, FrameEnd st o t L mc ms ∧ ∀ q ∈ L, free q.base) ∨ ∃ q, o = .threw q ∧ vx_T XC st q t mc ms free
/-- a callee that returns or throws -/
def vx_Met (l : Launch) (y : MethodName) (ws : List Cond) (rm : Room) (Pc : Array Value → State → Prop) (Qc : Array Value → State → Outcome → State → Prop) (XC : String → State → State → Prop) (mc ms : Nat) (free : Addr → Prop) : Prop :=
  MetFree l y (headSpec ws rm) Pc (fun _ _ _ _ _ => True) (vx_Q Qc XC mc ms free)
def vx_Post (XC : String → State → State → Prop) (mc ms : Nat) (free : Addr → Prop) : Pt → Array Value → Addr → Pt → Prop := fun A a q B =>
  ∃ (g : JFrame) (mk : MethodId) (t : State) (L : List Loc) (E : String) (ce : Cell), B.U.heap = t.heap ∧ B.U.vm = t.vm ∧ XC E (A.U.calling g mk a) t ∧ t.heap[q]? = some ce ∧ ce.vm = .none ∧ A.U.vm.findClass E = some ce.cls ∧ B.locs = A.locs ++ L ∧ (∀ z ∈ L, free z.base) ∧ B.cells = A.cells + mc ∧ B.slots = A.slots + ms
def vx_Back (l : Launch) (R : Room) (p : Program) (e : Env) (below : List Frame) (s : State) (sargs : Array Value) (y : MethodName) (len W9 : Nat)
    (Pre : Pt → Array Value → Prop) (Post : Pt → Array Value → Option Value → Pt → Prop) (PostX : Pt → Array Value → Addr → Pt → Prop) : Prop :=
  ∀ (m : MethodId) (meth : Method) (c : Code) (A : Pt) (g : JFrame) (ig : Instr) (mk : MethodId) (a : Array Value),
    Stand p l e R s m sargs below meth c A.U A.locs A.cells A.slots → g.method = m → g.locals.size = c.maxLocals → decode c.code g.pc = .ok (ig, len) →
    2 * g.monitorRoom + (g.stack.map fun v => v.category).sum ≤ W9 → A.U.methodNamed? y = some mk → Pre A a →
    (∃ (v : Option Value) (B : Pt), Stand p l e R s m sargs below meth c B.U B.locs B.cells B.slots ∧ Post A a v B ∧
      Steps p.tables e below (doInvoke e (A.U.setTop g) [] mk a).1 (B.U.setTop { g with pc := g.pc + len, stack := v.toList ++ g.stack })) ∨
    (∃ (q : Addr) (B : Pt), Stand p l e R s m sargs below meth c B.U B.locs B.cells B.slots ∧ PostX A a q B ∧
      Steps p.tables e below (doInvoke e (A.U.setTop g) [] mk a).1 ((B.U.setTop g).pushFrame (.throwing q)))
section Payer
variable {l : Launch} {R : Room} {p : Program} {e : Env} {below : List Frame} {s : State} {sargs : Array Value} {y : MethodName} {len W9 : Nat}
theorem vx_back {ws : List Cond} {rm : Room} {Pc : Array Value → State → Prop} {Qc : Array Value → State → Outcome → State → Prop} {XC : String → State → State → Prop} {mc ms : Nat} {free : Addr → Prop} {bytes : ByteArray} {maxL : Nat} {ret : Option FieldType}
    (hM : vx_Met l y ws rm Pc Qc XC mc ms free) (hblind : FrameBlind Pc) (hrc : rm.cells = mc) (hrs : rm.slots = ms)
    (hframes : rm.frames + 1 ≤ R.frames) (hlocals : W9 + (maxL + 11) + rm.locals ≤ R.locals)
    (hws : ∀ w ∈ ws, ∀ a' U, s.WarmedH U.vm → w.before a' U = true) (hcode : Cond.code y bytes maxL ret ∈ ws) (hinit : ∀ a' U, s.WarmedH U.vm → (Cond.initialized y.cls).before a' U = true) :
    vx_Back l R p e below s sargs y len W9 (PreOf R mc ms Pc) (PostOf Qc mc ms free) (vx_Post XC mc ms free) := by
  intro m meth c A g ig mk a X hg hsize hdg hW hn hp
  have h1 : (headSpec ws rm).pre.before a A.U = true := atoms_intro fun w hw => hws w hw _ _ X.warmed
  have h2 : (Cond.code y bytes maxL ret).before a A.U = true := hws _ hcode _ _ X.warmed
  have h3 : (Cond.initialized y.cls).before a A.U = true := hinit _ _ X.warmed
  have h4 : A.cells + (headSpec ws rm).room.cells ≤ R.cells := by rw [show (headSpec ws rm).room.cells = mc from hrc]; exact hp.1
  have h5 : A.slots + (headSpec ws rm).room.slots ≤ R.slots := by rw [show (headSpec ws rm).room.slots = ms from hrs]; exact hp.2.1
  have hPc : Pc a (A.U.calling g mk a) := hblind _ _ _ _ hp.2.2
  obtain ⟨U, Ls, c0, s0⟩ := A
  dsimp only [Pt.U, Pt.locs, Pt.cells, Pt.slots] at h1 h2 h3 h4 h5 X hn hPc ⊢
  obtain ⟨methY, cY, hmY, hcY, -, hlY, -, -, -, -⟩ := Cond.code_spec hn h2
  obtain ⟨kY, hkY, -⟩ := className_of_methodNamed hn
  have hinitY : kY.init = .initialized := Cond.initialized_spec (findClass_of_methodNamed hn) hkY h3
  have h : At U g.method c below := by rw [hg]; exact X.here
  have hlocals9 : W9 + (maxL + 11) + (headSpec ws rm).room.locals ≤ R.locals := hlocals
  have happ : (headSpec ws rm).appliesLoose y e.platform (U.calling g mk a) = true :=
    Spec.appliesLoose_calling (g := g) h hdg hn hkY hinitY
      (X.room_calling (g := g) (R' := (headSpec ws rm).room) hsize hmY hcY hframes (by rw [hlY]; omega) h4 h5) h1
  obtain ⟨mid, hmid⟩ := h.above
  have hfr : (U.setTop g).frames = (.java g :: mid) ++ below := by rw [State.frames_setTop' g h.top, hmid]; rfl
  obtain ⟨o, s₂, hsteps, -, hend, hq⟩ := Steps.callFree hM p X.admits X.cas X.clock (acts := []) hfr happ hPc trivial
  have hq' : vx_Q Qc XC mc ms free a (U.calling g mk a) o s₂ := hq
  rw [State.frames_setTop' g h.top] at hend
  obtain ⟨g₀, hg0⟩ := Option.isSome_iff_exists.mp h.top
  obtain ⟨r, hr⟩ := State.topJava?_eq_some.mp hg0
  have hr' : (({ U with heap := s₂.heap, slotsUsed := s₂.slotsUsed } : State).setVm s₂.vm).frames = .java g₀ :: r := hr
  rcases hq' with ⟨hqc, L, hfe, hL⟩ | ⟨q, rfl, E, ce, L, hx, hce, hcv, hcl, hW₂, hsm, hL⟩
  · obtain ⟨⟨v, rfl⟩, hW₂, e2, q2, q3, q4, q5, q6⟩ := id hfe
    have e3 : s₂ = ({ (U.calling g mk a).setFrames s₂.frames with heap := s₂.heap, slotsUsed := s₂.slotsUsed } : State).setVm s₂.vm := by
      have : s₂ = ({ s₂ with vm := (U.calling g mk a).vm } : State).setVm s₂.vm := rfl
      rw [e2] at this
      exact this
    obtain ⟨c₂, i₂, len₂, hc₂, hd₂, hf₂⟩ := hend
    have hW' : U.WarmedH s₂.vm := hW₂
    have hcc : c₂ = c := by
      have h1 : s₂.code? g.method = U.code? g.method := by
        rw [State.code?_eq, State.code?_eq, hW'.alike.method?]
      exact Option.some.inj (hc₂.symm.trans (h1.trans h.code))
    subst hcc
    have hlen : len₂ = len := by rw [hdg] at hd₂; cases hd₂; rfl
    subst hlen
    have hs₂ : s₂ = (({ U with heap := s₂.heap, slotsUsed := s₂.slotsUsed } : State).setVm s₂.vm).setTop { g with pc := g.pc + len₂, stack := v.toList ++ g.stack } := by
      refine e3.trans ?_
      rw [hf₂, State.calling_eq h.top, State.setFrames_setFrames, State.setTop_of_frames _ hr', hr]
      rfl
    have hsame : U.sameButNew ({ U with heap := s₂.heap, slotsUsed := s₂.slotsUsed } : State) L mc ms := by
      refine ⟨?_, q2, q3, q4, q5, q6⟩
      obtain ⟨t, ht, -⟩ := State.frames_cons hr
      show ({ U with heap := s₂.heap, slotsUsed := s₂.slotsUsed } : State) = { U.setFrames U.frames with heap := s₂.heap, slotsUsed := s₂.slotsUsed }
      rw [State.setFrames_self ht]
    subst hg
    refine Or.inl ⟨v, ⟨(({ U with heap := s₂.heap, slotsUsed := s₂.slotsUsed } : State).setVm s₂.vm), Ls ++ L, c0 + mc, s0 + ms⟩,
      ⟨X.admits, X.cas, X.clock, X.frames, X.room, X.hears, X.method, X.code, (X.here.setHeapUsed s₂.heap s₂.slotsUsed).setVm hW'.alike, X.tail, State.WarmedH.trans X.warmed hW', X.limits, X.bytes, X.same.trans (hsame.setVm s.vm)⟩,
      ⟨g, mk, s₂, L, rfl, rfl, hqc, rfl, hL, rfl, rfl⟩, ?_⟩
    show Steps p.tables e below _ ((({ U with heap := s₂.heap, slotsUsed := s₂.slotsUsed } : State).setVm s₂.vm).setTop { g with pc := g.pc + len₂, stack := v.toList ++ g.stack })
    rw [← hs₂]
    exact hsteps
  · obtain ⟨e2, q2, q3, q4, q5, q6⟩ := id hsm
    have e3 : s₂ = ({ (U.calling g mk a).setFrames s₂.frames with heap := s₂.heap, slotsUsed := s₂.slotsUsed } : State).setVm s₂.vm := by
      have : s₂ = ({ s₂ with vm := (U.calling g mk a).vm } : State).setVm s₂.vm := rfl
      rw [e2] at this
      exact this
    have hf₂ : s₂.frames = .throwing q :: .java g :: U.frames.tail := hend
    have hW' : U.WarmedH s₂.vm := hW₂
    have hs₂ : s₂ = ((({ U with heap := s₂.heap, slotsUsed := s₂.slotsUsed } : State).setVm s₂.vm).setTop g).pushFrame (.throwing q) := by
      refine e3.trans ?_
      rw [hf₂, State.calling_eq h.top, State.setFrames_setFrames, State.pushFrame, State.frames_setTop _ hr', State.setTop_of_frames _ hr', State.setFrames_setFrames, hr]
      rfl
    have hsame : U.sameButNew ({ U with heap := s₂.heap, slotsUsed := s₂.slotsUsed } : State) L mc ms := by
      refine ⟨?_, q2, q3, q4, q5, q6⟩
      obtain ⟨t, ht, -⟩ := State.frames_cons hr
      show ({ U with heap := s₂.heap, slotsUsed := s₂.slotsUsed } : State) = { U.setFrames U.frames with heap := s₂.heap, slotsUsed := s₂.slotsUsed }
      rw [State.setFrames_self ht]
    subst hg
    refine Or.inr ⟨q, ⟨(({ U with heap := s₂.heap, slotsUsed := s₂.slotsUsed } : State).setVm s₂.vm), Ls ++ L, c0 + mc, s0 + ms⟩,
      ⟨X.admits, X.cas, X.clock, X.frames, X.room, X.hears, X.method, X.code, (X.here.setHeapUsed s₂.heap s₂.slotsUsed).setVm hW'.alike, X.tail, State.WarmedH.trans X.warmed hW', X.limits, X.bytes, X.same.trans (hsame.setVm s.vm)⟩,
      ⟨g, mk, s₂, L, E, ce, rfl, rfl, hx, hce, hcv, hcl, rfl, hL, rfl, rfl⟩, ?_⟩
    show Steps p.tables e below _ (((({ U with heap := s₂.heap, slotsUsed := s₂.slotsUsed } : State).setVm s₂.vm).setTop g).pushFrame (.throwing q))
    rw [← hs₂]
    exact hsteps
end Payer
section Calls
variable {p : Program} {l : Launch} {e : Env} {R : Room} {s : State} {m : MethodId} {args : Array Value} {below : List Frame} {meth : Method} {c : Code} {T : State} {locs : List Loc} {cells slots : Nat}
theorem vx_callV (X : Stand p l e R s m args below meth c T locs cells slots) (hexec : p.tables.exec = Jvm.exec) {own C : String} {index : Nat} {y : MethodName} {bytes : ByteArray} {maxL : Nat} {ret : Option FieldType}
    (hown : s.vm.findClass own = some m.cls) (hlink : (Cond.methodLink own index y).before args s = true) (hinst : (Cond.instanceMethod y).before args s = true) (hsel : (Cond.selects C y y).before args s = true)
    (hcode : (Cond.code y bytes maxL ret).before args s = true) (hy : y.cls ≠ "java/lang/invoke/MethodHandle" ∧ y.cls ≠ "java/lang/invoke/VarHandle")
    {W9 : Nat} {Pre : Pt → Array Value → Prop} {Post : Pt → Array Value → Option Value → Pt → Prop} {PostX : Pt → Array Value → Addr → Pt → Prop} (hK : vx_Back l R p e below s args y 3 W9 Pre Post PostX)
    {b : Addr} {cellB : Cell} (hcell : T.heap[b]? = some cellB) (hobj : cellB.vm.isStatics = false) (hcls : s.vm.findClass C = some cellB.cls)
    {g : JFrame} (hg : g.method = m) (hsize : g.locals.size = c.maxLocals) {argsL rest : List Value} (hlen : ∀ sig, parseMethodDescriptor y.desc = some sig → argsL.length = sig.parameters.length)
    (hstack : g.stack = argsL.reverse ++ .ref b :: rest) (hW : 2 * g.monitorRoom + (rest.map fun v => v.category).sum ≤ W9) (hdg : decode c.code g.pc = .ok (.invokevirtual index, 3))
    (hpre : ∀ vm₁, s.WarmedH vm₁ → Pre ⟨T.setVm vm₁, locs, cells, slots⟩ (Value.ref b :: argsL).toArray) :
    (∃ (v : Option Value) (vm₁ : Vm) (B : Pt), s.WarmedH vm₁ ∧ Stand p l e R s m args below meth c B.U B.locs B.cells B.slots ∧ Post ⟨T.setVm vm₁, locs, cells, slots⟩ (Value.ref b :: argsL).toArray v B ∧
      ∀ target, Steps p.tables e below (B.U.setTop { g with pc := g.pc + 3, stack := v.toList ++ rest }) target → Steps p.tables e below (T.setTop g) target) ∨
    (∃ (q : Addr) (vm₁ : Vm) (B : Pt), s.WarmedH vm₁ ∧ Stand p l e R s m args below meth c B.U B.locs B.cells B.slots ∧ PostX ⟨T.setVm vm₁, locs, cells, slots⟩ (Value.ref b :: argsL).toArray q B ∧
      Steps p.tables e below (T.setTop g) ((B.U.setTop { g with stack := rest }).pushFrame (.throwing q))) := by
  obtain ⟨mk, methM, hnamed, hmethM, hstM, habM⟩ := Cond.instanceMethod_spec hinst
  obtain ⟨methM', cM, hmethM', -, -, -, -, -, -, hsigM⟩ := Cond.code_spec hnamed hcode
  cases hmethM.symm.trans hmethM'
  obtain ⟨c2, r2, m2, q1, q2, q3, q4, kP, hkP, hkPi⟩ := Cond.selects_spec hsel
  cases hcls.symm.trans q1
  cases (State.methodFound?_of_named hnamed hy).symm.trans q2
  cases hnamed.symm.trans q3
  have hselP : selectMethod e.platform s.vm cellB.cls mk = .method mk := by rw [Launch.admits_selectMethod X.admits]; exact q4
  obtain ⟨vm₁, X₁, hstep₁⟩ := X.invokevirtual hexec hown hlink hnamed hmethM hstM hkP hkPi hy (a := b) (cell := cellB) hcell
    (fun z h => by rw [h] at hobj; cases hobj) hselP hmethM habM hkP hkPi (g := g) hg (argsL := argsL) (rest := rest) (hlen _ hsigM) hstack hdg
  rcases hK m meth c ⟨T.setVm vm₁, locs, cells, slots⟩ { g with stack := rest } (.invokevirtual index) mk (Value.ref b :: argsL).toArray X₁ hg hsize hdg hW (X₁.named hnamed) (hpre vm₁ X₁.warmed) with ⟨v, B, X', hpost, hsteps⟩ | ⟨q, B, X', hpost, hsteps⟩
  · exact Or.inl ⟨v, vm₁, B, X₁.warmed, X', hpost, fun target h => hstep₁ _ fun acts => by rw [doInvoke_state]; exact hsteps.trans h⟩
  · exact Or.inr ⟨q, vm₁, B, X₁.warmed, X', hpost, hstep₁ _ fun acts => by rw [doInvoke_state]; exact hsteps⟩
theorem vx_callS (X : Stand p l e R s m args below meth c T locs cells slots) (hexec : p.tables.exec = Jvm.exec) {own : String} {index : Nat} {y : MethodName} {bytes : ByteArray} {maxL : Nat} {ret : Option FieldType}
    (hown : s.vm.findClass own = some m.cls) (hlink : (Cond.methodLink own index y).before args s = true) (hstat : (Cond.static y).before args s = true) (hinit : (Cond.initialized y.cls).before args s = true)
    (hcode : (Cond.code y bytes maxL ret).before args s = true) (hy : y.cls ≠ "java/lang/invoke/MethodHandle" ∧ y.cls ≠ "java/lang/invoke/VarHandle")
    {W9 : Nat} {Pre : Pt → Array Value → Prop} {Post : Pt → Array Value → Option Value → Pt → Prop} {PostX : Pt → Array Value → Addr → Pt → Prop} (hK : vx_Back l R p e below s args y 3 W9 Pre Post PostX)
    {g : JFrame} (hg : g.method = m) (hsize : g.locals.size = c.maxLocals) {argsL rest : List Value} (hlen : ∀ sig, parseMethodDescriptor y.desc = some sig → argsL.length = sig.parameters.length)
    (hstack : g.stack = argsL.reverse ++ rest) (hW : 2 * g.monitorRoom + (rest.map fun v => v.category).sum ≤ W9) (hdg : decode c.code g.pc = .ok (.invokestatic index, 3))
    (hpre : ∀ vm₁, s.WarmedH vm₁ → Pre ⟨T.setVm vm₁, locs, cells, slots⟩ argsL.toArray) :
    (∃ (v : Option Value) (vm₁ : Vm) (B : Pt), s.WarmedH vm₁ ∧ Stand p l e R s m args below meth c B.U B.locs B.cells B.slots ∧ Post ⟨T.setVm vm₁, locs, cells, slots⟩ argsL.toArray v B ∧
      ∀ target, Steps p.tables e below (B.U.setTop { g with pc := g.pc + 3, stack := v.toList ++ rest }) target → Steps p.tables e below (T.setTop g) target) ∨
    (∃ (q : Addr) (vm₁ : Vm) (B : Pt), s.WarmedH vm₁ ∧ Stand p l e R s m args below meth c B.U B.locs B.cells B.slots ∧ PostX ⟨T.setVm vm₁, locs, cells, slots⟩ argsL.toArray q B ∧
      Steps p.tables e below (T.setTop g) ((B.U.setTop { g with stack := rest }).pushFrame (.throwing q))) := by
  obtain ⟨mk, hnamed⟩ := Cond.code_named hcode
  obtain ⟨methM, cM, hmethM, -, -, -, -, -, -, hsigM⟩ := Cond.code_spec hnamed hcode
  have hstatic : methM.isStatic = true := Cond.static_spec hnamed hmethM hstat
  obtain ⟨kP, hkP, -⟩ := className_of_methodNamed hnamed
  have hinitP : kP.init = .initialized := Cond.initialized_spec (findClass_of_methodNamed hnamed) hkP hinit
  obtain ⟨vm₁, X₁, hstep₁⟩ := X.invokestatic hexec hown hlink hnamed hmethM hstatic hkP hinitP hy (g := g) hg (argsL := argsL) (rest := rest) (hlen _ hsigM) hstack hdg
  rcases hK m meth c ⟨T.setVm vm₁, locs, cells, slots⟩ { g with stack := rest } (.invokestatic index) mk argsL.toArray X₁ hg hsize hdg hW (X₁.named hnamed) (hpre vm₁ X₁.warmed) with ⟨v, B, X', hpost, hsteps⟩ | ⟨q, B, X', hpost, hsteps⟩
  · exact Or.inl ⟨v, vm₁, B, X₁.warmed, X', hpost, fun target h => hstep₁ _ fun acts => by rw [doInvoke_state]; exact hsteps.trans h⟩
  · exact Or.inr ⟨q, vm₁, B, X₁.warmed, X', hpost, hstep₁ _ fun acts => by rw [doInvoke_state]; exact hsteps⟩
end Calls
theorem vx_cls {s : State} {T : State} {vm₁ : Vm} {E : String} {k : ClassId} (hW : s.WarmedH vm₁) (h : (T.setVm vm₁).vm.findClass E = some k) : s.vm.findClass E = some k := by
  have h1 : vm₁.findClass E = some k := h
  rw [hW.alike.findClass] at h1
  exact h1
/-- the method's frame g, with q thrown over it -/
def vx_W (p : Program) (l : Launch) (e : Env) (R : Room) (s : State) (m : MethodId) (args : Array Value) (below : List Frame) (meth : Method) (c : Code) (H : Heap) (locs : List Loc) (cells slots : Nat) (Q : State → Prop) (g : JFrame) (q : Addr) : Prop :=
  ∀ T : State, T.heap = H → Stand p l e R s m args below meth c T locs cells slots → ∃ t, Steps p.tables e below ((T.setTop g).pushFrame (.throwing q)) t ∧ Q t
def vx_Run (p : Program) (l : Launch) (e : Env) (R : Room) (s : State) (m : MethodId) (args : Array Value) (below : List Frame) (meth : Method) (c : Code) (H : Heap) (locs : List Loc) (cells slots mc ms : Nat) (g : JFrame) (rest : List Value) (Qa : State → Outcome → State → Prop) (XC : String → State → State → Prop) (free : Addr → Prop) : Prop :=
  ∀ T : State, T.heap = H → Stand p l e R s m args below meth c T locs cells slots →
    (∃ (v : Option Value) (st₀ t T' : State) (L : List Loc), st₀.heap = H ∧ Stand p l e R s m args below meth c T' (locs ++ L) (cells + mc) (slots + ms) ∧ (∀ q ∈ L, free q.base) ∧ T'.heap = t.heap ∧ T'.vm = t.vm ∧ Qa st₀ (.returned v) t ∧
      Goes p e below T g T' { g with pc := g.pc + 3, stack := v.toList ++ rest }) ∨
    (∃ (q : Addr) (st₀ t T' : State) (L : List Loc) (E : String) (ce : Cell), st₀.heap = H ∧ Stand p l e R s m args below meth c T' (locs ++ L) (cells + mc) (slots + ms) ∧ (∀ z ∈ L, free z.base) ∧ T'.heap = t.heap ∧ T'.vm = t.vm ∧ XC E st₀ t ∧ t.heap[q]? = some ce ∧ ce.vm = .none ∧ s.vm.findClass E = some ce.cls ∧
      Steps p.tables e below (T.setTop g) ((T'.setTop { g with stack := rest }).pushFrame (.throwing q)))
def vx_X {S : Type} (px : S → Prop) (B : String → S → State → Prop) (A : Nat → Prop) : String → State → State → Prop := fun E st t => ∃ u : S, px u ∧ B E u t ∧ va_F A st t
section Runs
variable {p : Program} {l : Launch} {e : Env} {R : Room} {s : State} {m : MethodId} {args : Array Value} {below : List Frame} {meth : Method} {c : Code} {H : Heap} {locs : List Loc} {cells slots : Nat}
variable {y : MethodName} {bytes cc : ByteArray} {maxL nL mc ms n index : Nat} {ret : Option FieldType} {ws : List Cond} {rm : Room} {Pc : Array Value → State → Prop} {Qc : Array Value → State → Outcome → State → Prop} {XC : String → State → State → Prop} {free : Addr → Prop} {Ts : List Cond} {own C : String} {b : Addr} {As rest : List Value} {g : JFrame}
theorem vx_callBack (cb : CallB R s args own index y bytes maxL ret ws rm mc ms n) (hM : vx_Met l y ws rm Pc Qc XC mc ms free) (hbl : FrameBlind Pc) : vx_Back l R p e below s args y 3 8 (PreOf R mc ms Pc) (PostOf Qc mc ms free) (vx_Post XC mc ms free) := by
  obtain ⟨hrc, hrs, hfr, hlo, hws, hcw, -, hini, -⟩ := cb
  exact vx_back (bytes := bytes) (maxL := maxL) (ret := ret) hM hbl hrc hrs hfr hlo hws hcw (fun a' U hW => word_at hW (Or.inl (by first | rfl | simp [Cond.onTables, Cond.keeps, Cond.steady])) hini)
theorem vx_runV (S : CallFix p m c cc nL s args Ts own) (hM : vx_Met l y ws rm Pc Qc XC mc ms free) (cw : CallW R s args own C index y bytes maxL ret ws rm mc ms n) (hp : PreV s H C b Pc As)
    (hg : g.method = m) (hn : As.length = n) (hsize : g.locals.size = nL) (hstack : g.stack = As.reverse ++ .ref b :: rest) (hW : 2 * g.monitorRoom + (rest.map fun v => v.category).sum ≤ 8) (hdg : decode cc g.pc = .ok (.invokevirtual index, 3)) (hf : cells + mc ≤ R.cells ∧ slots + ms ≤ R.slots) :
    vx_Run p l e R s m args below meth c H locs cells slots mc ms g rest (Qc (Value.ref b :: As).toArray) XC free := by
  have hK : vx_Back l R p e below s args y 3 8 (PreOf R mc ms Pc) (PostOf Qc mc ms free) (vx_Post XC mc ms free) := vx_callBack cw.1 hM hp.1
  obtain ⟨⟨-, -, -, -, -, -, hcode, -, hy, hlen, hl⟩, hin, hse⟩ := cw
  obtain ⟨hx, hb, hml, ho, -⟩ := S
  obtain ⟨-, ⟨cellB, hcB, hoB, hclB⟩, hPc⟩ := hp
  intro T hT X
  rcases vx_callV X hx (C := C) (bytes := bytes) (maxL := maxL) (ret := ret) ho hl hin hse hcode hy hK (by rw [hT]; exact hcB) hoB hclB hg (hsize.trans hml.symm) (argsL := As) (rest := rest) (fun sig h => hn.trans (hlen sig h)) hstack hW (by rw [hb]; exact hdg)
    (fun vm₁ hW₁ => ⟨hf.1, hf.2, hPc (T.setVm vm₁) hT hW₁⟩) with ⟨v, vm₁, ⟨U', l2, c2, s2⟩, hW₁, X', ⟨g', mk, t, L, e1, e2, hq, h1, hL, h2, h3⟩, st⟩ | ⟨q, vm₁, ⟨U', l2, c2, s2⟩, hW₁, X', ⟨g', mk, t, L, E, ce, e1, e2, hq, hce, hcv, hcl, h1, hL, h2, h3⟩, st⟩
  · dsimp only [Pt.U, Pt.locs, Pt.cells, Pt.slots] at X' e1 e2 h1 h2 h3 st
    subst h1; subst h2; subst h3
    exact Or.inl ⟨v, (T.setVm vm₁).calling g' mk (Value.ref b :: As).toArray, t, U', L, hT, X', hL, e1, e2, hq, st⟩
  · dsimp only [Pt.U, Pt.locs, Pt.cells, Pt.slots] at X' e1 e2 h1 h2 h3 st hcl
    subst h1; subst h2; subst h3
    exact Or.inr ⟨q, (T.setVm vm₁).calling g' mk (Value.ref b :: As).toArray, t, U', L, E, ce, hT, X', hL, e1, e2, hq, hce, hcv, vx_cls hW₁ hcl, st⟩
theorem vx_runS (S : CallFix p m c cc nL s args Ts own) (hM : vx_Met l y ws rm Pc Qc XC mc ms free) (cw : CallB R s args own index y bytes maxL ret ws rm mc ms n ∧ (Cond.static y).before args s = true) (hp : PreS s H Pc As)
    (hg : g.method = m) (hn : As.length = n) (hsize : g.locals.size = nL) (hstack : g.stack = As.reverse ++ rest) (hW : 2 * g.monitorRoom + (rest.map fun v => v.category).sum ≤ 8) (hdg : decode cc g.pc = .ok (.invokestatic index, 3)) (hf : cells + mc ≤ R.cells ∧ slots + ms ≤ R.slots) :
    vx_Run p l e R s m args below meth c H locs cells slots mc ms g rest (Qc As.toArray) XC free := by
  have hK : vx_Back l R p e below s args y 3 8 (PreOf R mc ms Pc) (PostOf Qc mc ms free) (vx_Post XC mc ms free) := vx_callBack cw.1 hM hp.1
  obtain ⟨⟨-, -, -, -, -, -, hcode, hini, hy, hlen, hl⟩, hstt⟩ := cw
  obtain ⟨hx, hb, hml, ho, -⟩ := S
  intro T hT X
  rcases vx_callS X hx (bytes := bytes) (maxL := maxL) (ret := ret) ho hl hstt hini hcode hy hK hg (hsize.trans hml.symm) (argsL := As) (rest := rest) (fun sig h => hn.trans (hlen sig h)) hstack hW (by rw [hb]; exact hdg)
    (fun vm₁ hW₁ => ⟨hf.1, hf.2, hp.2 (T.setVm vm₁) hT hW₁⟩) with ⟨v, vm₁, ⟨U', l2, c2, s2⟩, hW₁, X', ⟨g', mk, t, L, e1, e2, hq, h1, hL, h2, h3⟩, st⟩ | ⟨q, vm₁, ⟨U', l2, c2, s2⟩, hW₁, X', ⟨g', mk, t, L, E, ce, e1, e2, hq, hce, hcv, hcl, h1, hL, h2, h3⟩, st⟩
  · dsimp only [Pt.U, Pt.locs, Pt.cells, Pt.slots] at X' e1 e2 h1 h2 h3 st
    subst h1; subst h2; subst h3
    exact Or.inl ⟨v, (T.setVm vm₁).calling g' mk As.toArray, t, U', L, hT, X', hL, e1, e2, hq, st⟩
  · dsimp only [Pt.U, Pt.locs, Pt.cells, Pt.slots] at X' e1 e2 h1 h2 h3 st hcl
    subst h1; subst h2; subst h3
    exact Or.inr ⟨q, (T.setVm vm₁).calling g' mk As.toArray, t, U', L, E, ce, hT, X', hL, e1, e2, hq, hce, hcv, vx_cls hW₁ hcl, st⟩
end Runs
section Rows
variable {p : Program} {l : Launch} {e : Env} {R : Room} {s : State} {m : MethodId} {args : Array Value} {below : List Frame} {meth : Method} {c : Code} {H : Heap} {locs : List Loc} {cells slots : Nat} {Q : State → Prop}
variable {mc ms : Nat} {free : Addr → Prop} {A0 A1 : Nat → Prop} {H0 : Heap} {a : Array Value} {pc : Nat} {ls : Array Slot} {st0 rest : List Value}
theorem vx_keep {st₀ t T' : State} {L : List Loc} (h0 : st₀.heap = H) (e1 : T'.heap = t.heap) (hS : va_S A0 H0 H locs) (hA : ∀ q, q < H.size → A1 q → A0 q) (hf : ∀ q, free q → A0 q) (hL : ∀ q ∈ L, free q.base) (hF : va_F A1 st₀ t) :
    H.size ≤ T'.heap.size ∧ (∀ q : Nat, q < H.size → ¬ A1 q → T'.heap[q]? = H[q]?) ∧ va_S A0 H0 T'.heap (locs ++ L) := by
  obtain ⟨hz, hk⟩ := hF
  rw [h0] at hz hk
  exact ⟨by rw [e1]; exact hz, fun q h1 h2 => by rw [e1]; exact hk q h1 h2,
    ⟨Nat.le_trans hS.1 (by rw [e1]; exact hz), fun q h1 h2 => by rw [e1, hk q (Nat.lt_of_lt_of_le h1 hS.1) (fun z => h2 (hA q (Nat.lt_of_lt_of_le h1 hS.1) z))]; exact hS.2.1 q h1 h2, fun q hq => by
      rcases List.mem_append.mp hq with h | h
      · exact hS.2.2 q h
      · exact hf _ (hL q h)⟩⟩
theorem vx_calli {S SX : Type} {post : Int32 → S → Prop} {px : SX → Prop} {B : S → State → Prop} {BX : String → SX → State → Prop} {AX : Nat → Prop} (hr : vx_Run p l e R s m args below meth c H locs cells slots mc ms (F0 m pc ls st0) rest (va_Qi post B A1 a) (vx_X px BX AX) free) (hS : va_S A0 H0 H locs) (hA : ∀ q, q < H.size → A1 q → A0 q) (hf : ∀ q, free q → A0 q) (hAX : ∀ q, q < H.size → AX q → A0 q)
    (kx : ∀ (E : String) (ce : Cell) (q9 : Addr) (u : SX) (t : State) (H1 : Heap) (locs1 : List Loc), t.heap = H1 → s.vm.Alike t.vm → px u → BX E u t → H.size ≤ H1.size → (∀ q : Nat, q < H.size → ¬ AX q → H1[q]? = H[q]?) → va_S A0 H0 H1 locs1 → H1[q9]? = some ce → ce.vm = .none → s.vm.findClass E = some ce.cls → vx_W p l e R s m args below meth c H1 locs1 (cells + mc) (slots + ms) Q (F0 m pc ls rest) q9)
    (kk : ∀ (r : Int32) (u : S) (t : State) (H1 : Heap) (locs1 : List Loc), t.heap = H1 → s.vm.Alike t.vm → post r u → B u t → H.size ≤ H1.size → (∀ q : Nat, q < H.size → ¬ A1 q → H1[q]? = H[q]?) → va_S A0 H0 H1 locs1 → W p l e R s m args below meth c H1 locs1 (cells + mc) (slots + ms) Q (F0 m (pc + 3) ls (.int r :: rest))) : W p l e R s m args below meth c H locs cells slots Q (F0 m pc ls st0) := by
  intro T hT X
  rcases hr T hT X with ⟨v, st₀, t, T', L, h0, X', hL, e1, e2, ⟨⟨r, u, hv, hp, hb⟩, hF⟩, st⟩ | ⟨q, st₀, t, T', L, E, ce, h0, X', hL, e1, e2, ⟨u, hp, hb, hF⟩, hce, hcv, hcl, st⟩
  · cases hv
    obtain ⟨k1, k2, k3⟩ := vx_keep h0 e1 hS hA hf hL hF
    obtain ⟨t2, a1, b1⟩ := kk r u t T'.heap (locs ++ L) e1.symm (by rw [← e2]; exact X'.warmed.alike) hp hb k1 k2 k3 T' rfl X'
    exact ⟨t2, st t2 a1, b1⟩
  · obtain ⟨k1, k2, k3⟩ := vx_keep h0 e1 hS hAX hf hL hF
    obtain ⟨t2, a1, b1⟩ := kx E ce q u t T'.heap (locs ++ L) e1.symm (by rw [← e2]; exact X'.warmed.alike) hp hb k1 k2 k3 (by rw [e1]; exact hce) hcv hcl T' rfl X'
    exact ⟨t2, st.trans a1, b1⟩
theorem vx_calll {S SX : Type} {post : Int64 → S → Prop} {px : SX → Prop} {B : S → State → Prop} {BX : String → SX → State → Prop} {AX : Nat → Prop} (hr : vx_Run p l e R s m args below meth c H locs cells slots mc ms (F0 m pc ls st0) rest (va_Ql post B A1 a) (vx_X px BX AX) free) (hS : va_S A0 H0 H locs) (hA : ∀ q, q < H.size → A1 q → A0 q) (hf : ∀ q, free q → A0 q) (hAX : ∀ q, q < H.size → AX q → A0 q)
    (kx : ∀ (E : String) (ce : Cell) (q9 : Addr) (u : SX) (t : State) (H1 : Heap) (locs1 : List Loc), t.heap = H1 → s.vm.Alike t.vm → px u → BX E u t → H.size ≤ H1.size → (∀ q : Nat, q < H.size → ¬ AX q → H1[q]? = H[q]?) → va_S A0 H0 H1 locs1 → H1[q9]? = some ce → ce.vm = .none → s.vm.findClass E = some ce.cls → vx_W p l e R s m args below meth c H1 locs1 (cells + mc) (slots + ms) Q (F0 m pc ls rest) q9)
    (kk : ∀ (r : Int64) (u : S) (t : State) (H1 : Heap) (locs1 : List Loc), t.heap = H1 → s.vm.Alike t.vm → post r u → B u t → H.size ≤ H1.size → (∀ q : Nat, q < H.size → ¬ A1 q → H1[q]? = H[q]?) → va_S A0 H0 H1 locs1 → W p l e R s m args below meth c H1 locs1 (cells + mc) (slots + ms) Q (F0 m (pc + 3) ls (.long r :: rest))) : W p l e R s m args below meth c H locs cells slots Q (F0 m pc ls st0) := by
  intro T hT X
  rcases hr T hT X with ⟨v, st₀, t, T', L, h0, X', hL, e1, e2, ⟨⟨r, u, hv, hp, hb⟩, hF⟩, st⟩ | ⟨q, st₀, t, T', L, E, ce, h0, X', hL, e1, e2, ⟨u, hp, hb, hF⟩, hce, hcv, hcl, st⟩
  · cases hv
    obtain ⟨k1, k2, k3⟩ := vx_keep h0 e1 hS hA hf hL hF
    obtain ⟨t2, a1, b1⟩ := kk r u t T'.heap (locs ++ L) e1.symm (by rw [← e2]; exact X'.warmed.alike) hp hb k1 k2 k3 T' rfl X'
    exact ⟨t2, st t2 a1, b1⟩
  · obtain ⟨k1, k2, k3⟩ := vx_keep h0 e1 hS hAX hf hL hF
    obtain ⟨t2, a1, b1⟩ := kx E ce q u t T'.heap (locs ++ L) e1.symm (by rw [← e2]; exact X'.warmed.alike) hp hb k1 k2 k3 (by rw [e1]; exact hce) hcv hcl T' rfl X'
    exact ⟨t2, st.trans a1, b1⟩
theorem vx_callf {S SX : Type} {post : UInt32 → S → Prop} {px : SX → Prop} {B : S → State → Prop} {BX : String → SX → State → Prop} {AX : Nat → Prop} (hr : vx_Run p l e R s m args below meth c H locs cells slots mc ms (F0 m pc ls st0) rest (va_Qf post B A1 a) (vx_X px BX AX) free) (hS : va_S A0 H0 H locs) (hA : ∀ q, q < H.size → A1 q → A0 q) (hf : ∀ q, free q → A0 q) (hAX : ∀ q, q < H.size → AX q → A0 q)
    (kx : ∀ (E : String) (ce : Cell) (q9 : Addr) (u : SX) (t : State) (H1 : Heap) (locs1 : List Loc), t.heap = H1 → s.vm.Alike t.vm → px u → BX E u t → H.size ≤ H1.size → (∀ q : Nat, q < H.size → ¬ AX q → H1[q]? = H[q]?) → va_S A0 H0 H1 locs1 → H1[q9]? = some ce → ce.vm = .none → s.vm.findClass E = some ce.cls → vx_W p l e R s m args below meth c H1 locs1 (cells + mc) (slots + ms) Q (F0 m pc ls rest) q9)
    (kk : ∀ (r : UInt32) (u : S) (t : State) (H1 : Heap) (locs1 : List Loc), t.heap = H1 → s.vm.Alike t.vm → post r u → B u t → H.size ≤ H1.size → (∀ q : Nat, q < H.size → ¬ A1 q → H1[q]? = H[q]?) → va_S A0 H0 H1 locs1 → W p l e R s m args below meth c H1 locs1 (cells + mc) (slots + ms) Q (F0 m (pc + 3) ls (.float r :: rest))) : W p l e R s m args below meth c H locs cells slots Q (F0 m pc ls st0) := by
  intro T hT X
  rcases hr T hT X with ⟨v, st₀, t, T', L, h0, X', hL, e1, e2, ⟨⟨r, u, hv, hp, hb⟩, hF⟩, st⟩ | ⟨q, st₀, t, T', L, E, ce, h0, X', hL, e1, e2, ⟨u, hp, hb, hF⟩, hce, hcv, hcl, st⟩
  · cases hv
    obtain ⟨k1, k2, k3⟩ := vx_keep h0 e1 hS hA hf hL hF
    obtain ⟨t2, a1, b1⟩ := kk r u t T'.heap (locs ++ L) e1.symm (by rw [← e2]; exact X'.warmed.alike) hp hb k1 k2 k3 T' rfl X'
    exact ⟨t2, st t2 a1, b1⟩
  · obtain ⟨k1, k2, k3⟩ := vx_keep h0 e1 hS hAX hf hL hF
    obtain ⟨t2, a1, b1⟩ := kx E ce q u t T'.heap (locs ++ L) e1.symm (by rw [← e2]; exact X'.warmed.alike) hp hb k1 k2 k3 (by rw [e1]; exact hce) hcv hcl T' rfl X'
    exact ⟨t2, st.trans a1, b1⟩
theorem vx_calld {S SX : Type} {post : UInt64 → S → Prop} {px : SX → Prop} {B : S → State → Prop} {BX : String → SX → State → Prop} {AX : Nat → Prop} (hr : vx_Run p l e R s m args below meth c H locs cells slots mc ms (F0 m pc ls st0) rest (va_Qd post B A1 a) (vx_X px BX AX) free) (hS : va_S A0 H0 H locs) (hA : ∀ q, q < H.size → A1 q → A0 q) (hf : ∀ q, free q → A0 q) (hAX : ∀ q, q < H.size → AX q → A0 q)
    (kx : ∀ (E : String) (ce : Cell) (q9 : Addr) (u : SX) (t : State) (H1 : Heap) (locs1 : List Loc), t.heap = H1 → s.vm.Alike t.vm → px u → BX E u t → H.size ≤ H1.size → (∀ q : Nat, q < H.size → ¬ AX q → H1[q]? = H[q]?) → va_S A0 H0 H1 locs1 → H1[q9]? = some ce → ce.vm = .none → s.vm.findClass E = some ce.cls → vx_W p l e R s m args below meth c H1 locs1 (cells + mc) (slots + ms) Q (F0 m pc ls rest) q9)
    (kk : ∀ (r : UInt64) (u : S) (t : State) (H1 : Heap) (locs1 : List Loc), t.heap = H1 → s.vm.Alike t.vm → post r u → B u t → H.size ≤ H1.size → (∀ q : Nat, q < H.size → ¬ A1 q → H1[q]? = H[q]?) → va_S A0 H0 H1 locs1 → W p l e R s m args below meth c H1 locs1 (cells + mc) (slots + ms) Q (F0 m (pc + 3) ls (.double r :: rest))) : W p l e R s m args below meth c H locs cells slots Q (F0 m pc ls st0) := by
  intro T hT X
  rcases hr T hT X with ⟨v, st₀, t, T', L, h0, X', hL, e1, e2, ⟨⟨r, u, hv, hp, hb⟩, hF⟩, st⟩ | ⟨q, st₀, t, T', L, E, ce, h0, X', hL, e1, e2, ⟨u, hp, hb, hF⟩, hce, hcv, hcl, st⟩
  · cases hv
    obtain ⟨k1, k2, k3⟩ := vx_keep h0 e1 hS hA hf hL hF
    obtain ⟨t2, a1, b1⟩ := kk r u t T'.heap (locs ++ L) e1.symm (by rw [← e2]; exact X'.warmed.alike) hp hb k1 k2 k3 T' rfl X'
    exact ⟨t2, st t2 a1, b1⟩
  · obtain ⟨k1, k2, k3⟩ := vx_keep h0 e1 hS hAX hf hL hF
    obtain ⟨t2, a1, b1⟩ := kx E ce q u t T'.heap (locs ++ L) e1.symm (by rw [← e2]; exact X'.warmed.alike) hp hb k1 k2 k3 (by rw [e1]; exact hce) hcv hcl T' rfl X'
    exact ⟨t2, st.trans a1, b1⟩
theorem vx_callv {S SX : Type} {post : S → Prop} {px : SX → Prop} {B : S → State → Prop} {BX : String → SX → State → Prop} {AX : Nat → Prop} (hr : vx_Run p l e R s m args below meth c H locs cells slots mc ms (F0 m pc ls st0) rest (va_Qv post B A1 a) (vx_X px BX AX) free) (hS : va_S A0 H0 H locs) (hA : ∀ q, q < H.size → A1 q → A0 q) (hf : ∀ q, free q → A0 q) (hAX : ∀ q, q < H.size → AX q → A0 q)
    (kx : ∀ (E : String) (ce : Cell) (q9 : Addr) (u : SX) (t : State) (H1 : Heap) (locs1 : List Loc), t.heap = H1 → s.vm.Alike t.vm → px u → BX E u t → H.size ≤ H1.size → (∀ q : Nat, q < H.size → ¬ AX q → H1[q]? = H[q]?) → va_S A0 H0 H1 locs1 → H1[q9]? = some ce → ce.vm = .none → s.vm.findClass E = some ce.cls → vx_W p l e R s m args below meth c H1 locs1 (cells + mc) (slots + ms) Q (F0 m pc ls rest) q9)
    (kk : ∀ (u : S) (t : State) (H1 : Heap) (locs1 : List Loc), t.heap = H1 → s.vm.Alike t.vm → post u → B u t → H.size ≤ H1.size → (∀ q : Nat, q < H.size → ¬ A1 q → H1[q]? = H[q]?) → va_S A0 H0 H1 locs1 → W p l e R s m args below meth c H1 locs1 (cells + mc) (slots + ms) Q (F0 m (pc + 3) ls (rest))) : W p l e R s m args below meth c H locs cells slots Q (F0 m pc ls st0) := by
  intro T hT X
  rcases hr T hT X with ⟨v, st₀, t, T', L, h0, X', hL, e1, e2, ⟨⟨u, hv, hp, hb⟩, hF⟩, st⟩ | ⟨q, st₀, t, T', L, E, ce, h0, X', hL, e1, e2, ⟨u, hp, hb, hF⟩, hce, hcv, hcl, st⟩
  · cases hv
    obtain ⟨k1, k2, k3⟩ := vx_keep h0 e1 hS hA hf hL hF
    obtain ⟨t2, a1, b1⟩ := kk u t T'.heap (locs ++ L) e1.symm (by rw [← e2]; exact X'.warmed.alike) hp hb k1 k2 k3 T' rfl X'
    exact ⟨t2, st t2 a1, b1⟩
  · obtain ⟨k1, k2, k3⟩ := vx_keep h0 e1 hS hAX hf hL hF
    obtain ⟨t2, a1, b1⟩ := kx E ce q u t T'.heap (locs ++ L) e1.symm (by rw [← e2]; exact X'.warmed.alike) hp hb k1 k2 k3 (by rw [e1]; exact hce) hcv hcl T' rfl X'
    exact ⟨t2, st.trans a1, b1⟩
/-- caught by the row x of this method's table; the rows ahead don't take it -/
theorem vx_catch {own name : String} {E : String} {ce : Cell} {q : Addr} (hown : s.vm.findClass own = some m.cls) (pre : List ExceptionTableEntry) (x : ExceptionTableEntry) (suf : List ExceptionTableEntry) (hsplit : c.exceptionTable.toList = pre ++ x :: suf)
    (hpass : ∀ z ∈ pre, covers z pc = false ∨ (z.catchType ≠ 0 ∧ ∃ nm : String, (Cond.classLink own z.catchType nm).before args s = true ∧ va_Nc E nm s)) (hx : covers x pc = true) (h0 : x.catchType ≠ 0)
    (hlink : (Cond.classLink own x.catchType name).before args s = true) (hcast : (Cond.castable E name).before args s = true) (hcell : H[q]? = some ce) (hv : ce.vm = .none) (hcl : s.vm.findClass E = some ce.cls)
    (kk : W p l e R s m args below meth c H locs cells slots Q (F0 m x.handlerPc ls [.ref q])) : vx_W p l e R s m args below meth c H locs cells slots Q (F0 m pc ls rest) q := by
  intro T hT X
  have hpl : e.platform.magicAccessors = ({} : Platform).magicAccessors := by rw [X.admits.platform]
  obtain ⟨c3, c4, hc3, hc4, hasg⟩ := Cond.castable_spec hcast
  cases Option.some.inj (hc3.symm.trans hcl)
  obtain ⟨c5, hc5, hcl5⟩ := Cond.classLink_spec hown hlink e.platform hpl
  cases Option.some.inj (hc4.symm.trans hc5)
  obtain ⟨vm', X', st⟩ := X.thenCaughtThrough q (g := F0 m pc ls rest) rfl (Steps.refl _) (by rw [hT]; exact hcell) (by rw [hv]; rfl) (by obtain ⟨k9, h9, -⟩ := Vm.findClass_spec hcl; exact ⟨k9, h9⟩) pre x suf hsplit
    (fun z hz => by
      rcases hpass z hz with h | ⟨hz0, nm, hl1, hn1⟩
      · exact Or.inl h
      · obtain ⟨c6, hc6, hcl6⟩ := Cond.classLink_spec hown hl1 e.platform hpl
        obtain ⟨a8, b8, h1, h2, h3⟩ := hn1
        cases Option.some.inj (h1.symm.trans hcl)
        cases Option.some.inj (h2.symm.trans hc6)
        exact Or.inr ⟨hz0, _, hcl6, h3⟩) hx (Or.inr ⟨h0, c4, hcl5, hasg⟩)
  obtain ⟨t, a1, b1⟩ := kk (T.setVm vm') hT X'
  exact ⟨t, st.trans a1, b1⟩
end Rows
section Ends
variable {p : Program} {l : Launch} {e : Env} {R : Room} {s : State} {m : MethodId} {args : Array Value} {below : List Frame} {meth : Method} {c : Code} {H : Heap} {locs : List Loc} {cells slots : Nat} {Q : State → Prop}
variable {mc ms : Nat} {free : Addr → Prop} {A0 A1 : Nat → Prop} {H0 : Heap} {a : Array Value} {ls : Array Slot} {st0 rest : List Value}
variable {Qc : Array Value → State → Outcome → State → Prop} {XC : String → State → State → Prop}
/-- what a body that may throw owes at its end -/
def vx_MQ (below : List Frame) (Qc : Array Value → State → Outcome → State → Prop) (XC : String → State → State → Prop) (a : Array Value) (s : State) (mc ms : Nat) (free : Addr → Prop) : State → Prop := fun t =>
  ∃ o, t.status = .running ∧ Ended t below o ∧ vx_Q Qc XC mc ms free a s o t
theorem vx_ret {g : JFrame} {mc ms : Nat} (k : W p l e R s m args below meth c H locs cells slots (MQ below Qc args s mc ms free) g) : W p l e R s m args below meth c H locs cells slots (vx_MQ below Qc XC args s mc ms free) g := by
  intro T hT X
  obtain ⟨t, a1, o, b1, b2, b3, b4⟩ := k T hT X
  exact ⟨t, a1, o, b1, b2, Or.inl ⟨b3, b4⟩⟩
/-- not caught here: it goes on to the caller -/
theorem vx_widen {g : JFrame} {q : Addr} {k n : Nat} (h1 : cells ≤ k) (h2 : slots ≤ n) (kk : vx_W p l e R s m args below meth c H locs k n Q g q) : vx_W p l e R s m args below meth c H locs cells slots Q g q := fun T hT X => kk T hT (stand_widen X h1 h2)
theorem vx_out {pc : Nat} {E : String} {ce : Cell} {q : Addr} {mc ms : Nat} (hout : ∀ x ∈ c.exceptionTable.toList, covers x pc = false) (hlocks : meth.locks = false) (hcell : H[q]? = some ce) (hv : ce.vm = .none) (hcl : s.vm.findClass E = some ce.cls)
    (hx : ∀ t : State, t.heap = H → s.vm.Alike t.vm → XC E s t) (hf : ∀ z ∈ locs, free z.base) (hc : cells ≤ mc) (hs : slots ≤ ms) :
    vx_W p l e R s m args below meth c H locs cells slots (vx_MQ below Qc XC args s mc ms free) (F0 m pc ls rest) q := by
  intro T hT X
  obtain ⟨st1, hrun, hend, hW, hsm⟩ := X.leaveThrown q (g := F0 m pc ls rest) rfl rfl rfl hout hlocks
  have hcell9 : (T.setFrames (.throwing q :: below)).heap[q]? = some ce := by
    show T.heap[q]? = some ce
    rw [hT]; exact hcell
  exact ⟨_, st1, .threw q, hrun, hend, Or.inr ⟨q, rfl, E, ce, locs, hx _ hT hW.alike, hcell9, hv, hcl, hW, hsm.mono hc hs, hf⟩⟩
theorem vx_frame {U : State} {k n : Nat} (h : s.sameButNew ({ U with vm := s.vm } : State) locs k n) : s.heap.size ≤ U.heap.size ∧ ∀ q : Nat, q < s.heap.size → (∀ z ∈ locs, z.base ≠ q) → U.heap[q]? = s.heap[q]? := by
  obtain ⟨-, h2, -, -, -, h6⟩ := h
  refine ⟨h2, fun q hq hz => ?_⟩
  obtain ⟨c9, e1, e2, e3, e4⟩ := h6 q _ (Array.getElem?_eq_getElem hq)
  have hs : c9.slots = (s.heap[q]).slots := Array.ext_getElem? fun i => e4 i fun hm => hz _ hm rfl
  have h9 : c9 = s.heap[q] := by
    rw [hs] at e2
    exact e2
  have e5 : U.heap[q]? = some c9 := e1
  rw [e5, h9, Array.getElem?_eq_getElem hq]
/-- the words of a throw but the four that speak of the heap -/
def vx_no (w : Cond) : Bool := decide (w ≠ .isRef (.static Bundle.tN "UNASSIGNED_STACK" Bundle.steD)) && decide (w ≠ .isRef (.static Bundle.tN "SUPPRESSED_SENTINEL" Bundle.listD)) && decide (w ≠ .laysStatic Bundle.tN "UNASSIGNED_STACK" Bundle.steD) && decide (w ≠ .laysStatic Bundle.tN "SUPPRESSED_SENTINEL" Bundle.listD)
def vx_at0 (own : String) (ic : Nat) (X : String) (names : List String) : List Cond := (Bundle.ownAtoms0 own ic X names).filter vx_no
def vx_atS (own : String) (ic : Nat) (X : String) (names : List String) : List Cond := (Bundle.ownAtoms own ic X names).filter vx_no
/-- a word that the tables alone decide, or a good one -/
def vx_ot (w : Cond) : Bool := w.onTables || goodWord w
theorem vx_ot_at {args a' : Array Value} {s U : State} {w : Cond} (hW : s.WarmedH U.vm) (hvm : s.vm = U.vm) (hg : vx_ot w = true) (h : w.before args s = true) : w.before a' U = true := by
  simp only [vx_ot, Bool.or_eq_true] at hg
  rcases hg with hg | hg
  · exact va_tabs hg hvm h
  · exact word_at hW (good_of_word hg) h
/-- a list's words: the good ones out of the method's own list, the others by premises of their own -/
theorem vx_hat {args : Array Value} {s : State} {L B : List Cond} (h1 : ∀ w ∈ L.filter goodWord, w.before args s = true) (h2 : ∀ w ∈ L.filter (fun w => !goodWord w), w ∈ B) (h3 : ∀ w ∈ B, w.before args s = true) : ∀ w ∈ L, w.before args s = true := by
  intro w hw
  by_cases g : goodWord w = true
  · exact h1 w (List.mem_filter.mpr ⟨hw, g⟩)
  · refine h3 w (h2 w (List.mem_filter.mpr ⟨hw, ?_⟩))
    show (!goodWord w) = true
    cases hgw : goodWord w
    · rfl
    · exact absurd hgw g
theorem vx_c {args : Array Value} {s : State} {w : Cond} {B : List Cond} (h : w.before args s = true) (t : ∀ w ∈ B, w.before args s = true) : ∀ w' ∈ w :: B, w'.before args s = true := fun w' h' => (List.mem_cons.mp h').elim (fun e => by rw [e]; exact h) (t w')
theorem vx_n {args : Array Value} {s : State} : ∀ w ∈ ([] : List Cond), w.before args s = true := fun _ h => nomatch h
theorem vx_own {args : Array Value} {s : State} {L : List Cond} (h1 : ∀ w ∈ L.filter vx_no, w.before args s = true)
    (hU : (Cond.isRef (.static Bundle.tN "UNASSIGNED_STACK" Bundle.steD)).before args s = true) (hN : (Cond.isRef (.static Bundle.tN "SUPPRESSED_SENTINEL" Bundle.listD)).before args s = true)
    (lU : (Cond.laysStatic Bundle.tN "UNASSIGNED_STACK" Bundle.steD).before args s = true) (lN : (Cond.laysStatic Bundle.tN "SUPPRESSED_SENTINEL" Bundle.listD).before args s = true) : ∀ w ∈ L, w.before args s = true := by
  intro w hw
  by_cases e1 : w = .isRef (.static Bundle.tN "UNASSIGNED_STACK" Bundle.steD)
  · rw [e1]; exact hU
  · by_cases e2 : w = .isRef (.static Bundle.tN "SUPPRESSED_SENTINEL" Bundle.listD)
    · rw [e2]; exact hN
    · by_cases e3 : w = .laysStatic Bundle.tN "UNASSIGNED_STACK" Bundle.steD
      · rw [e3]; exact lU
      · by_cases e4 : w = .laysStatic Bundle.tN "SUPPRESSED_SENTINEL" Bundle.listD
        · rw [e4]; exact lN
        · exact h1 w (List.mem_filter.mpr ⟨hw, by unfold vx_no; rw [decide_eq_true e1, decide_eq_true e2, decide_eq_true e3, decide_eq_true e4]; rfl⟩)
/-- where a static field lies, its class's statics cell in H -/
def vx_L (C n d : String) (A : Nat → Prop) (U : State) (H : Heap) : Prop := ∃ (c : ClassId) (k : Class) (i : Nat) (f : Field) (a : Nat) (cell : Cell), U.vm.findClass C = some c ∧ U.fieldFound? C n d = some (c, k, i, f) ∧ f.isStatic = true ∧ k.statics = some a ∧ H[a]? = some cell ∧ cell.vm.isStatics = true ∧ cell.cls = c ∧ f.slot < cell.slots.size ∧ k.staticTypes[f.slot]? = some f.type ∧ ¬ A a
theorem vx_L.moved {C n d : String} {A : Nat → Prop} {u U : State} {H : Heap} (hvm : u.vm.Alike U.vm) (h : vx_L C n d A u H) : vx_L C n d A U H := by
  obtain ⟨c, k, i, f, a, cell, h1, h2, h3, h4, h5, h6, h7, h8, h9, h10⟩ := h
  obtain ⟨k', hi', he⟩ := State.fieldFound?_setVm hvm h2
  exact ⟨c, k', i, f, a, cell, by rw [hvm.findClass]; exact h1, hi', h3, by rw [he]; exact h4, h5, h6, h7, h8, by rw [he]; exact h9, h10⟩
theorem vx_L.kept {C n d : String} {A : Nat → Prop} {U : State} {H H1 : Heap} (h : vx_L C n d A U H) (hq : ∀ a : Nat, a < H.size → ¬ A a → H1[a]? = H[a]?) : vx_L C n d A U H1 := by
  obtain ⟨c, k, i, f, a, cell, h1, h2, h3, h4, h5, h6, h7, h8, h9, h10⟩ := h
  exact ⟨c, k, i, f, a, cell, h1, h2, h3, h4, by rw [hq a (Array.getElem?_eq_some_iff.mp h5).1 h10]; exact h5, h6, h7, h8, h9, h10⟩
theorem vx_L.narrow {C n d : String} {A B : Nat → Prop} {U : State} {H : Heap} (h : vx_L C n d A U H) (hAB : ∀ q, B q → A q) : vx_L C n d B U H := by
  obtain ⟨c, k, i, f, a, cell, h1, h2, h3, h4, h5, h6, h7, h8, h9, h10⟩ := h
  exact ⟨c, k, i, f, a, cell, h1, h2, h3, h4, h5, h6, h7, h8, h9, fun z => h10 (hAB _ z)⟩
theorem vx_L.word {C n d : String} {A : Nat → Prop} {s : State} {args : Array Value} (h : vx_L C n d A s s.heap) : (Cond.laysStatic C n d).before args s = true := by
  obtain ⟨c, k, i, f, a, cell, h1, h2, h3, h4, h5, h6, h7, h8, h9, -⟩ := h
  show (Cond.laysStatic C n d).holds args s none s [] = true
  exact Cond.laysStatic_of h1 h2 h3 h4 h5 h6 h7 h8 h9
/-- .. and what it holds: null or some reference -/
def vx_Zq (C n d : String) (A : Nat → Prop) (U : State) (H : Heap) : Prop := va_Zq C n d A U H ∧ vx_L C n d A U H
theorem vx_Zq.moved {C n d : String} {A : Nat → Prop} {u U : State} {H : Heap} (hvm : u.vm.Alike U.vm) (h : vx_Zq C n d A u H) : vx_Zq C n d A U H := ⟨va_Zq.moved hvm h.1, vx_L.moved hvm h.2⟩
theorem vx_Zq.kept {C n d : String} {A : Nat → Prop} {U : State} {H H1 : Heap} (h : vx_Zq C n d A U H) (hq : ∀ a : Nat, a < H.size → ¬ A a → H1[a]? = H[a]?) : vx_Zq C n d A U H1 := ⟨va_Zq.kept h.1 hq, vx_L.kept h.2 hq⟩
theorem vx_Zq.narrow {C n d : String} {A B : Nat → Prop} {U : State} {H : Heap} (h : vx_Zq C n d A U H) (hAB : ∀ q, B q → A q) : vx_Zq C n d B U H := ⟨va_Zq.narrow h.1 hAB, vx_L.narrow h.2 hAB⟩
theorem vx_Zqof {args : Array Value} {s : State} {C n d : String} {A : Nat → Prop} (hl : (Cond.laysStatic C n d).before args s = true) (hini : (Cond.initialized C).before args s = true) (h : (Cond.isRef (.static C n d)).before args s = true) (hA : ∀ a : Nat, a < s.heap.size → ¬ A a) : vx_Zq C n d A s s.heap := by
  refine ⟨va_Zqof hl hini h hA, ?_⟩
  obtain ⟨c, k, i, f, a, cell, h1, h2, h3, h4, h5, h6, h7, h8, h9⟩ := Cond.laysStatic_spec hl
  exact ⟨c, k, i, f, a, cell, h1, h2, h3, h4, h5, h6, h7, h8, h9, hA a (Array.getElem?_eq_some_iff.mp h5).1⟩
theorem vx_isRef {C n d : String} {v : Value} {A : Nat → Prop} {s : State} {args : Array Value} (h : va_Z C n d v A s s.heap) (hv : v.isRef = true) : (Cond.isRef (.static C n d)).before args s = true := by
  obtain ⟨cf, kf, fi, f, a, cell, h1, h2, h3, h4, h5, h6, h7, -⟩ := h
  have he : (Term.static C n d).eval args s none [] s = some v := by
    simp [Term.eval, State.fieldNamed?, h1, h2, h4, h5, h6, h7]
  simp only [Cond.before, Cond.holds, Cond.value, he]
  cases v <;> simp_all [Value.isRef]
theorem vx_isRefq {C n d : String} {A : Nat → Prop} {s : State} {args : Array Value} (h : va_Zq C n d A s s.heap) : (Cond.isRef (.static C n d)).before args s = true := by
  rcases h with h | ⟨t, h⟩
  · exact vx_isRef h rfl
  · exact vx_isRef h rfl
/-- the same frame, seen from here: as if the method were called anew in this heap -/
theorem vx_rebase {T : State} (X : Stand p l e R s m args below meth c T locs cells slots) {R' : Room} (hf : R'.frames ≤ R.frames) (hl : R'.locals ≤ R.locals) (hc : cells + R'.cells ≤ R.cells) (hs : slots + R'.slots ≤ R.slots) :
    Stand p l e R' ((T.setVm s.vm).setFrames (.invoking m args :: below)) m args below meth c T [] 0 0 := by
  have htop : (T.setVm s.vm).topJava?.isSome := X.here.top
  have hF : ((T.setVm s.vm).setFrames (.invoking m args :: below)).frames = .invoking m args :: below := State.frames_setFrames _ (State.cur_lt_of_top htop)
  obtain ⟨g₀, hg0⟩ := Option.isSome_iff_exists.mp htop
  obtain ⟨r, hr⟩ := State.topJava?_eq_some.mp hg0
  have hl9 : e.platform.stackLimits (T.setVm s.vm).me = e.platform.stackLimits s.me := X.limits
  have hb9 : (T.setVm s.vm).me.stackBytes = s.me.stackBytes := X.bytes
  refine ⟨X.admits, X.cas, X.clock, hF, ?_, X.hears, X.method, X.code, X.here, X.tail, X.warmed, ?_, ?_, ?_⟩
  · have h := X.room
    have hU : ((T.setVm s.vm).setFrames (.invoking m args :: below)).localsInUse = s.localsInUse := by
      rw [State.localsInUse_invoking hF (meth := meth) (c := c) X.method X.code, State.localsInUse_invoking X.frames X.method X.code]
    simp only [State.hasRoom, Bool.and_eq_true, decide_eq_true_eq] at h ⊢
    obtain ⟨⟨⟨⟨h1, h2, h3, h4, h5, h6⟩, h7⟩, h8⟩, h9⟩ := h
    rw [X.frames, List.length_cons] at h2 h3
    have q1 := X.heapSize
    have q2 := X.used
    simp only [hF, hU, List.length_cons, State.stackLimits_setFrames, State.stackBytes_setFrames, hl9, hb9]
    refine ⟨⟨⟨⟨by omega, by omega, by omega, by omega, by omega, h6⟩, ?_⟩, ?_⟩, X.book⟩
    · show T.heap.size + R'.cells ≤ e.platform.maxCells
      omega
    · show T.slotsUsed + R'.slots ≤ e.platform.maxSlots
      omega
  · rw [State.stackLimits_setFrames]; rfl
  · rw [State.stackBytes_setFrames]; rfl
  · refine ⟨?_, Nat.le_refl _, Nat.le_refl _, ?_, ?_, fun a c9 h9 => ⟨c9, h9, rfl, rfl, fun _ _ => rfl⟩⟩
    · obtain ⟨t, ht, -⟩ := State.frames_cons hr
      show T.setVm s.vm = { ((T.setVm s.vm).setFrames (.invoking m args :: below)).setFrames (T.setVm s.vm).frames with heap := T.heap, slotsUsed := T.slotsUsed }
      rw [State.setFrames_setFrames, State.setFrames_self ht]
      rfl
    · show T.slotsUsed = T.slotsUsed + ((T.heap.toList.drop T.heap.size).map (·.slots.size)).sum
      rw [List.drop_eq_nil_of_le (Nat.le_of_eq Array.length_toList)]
      rfl
    · show ((T.heap.toList.drop T.heap.size).map (·.slots.size)).sum ≤ 0
      rw [List.drop_eq_nil_of_le (Nat.le_of_eq Array.length_toList)]
      exact Nat.le_refl _
/-- 'throw new E()': new; dup; invokespecial; athrow -/
theorem vx_throw0 {cc : ByteArray} {pc : Nat} (hexec : p.tables.exec = Jvm.exec) (hb : c.code = cc) (hl : l.stackTraces = false) {own cls : String} {names : List String} {ik ic mc ms : Nat} {A : Nat → Prop}
    (hown : s.vm.findClass own = some m.cls) (hcls : Bundle.fit cls = true) (hnames : ∀ n ∈ names, Bundle.fit n = true)
    (hk : (Cond.classLink own ik cls).before args s = true) (hini : (Cond.initialized cls).before args s = true) (hat : ∀ w ∈ vx_at0 own ic cls names, w.before args s = true)
    (hgood : ∀ w ∈ Cond.classLink own ik cls :: Cond.initialized cls :: vx_at0 own ic cls names, vx_ot w = true)
    (hU : vx_Zq Bundle.tN "UNASSIGNED_STACK" Bundle.steD A s s.heap) (hN : vx_Zq Bundle.tN "SUPPRESSED_SENTINEL" Bundle.listD A s s.heap) (hS : va_S A s.heap H locs) (hsize : ls.size = c.maxLocals)
    (d0 : decode cc pc = .ok (.new ik, 3)) (d3 : decode cc (pc + 3) = .ok (.dup, 1)) (d4 : decode cc (pc + 4) = .ok (.invokespecial ic, 3)) (d7 : decode cc (pc + 7) = .ok (.athrow, 1))
    (hout : ∀ x ∈ c.exceptionTable.toList, covers x (pc + 7) = false)
    (hRframes : names.length + 3 < R.frames) (hRlocals : (rest.map fun v => v.category).sum + (13 * (names.length + 1) + 42) ≤ R.locals) (hRcells : cells + 1 ≤ R.cells) (hRslots : slots + 6 ≤ R.slots) (hlocks : meth.locks = false)
    (hx : ∀ t : State, s.vm.Alike t.vm → H.size ≤ t.heap.size → (∀ q : Nat, q < H.size → t.heap[q]? = H[q]?) → XC cls s t)
    (hf : ∀ z ∈ locs, free z.base) (hc : cells + 1 ≤ mc) (hs : slots + 6 ≤ ms) :
    W p l e R s m args below meth c H locs cells slots (vx_MQ below Qc XC args s mc ms free) (F0 m pc ls rest) := by
  intro T hT X
  have htr : e.platform.stackTraces = false := (show e.platform.stackTraces = l.stackTraces by rw [X.admits.platform]).trans hl
  have Y := vx_rebase X (R' := { frames := R.frames, locals := R.locals, cells := 1, slots := 6 }) (Nat.le_refl _) (Nat.le_refl _) hRcells hRslots
  obtain ⟨s', hA⟩ : ∃ z, z = (T.setVm s.vm).setFrames (.invoking m args :: below) := ⟨_, rfl⟩
  rw [← hA] at Y
  have hvm : s'.vm = s.vm := by rw [hA]; rfl
  have hhp : s'.heap = H := by rw [hA]; exact hT
  have hW0 : s.WarmedH s'.vm := by rw [hvm]; exact State.WarmedH.refl s
  have hat' : ∀ w ∈ vx_at0 own ic cls names, w.before args s' = true := fun w hw => vx_ot_at hW0 hvm.symm (hgood w (List.mem_cons_of_mem _ (List.mem_cons_of_mem _ hw))) (hat w hw)
  have hk' : (Cond.classLink own ik cls).before args s' = true := vx_ot_at hW0 hvm.symm (hgood _ List.mem_cons_self) hk
  have hini' : (Cond.initialized cls).before args s' = true := vx_ot_at hW0 hvm.symm (hgood _ (List.mem_cons_of_mem _ List.mem_cons_self)) hini
  have hU' : vx_Zq Bundle.tN "UNASSIGNED_STACK" Bundle.steD A s' s'.heap := by rw [hhp]; exact vx_Zq.moved hW0.alike (hU.kept hS.2.1)
  have hN' : vx_Zq Bundle.tN "SUPPRESSED_SENTINEL" Bundle.listD A s' s'.heap := by rw [hhp]; exact vx_Zq.moved hW0.alike (hN.kept hS.2.1)
  have h : ∀ w ∈ Bundle.ownAtoms0 own ic cls names, w.before args s' = true := vx_own hat' (vx_isRefq hU'.1) (vx_isRefq hN'.1) hU'.2.word hN'.2.word
  have hown' : s'.vm.findClass own = some m.cls := by rw [hvm]; exact hown
  have hins : (Cond.instantiable cls 6).before args s' = true := h _ (by simp [Bundle.ownAtoms0])
  obtain ⟨vm₁, cX, kX, hfX, hkX, -, -, X₁, st1⟩ := Y.newCold hexec (own := own) (C := cls) (index := ik) (n := 6) hown' hk' hins hini'
    (g := F0 m pc ls rest) rfl (by rw [hb]; exact d0) (Nat.le_refl _) (Nat.le_refl _)
  generalize hT1 : (T.setVm vm₁).pushCell { cls := cX, slots := kX.instanceTypes.map defaultValue, vm := .none } = T1 at X₁ st1
  have hcat : (Value.ref T.heap.size).category = 1 := rfl
  have hcellA : T1.heap[T.heap.size]? = some (freshCell cX kX) := by rw [← hT1]; exact State.heap_pushCell_size _ _
  have d3' : decode c.code (pc + 3) = .ok (.dup, 1) := by rw [hb]; exact d3
  obtain ⟨U, hsteps, hrun, hend, hW, hsame, ce, hce, hO⟩ := X₁.ctorThrow0 hexec htr (own := own) (cls := cls) (names := names) (ic := ic) hown' hcls hnames h (fun x hx => nomatch hx) hfX hkX hcellA (by rw [hhp, hT]; exact Nat.le_refl _)
    (g := { method := m, pc := pc + 4, locals := ls, stack := .ref T.heap.size :: .ref T.heap.size :: rest, locked := none }) rfl hsize rfl rfl (rest := rest) rfl
    (by rw [hb]; exact d4) (by rw [hb]; exact d7) hout hRframes (by simp only [List.map_cons, List.sum_cons, hcat]; omega) hlocks
  obtain ⟨f1, f2⟩ := vx_frame hsame
  rw [hhp] at f1 f2
  have hWs : s.WarmedH U.vm := State.WarmedH.trans hW0 hW
  have hcl : s.vm.findClass cls = some ce.cls := by
    have h9 := hO.cls
    rw [hvm] at h9
    exact h9
  have hall : s.sameButNew ({ U with vm := s.vm } : State) locs mc ms := by
    subst hA
    obtain ⟨e1, e2⟩ := hsame
    rw [State.setFrames_setFrames] at e1
    have h2 : (T.setVm s.vm).sameButNew ({ U with vm := s.vm } : State) [] (0 + 1) (0 + 6) := ⟨e1, e2⟩
    have h3 := X.same.trans h2
    rw [List.append_nil] at h3
    exact h3.mono hc hs
  refine ⟨U, ?_, .threw T.heap.size, hrun, hend, Or.inr ⟨T.heap.size, rfl, cls, ce, locs, hx U hWs.alike f1 (fun q hq => f2 q hq (fun z hz => nomatch hz)), hce, hO.vm, hcl, hWs, hall, hf⟩⟩
  refine st1 _ ?_
  show Steps p.tables e below (T1.setTop { method := m, pc := pc + 3, locals := ls, stack := .ref T.heap.size :: rest, locked := none }) _
  jvm_step X₁.here [X₁.here.top, hexec, d3', Value.category]
  exact hsteps
/-- 'throw new E("text")': new; dup; ldc; invokespecial; athrow -/
theorem vx_throwS {cc : ByteArray} {pc : Nat} (hexec : p.tables.exec = Jvm.exec) (hb : c.code = cc) (hl : l.stackTraces = false) {own cls text : String} {names : List String} {ik is ic mc ms sa : Nat} {A : Nat → Prop}
    (hown : s.vm.findClass own = some m.cls) (hcls : Bundle.fit cls = true) (hnames : ∀ n ∈ names, Bundle.fit n = true)
    (hk : (Cond.classLink own ik cls).before args s = true) (hini : (Cond.initialized cls).before args s = true) (hstr : vk_R own is text sa s) (hat : ∀ w ∈ vx_atS own ic cls names, w.before args s = true)
    (hgood : ∀ w ∈ Cond.classLink own ik cls :: Cond.initialized cls :: vx_atS own ic cls names, vx_ot w = true)
    (hU : vx_Zq Bundle.tN "UNASSIGNED_STACK" Bundle.steD A s s.heap) (hN : vx_Zq Bundle.tN "SUPPRESSED_SENTINEL" Bundle.listD A s s.heap) (hS : va_S A s.heap H locs) (hsize : ls.size = c.maxLocals)
    (d0 : decode cc pc = .ok (.new ik, 3)) (d3 : decode cc (pc + 3) = .ok (.dup, 1)) (d4 : decode cc (pc + 4) = .ok (.ldc is, 2)) (d6 : decode cc (pc + 6) = .ok (.invokespecial ic, 3)) (d9 : decode cc (pc + 9) = .ok (.athrow, 1))
    (hout : ∀ x ∈ c.exceptionTable.toList, covers x (pc + 9) = false)
    (hRframes : names.length + 3 < R.frames) (hRlocals : (rest.map fun v => v.category).sum + (13 * (names.length + 1) + 43) ≤ R.locals) (hRcells : cells + 1 ≤ R.cells) (hRslots : slots + 6 ≤ R.slots) (hlocks : meth.locks = false)
    (hx : ∀ t : State, s.vm.Alike t.vm → H.size ≤ t.heap.size → (∀ q : Nat, q < H.size → t.heap[q]? = H[q]?) → XC cls s t)
    (hf : ∀ z ∈ locs, free z.base) (hc : cells + 1 ≤ mc) (hs : slots + 6 ≤ ms) :
    W p l e R s m args below meth c H locs cells slots (vx_MQ below Qc XC args s mc ms free) (F0 m pc ls rest) := by
  intro T hT X
  have htr : e.platform.stackTraces = false := (show e.platform.stackTraces = l.stackTraces by rw [X.admits.platform]).trans hl
  have Y := vx_rebase X (R' := { frames := R.frames, locals := R.locals, cells := 1, slots := 6 }) (Nat.le_refl _) (Nat.le_refl _) hRcells hRslots
  obtain ⟨s', hA⟩ : ∃ z, z = (T.setVm s.vm).setFrames (.invoking m args :: below) := ⟨_, rfl⟩
  rw [← hA] at Y
  have hvm : s'.vm = s.vm := by rw [hA]; rfl
  have hhp : s'.heap = H := by rw [hA]; exact hT
  have hW0 : s.WarmedH s'.vm := by rw [hvm]; exact State.WarmedH.refl s
  have hat' : ∀ w ∈ vx_atS own ic cls names, w.before args s' = true := fun w hw => vx_ot_at hW0 hvm.symm (hgood w (List.mem_cons_of_mem _ (List.mem_cons_of_mem _ hw))) (hat w hw)
  have hk' : (Cond.classLink own ik cls).before args s' = true := vx_ot_at hW0 hvm.symm (hgood _ List.mem_cons_self) hk
  have hini' : (Cond.initialized cls).before args s' = true := vx_ot_at hW0 hvm.symm (hgood _ (List.mem_cons_of_mem _ List.mem_cons_self)) hini
  have hU' : vx_Zq Bundle.tN "UNASSIGNED_STACK" Bundle.steD A s' s'.heap := by rw [hhp]; exact vx_Zq.moved hW0.alike (hU.kept hS.2.1)
  have hN' : vx_Zq Bundle.tN "SUPPRESSED_SENTINEL" Bundle.listD A s' s'.heap := by rw [hhp]; exact vx_Zq.moved hW0.alike (hN.kept hS.2.1)
  have h : ∀ w ∈ Bundle.ownAtoms own ic cls names, w.before args s' = true := vx_own hat' (vx_isRefq hU'.1) (vx_isRefq hN'.1) hU'.2.word hN'.2.word
  have hown' : s'.vm.findClass own = some m.cls := by rw [hvm]; exact hown
  have hins : (Cond.instantiable cls 6).before args s' = true := h _ (by simp [Bundle.ownAtoms])
  obtain ⟨vm₁, cX, kX, hfX, hkX, -, -, X₁, st1⟩ := Y.newCold hexec (own := own) (C := cls) (index := ik) (n := 6) hown' hk' hins hini'
    (g := F0 m pc ls rest) rfl (by rw [hb]; exact d0) (Nat.le_refl _) (Nat.le_refl _)
  generalize hT1 : (T.setVm vm₁).pushCell { cls := cX, slots := kX.instanceTypes.map defaultValue, vm := .none } = T1 at X₁ st1
  have hcat : (Value.ref T.heap.size).category = 1 := rfl
  have hcellA : T1.heap[T.heap.size]? = some (freshCell cX kX) := by rw [← hT1]; exact State.heap_pushCell_size _ _
  have d3' : decode c.code (pc + 3) = .ok (.dup, 1) := by rw [hb]; exact d3
  have d4' : decode c.code (pc + 4) = .ok (.ldc is, 2) := by rw [hb]; exact d4
  have hstr' : vk_R own is text sa s' := vk_R.warm hW0 hstr
  obtain ⟨U, hsteps, hrun, hend, hW, hsame, ce, hce, hO⟩ := X₁.ctorThrowS hexec htr (own := own) (cls := cls) (names := names) (ic := ic) hown' hcls hnames h (fun x hx => nomatch hx) hfX hkX hcellA (by rw [hhp, hT]; exact Nat.le_refl _) (msg := .ref sa) rfl
    (g := { method := m, pc := pc + 6, locals := ls, stack := .ref sa :: .ref T.heap.size :: .ref T.heap.size :: rest, locked := none }) rfl hsize rfl rfl (rest := rest) rfl
    (by rw [hb]; exact d6) (by rw [hb]; exact d9) hout hRframes (by simp only [List.map_cons, List.sum_cons, hcat]; omega) hlocks
  obtain ⟨f1, f2⟩ := vx_frame hsame
  rw [hhp] at f1 f2
  have hWs : s.WarmedH U.vm := State.WarmedH.trans hW0 hW
  have hcl : s.vm.findClass cls = some ce.cls := by
    have h9 := hO.cls
    rw [hvm] at h9
    exact h9
  have hall : s.sameButNew ({ U with vm := s.vm } : State) locs mc ms := by
    subst hA
    obtain ⟨e1, e2⟩ := hsame
    rw [State.setFrames_setFrames] at e1
    have h2 : (T.setVm s.vm).sameButNew ({ U with vm := s.vm } : State) [] (0 + 1) (0 + 6) := ⟨e1, e2⟩
    have h3 := X.same.trans h2
    rw [List.append_nil] at h3
    exact h3.mono hc hs
  refine ⟨U, ?_, .threw T.heap.size, hrun, hend, Or.inr ⟨T.heap.size, rfl, cls, ce, locs, hx U hWs.alike f1 (fun q hq => f2 q hq (fun z hz => nomatch hz)), hce, hO.vm, hcl, hWs, hall, hf⟩⟩
  refine st1 _ ?_
  show Steps p.tables e below (T1.setTop { method := m, pc := pc + 3, locals := ls, stack := .ref T.heap.size :: rest, locked := none }) _
  jvm_step X₁.here [X₁.here.top, hexec, d3', Value.category]
  exact X₁.ldcString hexec (own := own) (text := text) (index := is) (a := sa) hown' hstr'.1 hstr'.2
    (g := { method := m, pc := pc + 4, locals := ls, stack := .ref T.heap.size :: .ref T.heap.size :: rest, locked := none }) rfl d4' _ hsteps
/-- 'throw new E("text")', the text by a wide index -/
theorem vx_throwSW {cc : ByteArray} {pc : Nat} (hexec : p.tables.exec = Jvm.exec) (hb : c.code = cc) (hl : l.stackTraces = false) {own cls text : String} {names : List String} {ik is ic mc ms sa : Nat} {A : Nat → Prop}
    (hown : s.vm.findClass own = some m.cls) (hcls : Bundle.fit cls = true) (hnames : ∀ n ∈ names, Bundle.fit n = true)
    (hk : (Cond.classLink own ik cls).before args s = true) (hini : (Cond.initialized cls).before args s = true) (hstr : vk_R own is text sa s) (hat : ∀ w ∈ vx_atS own ic cls names, w.before args s = true)
    (hgood : ∀ w ∈ Cond.classLink own ik cls :: Cond.initialized cls :: vx_atS own ic cls names, vx_ot w = true)
    (hU : vx_Zq Bundle.tN "UNASSIGNED_STACK" Bundle.steD A s s.heap) (hN : vx_Zq Bundle.tN "SUPPRESSED_SENTINEL" Bundle.listD A s s.heap) (hS : va_S A s.heap H locs) (hsize : ls.size = c.maxLocals)
    (d0 : decode cc pc = .ok (.new ik, 3)) (d3 : decode cc (pc + 3) = .ok (.dup, 1)) (d4 : decode cc (pc + 4) = .ok (.ldc_w is, 3)) (d7 : decode cc (pc + 7) = .ok (.invokespecial ic, 3)) (d10 : decode cc (pc + 10) = .ok (.athrow, 1))
    (hout : ∀ x ∈ c.exceptionTable.toList, covers x (pc + 10) = false)
    (hRframes : names.length + 3 < R.frames) (hRlocals : (rest.map fun v => v.category).sum + (13 * (names.length + 1) + 43) ≤ R.locals) (hRcells : cells + 1 ≤ R.cells) (hRslots : slots + 6 ≤ R.slots) (hlocks : meth.locks = false)
    (hx : ∀ t : State, s.vm.Alike t.vm → H.size ≤ t.heap.size → (∀ q : Nat, q < H.size → t.heap[q]? = H[q]?) → XC cls s t)
    (hf : ∀ z ∈ locs, free z.base) (hc : cells + 1 ≤ mc) (hs : slots + 6 ≤ ms) :
    W p l e R s m args below meth c H locs cells slots (vx_MQ below Qc XC args s mc ms free) (F0 m pc ls rest) := by
  intro T hT X
  have htr : e.platform.stackTraces = false := (show e.platform.stackTraces = l.stackTraces by rw [X.admits.platform]).trans hl
  have Y := vx_rebase X (R' := { frames := R.frames, locals := R.locals, cells := 1, slots := 6 }) (Nat.le_refl _) (Nat.le_refl _) hRcells hRslots
  obtain ⟨s', hA⟩ : ∃ z, z = (T.setVm s.vm).setFrames (.invoking m args :: below) := ⟨_, rfl⟩
  rw [← hA] at Y
  have hvm : s'.vm = s.vm := by rw [hA]; rfl
  have hhp : s'.heap = H := by rw [hA]; exact hT
  have hW0 : s.WarmedH s'.vm := by rw [hvm]; exact State.WarmedH.refl s
  have hat' : ∀ w ∈ vx_atS own ic cls names, w.before args s' = true := fun w hw => vx_ot_at hW0 hvm.symm (hgood w (List.mem_cons_of_mem _ (List.mem_cons_of_mem _ hw))) (hat w hw)
  have hk' : (Cond.classLink own ik cls).before args s' = true := vx_ot_at hW0 hvm.symm (hgood _ List.mem_cons_self) hk
  have hini' : (Cond.initialized cls).before args s' = true := vx_ot_at hW0 hvm.symm (hgood _ (List.mem_cons_of_mem _ List.mem_cons_self)) hini
  have hU' : vx_Zq Bundle.tN "UNASSIGNED_STACK" Bundle.steD A s' s'.heap := by rw [hhp]; exact vx_Zq.moved hW0.alike (hU.kept hS.2.1)
  have hN' : vx_Zq Bundle.tN "SUPPRESSED_SENTINEL" Bundle.listD A s' s'.heap := by rw [hhp]; exact vx_Zq.moved hW0.alike (hN.kept hS.2.1)
  have h : ∀ w ∈ Bundle.ownAtoms own ic cls names, w.before args s' = true := vx_own hat' (vx_isRefq hU'.1) (vx_isRefq hN'.1) hU'.2.word hN'.2.word
  have hown' : s'.vm.findClass own = some m.cls := by rw [hvm]; exact hown
  have hins : (Cond.instantiable cls 6).before args s' = true := h _ (by simp [Bundle.ownAtoms])
  obtain ⟨vm₁, cX, kX, hfX, hkX, -, -, X₁, st1⟩ := Y.newCold hexec (own := own) (C := cls) (index := ik) (n := 6) hown' hk' hins hini'
    (g := F0 m pc ls rest) rfl (by rw [hb]; exact d0) (Nat.le_refl _) (Nat.le_refl _)
  generalize hT1 : (T.setVm vm₁).pushCell { cls := cX, slots := kX.instanceTypes.map defaultValue, vm := .none } = T1 at X₁ st1
  have hcat : (Value.ref T.heap.size).category = 1 := rfl
  have hcellA : T1.heap[T.heap.size]? = some (freshCell cX kX) := by rw [← hT1]; exact State.heap_pushCell_size _ _
  have d3' : decode c.code (pc + 3) = .ok (.dup, 1) := by rw [hb]; exact d3
  have d4' : decode c.code (pc + 4) = .ok (.ldc_w is, 3) := by rw [hb]; exact d4
  have hstr' : vk_R own is text sa s' := vk_R.warm hW0 hstr
  obtain ⟨U, hsteps, hrun, hend, hW, hsame, ce, hce, hO⟩ := X₁.ctorThrowS hexec htr (own := own) (cls := cls) (names := names) (ic := ic) hown' hcls hnames h (fun x hx => nomatch hx) hfX hkX hcellA (by rw [hhp, hT]; exact Nat.le_refl _) (msg := .ref sa) rfl
    (g := { method := m, pc := pc + 7, locals := ls, stack := .ref sa :: .ref T.heap.size :: .ref T.heap.size :: rest, locked := none }) rfl hsize rfl rfl (rest := rest) rfl
    (by rw [hb]; exact d7) (by rw [hb]; exact d10) hout hRframes (by simp only [List.map_cons, List.sum_cons, hcat]; omega) hlocks
  obtain ⟨f1, f2⟩ := vx_frame hsame
  rw [hhp] at f1 f2
  have hWs : s.WarmedH U.vm := State.WarmedH.trans hW0 hW
  have hcl : s.vm.findClass cls = some ce.cls := by
    have h9 := hO.cls
    rw [hvm] at h9
    exact h9
  have hall : s.sameButNew ({ U with vm := s.vm } : State) locs mc ms := by
    subst hA
    obtain ⟨e1, e2⟩ := hsame
    rw [State.setFrames_setFrames] at e1
    have h2 : (T.setVm s.vm).sameButNew ({ U with vm := s.vm } : State) [] (0 + 1) (0 + 6) := ⟨e1, e2⟩
    have h3 := X.same.trans h2
    rw [List.append_nil] at h3
    exact h3.mono hc hs
  refine ⟨U, ?_, .threw T.heap.size, hrun, hend, Or.inr ⟨T.heap.size, rfl, cls, ce, locs, hx U hWs.alike f1 (fun q hq => f2 q hq (fun z hz => nomatch hz)), hce, hO.vm, hcl, hWs, hall, hf⟩⟩
  refine st1 _ ?_
  show Steps p.tables e below (T1.setTop { method := m, pc := pc + 3, locals := ls, stack := .ref T.heap.size :: rest, locked := none }) _
  jvm_step X₁.here [X₁.here.top, hexec, d3', Value.category]
  exact X₁.ldcStringW hexec (own := own) (text := text) (index := is) (a := sa) hown' hstr'.1 hstr'.2
    (g := { method := m, pc := pc + 4, locals := ls, stack := .ref T.heap.size :: .ref T.heap.size :: rest, locked := none }) rfl d4' _ hsteps
end Ends
section Bodies
variable {l : Launch}
theorem vx_ofW {y : MethodName} {ws ws' : List Cond} {rm : Room} {Pc : Array Value → State → Prop} {Qc : Array Value → State → Outcome → State → Prop} {XC : String → State → State → Prop} {mc ms : Nat} {free : Addr → Prop} {cc : ByteArray} {maxL : Nat} {ret : Option FieldType}
    (hy : plainName y.cls = true) (hw : ws = Cond.code y cc maxL ret :: ws')
    (body : ∀ p e s m args below meth c s₁, BodyLoose p l y (headSpec ws rm) cc maxL ret e s m args below meth c s₁ → c.maxLocals = maxL → (∀ x ∈ c.exceptionTable.toList, False) → Pc args s →
      W p l e (headSpec ws rm).room s m args below meth c s.heap [] 0 0 (vx_MQ below Qc XC args s mc ms free) (entryFrame m args maxL)) : vx_Met l y ws rm Pc Qc XC mc ms free := by
  refine MetFree.of_bodyS (code := cc) (maxLocals := maxL) (ret := ret) hy ?_ ?_
  · intro args s m h hn
    obtain ⟨meth, c, h1, h2, h3, h4, h5, h6, -, -⟩ := Cond.code_spec hn (atoms_spec (ws := ws) h _ (by rw [hw]; exact List.mem_cons_self))
    exact ⟨meth, c, h1, h2, h3, h4, h5, h6⟩
  · intro p e s m args below meth c s₁ B hml hP _
    have hh0 : s₁.heap = s.heap := by rw [B.state]; rfl
    have ht : ∀ x ∈ c.exceptionTable.toList, False := by
      obtain ⟨meth9, c9, h1, h2, -, -, -, -, h7, -⟩ := Cond.code_spec B.named (atoms_spec (ws := ws) B.pre _ (by rw [hw]; exact List.mem_cons_self))
      cases Option.some.inj (h1.symm.trans B.method)
      cases Option.some.inj (h2.symm.trans (Stand.of_body B).code)
      intro x hx
      rw [Array.isEmpty_iff.mp h7] at hx
      cases hx
    obtain ⟨t, a1, o, b1, b2, b3⟩ := body p e s m args below meth c s₁ B hml ht hP s₁ hh0 (Stand.of_body B)
    exact ⟨t, o, a1, b1, b2, b3⟩
/-- the table of a body with handlers -/
theorem vx_table {p : Program} {x y : MethodName} {S : Spec} {cc bytes : ByteArray} {maxL maxL' : Nat} {ret ret' : Option FieldType} {e : Env} {s s₁ : State} {m : MethodId} {args : Array Value} {below : List Frame} {meth : Method} {c : Code} {hh : List (Nat × Nat × Nat × Nat)}
    (B : BodyLoose p l y S cc maxL ret e s m args below meth c s₁) (h : (Cond.codeWith y bytes maxL' ret' hh).before args s = true) : c.exceptionTable.toList = tableOf hh := by
  obtain ⟨m9, meth9, c9, hn9, h1, h2, -, -, h6, -⟩ := Cond.codeWith_spec h
  cases Option.some.inj (hn9.symm.trans B.named)
  cases Option.some.inj (h1.symm.trans B.method)
  cases Option.some.inj (h2.symm.trans (Stand.of_body B).code)
  rw [← h6, table_eq]
end Bodies
end VXA
/-! ===== END ===== -/
/-! ===== BEGIN a static call of a method with an exception table ===== -/
section VXS
variable {p : Program} {l : Launch} {e : Env} {R : Room} {s : State} {m : MethodId} {args : Array Value} {below : List Frame} {meth : Method} {c : Code} {T : State} {H : Heap} {locs : List Loc} {cells slots : Nat}
abbrev vx_CSW (R : Room) (s : State) (args : Array Value) (own : String) (index : Nat) (y : MethodName) (bytes : ByteArray) (maxL : Nat) (ret : Option FieldType) (hh : List (Nat × Nat × Nat × Nat)) (ws : List Cond) (rm : Room) (mc ms n : Nat) : Prop :=
  (rm.cells = mc ∧ rm.slots = ms ∧ rm.frames + 1 ≤ R.frames ∧ 8 + (maxL + 11) + rm.locals ≤ R.locals ∧ (∀ w ∈ ws, ∀ (a' : Array Value) (U : State), s.WarmedH U.vm → w.before a' U = true) ∧ Cond.codeWith y bytes maxL ret hh ∈ ws) ∧
  (Cond.codeWith y bytes maxL ret hh).before args s = true ∧ (Cond.initialized y.cls).before args s = true ∧ (y.cls ≠ "java/lang/invoke/MethodHandle" ∧ y.cls ≠ "java/lang/invoke/VarHandle") ∧
  (∀ sig, parseMethodDescriptor y.desc = some sig → n = sig.parameters.length) ∧ (Cond.methodLink own index y).before args s = true ∧ (Cond.static y).before args s = true
theorem vx_cwSW {own : String} {index maxL mc ms : Nat} {y : MethodName} {bytes : ByteArray} {ret : Option FieldType} {hh : List (Nat × Nat × Nat × Nat)} {Ts ws ws' : List Cond} {rm : Room} (n : Nat) (ht : ∀ w ∈ Ts, w.before args s = true) (hT : GoodIn Ts (va_wsS own index y ws)) (hw : ws = Cond.codeWith y bytes maxL ret hh :: ws') (hrc : rm.cells = mc) (hrs : rm.slots = ms)
    (hd : y.cls ≠ "java/lang/invoke/MethodHandle" ∧ y.cls ≠ "java/lang/invoke/VarHandle" ∧ (parseMethodDescriptor y.desc).map (fun d => d.parameters.length) = some n) (hR : rm.frames + 1 ≤ R.frames ∧ 8 + (maxL + 11) + rm.locals ≤ R.locals) :
    vx_CSW R s args own index y bytes maxL ret hh ws rm mc ms n := by
  have ok : ∀ w ∈ va_wsS own index y ws, w.before args s = true := fun w h => ht w (hT w h).1
  have hG : GoodIn Ts ws := fun w h => hT w (by unfold va_wsS; exact List.mem_append_right _ h)
  have hc : Cond.codeWith y bytes maxL ret hh ∈ ws := by rw [hw]; exact List.mem_cons_self
  refine ⟨⟨hrc, hrs, hR.1, hR.2, pay_in ht hG, hc⟩, ht _ (hG _ hc).1, ok _ (by simp [va_wsS]), ⟨hd.1, hd.2.1⟩, fun sig h => ?_, ok _ (by simp [va_wsS]), ok _ (by simp [va_wsS])⟩
  have h2 := hd.2.2
  rw [h] at h2
  exact (Option.some.inj h2).symm
theorem vx_callSW (X : Stand p l e R s m args below meth c T locs cells slots) (hexec : p.tables.exec = Jvm.exec) {own : String} {index : Nat} {y : MethodName} {bytes : ByteArray} {maxL : Nat} {ret : Option FieldType} {hh : List (Nat × Nat × Nat × Nat)}
    (hown : s.vm.findClass own = some m.cls) (hlink : (Cond.methodLink own index y).before args s = true) (hstat : (Cond.static y).before args s = true) (hinit : (Cond.initialized y.cls).before args s = true)
    (hcode : (Cond.codeWith y bytes maxL ret hh).before args s = true) (hy : y.cls ≠ "java/lang/invoke/MethodHandle" ∧ y.cls ≠ "java/lang/invoke/VarHandle")
    {W9 : Nat} {Pre : Pt → Array Value → Prop} {Post : Pt → Array Value → Option Value → Pt → Prop} (hK : Back l R p e below s args y 3 W9 Pre Post)
    {g : JFrame} (hg : g.method = m) (hsize : g.locals.size = c.maxLocals) {argsL rest : List Value} (hlen : ∀ sig, parseMethodDescriptor y.desc = some sig → argsL.length = sig.parameters.length)
    (hstack : g.stack = argsL.reverse ++ rest) (hW : 2 * g.monitorRoom + (rest.map fun v => v.category).sum ≤ W9) (hdg : decode c.code g.pc = .ok (.invokestatic index, 3))
    (hpre : ∀ vm₁, s.WarmedH vm₁ → Pre ⟨T.setVm vm₁, locs, cells, slots⟩ argsL.toArray) :
    ∃ (v : Option Value) (vm₁ : Vm) (B : Pt), s.WarmedH vm₁ ∧ Stand p l e R s m args below meth c B.U B.locs B.cells B.slots ∧ Post ⟨T.setVm vm₁, locs, cells, slots⟩ argsL.toArray v B ∧
      ∀ target, Steps p.tables e below (B.U.setTop { g with pc := g.pc + 3, stack := v.toList ++ rest }) target → Steps p.tables e below (T.setTop g) target := by
  obtain ⟨mk, methM, cM, hnamed, hmethM, -, -, -, -, -, -, hsigM⟩ := Cond.codeWith_spec hcode
  have hstatic : methM.isStatic = true := Cond.static_spec hnamed hmethM hstat
  obtain ⟨kP, hkP, -⟩ := className_of_methodNamed hnamed
  have hinitP : kP.init = .initialized := Cond.initialized_spec (findClass_of_methodNamed hnamed) hkP hinit
  obtain ⟨vm₁, X₁, hstep₁⟩ := X.invokestatic hexec hown hlink hnamed hmethM hstatic hkP hinitP hy (g := g) hg (argsL := argsL) (rest := rest) (hlen _ hsigM) hstack hdg
  obtain ⟨v, B, X', hpost, hsteps⟩ := hK m meth c ⟨T.setVm vm₁, locs, cells, slots⟩ { g with stack := rest } (.invokestatic index) mk argsL.toArray X₁ hg hsize hdg hW (X₁.named hnamed) (hpre vm₁ X₁.warmed)
  exact ⟨v, vm₁, B, X₁.warmed, X', hpost, fun target h => hstep₁ _ fun acts => by rw [doInvoke_state]; exact hsteps.trans h⟩
theorem vx_runSW {y : MethodName} {bytes cc : ByteArray} {maxL nL mc ms n index : Nat} {ret : Option FieldType} {hh : List (Nat × Nat × Nat × Nat)} {ws : List Cond} {rm : Room} {Pc : Array Value → State → Prop} {Qc : Array Value → State → Outcome → State → Prop} {free : Addr → Prop} {Ts : List Cond} {own : String} {As rest : List Value} {g : JFrame}
    (S : CallFix p m c cc nL s args Ts own) (hM : Met l y ws rm Pc Qc mc ms free) (cw : vx_CSW R s args own index y bytes maxL ret hh ws rm mc ms n) (hp : PreS s H Pc As)
    (hg : g.method = m) (hn : As.length = n) (hsize : g.locals.size = nL) (hstack : g.stack = As.reverse ++ rest) (hW : 2 * g.monitorRoom + (rest.map fun v => v.category).sum ≤ 8) (hdg : decode cc g.pc = .ok (.invokestatic index, 3)) (hf : cells + mc ≤ R.cells ∧ slots + ms ≤ R.slots) :
    va_Run p l e R s m args below meth c H locs cells slots mc ms g rest (Qc As.toArray) (free) := by
  obtain ⟨⟨hrc, hrs, hfr, hlo, hws, hcw⟩, hcode, hini, hy, hlen, hl, hstt⟩ := cw
  have hK : Back l R p e below s args y 3 8 (PreOf R mc ms Pc) (PostOf Qc mc ms free) := va_backW (hh := hh) (bytes := bytes) (maxL := maxL) (ret := ret) hM hp.1 hrc hrs hfr hlo hws hcw (fun a' U hW => word_at hW (Or.inl (by first | rfl | simp [Cond.onTables, Cond.keeps, Cond.steady])) hini)
  obtain ⟨hx, hb, hml, ho, -⟩ := S
  intro T hT X
  obtain ⟨v, vm₁, ⟨U', l2, c2, s2⟩, hW₁, X', ⟨g', mk, t, L, e1, e2, hq, h1, hL, h2, h3⟩, st⟩ := vx_callSW X hx (hh := hh) (bytes := bytes) (maxL := maxL) (ret := ret) ho hl hstt hini hcode hy hK hg (hsize.trans hml.symm) (argsL := As) (rest := rest) (fun sig h => hn.trans (hlen sig h)) hstack hW (by rw [hb]; exact hdg)
    (fun vm₁ hW₁ => ⟨hf.1, hf.2, hp.2 (T.setVm vm₁) hT hW₁⟩)
  dsimp only [Pt.U, Pt.locs, Pt.cells, Pt.slots] at X' e1 e2 h1 h2 h3 st
  subst h1; subst h2; subst h3
  exact ⟨v, (T.setVm vm₁).calling g' mk As.toArray, t, U', L, hT, X', hL, e1, e2, hq, st⟩
/-- not caught here, past rows that name other classes: it goes on to the caller -/
theorem vx_outP {p : Program} {l : Launch} {e : Env} {R : Room} {s : State} {m : MethodId} {args : Array Value} {below : List Frame} {meth : Method} {c : Code} {H : Heap} {locs : List Loc} {cells slots : Nat} {free : Addr → Prop} {ls : Array Slot} {rest : List Value} {Qc : Array Value → State → Outcome → State → Prop} {XC : String → State → State → Prop}
    {pc : Nat} {own E : String} {ce : Cell} {q : Addr} {mc ms : Nat} (hown : s.vm.findClass own = some m.cls) (hlocks : meth.locks = false)
    (hpass : ∀ z ∈ c.exceptionTable.toList, covers z pc = false ∨ (z.catchType ≠ 0 ∧ ∃ nm : String, (Cond.classLink own z.catchType nm).before args s = true ∧ va_Nc E nm s)) (hcell : H[q]? = some ce) (hv : ce.vm = .none) (hcl : s.vm.findClass E = some ce.cls)
    (hx : ∀ t : State, t.heap = H → s.vm.Alike t.vm → XC E s t) (hf : ∀ z ∈ locs, free z.base) (hc : cells ≤ mc) (hs : slots ≤ ms) :
    vx_W p l e R s m args below meth c H locs cells slots (vx_MQ below Qc XC args s mc ms free) (F0 m pc ls rest) q := by
  intro T hT X
  have hpl : e.platform.magicAccessors = ({} : Platform).magicAccessors := by rw [X.admits.platform]
  obtain ⟨vm', hW', X', st⟩ := X.outThrough hlocks q (g := F0 m pc ls rest) rfl rfl rfl (cell := ce) (by rw [hT]; exact hcell) (by rw [hv]; rfl)
    (by obtain ⟨k9, h9, -⟩ := Vm.findClass_spec hcl; exact ⟨k9, h9⟩) (fun z hz => by
      rcases hpass z hz with h | ⟨hz0, nm, hl1, hn1⟩
      · exact Or.inl h
      · obtain ⟨c6, hc6, hcl6⟩ := Cond.classLink_spec hown hl1 e.platform hpl
        obtain ⟨a8, b8, h1, h2, h3⟩ := hn1
        cases Option.some.inj (h1.symm.trans hcl)
        cases Option.some.inj (h2.symm.trans hc6)
        exact Or.inr ⟨hz0, _, hcl6, h3⟩)
  obtain ⟨g₀, hfr⟩ := X'.frames_eq
  have hcell9 : ((T.setVm vm').setFrames (.throwing q :: below)).heap[q]? = some ce := by
    show T.heap[q]? = some ce
    rw [hT]; exact hcell
  have hend : Ended ((T.setVm vm').setFrames (.throwing q :: below)) below (.threw q) := State.frames_setFrames _ (State.cur_lt_of_frames hfr)
  refine ⟨(T.setVm vm').setFrames (.throwing q :: below), ?_, .threw q, X'.here.running, hend, Or.inr ⟨q, rfl, E, ce, locs, hx _ hT (X'.ends _).1.alike, hcell9, hv, hcl, (X'.ends _).1, (X'.ends _).2.mono hc hs, hf⟩⟩
  rw [X.pushThrowing_eq]
  exact st
/-- a thing of a world lies in the heap -/
theorem vx_lt {D : va_G} {cl : List vw_C} {ws : va_W} {H1 : Heap} (h : va_P D cl ws H1) {k : Nat} {q : Nat × va_E} (hk : ws[k]? = some q) : q.1 < H1.size := (h k q hk).lt
end VXS
/-! ===== END ===== -/
/-! ===== BEGIN methods with a table of their own: called by a name, returning or throwing ===== -/
section VXH
/-! vx_backW, vx_callVX, vx_callSX, vx_callVW, vx_runVW, vx_runVX, vx_runSX, vx_ofWH follow the same proofs as their sisters above (Free/Laws.lean, Shelf42/LK1.lean); vx_outP calls Shelf42/NT130.lean (outThrough). -/
section
variable {l : Launch} {R : Room} {p : Program} {e : Env} {below : List Frame} {s : State} {sargs : Array Value} {y : MethodName} {len W9 : Nat}
theorem vx_backW {ws : List Cond} {rm : Room} {Pc : Array Value → State → Prop} {Qc : Array Value → State → Outcome → State → Prop} {XC : String → State → State → Prop} {mc ms : Nat} {free : Addr → Prop} {bytes : ByteArray} {maxL : Nat} {ret : Option FieldType} {hh : List (Nat × Nat × Nat × Nat)}
    (hM : vx_Met l y ws rm Pc Qc XC mc ms free) (hblind : FrameBlind Pc) (hrc : rm.cells = mc) (hrs : rm.slots = ms)
    (hframes : rm.frames + 1 ≤ R.frames) (hlocals : W9 + (maxL + 11) + rm.locals ≤ R.locals)
    (hws : ∀ w ∈ ws, ∀ a' U, s.WarmedH U.vm → w.before a' U = true) (hcode : Cond.codeWith y bytes maxL ret hh ∈ ws) (hinit : ∀ a' U, s.WarmedH U.vm → (Cond.initialized y.cls).before a' U = true) :
    vx_Back l R p e below s sargs y len W9 (PreOf R mc ms Pc) (PostOf Qc mc ms free) (vx_Post XC mc ms free) := by
  intro m meth c A g ig mk a X hg hsize hdg hW hn hp
  have h1 : (headSpec ws rm).pre.before a A.U = true := atoms_intro fun w hw => hws w hw _ _ X.warmed
  have h2 : (Cond.codeWith y bytes maxL ret hh).before a A.U = true := hws _ hcode _ _ X.warmed
  have h3 : (Cond.initialized y.cls).before a A.U = true := hinit _ _ X.warmed
  have h4 : A.cells + (headSpec ws rm).room.cells ≤ R.cells := by rw [show (headSpec ws rm).room.cells = mc from hrc]; exact hp.1
  have h5 : A.slots + (headSpec ws rm).room.slots ≤ R.slots := by rw [show (headSpec ws rm).room.slots = ms from hrs]; exact hp.2.1
  have hPc : Pc a (A.U.calling g mk a) := hblind _ _ _ _ hp.2.2
  obtain ⟨U, Ls, c0, s0⟩ := A
  dsimp only [Pt.U, Pt.locs, Pt.cells, Pt.slots] at h1 h2 h3 h4 h5 X hn hPc ⊢
  obtain ⟨m9, methY, cY, hn9, hmY, hcY, -, hlY, -⟩ := Cond.codeWith_spec h2
  cases Option.some.inj (hn9.symm.trans hn)
  obtain ⟨kY, hkY, -⟩ := className_of_methodNamed hn
  have hinitY : kY.init = .initialized := Cond.initialized_spec (findClass_of_methodNamed hn) hkY h3
  have h : At U g.method c below := by rw [hg]; exact X.here
  have hlocals9 : W9 + (maxL + 11) + (headSpec ws rm).room.locals ≤ R.locals := hlocals
  have happ : (headSpec ws rm).appliesLoose y e.platform (U.calling g mk a) = true :=
    Spec.appliesLoose_calling (g := g) h hdg hn hkY hinitY
      (X.room_calling (g := g) (R' := (headSpec ws rm).room) hsize hmY hcY hframes (by rw [hlY]; omega) h4 h5) h1
  obtain ⟨mid, hmid⟩ := h.above
  have hfr : (U.setTop g).frames = (.java g :: mid) ++ below := by rw [State.frames_setTop' g h.top, hmid]; rfl
  obtain ⟨o, s₂, hsteps, -, hend, hq⟩ := Steps.callFree hM p X.admits X.cas X.clock (acts := []) hfr happ hPc trivial
  have hq' : vx_Q Qc XC mc ms free a (U.calling g mk a) o s₂ := hq
  rw [State.frames_setTop' g h.top] at hend
  obtain ⟨g₀, hg0⟩ := Option.isSome_iff_exists.mp h.top
  obtain ⟨r, hr⟩ := State.topJava?_eq_some.mp hg0
  have hr' : (({ U with heap := s₂.heap, slotsUsed := s₂.slotsUsed } : State).setVm s₂.vm).frames = .java g₀ :: r := hr
  rcases hq' with ⟨hqc, L, hfe, hL⟩ | ⟨q, rfl, E, ce, L, hx, hce, hcv, hcl, hW₂, hsm, hL⟩
  · obtain ⟨⟨v, rfl⟩, hW₂, e2, q2, q3, q4, q5, q6⟩ := id hfe
    have e3 : s₂ = ({ (U.calling g mk a).setFrames s₂.frames with heap := s₂.heap, slotsUsed := s₂.slotsUsed } : State).setVm s₂.vm := by
      have : s₂ = ({ s₂ with vm := (U.calling g mk a).vm } : State).setVm s₂.vm := rfl
      rw [e2] at this
      exact this
    obtain ⟨c₂, i₂, len₂, hc₂, hd₂, hf₂⟩ := hend
    have hW' : U.WarmedH s₂.vm := hW₂
    have hcc : c₂ = c := by
      have h1 : s₂.code? g.method = U.code? g.method := by
        rw [State.code?_eq, State.code?_eq, hW'.alike.method?]
      exact Option.some.inj (hc₂.symm.trans (h1.trans h.code))
    subst hcc
    have hlen : len₂ = len := by rw [hdg] at hd₂; cases hd₂; rfl
    subst hlen
    have hs₂ : s₂ = (({ U with heap := s₂.heap, slotsUsed := s₂.slotsUsed } : State).setVm s₂.vm).setTop { g with pc := g.pc + len₂, stack := v.toList ++ g.stack } := by
      refine e3.trans ?_
      rw [hf₂, State.calling_eq h.top, State.setFrames_setFrames, State.setTop_of_frames _ hr', hr]
      rfl
    have hsame : U.sameButNew ({ U with heap := s₂.heap, slotsUsed := s₂.slotsUsed } : State) L mc ms := by
      refine ⟨?_, q2, q3, q4, q5, q6⟩
      obtain ⟨t, ht, -⟩ := State.frames_cons hr
      show ({ U with heap := s₂.heap, slotsUsed := s₂.slotsUsed } : State) = { U.setFrames U.frames with heap := s₂.heap, slotsUsed := s₂.slotsUsed }
      rw [State.setFrames_self ht]
    subst hg
    refine Or.inl ⟨v, ⟨(({ U with heap := s₂.heap, slotsUsed := s₂.slotsUsed } : State).setVm s₂.vm), Ls ++ L, c0 + mc, s0 + ms⟩,
      ⟨X.admits, X.cas, X.clock, X.frames, X.room, X.hears, X.method, X.code, (X.here.setHeapUsed s₂.heap s₂.slotsUsed).setVm hW'.alike, X.tail, State.WarmedH.trans X.warmed hW', X.limits, X.bytes, X.same.trans (hsame.setVm s.vm)⟩,
      ⟨g, mk, s₂, L, rfl, rfl, hqc, rfl, hL, rfl, rfl⟩, ?_⟩
    show Steps p.tables e below _ ((({ U with heap := s₂.heap, slotsUsed := s₂.slotsUsed } : State).setVm s₂.vm).setTop { g with pc := g.pc + len₂, stack := v.toList ++ g.stack })
    rw [← hs₂]
    exact hsteps
  · obtain ⟨e2, q2, q3, q4, q5, q6⟩ := id hsm
    have e3 : s₂ = ({ (U.calling g mk a).setFrames s₂.frames with heap := s₂.heap, slotsUsed := s₂.slotsUsed } : State).setVm s₂.vm := by
      have : s₂ = ({ s₂ with vm := (U.calling g mk a).vm } : State).setVm s₂.vm := rfl
      rw [e2] at this
      exact this
    have hf₂ : s₂.frames = .throwing q :: .java g :: U.frames.tail := hend
    have hW' : U.WarmedH s₂.vm := hW₂
    have hs₂ : s₂ = ((({ U with heap := s₂.heap, slotsUsed := s₂.slotsUsed } : State).setVm s₂.vm).setTop g).pushFrame (.throwing q) := by
      refine e3.trans ?_
      rw [hf₂, State.calling_eq h.top, State.setFrames_setFrames, State.pushFrame, State.frames_setTop _ hr', State.setTop_of_frames _ hr', State.setFrames_setFrames, hr]
      rfl
    have hsame : U.sameButNew ({ U with heap := s₂.heap, slotsUsed := s₂.slotsUsed } : State) L mc ms := by
      refine ⟨?_, q2, q3, q4, q5, q6⟩
      obtain ⟨t, ht, -⟩ := State.frames_cons hr
      show ({ U with heap := s₂.heap, slotsUsed := s₂.slotsUsed } : State) = { U.setFrames U.frames with heap := s₂.heap, slotsUsed := s₂.slotsUsed }
      rw [State.setFrames_self ht]
    subst hg
    refine Or.inr ⟨q, ⟨(({ U with heap := s₂.heap, slotsUsed := s₂.slotsUsed } : State).setVm s₂.vm), Ls ++ L, c0 + mc, s0 + ms⟩,
      ⟨X.admits, X.cas, X.clock, X.frames, X.room, X.hears, X.method, X.code, (X.here.setHeapUsed s₂.heap s₂.slotsUsed).setVm hW'.alike, X.tail, State.WarmedH.trans X.warmed hW', X.limits, X.bytes, X.same.trans (hsame.setVm s.vm)⟩,
      ⟨g, mk, s₂, L, E, ce, rfl, rfl, hx, hce, hcv, hcl, rfl, hL, rfl, rfl⟩, ?_⟩
    show Steps p.tables e below _ (((({ U with heap := s₂.heap, slotsUsed := s₂.slotsUsed } : State).setVm s₂.vm).setTop g).pushFrame (.throwing q))
    rw [← hs₂]
    exact hsteps
end
variable {p : Program} {l : Launch} {e : Env} {R : Room} {s : State} {m : MethodId} {args : Array Value} {below : List Frame} {meth : Method} {c : Code} {T : State} {H : Heap} {locs : List Loc} {cells slots : Nat}
theorem vx_callVX (X : Stand p l e R s m args below meth c T locs cells slots) (hexec : p.tables.exec = Jvm.exec) {own C : String} {index : Nat} {y : MethodName} {bytes : ByteArray} {maxL : Nat} {ret : Option FieldType} {hh : List (Nat × Nat × Nat × Nat)}
    (hown : s.vm.findClass own = some m.cls) (hlink : (Cond.methodLink own index y).before args s = true) (hinst : (Cond.instanceMethod y).before args s = true) (hsel : (Cond.selects C y y).before args s = true)
    (hcode : (Cond.codeWith y bytes maxL ret hh).before args s = true) (hy : y.cls ≠ "java/lang/invoke/MethodHandle" ∧ y.cls ≠ "java/lang/invoke/VarHandle")
    {W9 : Nat} {Pre : Pt → Array Value → Prop} {Post : Pt → Array Value → Option Value → Pt → Prop} {PostX : Pt → Array Value → Addr → Pt → Prop} (hK : vx_Back l R p e below s args y 3 W9 Pre Post PostX)
    {b : Addr} {cellB : Cell} (hcell : T.heap[b]? = some cellB) (hobj : cellB.vm.isStatics = false) (hcls : s.vm.findClass C = some cellB.cls)
    {g : JFrame} (hg : g.method = m) (hsize : g.locals.size = c.maxLocals) {argsL rest : List Value} (hlen : ∀ sig, parseMethodDescriptor y.desc = some sig → argsL.length = sig.parameters.length)
    (hstack : g.stack = argsL.reverse ++ .ref b :: rest) (hW : 2 * g.monitorRoom + (rest.map fun v => v.category).sum ≤ W9) (hdg : decode c.code g.pc = .ok (.invokevirtual index, 3))
    (hpre : ∀ vm₁, s.WarmedH vm₁ → Pre ⟨T.setVm vm₁, locs, cells, slots⟩ (Value.ref b :: argsL).toArray) :
    (∃ (v : Option Value) (vm₁ : Vm) (B : Pt), s.WarmedH vm₁ ∧ Stand p l e R s m args below meth c B.U B.locs B.cells B.slots ∧ Post ⟨T.setVm vm₁, locs, cells, slots⟩ (Value.ref b :: argsL).toArray v B ∧
      ∀ target, Steps p.tables e below (B.U.setTop { g with pc := g.pc + 3, stack := v.toList ++ rest }) target → Steps p.tables e below (T.setTop g) target) ∨
    (∃ (q : Addr) (vm₁ : Vm) (B : Pt), s.WarmedH vm₁ ∧ Stand p l e R s m args below meth c B.U B.locs B.cells B.slots ∧ PostX ⟨T.setVm vm₁, locs, cells, slots⟩ (Value.ref b :: argsL).toArray q B ∧
      Steps p.tables e below (T.setTop g) ((B.U.setTop { g with stack := rest }).pushFrame (.throwing q))) := by
  obtain ⟨mk, methM, hnamed, hmethM, hstM, habM⟩ := Cond.instanceMethod_spec hinst
  obtain ⟨m8, methM', cM, hn8, hmethM', -, -, -, -, -, -, hsigM⟩ := Cond.codeWith_spec hcode
  cases Option.some.inj (hn8.symm.trans hnamed)
  cases hmethM.symm.trans hmethM'
  obtain ⟨c2, r2, m2, q1, q2, q3, q4, kP, hkP, hkPi⟩ := Cond.selects_spec hsel
  cases hcls.symm.trans q1
  cases (State.methodFound?_of_named hnamed hy).symm.trans q2
  cases hnamed.symm.trans q3
  have hselP : selectMethod e.platform s.vm cellB.cls mk = .method mk := by rw [Launch.admits_selectMethod X.admits]; exact q4
  obtain ⟨vm₁, X₁, hstep₁⟩ := X.invokevirtual hexec hown hlink hnamed hmethM hstM hkP hkPi hy (a := b) (cell := cellB) hcell
    (fun z h => by rw [h] at hobj; cases hobj) hselP hmethM habM hkP hkPi (g := g) hg (argsL := argsL) (rest := rest) (hlen _ hsigM) hstack hdg
  rcases hK m meth c ⟨T.setVm vm₁, locs, cells, slots⟩ { g with stack := rest } (.invokevirtual index) mk (Value.ref b :: argsL).toArray X₁ hg hsize hdg hW (X₁.named hnamed) (hpre vm₁ X₁.warmed) with ⟨v, B, X', hpost, hsteps⟩ | ⟨q, B, X', hpost, hsteps⟩
  · exact Or.inl ⟨v, vm₁, B, X₁.warmed, X', hpost, fun target h => hstep₁ _ fun acts => by rw [doInvoke_state]; exact hsteps.trans h⟩
  · exact Or.inr ⟨q, vm₁, B, X₁.warmed, X', hpost, hstep₁ _ fun acts => by rw [doInvoke_state]; exact hsteps⟩
theorem vx_callSX (X : Stand p l e R s m args below meth c T locs cells slots) (hexec : p.tables.exec = Jvm.exec) {own : String} {index : Nat} {y : MethodName} {bytes : ByteArray} {maxL : Nat} {ret : Option FieldType} {hh : List (Nat × Nat × Nat × Nat)}
    (hown : s.vm.findClass own = some m.cls) (hlink : (Cond.methodLink own index y).before args s = true) (hstat : (Cond.static y).before args s = true) (hinit : (Cond.initialized y.cls).before args s = true)
    (hcode : (Cond.codeWith y bytes maxL ret hh).before args s = true) (hy : y.cls ≠ "java/lang/invoke/MethodHandle" ∧ y.cls ≠ "java/lang/invoke/VarHandle")
    {W9 : Nat} {Pre : Pt → Array Value → Prop} {Post : Pt → Array Value → Option Value → Pt → Prop} {PostX : Pt → Array Value → Addr → Pt → Prop} (hK : vx_Back l R p e below s args y 3 W9 Pre Post PostX)
    {g : JFrame} (hg : g.method = m) (hsize : g.locals.size = c.maxLocals) {argsL rest : List Value} (hlen : ∀ sig, parseMethodDescriptor y.desc = some sig → argsL.length = sig.parameters.length)
    (hstack : g.stack = argsL.reverse ++ rest) (hW : 2 * g.monitorRoom + (rest.map fun v => v.category).sum ≤ W9) (hdg : decode c.code g.pc = .ok (.invokestatic index, 3))
    (hpre : ∀ vm₁, s.WarmedH vm₁ → Pre ⟨T.setVm vm₁, locs, cells, slots⟩ argsL.toArray) :
    (∃ (v : Option Value) (vm₁ : Vm) (B : Pt), s.WarmedH vm₁ ∧ Stand p l e R s m args below meth c B.U B.locs B.cells B.slots ∧ Post ⟨T.setVm vm₁, locs, cells, slots⟩ argsL.toArray v B ∧
      ∀ target, Steps p.tables e below (B.U.setTop { g with pc := g.pc + 3, stack := v.toList ++ rest }) target → Steps p.tables e below (T.setTop g) target) ∨
    (∃ (q : Addr) (vm₁ : Vm) (B : Pt), s.WarmedH vm₁ ∧ Stand p l e R s m args below meth c B.U B.locs B.cells B.slots ∧ PostX ⟨T.setVm vm₁, locs, cells, slots⟩ argsL.toArray q B ∧
      Steps p.tables e below (T.setTop g) ((B.U.setTop { g with stack := rest }).pushFrame (.throwing q))) := by
  obtain ⟨mk, methM, cM, hnamed, hmethM, -, -, -, -, -, -, hsigM⟩ := Cond.codeWith_spec hcode
  have hstatic : methM.isStatic = true := Cond.static_spec hnamed hmethM hstat
  obtain ⟨kP, hkP, -⟩ := className_of_methodNamed hnamed
  have hinitP : kP.init = .initialized := Cond.initialized_spec (findClass_of_methodNamed hnamed) hkP hinit
  obtain ⟨vm₁, X₁, hstep₁⟩ := X.invokestatic hexec hown hlink hnamed hmethM hstatic hkP hinitP hy (g := g) hg (argsL := argsL) (rest := rest) (hlen _ hsigM) hstack hdg
  rcases hK m meth c ⟨T.setVm vm₁, locs, cells, slots⟩ { g with stack := rest } (.invokestatic index) mk argsL.toArray X₁ hg hsize hdg hW (X₁.named hnamed) (hpre vm₁ X₁.warmed) with ⟨v, B, X', hpost, hsteps⟩ | ⟨q, B, X', hpost, hsteps⟩
  · exact Or.inl ⟨v, vm₁, B, X₁.warmed, X', hpost, fun target h => hstep₁ _ fun acts => by rw [doInvoke_state]; exact hsteps.trans h⟩
  · exact Or.inr ⟨q, vm₁, B, X₁.warmed, X', hpost, hstep₁ _ fun acts => by rw [doInvoke_state]; exact hsteps⟩
theorem vx_callVW (X : Stand p l e R s m args below meth c T locs cells slots) (hexec : p.tables.exec = Jvm.exec) {own C : String} {index : Nat} {y : MethodName} {bytes : ByteArray} {maxL : Nat} {ret : Option FieldType} {hh : List (Nat × Nat × Nat × Nat)}
    (hown : s.vm.findClass own = some m.cls) (hlink : (Cond.methodLink own index y).before args s = true) (hinst : (Cond.instanceMethod y).before args s = true) (hsel : (Cond.selects C y y).before args s = true)
    (hcode : (Cond.codeWith y bytes maxL ret hh).before args s = true) (hy : y.cls ≠ "java/lang/invoke/MethodHandle" ∧ y.cls ≠ "java/lang/invoke/VarHandle")
    {W9 : Nat} {Pre : Pt → Array Value → Prop} {Post : Pt → Array Value → Option Value → Pt → Prop} (hK : Back l R p e below s args y 3 W9 Pre Post)
    {b : Addr} {cellB : Cell} (hcell : T.heap[b]? = some cellB) (hobj : cellB.vm.isStatics = false) (hcls : s.vm.findClass C = some cellB.cls)
    {g : JFrame} (hg : g.method = m) (hsize : g.locals.size = c.maxLocals) {argsL rest : List Value} (hlen : ∀ sig, parseMethodDescriptor y.desc = some sig → argsL.length = sig.parameters.length)
    (hstack : g.stack = argsL.reverse ++ .ref b :: rest) (hW : 2 * g.monitorRoom + (rest.map fun v => v.category).sum ≤ W9) (hdg : decode c.code g.pc = .ok (.invokevirtual index, 3))
    (hpre : ∀ vm₁, s.WarmedH vm₁ → Pre ⟨T.setVm vm₁, locs, cells, slots⟩ (Value.ref b :: argsL).toArray) :
    ∃ (v : Option Value) (vm₁ : Vm) (B : Pt), s.WarmedH vm₁ ∧ Stand p l e R s m args below meth c B.U B.locs B.cells B.slots ∧ Post ⟨T.setVm vm₁, locs, cells, slots⟩ (Value.ref b :: argsL).toArray v B ∧
      ∀ target, Steps p.tables e below (B.U.setTop { g with pc := g.pc + 3, stack := v.toList ++ rest }) target → Steps p.tables e below (T.setTop g) target := by
  obtain ⟨mk, methM, hnamed, hmethM, hstM, habM⟩ := Cond.instanceMethod_spec hinst
  obtain ⟨m8, methM', cM, hn8, hmethM', -, -, -, -, -, -, hsigM⟩ := Cond.codeWith_spec hcode
  cases Option.some.inj (hn8.symm.trans hnamed)
  cases hmethM.symm.trans hmethM'
  obtain ⟨c2, r2, m2, q1, q2, q3, q4, kP, hkP, hkPi⟩ := Cond.selects_spec hsel
  cases hcls.symm.trans q1
  cases (State.methodFound?_of_named hnamed hy).symm.trans q2
  cases hnamed.symm.trans q3
  have hselP : selectMethod e.platform s.vm cellB.cls mk = .method mk := by rw [Launch.admits_selectMethod X.admits]; exact q4
  obtain ⟨vm₁, X₁, hstep₁⟩ := X.invokevirtual hexec hown hlink hnamed hmethM hstM hkP hkPi hy (a := b) (cell := cellB) hcell
    (fun z h => by rw [h] at hobj; cases hobj) hselP hmethM habM hkP hkPi (g := g) hg (argsL := argsL) (rest := rest) (hlen _ hsigM) hstack hdg
  obtain ⟨v, B, X', hpost, hsteps⟩ := hK m meth c ⟨T.setVm vm₁, locs, cells, slots⟩ { g with stack := rest } (.invokevirtual index) mk (Value.ref b :: argsL).toArray X₁ hg hsize hdg hW (X₁.named hnamed) (hpre vm₁ X₁.warmed)
  exact ⟨v, vm₁, B, X₁.warmed, X', hpost, fun target h => hstep₁ _ fun acts => by rw [doInvoke_state]; exact hsteps.trans h⟩
abbrev vx_CVW (R : Room) (s : State) (args : Array Value) (own C : String) (index : Nat) (y : MethodName) (bytes : ByteArray) (maxL : Nat) (ret : Option FieldType) (hh : List (Nat × Nat × Nat × Nat)) (ws : List Cond) (rm : Room) (mc ms n : Nat) : Prop :=
  (rm.cells = mc ∧ rm.slots = ms ∧ rm.frames + 1 ≤ R.frames ∧ 8 + (maxL + 11) + rm.locals ≤ R.locals ∧ (∀ w ∈ ws, ∀ (a' : Array Value) (U : State), s.WarmedH U.vm → w.before a' U = true) ∧ Cond.codeWith y bytes maxL ret hh ∈ ws) ∧
  (Cond.codeWith y bytes maxL ret hh).before args s = true ∧ (Cond.initialized y.cls).before args s = true ∧ (y.cls ≠ "java/lang/invoke/MethodHandle" ∧ y.cls ≠ "java/lang/invoke/VarHandle") ∧
  (∀ sig, parseMethodDescriptor y.desc = some sig → n = sig.parameters.length) ∧ (Cond.methodLink own index y).before args s = true ∧ (Cond.instanceMethod y).before args s = true ∧ (Cond.selects C y y).before args s = true
theorem vx_cwVW {own C : String} {index maxL mc ms : Nat} {y : MethodName} {bytes : ByteArray} {ret : Option FieldType} {hh : List (Nat × Nat × Nat × Nat)} {Ts ws ws' : List Cond} {rm : Room} (n : Nat) (ht : ∀ w ∈ Ts, w.before args s = true) (hT : GoodIn Ts (wsV own index C y ws)) (hw : ws = Cond.codeWith y bytes maxL ret hh :: ws') (hrc : rm.cells = mc) (hrs : rm.slots = ms)
    (hd : y.cls = C ∧ y.cls ≠ "java/lang/invoke/MethodHandle" ∧ y.cls ≠ "java/lang/invoke/VarHandle" ∧ (parseMethodDescriptor y.desc).map (fun d => d.parameters.length) = some n) (hR : rm.frames + 1 ≤ R.frames ∧ 8 + (maxL + 11) + rm.locals ≤ R.locals) :
    vx_CVW R s args own C index y bytes maxL ret hh ws rm mc ms n := by
  obtain ⟨hC, hd⟩ := hd
  subst hC
  have ok : ∀ w ∈ wsV own index y.cls y ws, w.before args s = true := fun w h => ht w (hT w h).1
  have hG : GoodIn Ts ws := fun w h => hT w (by unfold wsV; exact List.mem_append_right _ h)
  have hc : Cond.codeWith y bytes maxL ret hh ∈ ws := by rw [hw]; exact List.mem_cons_self
  refine ⟨⟨hrc, hrs, hR.1, hR.2, pay_in ht hG, hc⟩, ht _ (hG _ hc).1, ok _ (by simp [wsV]), ⟨hd.1, hd.2.1⟩, fun sig h => ?_, ok _ (by simp [wsV]), ok _ (by simp [wsV]), ok _ (by simp [wsV])⟩
  have h2 := hd.2.2
  rw [h] at h2
  exact (Option.some.inj h2).symm
theorem vx_runVW {y : MethodName} {bytes cc : ByteArray} {maxL nL mc ms n index : Nat} {ret : Option FieldType} {hh : List (Nat × Nat × Nat × Nat)} {ws : List Cond} {rm : Room} {Pc : Array Value → State → Prop} {Qc : Array Value → State → Outcome → State → Prop} {free : Addr → Prop} {Ts : List Cond} {own C : String} {b : Addr} {As rest : List Value} {g : JFrame}
    (S : CallFix p m c cc nL s args Ts own) (hM : Met l y ws rm Pc Qc mc ms free) (cw : vx_CVW R s args own C index y bytes maxL ret hh ws rm mc ms n) (hp : PreV s H C b Pc As)
    (hg : g.method = m) (hn : As.length = n) (hsize : g.locals.size = nL) (hstack : g.stack = As.reverse ++ .ref b :: rest) (hW : 2 * g.monitorRoom + (rest.map fun v => v.category).sum ≤ 8) (hdg : decode cc g.pc = .ok (.invokevirtual index, 3)) (hf : cells + mc ≤ R.cells ∧ slots + ms ≤ R.slots) :
    va_Run p l e R s m args below meth c H locs cells slots mc ms g rest (Qc (Value.ref b :: As).toArray) free := by
  obtain ⟨⟨hrc, hrs, hfr, hlo, hws, hcw⟩, hcode, hini, hy, hlen, hl, hin, hse⟩ := cw
  have hK : Back l R p e below s args y 3 8 (PreOf R mc ms Pc) (PostOf Qc mc ms free) := va_backW (hh := hh) (bytes := bytes) (maxL := maxL) (ret := ret) hM hp.1 hrc hrs hfr hlo hws hcw (fun a' U hW => word_at hW (Or.inl (by first | rfl | simp [Cond.onTables, Cond.keeps, Cond.steady])) hini)
  obtain ⟨hx, hb, hml, ho, -⟩ := S
  obtain ⟨-, ⟨cellB, hcB, hoB, hclB⟩, hPc⟩ := hp
  intro T hT X
  obtain ⟨v, vm₁, ⟨U', l2, c2, s2⟩, hW₁, X', ⟨g', mk, t, L, e1, e2, hq, h1, hL, h2, h3⟩, st⟩ := vx_callVW X hx (C := C) (hh := hh) (bytes := bytes) (maxL := maxL) (ret := ret) ho hl hin hse hcode hy hK (by rw [hT]; exact hcB) hoB hclB hg (hsize.trans hml.symm) (argsL := As) (rest := rest) (fun sig h => hn.trans (hlen sig h)) hstack hW (by rw [hb]; exact hdg)
    (fun vm₁ hW₁ => ⟨hf.1, hf.2, hPc (T.setVm vm₁) hT hW₁⟩)
  dsimp only [Pt.U, Pt.locs, Pt.cells, Pt.slots] at X' e1 e2 h1 h2 h3 st
  subst h1; subst h2; subst h3
  exact ⟨v, (T.setVm vm₁).calling g' mk (Value.ref b :: As).toArray, t, U', L, hT, X', hL, e1, e2, hq, st⟩
section
variable {y : MethodName} {bytes cc : ByteArray} {maxL nL mc ms n index : Nat} {ret : Option FieldType} {ws : List Cond} {rm : Room} {Pc : Array Value → State → Prop} {Qc : Array Value → State → Outcome → State → Prop} {XC : String → State → State → Prop} {free : Addr → Prop} {Ts : List Cond} {own C : String} {b : Addr} {As rest : List Value} {g : JFrame}
theorem vx_runVX {hh : List (Nat × Nat × Nat × Nat)} (S : CallFix p m c cc nL s args Ts own) (hM : vx_Met l y ws rm Pc Qc XC mc ms free) (cw : vx_CVW R s args own C index y bytes maxL ret hh ws rm mc ms n) (hp : PreV s H C b Pc As)
    (hg : g.method = m) (hn : As.length = n) (hsize : g.locals.size = nL) (hstack : g.stack = As.reverse ++ .ref b :: rest) (hW : 2 * g.monitorRoom + (rest.map fun v => v.category).sum ≤ 8) (hdg : decode cc g.pc = .ok (.invokevirtual index, 3)) (hf : cells + mc ≤ R.cells ∧ slots + ms ≤ R.slots) :
    vx_Run p l e R s m args below meth c H locs cells slots mc ms g rest (Qc (Value.ref b :: As).toArray) XC free := by
  obtain ⟨⟨hrc, hrs, hfr, hlo, hws, hcw⟩, hcode, hini, hy, hlen, hl, hin, hse⟩ := cw
  have hK : vx_Back l R p e below s args y 3 8 (PreOf R mc ms Pc) (PostOf Qc mc ms free) (vx_Post XC mc ms free) := vx_backW (hh := hh) (bytes := bytes) (maxL := maxL) (ret := ret) hM hp.1 hrc hrs hfr hlo hws hcw (fun a' U hW => word_at hW (Or.inl (by first | rfl | simp [Cond.onTables, Cond.keeps, Cond.steady])) hini)
  obtain ⟨hx, hb, hml, ho, -⟩ := S
  obtain ⟨-, ⟨cellB, hcB, hoB, hclB⟩, hPc⟩ := hp
  intro T hT X
  rcases vx_callVX X hx (C := C) (hh := hh) (bytes := bytes) (maxL := maxL) (ret := ret) ho hl hin hse hcode hy hK (by rw [hT]; exact hcB) hoB hclB hg (hsize.trans hml.symm) (argsL := As) (rest := rest) (fun sig h => hn.trans (hlen sig h)) hstack hW (by rw [hb]; exact hdg)
    (fun vm₁ hW₁ => ⟨hf.1, hf.2, hPc (T.setVm vm₁) hT hW₁⟩) with ⟨v, vm₁, ⟨U', l2, c2, s2⟩, hW₁, X', ⟨g', mk, t, L, e1, e2, hq, h1, hL, h2, h3⟩, st⟩ | ⟨q, vm₁, ⟨U', l2, c2, s2⟩, hW₁, X', ⟨g', mk, t, L, E, ce, e1, e2, hq, hce, hcv, hcl, h1, hL, h2, h3⟩, st⟩
  · dsimp only [Pt.U, Pt.locs, Pt.cells, Pt.slots] at X' e1 e2 h1 h2 h3 st
    subst h1; subst h2; subst h3
    exact Or.inl ⟨v, (T.setVm vm₁).calling g' mk (Value.ref b :: As).toArray, t, U', L, hT, X', hL, e1, e2, hq, st⟩
  · dsimp only [Pt.U, Pt.locs, Pt.cells, Pt.slots] at X' e1 e2 h1 h2 h3 st hcl
    subst h1; subst h2; subst h3
    exact Or.inr ⟨q, (T.setVm vm₁).calling g' mk (Value.ref b :: As).toArray, t, U', L, E, ce, hT, X', hL, e1, e2, hq, hce, hcv, vx_cls hW₁ hcl, st⟩
theorem vx_runSX {hh : List (Nat × Nat × Nat × Nat)} (S : CallFix p m c cc nL s args Ts own) (hM : vx_Met l y ws rm Pc Qc XC mc ms free) (cw : vx_CSW R s args own index y bytes maxL ret hh ws rm mc ms n) (hp : PreS s H Pc As)
    (hg : g.method = m) (hn : As.length = n) (hsize : g.locals.size = nL) (hstack : g.stack = As.reverse ++ rest) (hW : 2 * g.monitorRoom + (rest.map fun v => v.category).sum ≤ 8) (hdg : decode cc g.pc = .ok (.invokestatic index, 3)) (hf : cells + mc ≤ R.cells ∧ slots + ms ≤ R.slots) :
    vx_Run p l e R s m args below meth c H locs cells slots mc ms g rest (Qc As.toArray) XC free := by
  obtain ⟨⟨hrc, hrs, hfr, hlo, hws, hcw⟩, hcode, hini, hy, hlen, hl, hstt⟩ := cw
  have hK : vx_Back l R p e below s args y 3 8 (PreOf R mc ms Pc) (PostOf Qc mc ms free) (vx_Post XC mc ms free) := vx_backW (hh := hh) (bytes := bytes) (maxL := maxL) (ret := ret) hM hp.1 hrc hrs hfr hlo hws hcw (fun a' U hW => word_at hW (Or.inl (by first | rfl | simp [Cond.onTables, Cond.keeps, Cond.steady])) hini)
  obtain ⟨hx, hb, hml, ho, -⟩ := S
  intro T hT X
  rcases vx_callSX X hx (hh := hh) (bytes := bytes) (maxL := maxL) (ret := ret) ho hl hstt hini hcode hy hK hg (hsize.trans hml.symm) (argsL := As) (rest := rest) (fun sig h => hn.trans (hlen sig h)) hstack hW (by rw [hb]; exact hdg)
    (fun vm₁ hW₁ => ⟨hf.1, hf.2, hp.2 (T.setVm vm₁) hT hW₁⟩) with ⟨v, vm₁, ⟨U', l2, c2, s2⟩, hW₁, X', ⟨g', mk, t, L, e1, e2, hq, h1, hL, h2, h3⟩, st⟩ | ⟨q, vm₁, ⟨U', l2, c2, s2⟩, hW₁, X', ⟨g', mk, t, L, E, ce, e1, e2, hq, hce, hcv, hcl, h1, hL, h2, h3⟩, st⟩
  · dsimp only [Pt.U, Pt.locs, Pt.cells, Pt.slots] at X' e1 e2 h1 h2 h3 st
    subst h1; subst h2; subst h3
    exact Or.inl ⟨v, (T.setVm vm₁).calling g' mk As.toArray, t, U', L, hT, X', hL, e1, e2, hq, st⟩
  · dsimp only [Pt.U, Pt.locs, Pt.cells, Pt.slots] at X' e1 e2 h1 h2 h3 st hcl
    subst h1; subst h2; subst h3
    exact Or.inr ⟨q, (T.setVm vm₁).calling g' mk As.toArray, t, U', L, E, ce, hT, X', hL, e1, e2, hq, hce, hcv, vx_cls hW₁ hcl, st⟩
end
end VXH
theorem vx_ofWH {l : Launch} {y : MethodName} {ws ws' : List Cond} {rm : Room} {Pc : Array Value → State → Prop} {Qc : Array Value → State → Outcome → State → Prop} {XC : String → State → State → Prop} {mc ms : Nat} {free : Addr → Prop} {cc : ByteArray} {maxL : Nat} {ret : Option FieldType} {hh : List (Nat × Nat × Nat × Nat)}
    (hy : plainName y.cls = true) (hw : ws = Cond.codeWith y cc maxL ret hh :: ws')
    (body : ∀ p e s m args below meth c s₁, BodyLoose p l y (headSpec ws rm) cc maxL ret e s m args below meth c s₁ → c.maxLocals = maxL → Pc args s →
      W p l e (headSpec ws rm).room s m args below meth c s.heap [] 0 0 (vx_MQ below Qc XC args s mc ms free) (entryFrame m args maxL)) : vx_Met l y ws rm Pc Qc XC mc ms free := by
  refine MetFree.of_bodyS (code := cc) (maxLocals := maxL) (ret := ret) hy ?_ ?_
  · intro args s m h hn
    obtain ⟨m9, meth, c, hn9, h1, h2, h3, h4, -, h5, h6, -⟩ := Cond.codeWith_spec (atoms_spec (ws := ws) h _ (by rw [hw]; exact List.mem_cons_self))
    cases hn.symm.trans hn9
    exact ⟨meth, c, h1, h2, h3, h4, h5, h6⟩
  · intro p e s m args below meth c s₁ B hml hP _
    have hh0 : s₁.heap = s.heap := by rw [B.state]; rfl
    obtain ⟨t, a1, o, b1, b2, b3⟩ := body p e s m args below meth c s₁ B hml hP s₁ hh0 (Stand.of_body B)
    exact ⟨t, o, a1, b1, b2, b3⟩
/-! ===== END ===== -/

def RX0 : String := "EstateSettlement$Estate"
def TX0 : u_T := fun k => match k with
  | 0 => ("EstateSettlement$Estate", "personCount", "I", false)
  | 1 => ("EstateSettlement$Estate", "names", "[J", true)
  | 2 => ("EstateSettlement$Estate", "parents", "[I", true)
  | 3 => ("EstateSettlement$Estate", "spouse", "I", false)
  | 4 => ("EstateSettlement$Estate", "assetCount", "I", false)
  | 5 => ("EstateSettlement$Estate", "charges", "[I", true)
  | 6 => ("EstateSettlement$Estate", "legacyCount", "I", false)
  | 7 => ("EstateSettlement$Estate", "legatees", "[I", true)
  | 8 => ("EstateSettlement$Estate", "legacyAmounts", "[I", true)
  | 9 => ("EstateSettlement$Estate", "whole", "I", false)
  | 10 => ("EstateSettlement$Estate", "part", "I", false)
  | _ => ("EstateSettlement$Estate", "life", "I", false)
def tyX0 : Nat → FieldType := fun k => match k with
  | 0 => .int
  | 1 => .array .long
  | 2 => .array .int
  | 3 => .int
  | 4 => .int
  | 5 => .array .int
  | 6 => .int
  | 7 => .array .int
  | 8 => .array .int
  | 9 => .int
  | 10 => .int
  | _ => .int
abbrev wsX00 : List Cond := u_ws RX0 TX0 12
theorem nmX0 : ∀ a, a < 12 → ∀ b, b < 12 → a ≠ b → (TX0 a).2.1 ≠ (TX0 b).2.1 := by decide +kernel
theorem tyX0_ok : ∀ k, k < 12 → parseFieldDescriptor (TX0 k).2.2.1 = some (tyX0 k) := by decide +kernel
abbrev cX0_init : ByteArray := prog_2_method_1_code
def yX0_init : MethodName := ⟨RX0, "<init>", "()V"⟩
abbrev cX0_clear : ByteArray := prog_2_method_2_code
def yX0_clear : MethodName := ⟨RX0, "clear", "()V"⟩
abbrev cX0_copy : ByteArray := prog_2_method_3_code
def yX0_copy : MethodName := ⟨RX0, "copy", "(LEstateSettlement$Estate;)V"⟩
abbrev cX0_personNamed : ByteArray := prog_2_method_4_code
def yX0_personNamed : MethodName := ⟨RX0, "personNamed", "(J)I"⟩
abbrev cX0_childrenOf : ByteArray := prog_2_method_5_code
def yX0_childrenOf : MethodName := ⟨RX0, "childrenOf", "(I)I"⟩
abbrev cX0_putPerson : ByteArray := prog_2_method_6_code
def yX0_putPerson : MethodName := ⟨RX0, "putPerson", "(JI)V"⟩
abbrev cX0_putAsset : ByteArray := prog_2_method_7_code
def yX0_putAsset : MethodName := ⟨RX0, "putAsset", "(I)V"⟩
abbrev cX0_putLegacy : ByteArray := prog_2_method_8_code
def yX0_putLegacy : MethodName := ⟨RX0, "putLegacy", "(II)V"⟩
def RX1 : String := "EstateSettlement$Input"
def TX1 : u_T := fun k => match k with
  | 0 => ("EstateSettlement$Input", "bytes", "[B", true)
  | 1 => ("EstateSettlement$Input", "length", "I", false)
  | 2 => ("EstateSettlement$Input", "textLength", "I", false)
  | 3 => ("EstateSettlement$Input", "kind", "I", false)
  | 4 => ("EstateSettlement$Input", "start", "I", false)
  | _ => ("EstateSettlement$Input", "end", "I", false)
def tyX1 : Nat → FieldType := fun k => match k with
  | 0 => .array .byte
  | 1 => .int
  | 2 => .int
  | 3 => .int
  | 4 => .int
  | _ => .int
abbrev wsX10 : List Cond := u_ws RX1 TX1 6
theorem nmX1 : ∀ a, a < 6 → ∀ b, b < 6 → a ≠ b → (TX1 a).2.1 ≠ (TX1 b).2.1 := by decide +kernel
theorem tyX1_ok : ∀ k, k < 6 → parseFieldDescriptor (TX1 k).2.2.1 = some (tyX1 k) := by decide +kernel
abbrev cX1_init : ByteArray := prog_3_method_1_code
def yX1_init : MethodName := ⟨RX1, "<init>", "()V"⟩
abbrev cX1_hasRoom : ByteArray := prog_3_method_2_code
def yX1_hasRoom : MethodName := ⟨RX1, "hasRoom", "()Z"⟩
abbrev cX1_add : ByteArray := prog_3_method_3_code
def yX1_add : MethodName := ⟨RX1, "add", "(I)V"⟩
abbrev cX1_clear : ByteArray := prog_3_method_4_code
def yX1_clear : MethodName := ⟨RX1, "clear", "()V"⟩
abbrev cX1_open : ByteArray := prog_3_method_5_code
def yX1_open : MethodName := ⟨RX1, "open", "(I)V"⟩
abbrev cX1_advance : ByteArray := prog_3_method_6_code
def yX1_advance : MethodName := ⟨RX1, "advance", "()V"⟩
abbrev cX1_isWord : ByteArray := prog_3_method_7_code
def yX1_isWord : MethodName := ⟨RX1, "isWord", "(Ljava/lang/String;)Z"⟩
abbrev cX1_word : ByteArray := prog_3_method_8_code
def yX1_word : MethodName := ⟨RX1, "word", "()J"⟩
abbrev cX1_number : ByteArray := prog_3_method_9_code
def yX1_number : MethodName := ⟨RX1, "number", "()I"⟩
abbrev cX1_byteAt : ByteArray := prog_3_method_11_code
def yX1_byteAt : MethodName := ⟨RX1, "byteAt", "(I)I"⟩
abbrev cX1_kindAt : ByteArray := prog_3_method_12_code
def yX1_kindAt : MethodName := ⟨RX1, "kindAt", "(I)I"⟩
def RX2 : String := "EstateSettlement$Inventory"
def TX2 : u_T := fun k => match k with
  | 0 => ("EstateSettlement$Inventory", "netEstate", "I", false)
  | 1 => ("EstateSettlement$Inventory", "debtsPaid", "I", false)
  | 2 => ("EstateSettlement$Inventory", "debtsUnpaid", "I", false)
  | 3 => ("EstateSettlement$Inventory", "legaciesPaid", "I", false)
  | 4 => ("EstateSettlement$Inventory", "residue", "I", false)
  | 5 => ("EstateSettlement$Inventory", "debtPaid", "[I", true)
  | 6 => ("EstateSettlement$Inventory", "legacyPaid", "[I", true)
  | 7 => ("EstateSettlement$Inventory", "claims", "[I", true)
  | _ => ("EstateSettlement$Inventory", "parts", "[I", true)
def tyX2 : Nat → FieldType := fun k => match k with
  | 0 => .int
  | 1 => .int
  | 2 => .int
  | 3 => .int
  | 4 => .int
  | 5 => .array .int
  | 6 => .array .int
  | 7 => .array .int
  | _ => .array .int
abbrev wsX20 : List Cond := u_ws RX2 TX2 9
theorem nmX2 : ∀ a, a < 9 → ∀ b, b < 9 → a ≠ b → (TX2 a).2.1 ≠ (TX2 b).2.1 := by decide +kernel
theorem tyX2_ok : ∀ k, k < 9 → parseFieldDescriptor (TX2 k).2.2.1 = some (tyX2 k) := by decide +kernel
abbrev cX2_init : ByteArray := prog_4_method_1_code
def yX2_init : MethodName := ⟨RX2, "<init>", "()V"⟩
abbrev cX2_netValue : ByteArray := prog_4_method_2_code
def yX2_netValue : MethodName := ⟨RX2, "netValue", "(LEstateSettlement$Estate;LEstateSettlement$State;I)I"⟩
abbrev cX2_addUpAssets : ByteArray := prog_4_method_3_code
def yX2_addUpAssets : MethodName := ⟨RX2, "addUpAssets", "(LEstateSettlement$Estate;LEstateSettlement$State;)V"⟩
abbrev cX2_payDebts : ByteArray := prog_4_method_4_code
def yX2_payDebts : MethodName := ⟨RX2, "payDebts", "(LEstateSettlement$State;)V"⟩
abbrev cX2_claimDebts : ByteArray := prog_4_method_5_code
def yX2_claimDebts : MethodName := ⟨RX2, "claimDebts", "(LEstateSettlement$State;I)V"⟩
abbrev cX2_payLegacies : ByteArray := prog_4_method_6_code
def yX2_payLegacies : MethodName := ⟨RX2, "payLegacies", "(LEstateSettlement$Estate;LEstateSettlement$State;)V"⟩
def RX3 : String := "EstateSettlement$Lines"
def TX3 : u_T := fun k => match k with
  | 0 => ("EstateSettlement$Lines", "heirs", "I", false)
  | 1 => ("EstateSettlement$Lines", "notEmpty", "I", false)
  | 2 => ("EstateSettlement$Lines", "openLines", "[I", true)
  | 3 => ("EstateSettlement$Lines", "divisors", "[I", true)
  | _ => ("EstateSettlement$Lines", "weights", "[I", true)
def tyX3 : Nat → FieldType := fun k => match k with
  | 0 => .int
  | 1 => .int
  | 2 => .array .int
  | 3 => .array .int
  | _ => .array .int
abbrev wsX30 : List Cond := u_ws RX3 TX3 5
theorem nmX3 : ∀ a, a < 5 → ∀ b, b < 5 → a ≠ b → (TX3 a).2.1 ≠ (TX3 b).2.1 := by decide +kernel
theorem tyX3_ok : ∀ k, k < 5 → parseFieldDescriptor (TX3 k).2.2.1 = some (tyX3 k) := by decide +kernel
abbrev cX3_init : ByteArray := prog_5_method_1_code
def yX3_init : MethodName := ⟨RX3, "<init>", "()V"⟩
abbrev cX3_findOpenLines : ByteArray := prog_5_method_2_code
def yX3_findOpenLines : MethodName := ⟨RX3, "findOpenLines", "(LEstateSettlement$Estate;LEstateSettlement$State;)V"⟩
abbrev cX3_countLine : ByteArray := prog_5_method_3_code
def yX3_countLine : MethodName := ⟨RX3, "countLine", "(I)V"⟩
abbrev cX3_findHeirs : ByteArray := prog_5_method_4_code
def yX3_findHeirs : MethodName := ⟨RX3, "findHeirs", "(LEstateSettlement$Estate;LEstateSettlement$State;)V"⟩
abbrev cX3_divisorBelow : ByteArray := prog_5_method_5_code
def yX3_divisorBelow : MethodName := ⟨RX3, "divisorBelow", "(LEstateSettlement$State;I)I"⟩
abbrev cX3_findWeights : ByteArray := prog_5_method_6_code
def yX3_findWeights : MethodName := ⟨RX3, "findWeights", "()V"⟩
def RX4 : String := "EstateSettlement$Memory"
def TX4 : u_T := fun k => match k with
  | 0 => ("EstateSettlement$Memory", "undoRows", "[I", true)
  | 1 => ("EstateSettlement$Memory", "slotRows", "[I", true)
  | 2 => ("EstateSettlement$Memory", "undoCount", "I", false)
  | _ => ("EstateSettlement$Memory", "usedSlots", "I", false)
def tyX4 : Nat → FieldType := fun k => match k with
  | 0 => .array .int
  | 1 => .array .int
  | 2 => .int
  | _ => .int
abbrev wsX40 : List Cond := u_ws RX4 TX4 4
theorem nmX4 : ∀ a, a < 4 → ∀ b, b < 4 → a ≠ b → (TX4 a).2.1 ≠ (TX4 b).2.1 := by decide +kernel
theorem tyX4_ok : ∀ k, k < 4 → parseFieldDescriptor (TX4 k).2.2.1 = some (tyX4 k) := by decide +kernel
abbrev cX4_init : ByteArray := prog_6_method_1_code
def yX4_init : MethodName := ⟨RX4, "<init>", "()V"⟩
abbrev cX4_clearUndo : ByteArray := prog_6_method_2_code
def yX4_clearUndo : MethodName := ⟨RX4, "clearUndo", "()V"⟩
abbrev cX4_clearSlots : ByteArray := prog_6_method_3_code
def yX4_clearSlots : MethodName := ⟨RX4, "clearSlots", "()V"⟩
abbrev cX4_remember : ByteArray := prog_6_method_4_code
def yX4_remember : MethodName := ⟨RX4, "remember", "(LEstateSettlement$State;)V"⟩
def RX5 : String := "EstateSettlement$Parser"
def TX5 : u_T := fun k => match k with
  | 0 => ("EstateSettlement$Parser", "input", "LEstateSettlement$Input;", true)
  | 1 => ("EstateSettlement$Parser", "estate", "LEstateSettlement$Estate;", true)
  | 2 => ("EstateSettlement$Parser", "state", "LEstateSettlement$State;", true)
  | 3 => ("EstateSettlement$Parser", "errorPosition", "I", false)
  | 4 => ("EstateSettlement$Parser", "errorCode", "I", false)
  | 5 => ("EstateSettlement$Parser", "shareRead", "Z", false)
  | 6 => ("EstateSettlement$Parser", "lifeRead", "Z", false)
  | 7 => ("EstateSettlement$Parser", "accrueRead", "Z", false)
  | 8 => ("EstateSettlement$Parser", "numberRead", "I", false)
  | _ => ("EstateSettlement$Parser", "personRead", "I", false)
def tyX5 : Nat → FieldType := fun k => match k with
  | 0 => .object "EstateSettlement$Input"
  | 1 => .object "EstateSettlement$Estate"
  | 2 => .object "EstateSettlement$State"
  | 3 => .int
  | 4 => .int
  | 5 => .boolean
  | 6 => .boolean
  | 7 => .boolean
  | 8 => .int
  | _ => .int
abbrev wsX50 : List Cond := u_ws RX5 TX5 10
theorem nmX5 : ∀ a, a < 10 → ∀ b, b < 10 → a ≠ b → (TX5 a).2.1 ≠ (TX5 b).2.1 := by decide +kernel
theorem tyX5_ok : ∀ k, k < 10 → parseFieldDescriptor (TX5 k).2.2.1 = some (tyX5 k) := by decide +kernel
abbrev cX5_init : ByteArray := prog_7_method_1_code
def yX5_init : MethodName := ⟨RX5, "<init>", "()V"⟩
abbrev cX5_read : ByteArray := prog_7_method_2_code
def yX5_read : MethodName := ⟨RX5, "read", "(I)I"⟩
abbrev cX5_fail : ByteArray := prog_7_method_3_code
def yX5_fail : MethodName := ⟨RX5, "fail", "(I)Z"⟩
abbrev cX5_readStatement : ByteArray := prog_7_method_4_code
def yX5_readStatement : MethodName := ⟨RX5, "readStatement", "()Z"⟩
abbrev cX5_readSemicolon : ByteArray := prog_7_method_5_code
def yX5_readSemicolon : MethodName := ⟨RX5, "readSemicolon", "()Z"⟩
abbrev cX5_readPerson : ByteArray := prog_7_method_6_code
def yX5_readPerson : MethodName := ⟨RX5, "readPerson", "()Z"⟩
abbrev cX5_readStanding : ByteArray := prog_7_method_7_code
def yX5_readStanding : MethodName := ⟨RX5, "readStanding", "(II)Z"⟩
abbrev cX5_readAsset : ByteArray := prog_7_method_8_code
def yX5_readAsset : MethodName := ⟨RX5, "readAsset", "()Z"⟩
abbrev cX5_readDebt : ByteArray := prog_7_method_9_code
def yX5_readDebt : MethodName := ⟨RX5, "readDebt", "()Z"⟩
abbrev cX5_readGift : ByteArray := prog_7_method_10_code
def yX5_readGift : MethodName := ⟨RX5, "readGift", "()Z"⟩
abbrev cX5_readLegacy : ByteArray := prog_7_method_11_code
def yX5_readLegacy : MethodName := ⟨RX5, "readLegacy", "()Z"⟩
abbrev cX5_readShare : ByteArray := prog_7_method_12_code
def yX5_readShare : MethodName := ⟨RX5, "readShare", "()Z"⟩
abbrev cX5_readLife : ByteArray := prog_7_method_13_code
def yX5_readLife : MethodName := ⟨RX5, "readLife", "()Z"⟩
abbrev cX5_readAccrue : ByteArray := prog_7_method_14_code
def yX5_readAccrue : MethodName := ⟨RX5, "readAccrue", "()Z"⟩
abbrev cX5_readNumber : ByteArray := prog_7_method_15_code
def yX5_readNumber : MethodName := ⟨RX5, "readNumber", "(II)Z"⟩
abbrev cX5_readKnownPerson : ByteArray := prog_7_method_16_code
def yX5_readKnownPerson : MethodName := ⟨RX5, "readKnownPerson", "(I)Z"⟩
def RX6 : String := "EstateSettlement$Portions"
def TX6 : u_T := fun k => match k with
  | 0 => ("EstateSettlement$Portions", "leftOut", "I", false)
  | 1 => ("EstateSettlement$Portions", "pot", "I", false)
  | 2 => ("EstateSettlement$Portions", "weightSum", "I", false)
  | 3 => ("EstateSettlement$Portions", "gifts", "[I", true)
  | 4 => ("EstateSettlement$Portions", "weights", "[I", true)
  | _ => ("EstateSettlement$Portions", "parts", "[I", true)
def tyX6 : Nat → FieldType := fun k => match k with
  | 0 => .int
  | 1 => .int
  | 2 => .int
  | 3 => .array .int
  | 4 => .array .int
  | _ => .array .int
abbrev wsX60 : List Cond := u_ws RX6 TX6 6
theorem nmX6 : ∀ a, a < 6 → ∀ b, b < 6 → a ≠ b → (TX6 a).2.1 ≠ (TX6 b).2.1 := by decide +kernel
theorem tyX6_ok : ∀ k, k < 6 → parseFieldDescriptor (TX6 k).2.2.1 = some (tyX6 k) := by decide +kernel
abbrev cX6_init : ByteArray := prog_8_method_1_code
def yX6_init : MethodName := ⟨RX6, "<init>", "()V"⟩
abbrev cX6_bring : ByteArray := prog_8_method_2_code
def yX6_bring : MethodName := ⟨RX6, "bring", "(LEstateSettlement$State;)V"⟩
abbrev cX6_bringFurther : ByteArray := prog_8_method_3_code
def yX6_bringFurther : MethodName := ⟨RX6, "bringFurther", "(II)V"⟩
abbrev cX6_divide : ByteArray := prog_8_method_4_code
def yX6_divide : MethodName := ⟨RX6, "divide", "(ILEstateSettlement$Lines;)V"⟩
abbrev cX6_due : ByteArray := prog_8_method_5_code
def yX6_due : MethodName := ⟨RX6, "due", "(I)I"⟩
abbrev cX6_cent : ByteArray := prog_8_method_6_code
def yX6_cent : MethodName := ⟨RX6, "cent", "(I)I"⟩
abbrev cX6_fromFund : ByteArray := prog_8_method_7_code
def yX6_fromFund : MethodName := ⟨RX6, "fromFund", "(I)I"⟩
abbrev cX6_isInAccount : ByteArray := prog_8_method_8_code
def yX6_isInAccount : MethodName := ⟨RX6, "isInAccount", "(I)Z"⟩
abbrev cX6_reckon : ByteArray := prog_8_method_9_code
def yX6_reckon : MethodName := ⟨RX6, "reckon", "(I)V"⟩
abbrev cX6_findOverpaid : ByteArray := prog_8_method_10_code
def yX6_findOverpaid : MethodName := ⟨RX6, "findOverpaid", "()I"⟩
def RX7 : String := "EstateSettlement$Settlement"
def TX7 : u_T := fun k => match k with
  | 0 => ("EstateSettlement$Settlement", "inventory", "LEstateSettlement$Inventory;", true)
  | 1 => ("EstateSettlement$Settlement", "lines", "LEstateSettlement$Lines;", true)
  | 2 => ("EstateSettlement$Settlement", "portions", "LEstateSettlement$Portions;", true)
  | 3 => ("EstateSettlement$Settlement", "spouseShare", "I", false)
  | 4 => ("EstateSettlement$Settlement", "burdened", "I", false)
  | 5 => ("EstateSettlement$Settlement", "worth", "I", false)
  | 6 => ("EstateSettlement$Settlement", "fund", "I", false)
  | _ => ("EstateSettlement$Settlement", "toTheState", "I", false)
def tyX7 : Nat → FieldType := fun k => match k with
  | 0 => .object "EstateSettlement$Inventory"
  | 1 => .object "EstateSettlement$Lines"
  | 2 => .object "EstateSettlement$Portions"
  | 3 => .int
  | 4 => .int
  | 5 => .int
  | 6 => .int
  | _ => .int
abbrev wsX70 : List Cond := u_ws RX7 TX7 8
theorem nmX7 : ∀ a, a < 8 → ∀ b, b < 8 → a ≠ b → (TX7 a).2.1 ≠ (TX7 b).2.1 := by decide +kernel
theorem tyX7_ok : ∀ k, k < 8 → parseFieldDescriptor (TX7 k).2.2.1 = some (tyX7 k) := by decide +kernel
abbrev cX7_init : ByteArray := prog_9_method_1_code
def yX7_init : MethodName := ⟨RX7, "<init>", "()V"⟩
abbrev cX7_lifeFactor : ByteArray := prog_9_method_2_code
def yX7_lifeFactor : MethodName := ⟨RX7, "lifeFactor", "(I)I"⟩
abbrev cX7_settle : ByteArray := prog_9_method_3_code
def yX7_settle : MethodName := ⟨RX7, "settle", "(LEstateSettlement$Estate;LEstateSettlement$State;)V"⟩
abbrev cX7_givenTo : ByteArray := prog_9_method_4_code
def yX7_givenTo : MethodName := ⟨RX7, "givenTo", "(LEstateSettlement$Estate;I)I"⟩
abbrev cX7_divideResidue : ByteArray := prog_9_method_5_code
def yX7_divideResidue : MethodName := ⟨RX7, "divideResidue", "(LEstateSettlement$Estate;LEstateSettlement$State;)V"⟩
def RX8 : String := "EstateSettlement$State"
def TX8 : u_T := fun k => match k with
  | _ => ("EstateSettlement$State", "cells", "[I", true)
def tyX8 : Nat → FieldType := fun k => match k with
  | _ => .array .int
abbrev wsX80 : List Cond := u_ws RX8 TX8 1
theorem nmX8 : ∀ a, a < 1 → ∀ b, b < 1 → a ≠ b → (TX8 a).2.1 ≠ (TX8 b).2.1 := by decide +kernel
theorem tyX8_ok : ∀ k, k < 1 → parseFieldDescriptor (TX8 k).2.2.1 = some (tyX8 k) := by decide +kernel
abbrev cX8_init : ByteArray := prog_10_method_1_code
def yX8_init : MethodName := ⟨RX8, "<init>", "()V"⟩
abbrev cX8_clear : ByteArray := prog_10_method_2_code
def yX8_clear : MethodName := ⟨RX8, "clear", "()V"⟩
abbrev cX8_copy : ByteArray := prog_10_method_3_code
def yX8_copy : MethodName := ⟨RX8, "copy", "(LEstateSettlement$State;)V"⟩
abbrev cX8_writeTo : ByteArray := prog_10_method_4_code
def yX8_writeTo : MethodName := ⟨RX8, "writeTo", "([II)V"⟩
abbrev cX8_age : ByteArray := prog_10_method_6_code
def yX8_age : MethodName := ⟨RX8, "age", "(I)I"⟩
abbrev cX8_isDead : ByteArray := prog_10_method_7_code
def yX8_isDead : MethodName := ⟨RX8, "isDead", "(I)Z"⟩
abbrev cX8_isRefusing : ByteArray := prog_10_method_8_code
def yX8_isRefusing : MethodName := ⟨RX8, "isRefusing", "(I)Z"⟩
abbrev cX8_takes : ByteArray := prog_10_method_9_code
def yX8_takes : MethodName := ⟨RX8, "takes", "(I)Z"⟩
abbrev cX8_passesOn : ByteArray := prog_10_method_10_code
def yX8_passesOn : MethodName := ⟨RX8, "passesOn", "(I)Z"⟩
abbrev cX8_accruesInLine : ByteArray := prog_10_method_11_code
def yX8_accruesInLine : MethodName := ⟨RX8, "accruesInLine", "()Z"⟩
abbrev cX8_value : ByteArray := prog_10_method_12_code
def yX8_value : MethodName := ⟨RX8, "value", "(I)I"⟩
abbrev cX8_giftCount : ByteArray := prog_10_method_13_code
def yX8_giftCount : MethodName := ⟨RX8, "giftCount", "()I"⟩
abbrev cX8_giftsTo : ByteArray := prog_10_method_14_code
def yX8_giftsTo : MethodName := ⟨RX8, "giftsTo", "(I)I"⟩
abbrev cX8_debtCount : ByteArray := prog_10_method_15_code
def yX8_debtCount : MethodName := ⟨RX8, "debtCount", "()I"⟩
abbrev cX8_debtRank : ByteArray := prog_10_method_16_code
def yX8_debtRank : MethodName := ⟨RX8, "debtRank", "(I)I"⟩
abbrev cX8_debtAmount : ByteArray := prog_10_method_17_code
def yX8_debtAmount : MethodName := ⟨RX8, "debtAmount", "(I)I"⟩
abbrev cX8_putAge : ByteArray := prog_10_method_18_code
def yX8_putAge : MethodName := ⟨RX8, "putAge", "(II)V"⟩
abbrev cX8_putDead : ByteArray := prog_10_method_19_code
def yX8_putDead : MethodName := ⟨RX8, "putDead", "(I)V"⟩
abbrev cX8_putRefusing : ByteArray := prog_10_method_20_code
def yX8_putRefusing : MethodName := ⟨RX8, "putRefusing", "(IZ)V"⟩
abbrev cX8_putAccrual : ByteArray := prog_10_method_21_code
def yX8_putAccrual : MethodName := ⟨RX8, "putAccrual", "(Z)V"⟩
abbrev cX8_putValue : ByteArray := prog_10_method_22_code
def yX8_putValue : MethodName := ⟨RX8, "putValue", "(II)V"⟩
abbrev cX8_putGift : ByteArray := prog_10_method_23_code
def yX8_putGift : MethodName := ⟨RX8, "putGift", "(II)V"⟩
abbrev cX8_putDebt : ByteArray := prog_10_method_24_code
def yX8_putDebt : MethodName := ⟨RX8, "putDebt", "(II)V"⟩
abbrev cX8_cell : ByteArray := prog_10_method_25_code
def yX8_cell : MethodName := ⟨RX8, "cell", "(III)I"⟩
abbrev cX8_putCell : ByteArray := prog_10_method_26_code
def yX8_putCell : MethodName := ⟨RX8, "putCell", "(IIII)V"⟩
def RX9 : String := "EstateSettlement"
def TX9 : u_T := fun k => match k with
  | 0 => ("EstateSettlement", "parser", "LEstateSettlement$Parser;", true)
  | 1 => ("EstateSettlement", "estate", "LEstateSettlement$Estate;", true)
  | 2 => ("EstateSettlement", "state", "LEstateSettlement$State;", true)
  | 3 => ("EstateSettlement", "settlement", "LEstateSettlement$Settlement;", true)
  | 4 => ("EstateSettlement", "trialState", "LEstateSettlement$State;", true)
  | 5 => ("EstateSettlement", "trial", "LEstateSettlement$Settlement;", true)
  | 6 => ("EstateSettlement", "memory", "LEstateSettlement$Memory;", true)
  | _ => ("EstateSettlement", "lastErrorPosition", "I", false)
def tyX9 : Nat → FieldType := fun k => match k with
  | 0 => .object "EstateSettlement$Parser"
  | 1 => .object "EstateSettlement$Estate"
  | 2 => .object "EstateSettlement$State"
  | 3 => .object "EstateSettlement$Settlement"
  | 4 => .object "EstateSettlement$State"
  | 5 => .object "EstateSettlement$Settlement"
  | 6 => .object "EstateSettlement$Memory"
  | _ => .int
abbrev wsX90 : List Cond := u_ws RX9 TX9 8
theorem nmX9 : ∀ a, a < 8 → ∀ b, b < 8 → a ≠ b → (TX9 a).2.1 ≠ (TX9 b).2.1 := by decide +kernel
theorem tyX9_ok : ∀ k, k < 8 → parseFieldDescriptor (TX9 k).2.2.1 = some (tyX9 k) := by decide +kernel
abbrev cX9_init : ByteArray := prog_1_method_1_code
def yX9_init : MethodName := ⟨RX9, "<init>", "()V"⟩
abbrev cX9_append : ByteArray := prog_1_method_2_code
def yX9_append : MethodName := ⟨RX9, "append", "(IIIII)I"⟩
abbrev cX9_parse : ByteArray := prog_1_method_3_code
def yX9_parse : MethodName := ⟨RX9, "parse", "(I)I"⟩
abbrev cX9_size : ByteArray := prog_1_method_5_code
def yX9_size : MethodName := ⟨RX9, "size", "(I)I"⟩
abbrev cX9_person : ByteArray := prog_1_method_7_code
def yX9_person : MethodName := ⟨RX9, "person", "(II)I"⟩
abbrev cX9_debt : ByteArray := prog_1_method_9_code
def yX9_debt : MethodName := ⟨RX9, "debt", "(II)I"⟩
abbrev cX9_legacy : ByteArray := prog_1_method_10_code
def yX9_legacy : MethodName := ⟨RX9, "legacy", "(II)I"⟩
abbrev cX9_account : ByteArray := prog_1_method_11_code
def yX9_account : MethodName := ⟨RX9, "account", "(I)I"⟩
abbrev cX9_heirs : ByteArray := prog_1_method_13_code
def yX9_heirs : MethodName := ⟨RX9, "heirs", "()I"⟩
abbrev cX9_leftOut : ByteArray := prog_1_method_14_code
def yX9_leftOut : MethodName := ⟨RX9, "leftOut", "()I"⟩
abbrev cX9_isEmpty : ByteArray := prog_1_method_15_code
def yX9_isEmpty : MethodName := ⟨RX9, "isEmpty", "(I)Z"⟩
abbrev cX9_step : ByteArray := prog_1_method_16_code
def yX9_step : MethodName := ⟨RX9, "step", "(II)I"⟩
abbrev cX9_given : ByteArray := prog_1_method_17_code
def yX9_given : MethodName := ⟨RX9, "given", "(I)I"⟩
abbrev cX9_isBalanced : ByteArray := prog_1_method_18_code
def yX9_isBalanced : MethodName := ⟨RX9, "isBalanced", "()Z"⟩
abbrev cX9_givenIf : ByteArray := prog_1_method_19_code
def yX9_givenIf : MethodName := ⟨RX9, "givenIf", "(II)I"⟩
abbrev cX9_helper : ByteArray := prog_1_method_20_code
def yX9_helper : MethodName := ⟨RX9, "helper", "(I)I"⟩
abbrev cX9_tooMuch : ByteArray := prog_1_method_21_code
def yX9_tooMuch : MethodName := ⟨RX9, "tooMuch", "(I)I"⟩
abbrev cX9_givenIfRefused : ByteArray := prog_1_method_22_code
def yX9_givenIfRefused : MethodName := ⟨RX9, "givenIfRefused", "(II)I"⟩
abbrev cX9_isLeftOutWith : ByteArray := prog_1_method_23_code
def yX9_isLeftOutWith : MethodName := ⟨RX9, "isLeftOutWith", "(II)Z"⟩
abbrev cX9_refuse : ByteArray := prog_1_method_24_code
def yX9_refuse : MethodName := ⟨RX9, "refuse", "(IZ)Z"⟩
abbrev cX9_die : ByteArray := prog_1_method_25_code
def yX9_die : MethodName := ⟨RX9, "die", "(I)I"⟩
abbrev cX9_setAge : ByteArray := prog_1_method_26_code
def yX9_setAge : MethodName := ⟨RX9, "setAge", "(II)I"⟩
abbrev cX9_addGift : ByteArray := prog_1_method_27_code
def yX9_addGift : MethodName := ⟨RX9, "addGift", "(II)I"⟩
abbrev cX9_setValue : ByteArray := prog_1_method_29_code
def yX9_setValue : MethodName := ⟨RX9, "setValue", "(II)I"⟩
abbrev cX9_setAccrue : ByteArray := prog_1_method_30_code
def yX9_setAccrue : MethodName := ⟨RX9, "setAccrue", "(Z)I"⟩
abbrev cX9_requirePerson : ByteArray := prog_1_method_34_code
def yX9_requirePerson : MethodName := ⟨RX9, "requirePerson", "(I)V"⟩
abbrev cX9_requireAsset : ByteArray := prog_1_method_35_code
def yX9_requireAsset : MethodName := ⟨RX9, "requireAsset", "(I)V"⟩
abbrev cX9_requireWhat : ByteArray := prog_1_method_37_code
def yX9_requireWhat : MethodName := ⟨RX9, "requireWhat", "(II)V"⟩
abbrev cX9_requireRange : ByteArray := prog_1_method_38_code
def yX9_requireRange : MethodName := ⟨RX9, "requireRange", "(III)V"⟩
abbrev cX9_at : ByteArray := prog_1_method_39_code
def yX9_at : MethodName := ⟨RX9, "at", "([II)I"⟩
abbrev cX9_asInt : ByteArray := prog_1_method_40_code
def yX9_asInt : MethodName := ⟨RX9, "asInt", "(Z)I"⟩
abbrev cX9_hasBit : ByteArray := prog_1_method_41_code
def yX9_hasBit : MethodName := ⟨RX9, "hasBit", "(II)Z"⟩
abbrev cX9_portion : ByteArray := prog_1_method_42_code
def yX9_portion : MethodName := ⟨RX9, "portion", "(III)I"⟩
abbrev cX9_greatestCommonDivisor : ByteArray := prog_1_method_43_code
def yX9_greatestCommonDivisor : MethodName := ⟨RX9, "greatestCommonDivisor", "(II)I"⟩
abbrev cX9_leastCommonMultiple : ByteArray := prog_1_method_44_code
def yX9_leastCommonMultiple : MethodName := ⟨RX9, "leastCommonMultiple", "(II)I"⟩
abbrev cX9_sumOf : ByteArray := prog_1_method_45_code
def yX9_sumOf : MethodName := ⟨RX9, "sumOf", "([I)I"⟩
abbrev cX9_split : ByteArray := prog_1_method_46_code
def yX9_split : MethodName := ⟨RX9, "split", "(I[I[I)V"⟩
def RX10 : String := "EstateSettlementLaw$Estate"
def TX10 : u_T := fun k => match k with
  | 0 => ("EstateSettlementLaw$Estate", "persons", "I", false)
  | 1 => ("EstateSettlementLaw$Estate", "spouse", "I", false)
  | 2 => ("EstateSettlementLaw$Estate", "whole", "I", false)
  | 3 => ("EstateSettlementLaw$Estate", "part", "I", false)
  | 4 => ("EstateSettlementLaw$Estate", "life", "I", false)
  | 5 => ("EstateSettlementLaw$Estate", "line", "Z", false)
  | 6 => ("EstateSettlementLaw$Estate", "parent", "[I", true)
  | 7 => ("EstateSettlementLaw$Estate", "age", "[I", true)
  | 8 => ("EstateSettlementLaw$Estate", "dead", "[Z", true)
  | 9 => ("EstateSettlementLaw$Estate", "refuses", "[Z", true)
  | 10 => ("EstateSettlementLaw$Estate", "assets", "[[I", false)
  | 11 => ("EstateSettlementLaw$Estate", "debts", "[[I", false)
  | 12 => ("EstateSettlementLaw$Estate", "gifts", "[[I", false)
  | 13 => ("EstateSettlementLaw$Estate", "legacies", "[[I", false)
  | 14 => ("EstateSettlementLaw$Estate", "paid", "[I", false)
  | 15 => ("EstateSettlementLaw$Estate", "bequeathed", "[I", false)
  | 16 => ("EstateSettlementLaw$Estate", "divisors", "[I", false)
  | 17 => ("EstateSettlementLaw$Estate", "got", "[I", false)
  | 18 => ("EstateSettlementLaw$Estate", "weights", "[I", false)
  | 19 => ("EstateSettlementLaw$Estate", "dues", "[I", false)
  | 20 => ("EstateSettlementLaw$Estate", "out", "[Z", false)
  | 21 => ("EstateSettlementLaw$Estate", "cents", "[Z", false)
  | 22 => ("EstateSettlementLaw$Estate", "net", "J", false)
  | 23 => ("EstateSettlementLaw$Estate", "owed", "J", false)
  | 24 => ("EstateSettlementLaw$Estate", "residue", "J", false)
  | 25 => ("EstateSettlementLaw$Estate", "widow", "J", false)
  | 26 => ("EstateSettlementLaw$Estate", "burden", "J", false)
  | 27 => ("EstateSettlementLaw$Estate", "worth", "J", false)
  | 28 => ("EstateSettlementLaw$Estate", "fund", "J", false)
  | 29 => ("EstateSettlementLaw$Estate", "state", "J", false)
  | _ => ("EstateSettlementLaw$Estate", "pot", "J", false)
def tyX10 : Nat → FieldType := fun k => match k with
  | 0 => .int
  | 1 => .int
  | 2 => .int
  | 3 => .int
  | 4 => .int
  | 5 => .boolean
  | 6 => .array .int
  | 7 => .array .int
  | 8 => .array .boolean
  | 9 => .array .boolean
  | 10 => .array (.array .int)
  | 11 => .array (.array .int)
  | 12 => .array (.array .int)
  | 13 => .array (.array .int)
  | 14 => .array .int
  | 15 => .array .int
  | 16 => .array .int
  | 17 => .array .int
  | 18 => .array .int
  | 19 => .array .int
  | 20 => .array .boolean
  | 21 => .array .boolean
  | 22 => .long
  | 23 => .long
  | 24 => .long
  | 25 => .long
  | 26 => .long
  | 27 => .long
  | 28 => .long
  | 29 => .long
  | _ => .long
abbrev wsX100 : List Cond := u_ws RX10 TX10 31
theorem nmX10 : ∀ a, a < 31 → ∀ b, b < 31 → a ≠ b → (TX10 a).2.1 ≠ (TX10 b).2.1 := by decide +kernel
theorem tyX10_ok : ∀ k, k < 31 → parseFieldDescriptor (TX10 k).2.2.1 = some (tyX10 k) := by decide +kernel
abbrev cX10_init : ByteArray := prog_12_method_1_code
def yX10_init : MethodName := ⟨RX10, "<init>", "()V"⟩
abbrev cX10_takes : ByteArray := prog_12_method_2_code
def yX10_takes : MethodName := ⟨RX10, "takes", "(I)Z"⟩
abbrev cX10_isEmpty : ByteArray := prog_12_method_3_code
def yX10_isEmpty : MethodName := ⟨RX10, "isEmpty", "(I)Z"⟩
abbrev cX10_lines : ByteArray := prog_12_method_4_code
def yX10_lines : MethodName := ⟨RX10, "lines", "(I)I"⟩
abbrev cX10_goes : ByteArray := prog_12_method_5_code
def yX10_goes : MethodName := ⟨RX10, "goes", "(II)V"⟩
abbrev cX10_splits : ByteArray := prog_12_method_6_code
def yX10_splits : MethodName := ⟨RX10, "splits", "(J[J)[I"⟩
abbrev cX10_gift : ByteArray := prog_12_method_7_code
def yX10_gift : MethodName := ⟨RX10, "gift", "(I)I"⟩
abbrev cX10_factor : ByteArray := prog_12_method_8_code
def yX10_factor : MethodName := ⟨RX10, "factor", "(I)I"⟩
abbrev cX10_settles : ByteArray := prog_12_method_9_code
def yX10_settles : MethodName := ⟨RX10, "settles", "()V"⟩
abbrev cX10_shares : ByteArray := prog_12_method_10_code
def yX10_shares : MethodName := ⟨RX10, "shares", "()V"⟩
abbrev cX10_given : ByteArray := prog_12_method_11_code
def yX10_given : MethodName := ⟨RX10, "given", "(I)I"⟩
abbrev cX10_set : ByteArray := prog_12_method_12_code
def yX10_set : MethodName := ⟨RX10, "set", "(Z)I"⟩
def RX11 : String := "EstateSettlementModel"
def TX11 : u_T := fun k => match k with
  | _ => ("", "", "", false)
def tyX11 : Nat → FieldType := fun k => match k with
  | _ => .int
abbrev wsX110 : List Cond := u_ws RX11 TX11 0
theorem nmX11 : ∀ a, a < 0 → ∀ b, b < 0 → a ≠ b → (TX11 a).2.1 ≠ (TX11 b).2.1 := by decide +kernel
theorem tyX11_ok : ∀ k, k < 0 → parseFieldDescriptor (TX11 k).2.2.1 = some (tyX11 k) := by decide +kernel
def RJ5 : String := "java/lang/AbstractStringBuilder"
def TJ5 : u_T := fun k => match k with
  | _ => ("", "", "", false)
def tyJ5 : Nat → FieldType := fun k => match k with
  | _ => .int
abbrev wsJ50 : List Cond := u_ws RJ5 TJ5 0
theorem nmJ5 : ∀ a, a < 0 → ∀ b, b < 0 → a ≠ b → (TJ5 a).2.1 ≠ (TJ5 b).2.1 := by decide +kernel
theorem tyJ5_ok : ∀ k, k < 0 → parseFieldDescriptor (TJ5 k).2.2.1 = some (tyJ5 k) := by decide +kernel
abbrev cJ5_init_d00df : ByteArray := prog_14_method_2_code
def yJ5_init_d00df : MethodName := ⟨RJ5, "<init>", "(I)V"⟩
abbrev cJ5_length_8abf5 : ByteArray := prog_14_method_6_code
def yJ5_length_8abf5 : MethodName := ⟨RJ5, "length", "()I"⟩
abbrev cJ5_ensureCapacityInternal_d00df : ByteArray := prog_14_method_9_code
def yJ5_ensureCapacityInternal_d00df : MethodName := ⟨RJ5, "ensureCapacityInternal", "(I)V"⟩
abbrev cJ5_newCapacity_0f7a4 : ByteArray := prog_14_method_10_code
def yJ5_newCapacity_0f7a4 : MethodName := ⟨RJ5, "newCapacity", "(I)I"⟩
abbrev cJ5_inflate_da8c8 : ByteArray := prog_14_method_11_code
def yJ5_inflate_da8c8 : MethodName := ⟨RJ5, "inflate", "()V"⟩
abbrev cJ5_append_cf1ce : ByteArray := prog_14_method_22_code
def yJ5_append_cf1ce : MethodName := ⟨RJ5, "append", "(Ljava/lang/String;)Ljava/lang/AbstractStringBuilder;"⟩
abbrev cJ5_appendNull_278bc : ByteArray := prog_14_method_26_code
def yJ5_appendNull_278bc : MethodName := ⟨RJ5, "appendNull", "()Ljava/lang/AbstractStringBuilder;"⟩
abbrev cJ5_append_3fe6f : ByteArray := prog_14_method_31_code
def yJ5_append_3fe6f : MethodName := ⟨RJ5, "append", "(C)Ljava/lang/AbstractStringBuilder;"⟩
abbrev cJ5_append_c97b9 : ByteArray := prog_14_method_32_code
def yJ5_append_c97b9 : MethodName := ⟨RJ5, "append", "(I)Ljava/lang/AbstractStringBuilder;"⟩
abbrev cJ5_getValue_6d5f1 : ByteArray := prog_14_method_64_code
def yJ5_getValue_6d5f1 : MethodName := ⟨RJ5, "getValue", "()[B"⟩
abbrev cJ5_isLatin1_aae02 : ByteArray := prog_14_method_68_code
def yJ5_isLatin1_aae02 : MethodName := ⟨RJ5, "isLatin1", "()Z"⟩
abbrev cJ5_inflateIfNeededFor_a7421 : ByteArray := prog_14_method_71_code
def yJ5_inflateIfNeededFor_a7421 : MethodName := ⟨RJ5, "inflateIfNeededFor", "(Ljava/lang/String;)V"⟩
abbrev cJ5_putStringAt_47b60 : ByteArray := prog_14_method_73_code
def yJ5_putStringAt_47b60 : MethodName := ⟨RJ5, "putStringAt", "(ILjava/lang/String;)V"⟩
def RJx8e188 : String := "java/lang/Cloneable"
def TJx8e188 : u_T := fun k => match k with
  | _ => ("", "", "", false)
def tyJx8e188 : Nat → FieldType := fun k => match k with
  | _ => .int
abbrev wsJx8e1880 : List Cond := u_ws RJx8e188 TJx8e188 0
theorem nmJx8e188 : ∀ a, a < 0 → ∀ b, b < 0 → a ≠ b → (TJx8e188 a).2.1 ≠ (TJx8e188 b).2.1 := by decide +kernel
theorem tyJx8e188_ok : ∀ k, k < 0 → parseFieldDescriptor (TJx8e188 k).2.2.1 = some (tyJx8e188 k) := by decide +kernel
def RJ6 : String := "java/lang/Integer"
def TJ6 : u_T := fun k => match k with
  | _ => ("", "", "", false)
def tyJ6 : Nat → FieldType := fun k => match k with
  | _ => .int
abbrev wsJ60 : List Cond := u_ws RJ6 TJ6 0
theorem nmJ6 : ∀ a, a < 0 → ∀ b, b < 0 → a ≠ b → (TJ6 a).2.1 ≠ (TJ6 b).2.1 := by decide +kernel
theorem tyJ6_ok : ∀ k, k < 0 → parseFieldDescriptor (TJ6 k).2.2.1 = some (tyJ6 k) := by decide +kernel
abbrev cJ6_getChars_ba4f3 : ByteArray := prog_20_method_12_code
def yJ6_getChars_ba4f3 : MethodName := ⟨RJ6, "getChars", "(II[B)I"⟩
abbrev cJ6_stringSize_0f7a4 : ByteArray := prog_20_method_13_code
def yJ6_stringSize_0f7a4 : MethodName := ⟨RJ6, "stringSize", "(I)I"⟩
def RJ9 : String := "java/lang/Math"
def TJ9 : u_T := fun k => match k with
  | _ => ("", "", "", false)
def tyJ9 : Nat → FieldType := fun k => match k with
  | _ => .int
abbrev wsJ90 : List Cond := u_ws RJ9 TJ9 0
theorem nmJ9 : ∀ a, a < 0 → ∀ b, b < 0 → a ≠ b → (TJ9 a).2.1 ≠ (TJ9 b).2.1 := by decide +kernel
theorem tyJ9_ok : ∀ k, k < 0 → parseFieldDescriptor (TJ9 k).2.2.1 = some (tyJ9 k) := by decide +kernel
abbrev cJ9_max_7cf53 : ByteArray := prog_21_method_65_code
def yJ9_max_7cf53 : MethodName := ⟨RJ9, "max", "(II)I"⟩
abbrev cJ9_min_7cf53 : ByteArray := prog_21_method_69_code
def yJ9_min_7cf53 : MethodName := ⟨RJ9, "min", "(II)I"⟩
abbrev cJ9_min_f86c9 : ByteArray := prog_21_method_70_code
def yJ9_min_f86c9 : MethodName := ⟨RJ9, "min", "(JJ)J"⟩
def RJ0 : String := "java/lang/String"
def TJ0 : u_T := fun k => match k with
  | 0 => ("java/lang/String", "value", "[B", true)
  | 1 => ("java/lang/String", "coder", "B", true)
  | 2 => ("java/lang/String", "hash", "I", false)
  | _ => ("java/lang/String", "hashIsZero", "Z", false)
def tyJ0 : Nat → FieldType := fun k => match k with
  | 0 => .array .byte
  | 1 => .byte
  | 2 => .int
  | _ => .boolean
abbrev wsJ00 : List Cond := u_ws RJ0 TJ0 4
theorem nmJ0 : ∀ a, a < 4 → ∀ b, b < 4 → a ≠ b → (TJ0 a).2.1 ≠ (TJ0 b).2.1 := by decide +kernel
theorem tyJ0_ok : ∀ k, k < 4 → parseFieldDescriptor (TJ0 k).2.2.1 = some (tyJ0 k) := by decide +kernel
abbrev cJ0_init_81219 : ByteArray := prog_23_method_53_code
def yJ0_init_81219 : MethodName := ⟨RJ0, "<init>", "(Ljava/lang/StringBuilder;)V"⟩
abbrev cJ0_length_8abf5 : ByteArray := prog_23_method_54_code
def yJ0_length_8abf5 : MethodName := ⟨RJ0, "length", "()I"⟩
abbrev cJ0_charAt_5068e : ByteArray := prog_23_method_56_code
def yJ0_charAt_5068e : MethodName := ⟨RJ0, "charAt", "(I)C"⟩
abbrev cJ0_getBytes_840e7 : ByteArray := prog_23_method_147_code
def yJ0_getBytes_840e7 : MethodName := ⟨RJ0, "getBytes", "([BIB)V"⟩
abbrev cJ0_init_db425 : ByteArray := prog_23_method_150_code
def yJ0_init_db425 : MethodName := ⟨RJ0, "<init>", "(Ljava/lang/AbstractStringBuilder;Ljava/lang/Void;)V"⟩
abbrev cJ0_coder_7d493 : ByteArray := prog_23_method_152_code
def yJ0_coder_7d493 : MethodName := ⟨RJ0, "coder", "()B"⟩
abbrev cJ0_isLatin1_aae02 : ByteArray := prog_23_method_154_code
def yJ0_isLatin1_aae02 : MethodName := ⟨RJ0, "isLatin1", "()Z"⟩
abbrev cJ0_checkIndex_df160 : ByteArray := prog_23_method_155_code
def yJ0_checkIndex_df160 : MethodName := ⟨RJ0, "checkIndex", "(II)V"⟩
abbrev cJ0_checkBoundsOffCount_cabcc : ByteArray := prog_23_method_157_code
def yJ0_checkBoundsOffCount_cabcc : MethodName := ⟨RJ0, "checkBoundsOffCount", "(III)I"⟩
abbrev cJ0_checkBoundsBeginEnd_23922 : ByteArray := prog_23_method_158_code
def yJ0_checkBoundsBeginEnd_23922 : MethodName := ⟨RJ0, "checkBoundsBeginEnd", "(III)V"⟩
def RJ4 : String := "java/lang/StringBuilder"
def TJ4 : u_T := fun k => match k with
  | 0 => ("java/lang/AbstractStringBuilder", "value", "[B", false)
  | 1 => ("java/lang/AbstractStringBuilder", "coder", "B", false)
  | 2 => ("java/lang/AbstractStringBuilder", "maybeLatin1", "Z", false)
  | _ => ("java/lang/AbstractStringBuilder", "count", "I", false)
def tyJ4 : Nat → FieldType := fun k => match k with
  | 0 => .array .byte
  | 1 => .byte
  | 2 => .boolean
  | _ => .int
abbrev wsJ40 : List Cond := u_ws RJ4 TJ4 4
theorem nmJ4 : ∀ a, a < 4 → ∀ b, b < 4 → a ≠ b → (TJ4 a).2.1 ≠ (TJ4 b).2.1 := by decide +kernel
theorem tyJ4_ok : ∀ k, k < 4 → parseFieldDescriptor (TJ4 k).2.2.1 = some (tyJ4 k) := by decide +kernel
abbrev cJ4_init_da8c8 : ByteArray := prog_24_method_1_code
def yJ4_init_da8c8 : MethodName := ⟨RJ4, "<init>", "()V"⟩
abbrev cJ4_append_15ec4 : ByteArray := prog_24_method_7_code
def yJ4_append_15ec4 : MethodName := ⟨RJ4, "append", "(Ljava/lang/String;)Ljava/lang/StringBuilder;"⟩
abbrev cJ4_append_cf468 : ByteArray := prog_24_method_14_code
def yJ4_append_cf468 : MethodName := ⟨RJ4, "append", "(C)Ljava/lang/StringBuilder;"⟩
abbrev cJ4_append_bf812 : ByteArray := prog_24_method_15_code
def yJ4_append_bf812 : MethodName := ⟨RJ4, "append", "(I)Ljava/lang/StringBuilder;"⟩
abbrev cJ4_toString_0e30d : ByteArray := prog_24_method_42_code
def yJ4_toString_0e30d : MethodName := ⟨RJ4, "toString", "()Ljava/lang/String;"⟩
abbrev cJ4_length_8abf5 : ByteArray := prog_24_method_93_code
def yJ4_length_8abf5 : MethodName := ⟨RJ4, "length", "()I"⟩
def RJ1 : String := "java/lang/StringLatin1"
def TJ1 : u_T := fun k => match k with
  | _ => ("", "", "", false)
def tyJ1 : Nat → FieldType := fun k => match k with
  | _ => .int
abbrev wsJ10 : List Cond := u_ws RJ1 TJ1 0
theorem nmJ1 : ∀ a, a < 0 → ∀ b, b < 0 → a ≠ b → (TJ1 a).2.1 ≠ (TJ1 b).2.1 := by decide +kernel
theorem tyJ1_ok : ∀ k, k < 0 → parseFieldDescriptor (TJ1 k).2.2.1 = some (tyJ1 k) := by decide +kernel
abbrev cJ1_charAt_3b067 : ByteArray := prog_25_method_2_code
def yJ1_charAt_3b067 : MethodName := ⟨RJ1, "charAt", "([BI)C"⟩
abbrev cJ1_canEncode_fc78d : ByteArray := prog_25_method_3_code
def yJ1_canEncode_fc78d : MethodName := ⟨RJ1, "canEncode", "(C)Z"⟩
abbrev cJ1_inflate_0e8fd : ByteArray := prog_25_method_50_code
def yJ1_inflate_0e8fd : MethodName := ⟨RJ1, "inflate", "([BI[BII)V"⟩
def RJ2 : String := "java/lang/StringUTF16"
def TJ2 : u_T := fun k => match k with
  | _ => ("", "", "", false)
def tyJ2 : Nat → FieldType := fun k => match k with
  | _ => .int
abbrev wsJ20 : List Cond := u_ws RJ2 TJ2 0
theorem nmJ2 : ∀ a, a < 0 → ∀ b, b < 0 → a ≠ b → (TJ2 a).2.1 ≠ (TJ2 b).2.1 := by decide +kernel
theorem tyJ2_ok : ∀ k, k < 0 → parseFieldDescriptor (TJ2 k).2.2.1 = some (tyJ2 k) := by decide +kernel
abbrev cJ2_newBytesFor_77867 : ByteArray := prog_26_method_2_code
def yJ2_newBytesFor_77867 : MethodName := ⟨RJ2, "newBytesFor", "(I)[B"⟩
abbrev cJ2_newBytesLength_0f7a4 : ByteArray := prog_26_method_3_code
def yJ2_newBytesLength_0f7a4 : MethodName := ⟨RJ2, "newBytesLength", "(I)I"⟩
abbrev cJ2_putChar_b72d1 : ByteArray := prog_26_method_4_code
def yJ2_putChar_b72d1 : MethodName := ⟨RJ2, "putChar", "([BII)V"⟩
abbrev cJ2_getChar_3b067 : ByteArray := prog_26_method_5_code
def yJ2_getChar_3b067 : MethodName := ⟨RJ2, "getChar", "([BI)C"⟩
abbrev cJ2_length_9d52b : ByteArray := prog_26_method_6_code
def yJ2_length_9d52b : MethodName := ⟨RJ2, "length", "([B)I"⟩
abbrev cJ2_coderFromArrayLen_85cad : ByteArray := prog_26_method_15_code
def yJ2_coderFromArrayLen_85cad : MethodName := ⟨RJ2, "coderFromArrayLen", "([BI)B"⟩
abbrev cJ2_compress_39247 : ByteArray := prog_26_method_17_code
def yJ2_compress_39247 : MethodName := ⟨RJ2, "compress", "([BII)[B"⟩
abbrev cJ2_compress_5af95 : ByteArray := prog_26_method_22_code
def yJ2_compress_5af95 : MethodName := ⟨RJ2, "compress", "([BI[BII)I"⟩
abbrev cJ2_putCharSB_b72d1 : ByteArray := prog_26_method_71_code
def yJ2_putCharSB_b72d1 : MethodName := ⟨RJ2, "putCharSB", "([BII)V"⟩
abbrev cJ2_getChars_46870 : ByteArray := prog_26_method_77_code
def yJ2_getChars_46870 : MethodName := ⟨RJ2, "getChars", "(III[B)I"⟩
abbrev cJ2_putCharsAt_cd4e5 : ByteArray := prog_26_method_81_code
def yJ2_putCharsAt_cd4e5 : MethodName := ⟨RJ2, "putCharsAt", "([BICCCC)I"⟩
abbrev cJ2_charAt_3b067 : ByteArray := prog_26_method_83_code
def yJ2_charAt_3b067 : MethodName := ⟨RJ2, "charAt", "([BI)C"⟩
abbrev cJ2_inflate_0e8fd : ByteArray := prog_26_method_86_code
def yJ2_inflate_0e8fd : MethodName := ⟨RJ2, "inflate", "([BI[BII)V"⟩
abbrev cJ2_getChars_ba4f3 : ByteArray := prog_26_method_89_code
def yJ2_getChars_ba4f3 : MethodName := ⟨RJ2, "getChars", "(II[B)I"⟩
abbrev cJ2_checkIndex_2214a : ByteArray := prog_26_method_91_code
def yJ2_checkIndex_2214a : MethodName := ⟨RJ2, "checkIndex", "(I[B)V"⟩
abbrev cJ2_checkBoundsBeginEnd_d044e : ByteArray := prog_26_method_93_code
def yJ2_checkBoundsBeginEnd_d044e : MethodName := ⟨RJ2, "checkBoundsBeginEnd", "(II[B)V"⟩
abbrev cJ2_checkBoundsOffCount_d044e : ByteArray := prog_26_method_94_code
def yJ2_checkBoundsOffCount_d044e : MethodName := ⟨RJ2, "checkBoundsOffCount", "(II[B)V"⟩
def RJ10 : String := "java/lang/System"
def TJ10 : u_T := fun k => match k with
  | _ => ("", "", "", false)
def tyJ10 : Nat → FieldType := fun k => match k with
  | _ => .int
abbrev wsJ100 : List Cond := u_ws RJ10 TJ10 0
theorem nmJ10 : ∀ a, a < 0 → ∀ b, b < 0 → a ≠ b → (TJ10 a).2.1 ≠ (TJ10 b).2.1 := by decide +kernel
theorem tyJ10_ok : ∀ k, k < 0 → parseFieldDescriptor (TJ10 k).2.2.1 = some (tyJ10 k) := by decide +kernel
def RJ7 : String := "java/util/Arrays"
def TJ7 : u_T := fun k => match k with
  | _ => ("", "", "", false)
def tyJ7 : Nat → FieldType := fun k => match k with
  | _ => .int
abbrev wsJ70 : List Cond := u_ws RJ7 TJ7 0
theorem nmJ7 : ∀ a, a < 0 → ∀ b, b < 0 → a ≠ b → (TJ7 a).2.1 ≠ (TJ7 b).2.1 := by decide +kernel
theorem tyJ7_ok : ∀ k, k < 0 → parseFieldDescriptor (TJ7 k).2.2.1 = some (tyJ7 k) := by decide +kernel
abbrev cJ7_copyOf_9075b : ByteArray := prog_29_method_121_code
def yJ7_copyOf_9075b : MethodName := ⟨RJ7, "copyOf", "([BI)[B"⟩
abbrev cJ7_checkLength_df160 : ByteArray := prog_29_method_131_code
def yJ7_checkLength_df160 : MethodName := ⟨RJ7, "checkLength", "(II)V"⟩
abbrev cJ7_copyOfRange_39247 : ByteArray := prog_29_method_132_code
def yJ7_copyOfRange_39247 : MethodName := ⟨RJ7, "copyOfRange", "([BII)[B"⟩
abbrev cJ7_copyOfRangeByte_39247 : ByteArray := prog_29_method_133_code
def yJ7_copyOfRangeByte_39247 : MethodName := ⟨RJ7, "copyOfRangeByte", "([BII)[B"⟩
def RJ8 : String := "jdk/internal/util/ArraysSupport"
def TJ8 : u_T := fun k => match k with
  | _ => ("", "", "", false)
def tyJ8 : Nat → FieldType := fun k => match k with
  | _ => .int
abbrev wsJ80 : List Cond := u_ws RJ8 TJ8 0
theorem nmJ8 : ∀ a, a < 0 → ∀ b, b < 0 → a ≠ b → (TJ8 a).2.1 ≠ (TJ8 b).2.1 := by decide +kernel
theorem tyJ8_ok : ∀ k, k < 0 → parseFieldDescriptor (TJ8 k).2.2.1 = some (tyJ8 k) := by decide +kernel
abbrev cJ8_newLength_cabcc : ByteArray := prog_30_method_27_code
def yJ8_newLength_cabcc : MethodName := ⟨RJ8, "newLength", "(III)I"⟩
abbrev cJ8_hugeLength_7cf53 : ByteArray := prog_30_method_28_code
def yJ8_hugeLength_7cf53 : MethodName := ⟨RJ8, "hugeLength", "(II)I"⟩
def RJ3 : String := "jdk/internal/util/Preconditions"
def TJ3 : u_T := fun k => match k with
  | _ => ("", "", "", false)
def tyJ3 : Nat → FieldType := fun k => match k with
  | _ => .int
abbrev wsJ30 : List Cond := u_ws RJ3 TJ3 0
theorem nmJ3 : ∀ a, a < 0 → ∀ b, b < 0 → a ≠ b → (TJ3 a).2.1 ≠ (TJ3 b).2.1 := by decide +kernel
theorem tyJ3_ok : ∀ k, k < 0 → parseFieldDescriptor (TJ3 k).2.2.1 = some (tyJ3 k) := by decide +kernel
abbrev cJ3_checkIndex_8e157 : ByteArray := prog_31_method_11_code
def yJ3_checkIndex_8e157 : MethodName := ⟨RJ3, "checkIndex", "(IILjava/util/function/BiFunction;)I"⟩
abbrev cJ3_checkFromToIndex_8c36e : ByteArray := prog_31_method_12_code
def yJ3_checkFromToIndex_8c36e : MethodName := ⟨RJ3, "checkFromToIndex", "(IIILjava/util/function/BiFunction;)I"⟩
abbrev cJ3_checkFromIndexSize_8c36e : ByteArray := prog_31_method_13_code
def yJ3_checkFromIndexSize_8c36e : MethodName := ⟨RJ3, "checkFromIndexSize", "(IIILjava/util/function/BiFunction;)I"⟩
def RL : String := "EstateSettlementLaw"
abbrev cL_feeds : ByteArray := method_2_code
def yL_feeds : MethodName := ⟨RL, "feeds", "(LEstateSettlement;Ljava/lang/String;)Z"⟩
abbrev cL_draw : ByteArray := method_3_code
def yL_draw : MethodName := ⟨RL, "draw", "([II)I"⟩
abbrev cL_law : ByteArray := code
def yL_law : MethodName := ⟨RL, "law", "([I)Z"⟩
abbrev cL_rows : ByteArray := method_5_code
def yL_rows : MethodName := ⟨RL, "rows", "(Ljava/lang/StringBuilder;[ILjava/lang/String;[IIIII)[[I"⟩
abbrev cL_estate : ByteArray := method_6_code
def yL_estate : MethodName := ⟨RL, "estate", "(Ljava/lang/StringBuilder;[I)LEstateSettlementLaw$Estate;"⟩
abbrev cL_plays : ByteArray := method_7_code
def yL_plays : MethodName := ⟨RL, "plays", "(LEstateSettlement;[I)Z"⟩
abbrev cL_accounts : ByteArray := method_8_code
def yL_accounts : MethodName := ⟨RL, "accounts", "(LEstateSettlement;LEstateSettlementLaw$Estate;)Z"⟩
abbrev cL_heirs : ByteArray := method_9_code
def yL_heirs : MethodName := ⟨RL, "heirs", "(LEstateSettlement;LEstateSettlementLaw$Estate;)Z"⟩
abbrev cL_wouldBe : ByteArray := method_10_code
def yL_wouldBe : MethodName := ⟨RL, "wouldBe", "(LEstateSettlement;LEstateSettlementLaw$Estate;[I)Z"⟩
abbrev cL_isOut : ByteArray := method_11_code
def yL_isOut : MethodName := ⟨RL, "isOut", "(LEstateSettlementLaw$Estate;II)Z"⟩
abbrev cL_changes : ByteArray := method_12_code
def yL_changes : MethodName := ⟨RL, "changes", "(LEstateSettlement;LEstateSettlementLaw$Estate;[I)Z"⟩
abbrev vwCl : List vw_C := [(RX0, TX0, 12), (RX1, TX1, 6), (RX2, TX2, 9), (RX3, TX3, 5), (RX4, TX4, 4), (RX5, TX5, 10), (RX6, TX6, 6), (RX7, TX7, 8), (RX8, TX8, 1), (RX9, TX9, 8), (RX10, TX10, 31), (RJ0, TJ0, 4), (RJ4, TJ4, 4)]
end
section
/-! The layer between the kit's rows and the contracts of this claim. A heap is a function from places (the order of making) to things; a place is the base plus its number. -/
abbrev AE : Type := (Nat × Nat × (Nat → Int32)) ⊕ ((Nat × (Nat → Int64)) ⊕ (Nat × (Nat → Value)))
abbrev AS : Type := (Nat → AE) × Nat × Bool
abbrev Out : Type := Option Value ⊕ Nat
/-- name, code, words of locals, return, frames below, words below, handlers, instructions -/
abbrev MI : Type := MethodName × ByteArray × Nat × Option FieldType × Nat × Nat × List (Nat × Nat × Nat × Nat) × List (Nat × Instr × Nat)
abbrev mNm (μ : MI) : MethodName := μ.1
abbrev mBs (μ : MI) : ByteArray := μ.2.1
abbrev mMl (μ : MI) : Nat := μ.2.2.1
abbrev mRt (μ : MI) : Option FieldType := μ.2.2.2.1
abbrev mFr (μ : MI) : Nat := μ.2.2.2.2.1
abbrev mLo (μ : MI) : Nat := μ.2.2.2.2.2.1
abbrev mHh (μ : MI) : List (Nat × Nat × Nat × Nat) := μ.2.2.2.2.2.2.1
abbrev mCd (μ : MI) : List (Nat × Instr × Nat) := μ.2.2.2.2.2.2.2
/-- the instruction at a place -/
def cf : List (Nat × Instr × Nat) → Nat → Option (Instr × Nat)
  | [], _ => none
  | e :: t, q => if e.1 = q then some e.2 else cf t q
theorem cf_mem : ∀ (l : List (Nat × Instr × Nat)) (q : Nat) (x : Instr × Nat), cf l q = some x → (q, x) ∈ l
  | [], _, _, h => by cases h
  | e :: t, q, x, h => by
    unfold cf at h
    by_cases he : e.1 = q
    · rw [if_pos he] at h
      cases h
      subst he
      exact List.mem_cons_self
    · rw [if_neg he] at h
      exact List.mem_cons_of_mem _ (cf_mem t q x h)
def DK (μ : MI) : Prop := ∀ (q : Nat) (x : Instr × Nat), cf (mCd μ) q = some x → decode (mBs μ) q = .ok x
def dkB (b : ByteArray) (l : List (Nat × Instr × Nat)) : Bool := l.all (fun e => decide (decode b e.1 = .ok e.2))
theorem dk_of {μ : MI} (h : dkB (mBs μ) (mCd μ) = true) : DK μ := by
  intro q x hx
  have h1 := List.all_eq_true.mp h _ (cf_mem _ _ _ hx)
  exact of_decide_eq_true h1
/-- private methods of the class above, on a receiver of the class below: words made of the tables' -/
def lw_xw : List MethodName := [⟨"java/lang/AbstractStringBuilder", "ensureCapacityInternal", "(I)V"⟩, ⟨"java/lang/AbstractStringBuilder", "newCapacity", "(I)I"⟩, ⟨"java/lang/AbstractStringBuilder", "putStringAt", "(ILjava/lang/String;)V"⟩, ⟨"java/lang/AbstractStringBuilder", "inflateIfNeededFor", "(Ljava/lang/String;)V"⟩]
def lw_sx : List Cond := lw_xw.map (fun y => Cond.selects "java/lang/StringBuilder" y y)
def lw_gd : List Cond := lw_sx ++ lw_tbl.filter goodWord
theorem lw_gd_of {w : Cond} (h : w ∈ lw_tbl) (g : goodWord w = true) : w ∈ lw_gd := List.mem_append_right _ (List.mem_filter.mpr ⟨h, g⟩)
theorem lw_gd_sx {y : MethodName} (h : y ∈ lw_xw) : Cond.selects "java/lang/StringBuilder" y y ∈ lw_gd := List.mem_append_left _ (List.mem_map.mpr ⟨y, h, rfl⟩)
theorem lw_gd_good {w : Cond} (h : w ∈ lw_gd) : (w.onTables && w.keeps) = true ∨ ∃ ty, w = .arrayClass ty := by
  rcases List.mem_append.mp h with h | h
  · obtain ⟨y, -, rfl⟩ := List.mem_map.mp h
    exact Or.inl rfl
  · exact good_of_word (List.mem_filter.mp h).2
def cdW (μ : MI) : Cond := match mHh μ with
  | [] => .code (mNm μ) (mBs μ) (mMl μ) (mRt μ)
  | h :: t => .codeWith (mNm μ) (mBs μ) (mMl μ) (mRt μ) (h :: t)
def wsO (μ : MI) : List Cond := cdW μ :: lw_gd
def GM (μ : MI) : Prop := plainName (mNm μ).cls = true ∧ cdW μ ∈ lw_gd ∧ DK μ ∧ ((mNm μ).cls ≠ "java/lang/invoke/MethodHandle" ∧ (mNm μ).cls ≠ "java/lang/invoke/VarHandle") ∧ Cond.initialized (mNm μ).cls ∈ lw_gd
theorem gin_O {μ ν : MI} (h : cdW ν ∈ lw_gd) : GoodIn (wsO μ) (wsO ν) := by
  intro w hw
  rcases List.mem_cons.mp hw with e | e
  · subst e
    exact ⟨List.mem_cons_of_mem _ h, lw_gd_good h⟩
  · exact ⟨List.mem_cons_of_mem _ e, lw_gd_good e⟩
def rmO (μ : MI) (mc ms : Nat) : Room := { frames := mFr μ, cells := mc, slots := ms, locals := mLo μ }
/-- a launch's numbers: classes, slots, array classes; base; strings: object and row; script -/
abbrev KX : Type := (va_G × (Nat → ClassId)) × (Nat × (Nat → Nat) × (Nat → Nat) × Nat × Option Nat × Nat × (Nat → Nat))
/-- the script: its length and its numbers -/
abbrev SC : Type := Nat × (Nat → Int32)
abbrev kD (κ : KX) : va_G := κ.1.1
abbrev kA (κ : KX) : Nat → ClassId := κ.1.2
abbrev kB (κ : KX) : Nat := κ.2.1
abbrev kSK (κ : KX) : Nat → Nat := κ.2.2.1
abbrev kSV (κ : KX) : Nat → Nat := κ.2.2.2.1
abbrev kSb (κ : KX) : Nat := κ.2.2.2.2.1
abbrev kZ (κ : KX) : Option Nat := κ.2.2.2.2.2.1
/-- from here on a place is free; below it only the class's 53 are -/
abbrev kU (κ : KX) : Nat := κ.2.2.2.2.2.2.1
/-- the two rows of digits -/
abbrev kDT (κ : KX) : Nat → Nat := κ.2.2.2.2.2.2.2
def kF (κ : KX) : Nat → Prop := fun q => kB κ ≤ q ∧ (kU κ ≤ q ∨ q < kB κ + 53)
/-- strings 0 to 49, their rows 50 to 98, the formatter of the checks 99, the script 100 -/
def cvK (κ : KX) (i : Nat) : Value := if i < 50 then .ref (kSK κ i) else if i < 99 then .ref (kSV κ (i - 50)) else if i < 100 then (match kZ κ with | some t => .ref t | none => .null) else if i < 101 then .ref (kSb κ) else .ref (kDT κ (i - 101))
def cv (κ : KX) : Value → Value
  | .ref i => .ref (kB κ + i)
  | .retAddr i => cvK κ i
  | .int x => .int x
  | .long x => .long x
  | .float x => .float x
  | .double x => .double x
  | .null => .null
theorem cv_cat (κ : KX) (v : Value) : (cv κ v).category = v.category := by
  cases v with
  | retAddr i =>
    show (cvK κ i).category = 1
    unfold cvK
    split
    · rfl
    · split
      · rfl
      · split
        · split <;> rfl
        · split <;> rfl
  | _ => rfl
def nfs (ci : Nat) : Nat := match vwCl[ci]? with
  | some r => r.2.2
  | none => 0
/-- an address, or null -/
def adr (κ : KX) : Value → Option Nat
  | .ref i => some (kB κ + i)
  | _ => none
/-- objects: below 50 by their class; 50 to 99: nothing is known of the place; from 100 on: rows of references, their length behind 100 -/
def conv (κ : KX) : AE → va_E
  | .inl a => .inl (kA κ a.1, a.2.1, .inl a.2.2)
  | .inr (.inl a) => .inl (kA κ 3, a.1, .inr (.inl a.2))
  | .inr (.inr o) => if o.1 < 50 then .inr (o.1, (List.range (nfs o.1)).map (fun k => cv κ (o.2 k))) else .inl (kA κ 4, o.1 - 100, .inr (.inr (.inr (.inr (fun j => adr κ (o.2 j))))))
def jk : AE → Bool
  | .inr (.inr o) => Nat.ble 50 o.1 && Nat.ble o.1 99
  | _ => false
def aup {α : Type} (G : Nat → α) (i : Nat) (e : α) : Nat → α := fun j => if j = i then e else G j
theorem aup_s {α : Type} (G : Nat → α) (i : Nat) (e : α) : aup G i e i = e := if_pos rfl
theorem aup_n {α : Type} (G : Nat → α) {i j : Nat} (e : α) (h : j ≠ i) : aup G i e j = G j := if_neg h
/-- the places of which something is known -/
def lvs (G : Nat → AE) (n : Nat) : List Nat := (List.range n).filter (fun i => !jk (G i))
def wsL (κ : KX) (G : Nat → AE) (n : Nat) : va_W := (lvs G n).map fun i => (kB κ + i, conv κ (G i))
theorem lvs_mem {G : Nat → AE} {n i : Nat} : i ∈ lvs G n ↔ i < n ∧ jk (G i) = false := by
  unfold lvs
  rw [List.mem_filter, List.mem_range]
  simp
theorem wsL_get {κ : KX} {G : Nat → AE} {n k : Nat} {q : Nat × va_E} (h : (wsL κ G n)[k]? = some q) : ∃ i, (lvs G n)[k]? = some i ∧ i < n ∧ jk (G i) = false ∧ q = (kB κ + i, conv κ (G i)) := by
  unfold wsL at h
  rw [List.getElem?_map] at h
  cases hi : (lvs G n)[k]? with
  | none => rw [hi] at h; cases h
  | some i =>
    rw [hi] at h
    have h1 := lvs_mem.mp (List.mem_of_getElem? hi)
    exact ⟨i, rfl, h1.1, h1.2, (Option.some.inj h).symm⟩
theorem wsL_pos (κ : KX) {G : Nat → AE} {n i : Nat} (h : i < n) (hj : jk (G i) = false) : ∃ k : Nat, (lvs G n)[k]? = some i ∧ (wsL κ G n)[k]? = some (kB κ + i, conv κ (G i)) := by
  obtain ⟨k, hk⟩ : ∃ k : Nat, (lvs G n)[k]? = some i := List.mem_iff_getElem?.mp (lvs_mem.mpr ⟨h, hj⟩)
  refine ⟨k, hk, ?_⟩
  unfold wsL
  rw [List.getElem?_map, hk]
  rfl
theorem lvs_nd (G : Nat → AE) (n : Nat) : (lvs G n).Nodup := List.Pairwise.filter _ List.nodup_range
theorem lvs_inj {G : Nat → AE} {n a b i : Nat} (ha : (lvs G n)[a]? = some i) (hb : (lvs G n)[b]? = some i) : a = b :=
  (List.getElem?_inj (List.getElem?_eq_some_iff.mp ha).1 (lvs_nd G n)).mp (ha.trans hb.symm)
theorem wsL_D (κ : KX) (G : Nat → AE) (n : Nat) (hF : ∀ i, i < n → kF κ (kB κ + i)) : va_D (kF κ) (wsL κ G n) := by
  refine ⟨fun a b p q ha hb e => ?_, fun k q hk => ?_⟩
  · obtain ⟨i, h1, -, -, rfl⟩ := wsL_get ha
    obtain ⟨j, g1, -, -, rfl⟩ := wsL_get hb
    have e2 : kB κ + i = kB κ + j := e
    have e3 : i = j := by omega
    subst e3
    exact lvs_inj h1 g1
  · obtain ⟨i, h1, h2, -, rfl⟩ := wsL_get hk
    exact hF i h2
def Rep (κ : KX) (S : AS) (H : Heap) : Prop := (∀ i, i < S.2.1 → jk (S.1 i) = false → va_at (kD κ) vwCl (kB κ + i, conv κ (S.1 i)) H) ∧ (kB κ + S.2.1 ≤ H.size ∧ (S.2.2 = true → H.size = kB κ + S.2.1)) ∧ (∀ i, i < S.2.1 → kF κ (kB κ + i))
theorem va1 {D : va_G} {cl : List vw_C} {q : Nat × va_E} {H : Heap} (h : va_at D cl q H) : va_P D cl [q] H := by
  intro k x hx
  match k, hx with
  | 0, hx => cases hx; exact h
  | k + 1, hx => cases hx
theorem Rep.kept {κ : KX} {S : AS} {H H1 : Heap} (hR : Rep κ S H) (hk : ∀ q, q < H.size → H1[q]? = H[q]?) : ∀ i, i < S.2.1 → jk (S.1 i) = false → va_at (kD κ) vwCl (kB κ + i, conv κ (S.1 i)) H1 :=
  fun i hi hj => (hR.1 i hi hj).kept (hk _ (hR.1 i hi hj).lt)
theorem Rep.P {κ : KX} {S : AS} {H : Heap} (hR : Rep κ S H) : va_P (kD κ) vwCl (wsL κ S.1 S.2.1) H := fun k q hk => by
  obtain ⟨i, -, h1, h2, rfl⟩ := wsL_get hk
  exact hR.1 i h1 h2
theorem repSet {κ : KX} {S : AS} {H1 : Heap} {b pb : Nat} {e : AE} {x : va_E} (hpb : (lvs S.1 S.2.1)[pb]? = some b) (he : conv κ e = x) (hP : va_P (kD κ) vwCl ((wsL κ S.1 S.2.1).set pb (kB κ + b, x)) H1) : ∀ i, i < S.2.1 → jk (aup S.1 b e i) = false → va_at (kD κ) vwCl (kB κ + i, conv κ (aup S.1 b e i)) H1 := by
  intro i hi hji
  by_cases hib : i = b
  · subst hib
    rw [aup_s, he]
    have h9 : (wsL κ S.1 S.2.1)[pb]? = some (kB κ + i, conv κ (S.1 i)) := by
      unfold wsL
      rw [List.getElem?_map, hpb]
      rfl
    exact hP pb _ (List.getElem?_set_self (List.getElem?_eq_some_iff.mp h9).1)
  · rw [aup_n _ _ hib] at hji ⊢
    obtain ⟨k, hk, hk2⟩ := wsL_pos κ hi hji
    have hne : pb ≠ k := fun q => by
      subst q
      exact hib (Option.some.inj (hk.symm.trans hpb))
    exact hP k _ (by rw [List.getElem?_set_ne hne]; exact hk2)
/-- one place is written, or a new one is made -/
theorem Rep.put {κ : KX} {S : AS} {H H1 : Heap} {o : Nat} {e : AE} (hR : Rep κ S H) (hlt : o < S.2.1) (hz : H1.size = H.size) (hP : va_at (kD κ) vwCl (kB κ + o, conv κ e) H1) (oq : ∀ q, q ≠ kB κ + o → H1[q]? = H[q]?) : Rep κ (aup S.1 o e, S.2) H1 := by
  refine ⟨fun i hi hj => ?_, ⟨by rw [hz]; exact hR.2.1.1, fun q => by rw [hz]; exact hR.2.1.2 q⟩, hR.2.2⟩
  by_cases hio : i = o
  · subst hio
    show va_at _ _ (_, conv κ (aup S.1 i e i)) H1
    rw [aup_s]
    exact hP
  · show va_at _ _ (_, conv κ (aup S.1 o e i)) H1
    rw [aup_n _ _ hio]
    refine (hR.1 i hi ?_).kept (oq _ (by show kB κ + i ≠ kB κ + o; omega))
    rw [← hj]
    show _ = jk (aup S.1 o e i)
    rw [aup_n _ _ hio]
theorem Rep.push {κ : KX} {S : AS} {H H1 : Heap} {e : AE} (hR : Rep κ S H) (hU : kU κ ≤ H.size) (hex : S.2.2 = true) (hz : H1.size = H.size + 1) (hP : va_at (kD κ) vwCl (H.size, conv κ e) H1) (oq : ∀ q, q < H.size → H1[q]? = H[q]?) (b : Bool) : Rep κ (aup S.1 S.2.1 e, S.2.1 + 1, b) H1 := by
  have hz0 := hR.2.1.2 hex
  refine ⟨fun i hi hj => ?_, ⟨by show kB κ + (S.2.1 + 1) ≤ H1.size; omega, fun q => by show H1.size = kB κ + (S.2.1 + 1); omega⟩, fun i hi => ?_⟩
  · by_cases hio : i = S.2.1
    · subst hio
      show va_at _ _ (_, conv κ (aup S.1 S.2.1 e S.2.1)) H1
      rw [aup_s, ← hz0]
      exact hP
    · have hi2 : i < S.2.1 + 1 := hi
      show va_at _ _ (_, conv κ (aup S.1 S.2.1 e i)) H1
      rw [aup_n _ _ hio]
      refine hR.kept oq i (by omega) ?_
      rw [← hj]
      show _ = jk (aup S.1 S.2.1 e i)
      rw [aup_n _ _ hio]
  · have hi2 : i < S.2.1 + 1 := hi
    by_cases hio : i = S.2.1
    · subst hio
      exact ⟨Nat.le_add_right _ _, Or.inl (by omega)⟩
    · exact hR.2.2 i (by omega)
def tysK (κ : KX) : List (ClassId × FieldType) := [(kA κ 0, .int), (kA κ 1, .byte), (kA κ 2, .boolean), (kA κ 3, .long), (kA κ 4, .array .int)]
/-- a string constant: class, entry, text's bytes -/
def SK (κ : KX) (i : Nat) (byt : List Int32) (U : State) : Prop :=
  va_O "java/lang/String" (kSK κ i) (kF κ) U U.heap ∧ va_OF "java/lang/String" "coder" "B" (.int 0) (kSK κ i) (kF κ) U U.heap ∧ va_OF "java/lang/String" "value" "[B" (.ref (kSV κ i)) (kSK κ i) (kF κ) U U.heap ∧ va_T .byte (kSV κ i) byt.length (fun j => .int (byt.getD j 0)) (kF κ) U U.heap
/-- the words that move by laws of their own -/
def lw_nest : List (String × Nat × MethodName × String) := [("EstateSettlement", 9, ⟨"EstateSettlement$Parser", "<init>", "()V"⟩, "EstateSettlement"), ("EstateSettlement$Parser", 11, ⟨"EstateSettlement$Input", "<init>", "()V"⟩, "EstateSettlement"), ("EstateSettlement$Parser", 20, ⟨"EstateSettlement$Estate", "<init>", "()V"⟩, "EstateSettlement"), ("EstateSettlement", 18, ⟨"EstateSettlement$Estate", "<init>", "()V"⟩, "EstateSettlement"), ("EstateSettlement", 32, ⟨"EstateSettlement$Settlement", "<init>", "()V"⟩, "EstateSettlement"), ("EstateSettlement$Settlement", 11, ⟨"EstateSettlement$Inventory", "<init>", "()V"⟩, "EstateSettlement"), ("EstateSettlement$Settlement", 20, ⟨"EstateSettlement$Lines", "<init>", "()V"⟩, "EstateSettlement"), ("EstateSettlement$Settlement", 27, ⟨"EstateSettlement$Portions", "<init>", "()V"⟩, "EstateSettlement"), ("EstateSettlement", 45, ⟨"EstateSettlement$Memory", "<init>", "()V"⟩, "EstateSettlement"), ("EstateSettlement$Inventory", 51, ⟨"EstateSettlement", "at", "([II)I"⟩, "EstateSettlement"), ("EstateSettlement$Inventory", 55, ⟨"EstateSettlement", "portion", "(III)I"⟩, "EstateSettlement"), ("EstateSettlement$Inventory", 70, ⟨"EstateSettlement", "sumOf", "([I)I"⟩, "EstateSettlement"), ("EstateSettlement$Inventory", 80, ⟨"EstateSettlement", "split", "(I[I[I)V"⟩, "EstateSettlement"), ("EstateSettlement$Lines", 42, ⟨"EstateSettlement", "at", "([II)I"⟩, "EstateSettlement"), ("EstateSettlement$Lines", 60, ⟨"EstateSettlement", "hasBit", "(II)Z"⟩, "EstateSettlement"), ("EstateSettlement$Lines", 64, ⟨"EstateSettlement", "leastCommonMultiple", "(II)I"⟩, "EstateSettlement"), ("EstateSettlement$Settlement", 128, ⟨"EstateSettlement", "portion", "(III)I"⟩, "EstateSettlement"), ("EstateSettlement$Portions", 69, ⟨"EstateSettlement", "sumOf", "([I)I"⟩, "EstateSettlement"), ("EstateSettlement$Portions", 62, ⟨"EstateSettlement", "portion", "(III)I"⟩, "EstateSettlement"), ("EstateSettlement$Portions", 54, ⟨"EstateSettlement", "split", "(I[I[I)V"⟩, "EstateSettlement"), ("EstateSettlementLaw", 51, ⟨"EstateSettlementLaw$Estate", "<init>", "()V"⟩, "EstateSettlementLaw"), ("EstateSettlement$State", 33, ⟨"EstateSettlement", "asInt", "(Z)I"⟩, "EstateSettlement"), ("EstateSettlement$Settlement", 100, ⟨"EstateSettlement", "at", "([II)I"⟩, "EstateSettlement"), ("EstateSettlementLaw", 225, ⟨"EstateSettlementLaw$Estate", "isEmpty", "(I)Z"⟩, "EstateSettlementLaw")]
def lw_fnest : List (String × Nat × String × String × String × String) := [("EstateSettlementLaw", 52, "EstateSettlementLaw$Estate", "persons", "I", "EstateSettlementLaw"), ("EstateSettlementLaw", 61, "EstateSettlementLaw$Estate", "spouse", "I", "EstateSettlementLaw"), ("EstateSettlementLaw", 106, "EstateSettlementLaw$Estate", "whole", "I", "EstateSettlementLaw"), ("EstateSettlementLaw", 109, "EstateSettlementLaw$Estate", "part", "I", "EstateSettlementLaw"), ("EstateSettlementLaw", 114, "EstateSettlementLaw$Estate", "life", "I", "EstateSettlementLaw"), ("EstateSettlementLaw", 119, "EstateSettlementLaw$Estate", "line", "Z", "EstateSettlementLaw"), ("EstateSettlementLaw", 58, "EstateSettlementLaw$Estate", "parent", "[I", "EstateSettlementLaw"), ("EstateSettlementLaw", 66, "EstateSettlementLaw$Estate", "age", "[I", "EstateSettlementLaw"), ("EstateSettlementLaw", 73, "EstateSettlementLaw$Estate", "dead", "[Z", "EstateSettlementLaw"), ("EstateSettlementLaw", 259, "EstateSettlementLaw$Estate", "refuses", "[Z", "EstateSettlementLaw"), ("EstateSettlementLaw", 79, "EstateSettlementLaw$Estate", "assets", "[[I", "EstateSettlementLaw"), ("EstateSettlementLaw", 93, "EstateSettlementLaw$Estate", "debts", "[[I", "EstateSettlementLaw"), ("EstateSettlementLaw", 98, "EstateSettlementLaw$Estate", "gifts", "[[I", "EstateSettlementLaw"), ("EstateSettlementLaw", 103, "EstateSettlementLaw$Estate", "legacies", "[[I", "EstateSettlementLaw"), ("EstateSettlementLaw", 166, "EstateSettlementLaw$Estate", "paid", "[I", "EstateSettlementLaw"), ("EstateSettlementLaw", 171, "EstateSettlementLaw$Estate", "bequeathed", "[I", "EstateSettlementLaw"), ("EstateSettlementLaw", 235, "EstateSettlementLaw$Estate", "divisors", "[I", "EstateSettlementLaw"), ("EstateSettlementLaw", 253, "EstateSettlementLaw$Estate", "got", "[I", "EstateSettlementLaw"), ("EstateSettlementLaw", 241, "EstateSettlementLaw$Estate", "weights", "[I", "EstateSettlementLaw"), ("EstateSettlementLaw", 247, "EstateSettlementLaw$Estate", "dues", "[I", "EstateSettlementLaw"), ("EstateSettlementLaw", 238, "EstateSettlementLaw$Estate", "out", "[Z", "EstateSettlementLaw"), ("EstateSettlementLaw", 250, "EstateSettlementLaw$Estate", "cents", "[Z", "EstateSettlementLaw"), ("EstateSettlementLaw", 178, "EstateSettlementLaw$Estate", "net", "J", "EstateSettlementLaw"), ("EstateSettlementLaw", 182, "EstateSettlementLaw$Estate", "owed", "J", "EstateSettlementLaw"), ("EstateSettlementLaw", 185, "EstateSettlementLaw$Estate", "residue", "J", "EstateSettlementLaw"), ("EstateSettlementLaw", 188, "EstateSettlementLaw$Estate", "widow", "J", "EstateSettlementLaw"), ("EstateSettlementLaw", 191, "EstateSettlementLaw$Estate", "burden", "J", "EstateSettlementLaw"), ("EstateSettlementLaw", 194, "EstateSettlementLaw$Estate", "worth", "J", "EstateSettlementLaw"), ("EstateSettlementLaw", 197, "EstateSettlementLaw$Estate", "fund", "J", "EstateSettlementLaw"), ("EstateSettlementLaw", 200, "EstateSettlementLaw$Estate", "state", "J", "EstateSettlementLaw"), ("EstateSettlementLaw", 244, "EstateSettlementLaw$Estate", "pot", "J", "EstateSettlementLaw")]
def lw_cst : List (String × String) := [("java/lang/IllegalArgumentException", "java/lang/IllegalArgumentException"), ("java/lang/IndexOutOfBoundsException", "java/lang/IndexOutOfBoundsException"), ("java/lang/IllegalStateException", "java/lang/IllegalStateException"), ("[B", "java/lang/Cloneable")]
def lw_ncst : List (String × String) := []
def lw_dcl : List MethodName := [Bundle.initS "java/lang/RuntimeException", Bundle.initS "java/lang/Exception", Bundle.initS Bundle.tN]
def strJ : List (String × Nat × String × List Int32) := [("EstateSettlement", 77, "length", [108, 101, 110, 103, 116, 104]), ("EstateSettlement$Parser", 76, "person", [112, 101, 114, 115, 111, 110]), ("EstateSettlement$Parser", 138, "under", [117, 110, 100, 101, 114]), ("EstateSettlement$Parser", 146, "age", [97, 103, 101]), ("EstateSettlement$Parser", 163, "dead", [100, 101, 97, 100]), ("EstateSettlement$Parser", 168, "spouse", [115, 112, 111, 117, 115, 101]), ("EstateSettlement$Parser", 85, "asset", [97, 115, 115, 101, 116]), ("EstateSettlement$Parser", 173, "charge", [99, 104, 97, 114, 103, 101]), ("EstateSettlement$Parser", 90, "debt", [100, 101, 98, 116]), ("EstateSettlement$Parser", 95, "gift", [103, 105, 102, 116]), ("EstateSettlement$Parser", 100, "legacy", [108, 101, 103, 97, 99, 121]), ("EstateSettlement$Parser", 105, "share", [115, 104, 97, 114, 101]), ("EstateSettlement$Parser", 110, "life", [108, 105, 102, 101]), ("EstateSettlement$Parser", 115, "accrue", [97, 99, 99, 114, 117, 101]), ("EstateSettlement$Parser", 208, "line", [108, 105, 110, 101]), ("EstateSettlement$Parser", 210, "others", [111, 116, 104, 101, 114, 115]), ("EstateSettlement", 388, "what", [119, 104, 97, 116]), ("EstateSettlement", 382, "person", [112, 101, 114, 115, 111, 110]), ("EstateSettlement", 384, "asset", [97, 115, 115, 101, 116]), ("EstateSettlement", 194, "debt", [100, 101, 98, 116]), ("EstateSettlement", 210, "legacy", [108, 101, 103, 97, 99, 121]), ("EstateSettlement", 390, "out of range", [111, 117, 116, 32, 111, 102, 32, 114, 97, 110, 103, 101]), ("EstateSettlement", 344, "gifts", [103, 105, 102, 116, 115]), ("EstateSettlementLaw", 56, "person ", [112, 101, 114, 115, 111, 110, 32]), ("EstateSettlementLaw", 64, " under ", [32, 117, 110, 100, 101, 114, 32]), ("EstateSettlementLaw", 69, " age ", [32, 97, 103, 101, 32]), ("EstateSettlementLaw", 71, " spouse", [32, 115, 112, 111, 117, 115, 101]), ("EstateSettlementLaw", 77, " dead", [32, 100, 101, 97, 100]), ("EstateSettlementLaw", 83, "asset ", [97, 115, 115, 101, 116, 32]), ("EstateSettlementLaw", 85, " charge ", [32, 99, 104, 97, 114, 103, 101, 32]), ("EstateSettlementLaw", 87, "debt", [100, 101, 98, 116]), ("EstateSettlementLaw", 96, "gift", [103, 105, 102, 116]), ("EstateSettlementLaw", 101, "legacy", [108, 101, 103, 97, 99, 121]), ("EstateSettlementLaw", 112, "share ", [115, 104, 97, 114, 101, 32]), ("EstateSettlementLaw", 117, "life ", [108, 105, 102, 101, 32]), ("EstateSettlementLaw", 123, "accrue ", [97, 99, 99, 114, 117, 101, 32]), ("EstateSettlementLaw", 125, "line", [108, 105, 110, 101]), ("EstateSettlementLaw", 126, "others", [111, 116, 104, 101, 114, 115])]
def nmD (i : Nat) : String := if i = 0 then "DigitTens" else "DigitOnes"
def tbD (i j : Nat) : Nat := if i = 0 then 48 + j / 10 else 48 + j % 10
/-- the two rows of digits -/
def DG (κ : KX) (U : State) : Prop := ∀ i, i < 2 → va_Z "java/lang/Integer" (nmD i) "[B" (.ref (kDT κ i)) (kF κ) U U.heap ∧ va_T .byte (kDT κ i) 100 (fun j => .int (nI (tbD i j))) (kF κ) U U.heap
/-- what holds at every method's start -/
def Gd (κ : KX) (sc : SC) (U : State) : Prop :=
  (va_K (kD κ) vwCl (tysK κ) U ∧ (kB κ ≤ U.heap.size ∧ kU κ ≤ U.heap.size)) ∧
  (∀ (i : Nat) (x : String × Nat × String × List Int32), strJ[i]? = some x → SK κ i x.2.2.2 U ∧ vk_R x.1 x.2.1 x.2.2.1 (kSK κ i) U) ∧
  (vx_Zq Bundle.tN "UNASSIGNED_STACK" Bundle.steD (kF κ) U U.heap ∧ vx_Zq Bundle.tN "SUPPRESSED_SENTINEL" Bundle.listD (kF κ) U U.heap ∧ DG κ U ∧ (Cond.arrayOver (.array .int)).before #[] U = true ∧ ∀ x ∈ lw_fnest, va_Nw (.fieldLinkNest x.1 x.2.1 x.2.2.1 x.2.2.2.1 x.2.2.2.2.1 x.2.2.2.2.2) U) ∧
  (va_Z "java/lang/String" "COMPACT_STRINGS" "Z" (.int 1) (kF κ) U U.heap ∧ va_Z "jdk/internal/util/Preconditions" "SIOOBE_FORMATTER" "Ljava/util/function/BiFunction;" (cvK κ 99) (kF κ) U U.heap) ∧
  ((∀ x ∈ lw_nest, va_Nw (.methodLinkNest x.1 x.2.1 x.2.2.1 x.2.2.2) U) ∧ (∀ x ∈ lw_cst, va_Nw (.castable x.1 x.2) U) ∧ (∀ x ∈ lw_ncst, va_Nc x.1 x.2 U) ∧ (∀ x ∈ lw_dcl, va_Nw (.declares x) U)) ∧
  (va_X (kSb κ) sc.1 sc.2 U U.heap ∧ kSb κ < U.heap.size ∧ ¬ kF κ (kSb κ))
theorem SK.next {κ : KX} {i : Nat} {byt : List Int32} {s U : State} {H : Heap} {locs : List Loc} (h : SK κ i byt s) (hW : s.WarmedH U.vm) (hh : U.heap = H) (hS : va_S (kF κ) s.heap H locs) : SK κ i byt U := by
  obtain ⟨h1, h2, h3, h4⟩ := h
  subst hh
  exact ⟨va_O.moved hW.alike (h1.kept hS.2.1), va_OF.moved hW.alike (h2.kept hS.2.1), va_OF.moved hW.alike (h3.kept hS.2.1), va_T.moved hW.alike (h4.kept hS.2.1)⟩
theorem Gd.next {κ : KX} {sc : SC} {s U : State} {H : Heap} {locs : List Loc} (h : Gd κ sc s) (hW : s.WarmedH U.vm) (hh : U.heap = H) (hS : va_S (kF κ) s.heap H locs) : Gd κ sc U := by
  obtain ⟨⟨g1, g1b⟩, g2, ⟨g3, g4, g4b, g4c, g4d⟩, ⟨g5, g6⟩, ⟨g7, g8, g9, g9b⟩, ⟨g10, g11, g12⟩⟩ := h
  subst hh
  refine ⟨⟨va_K.moved hW.alike g1, Nat.le_trans g1b.1 hS.1, Nat.le_trans g1b.2 hS.1⟩, fun i x hx => ⟨(g2 i x hx).1.next hW rfl hS, vk_R.warm hW (g2 i x hx).2⟩, ⟨vx_Zq.moved hW.alike (g3.kept hS.2.1), vx_Zq.moved hW.alike (g4.kept hS.2.1), fun i hi => ⟨va_Z.moved hW.alike ((g4b i hi).1.kept hS.2.1), va_T.moved hW.alike ((g4b i hi).2.kept hS.2.1)⟩, over_moved hW.alike g4c, fun x hx => va_Nw.warmF hW (g4d x hx)⟩, ⟨va_Z.moved hW.alike (g5.kept hS.2.1), va_Z.moved hW.alike (g6.kept hS.2.1)⟩, ⟨fun x hx => va_Nw.warmM hW (g7 x hx), fun x hx => va_Nw.warmC hW (g8 x hx), fun x hx => (g9 x hx).moved hW.alike, fun x hx => va_Nw.warmD hW (g9b x hx)⟩, ⟨?_, Nat.lt_of_lt_of_le g11 hS.1, g12⟩⟩
  exact va_X.moved hW.alike (g10.kept (hS.2.1 _ g11 g12))
theorem Gd.calling {κ : KX} {sc : SC} {U : State} {g : JFrame} {mk : MethodId} {a : Array Value} (h : Gd κ sc U) : Gd κ sc (U.calling g mk a) :=
  h.next (U := U.calling g mk a) (H := U.heap) (locs := []) (State.WarmedH.refl U) rfl va_S.rf
def exN : Nat → String
  | 0 => "java/lang/IndexOutOfBoundsException"
  | 1 => "java/lang/IllegalArgumentException"
  | _ => "java/lang/IllegalStateException"
def QO (κ : KX) (Q : Out → AS → Prop) : Array Value → State → Outcome → State → Prop := fun _ st o t => (∃ (r : Option Value) (S : AS), o = .returned (r.map (cv κ)) ∧ Q (.inl r) S ∧ Rep κ S t.heap) ∧ va_F (kF κ) st t
def XO (κ : KX) (Q : Out → AS → Prop) : String → State → State → Prop := fun E st t => (∃ (ec : Nat) (S : AS), exN ec = E ∧ ec < 3 ∧ Q (.inr ec) S ∧ Rep κ S t.heap) ∧ va_F (kF κ) st t
def cvs (κ : KX) (st : List Value) : List Value := st.map (cv κ)
def cvl (κ : KX) (lv : List (Nat × Value)) : List (Nat × Value) := lv.map fun q => (q.1, cv κ q.2)
/-- a frame of the method μ stands in the state s at whose start it was entered -/
def Cx (κ : KX) (sc : SC) (μ : MI) (p : Program) (s : State) (m : MethodId) (args : Array Value) (meth : Method) (c : Code) : Prop :=
  (p.tables.exec = Jvm.exec ∧ c.code = mBs μ ∧ meth.sig.returnType = mRt μ ∧ c.maxLocals = mMl μ ∧ s.vm.findClass (mNm μ).cls = some m.cls) ∧ (∀ w ∈ wsO μ, w.before args s = true) ∧ meth.locks = false ∧ c.exceptionTable.toList = tableOf (mHh μ) ∧ Gd κ sc s ∧ DK μ ∧ (mNm μ).name = meth.name
def Wp (sc : SC) (μ : MI) (mc ms k n : Nat) (pc : Nat) (lv : List (Nat × Value)) (st : List Value) (S : AS) (Q : Out → AS → Prop) : Prop :=
  ∀ (l : Launch) (κ : KX) (p : Program) (e : Env) (s : State) (m : MethodId) (args : Array Value) (below : List Frame) (meth : Method) (c : Code) (H : Heap) (locs : List Loc) (ls : Array Slot), l.stackTraces = false →
    Cx κ sc μ p s m args meth c → va_S (kF κ) s.heap H locs → Rep κ S H → lv_has ls (mMl μ) (cvl κ lv) →
    W p l e (rmO μ mc ms) s m args below meth c H locs k n (vx_MQ below (QO κ Q) (XO κ Q) args s mc ms (kF κ)) (F0 m pc ls (cvs κ st))
def Pc0 (κ : KX) (sc : SC) (as : List Value) (S : AS) : Array Value → State → Prop := va_Pc (cvs κ as) (fun U => Gd κ sc U ∧ Rep κ S U.heap)
def Cal (sc : SC) (μ : MI) (mc ms : Nat) (as : List Value) (S : AS) (Q : Out → AS → Prop) : Prop :=
  ∀ (l : Launch) (κ : KX), l.stackTraces = false → vx_Met l (mNm μ) (wsO μ) (rmO μ mc ms) (Pc0 κ sc as S) (QO κ Q) (XO κ Q) mc ms (kF κ)
theorem Pc0_blind (κ : KX) (sc : SC) (as : List Value) (S : AS) : FrameBlind (Pc0 κ sc as S) := by
  intro a U g mk h
  obtain ⟨h1, h2, h3⟩ := h
  exact ⟨h1, h2.calling, h3⟩
theorem cvl_args (κ : KX) : ∀ (as : List Value) (i : Nat), lv_args i (cvs κ as) = cvl κ (lv_args i as)
  | [], _ => rfl
  | v :: vs, i => by
    show (i, cv κ v) :: lv_args (if (cv κ v).category = 2 then i + 2 else i + 1) (cvs κ vs) = (i, cv κ v) :: cvl κ (lv_args (if v.category = 2 then i + 2 else i + 1) vs)
    rw [cv_cat, cvl_args κ vs]
theorem lg_len (κ : KX) (as : List Value) : (lg_sl (cvs κ as)).length = (lg_sl as).length := by
  induction as with
  | nil => rfl
  | cons v vs ih =>
    simp only [cvs, List.map_cons, lg_sl, List.flatMap_cons, List.length_append] at ih ⊢
    rw [ih]
    congr 1
    simp only [cv_cat]
    split <;> rfl
theorem Cal.of {sc : SC} {μ : MI} {mc ms : Nat} {as : List Value} {S : AS} {Q : Out → AS → Prop} (hg : GM μ) (hl : (lg_sl as).length ≤ mMl μ) (h : Wp sc μ mc ms 0 0 0 (lv_args 0 as) [] S Q) : Cal sc μ mc ms as S Q := by
  intro l κ hfl
  have key : ∀ (p : Program) (e : Env) (s : State) (m : MethodId) (args : Array Value) (below : List Frame) (meth : Method) (c : Code) (s₁ : State), BodyLoose p l (mNm μ) (headSpec (wsO μ) (rmO μ mc ms)) (mBs μ) (mMl μ) (mRt μ) e s m args below meth c s₁ → c.maxLocals = mMl μ → c.exceptionTable.toList = tableOf (mHh μ) → Pc0 κ sc as S args s →
      W p l e (headSpec (wsO μ) (rmO μ mc ms)).room s m args below meth c s.heap [] 0 0 (vx_MQ below (QO κ Q) (XO κ Q) args s mc ms (kF κ)) (entryFrame m args (mMl μ)) := by
    intro p e s m args below meth c s₁ B hml ht hP
    obtain ⟨rfl, hGd, hR⟩ := hP
    have hlv := lv_entry (cvs κ as) (n := mMl μ) (by rw [lg_len]; exact hl)
    rw [lg_entry_eq]
    rw [cvl_args] at hlv
    have hts := atoms_spec (ws := wsO μ) B.pre
    exact h l κ p e s m _ below meth c s.heap [] _ hfl ⟨⟨B.exec, B.bytes, B.returns, hml, findClass_of_methodNamed B.named⟩, hts, B.notSynchronized, ht, hGd, hg.2.2.1, (name_of_methodNamed B.named B.method).1.symm⟩ va_S.rf hR hlv
  cases hh : mHh μ with
  | nil =>
    have hw : wsO μ = Cond.code (mNm μ) (mBs μ) (mMl μ) (mRt μ) :: lw_gd := by
      unfold wsO cdW
      rw [hh]
    refine vx_ofW hg.1 hw ?_
    intro p e s m args below meth c s₁ B hml ht hP
    refine key p e s m args below meth c s₁ B hml ?_ hP
    rw [hh]
    cases hq : c.exceptionTable.toList with
    | nil => rfl
    | cons x t => exact (ht x (by rw [hq]; exact List.mem_cons_self)).elim
  | cons x t =>
    have hw : wsO μ = Cond.codeWith (mNm μ) (mBs μ) (mMl μ) (mRt μ) (x :: t) :: lw_gd := by
      unfold wsO cdW
      rw [hh]
    refine vx_ofWH hg.1 hw ?_
    intro p e s m args below meth c s₁ B hml hP
    refine key p e s m args below meth c s₁ B hml ?_ hP
    rw [hh]
    exact vx_table (x := mNm μ) B (atoms_spec (ws := wsO μ) B.pre _ (by rw [hw]; exact List.mem_cons_self))
theorem Wp.mono {sc : SC} {μ : MI} {mc ms k n pc : Nat} {lv : List (Nat × Value)} {st : List Value} {S : AS} {Q Q' : Out → AS → Prop} (h : Wp sc μ mc ms k n pc lv st S Q) (hq : ∀ o S', Q o S' → Q' o S') : Wp sc μ mc ms k n pc lv st S Q' := by
  intro l κ p e s m args below meth c H locs ls hfl hC hS hR hlv T hT X
  obtain ⟨t, a1, o, b1, b2, b3⟩ := h l κ p e s m args below meth c H locs ls hfl hC hS hR hlv T hT X
  refine ⟨t, a1, o, b1, b2, ?_⟩
  rcases b3 with ⟨⟨⟨r, S', e1, e2, e3⟩, hF⟩, hL⟩ | ⟨q, e1, E, ce, L, ⟨⟨ec, S', f1, f2, f3, f4⟩, hF⟩, hr⟩
  · exact Or.inl ⟨⟨⟨r, S', e1, hq _ _ e2, e3⟩, hF⟩, hL⟩
  · exact Or.inr ⟨q, e1, E, ce, L, ⟨⟨ec, S', f1, f2, hq _ _ f3, f4⟩, hF⟩, hr⟩
theorem Rep.congr {κ : KX} {S S' : AS} {H : Heap} (h : Rep κ S H) (h1 : S'.2 = S.2) (h2 : ∀ i, i < S.2.1 → S'.1 i = S.1 i) : Rep κ S' H := by
  obtain ⟨a, b, c⟩ := h
  refine ⟨fun i hi hj => ?_, ?_, ?_⟩
  · rw [h1] at hi
    rw [h2 i hi] at hj ⊢
    exact a i hi hj
  · rw [h1]
    exact b
  · rw [h1]
    exact c
theorem Wp.congr {sc : SC} {μ : MI} {mc ms k n pc : Nat} {lv : List (Nat × Value)} {st : List Value} {S S' : AS} {Q : Out → AS → Prop} (h1 : S'.2 = S.2) (h2 : ∀ i, i < S.2.1 → S'.1 i = S.1 i) (h : Wp sc μ mc ms k n pc lv st S' Q) : Wp sc μ mc ms k n pc lv st S Q :=
  fun l κ p e s m args below meth c H locs ls hfl hC hS hR hlv => h l κ p e s m args below meth c H locs ls hfl hC hS (hR.congr h1 h2) hlv
theorem Cal.mono {sc : SC} {μ : MI} {mc ms : Nat} {as : List Value} {S : AS} {Q Q' : Out → AS → Prop} (h : Cal sc μ mc ms as S Q) (hq : ∀ o S', Q o S' → Q' o S') : Cal sc μ mc ms as S Q' := by
  intro l κ hfl p e ha hc hk s m args below hf happ hP hK
  obtain ⟨n, o, h1, h2, h3, h4⟩ := h l κ hfl p e ha hc hk s m args below hf happ hP hK
  refine ⟨n, o, h1, h2, h3, ?_⟩
  rcases h4 with ⟨⟨⟨r, S', e1, e2, e3⟩, hF⟩, hL⟩ | ⟨q, e1, E, ce, L, ⟨⟨ec, S', f1, f2, f3, f4⟩, hF⟩, hr⟩
  · exact Or.inl ⟨⟨⟨r, S', e1, hq _ _ e2, e3⟩, hF⟩, hL⟩
  · exact Or.inr ⟨q, e1, E, ce, L, ⟨⟨ec, S', f1, f2, hq _ _ f3, f4⟩, hF⟩, hr⟩
end
section
theorem Cx.dk {κ : KX} {sc : SC} {μ : MI} {p : Program} {s : State} {m : MethodId} {args : Array Value} {meth : Method} {c : Code} (h : Cx κ sc μ p s m args meth c) {pc : Nat} {x : Instr × Nat} (hc : cf (mCd μ) pc = some x) : decode (mBs μ) pc = .ok x := h.2.2.2.2.2.1 pc x hc
theorem Cx.own {κ : KX} {sc : SC} {μ : MI} {p : Program} {s : State} {m : MethodId} {args : Array Value} {meth : Method} {c : Code} (h : Cx κ sc μ p s m args meth c) : s.vm.findClass (mNm μ).cls = some m.cls := h.1.2.2.2.2
theorem Cx.wd {κ : KX} {sc : SC} {μ : MI} {p : Program} {s : State} {m : MethodId} {args : Array Value} {meth : Method} {c : Code} (h : Cx κ sc μ p s m args meth c) {w : Cond} (hw : w ∈ lw_gd) : w.before args s = true := h.2.1 w (List.mem_cons_of_mem _ hw)
theorem Cx.gd {κ : KX} {sc : SC} {μ : MI} {p : Program} {s : State} {m : MethodId} {args : Array Value} {meth : Method} {c : Code} (h : Cx κ sc μ p s m args meth c) : Gd κ sc s := h.2.2.2.2.1
theorem Cx.kk {κ : KX} {sc : SC} {μ : MI} {p : Program} {s : State} {m : MethodId} {args : Array Value} {meth : Method} {c : Code} (h : Cx κ sc μ p s m args meth c) : va_K (kD κ) vwCl (tysK κ) s := h.gd.1.1
theorem Cx.kA {κ : KX} {sc : SC} {μ : MI} {p : Program} {s : State} {m : MethodId} {args : Array Value} {meth : Method} {c : Code} (h : Cx κ sc μ p s m args meth c) : ∀ q : Nat, s.heap.size ≤ q → kF κ q := fun _ hq => ⟨Nat.le_trans h.gd.1.2.1 hq, Or.inl (Nat.le_trans h.gd.1.2.2 hq)⟩
/-- a local -/
def lk : List (Nat × Value) → Nat → Option Value
  | [], _ => none
  | e :: t, i => if e.1 = i then some e.2 else lk t i
theorem lk_mem : ∀ (l : List (Nat × Value)) (i : Nat) (v : Value), lk l i = some v → (i, v) ∈ l
  | [], _, _, h => by cases h
  | e :: t, i, v, h => by
    unfold lk at h
    by_cases he : e.1 = i
    · rw [if_pos he] at h
      cases h
      subst he
      exact List.mem_cons_self
    · rw [if_neg he] at h
      exact List.mem_cons_of_mem _ (lk_mem t i v h)
theorem lk_at {κ : KX} {ls : Array Slot} {nL : Nat} {lv : List (Nat × Value)} {i : Nat} {v : Value} (h : lv_has ls nL (cvl κ lv)) (hl : lk lv i = some v) : ls[i]? = some (.val (cv κ v)) :=
  h.2.2 (i, cv κ v) (List.mem_map.mpr ⟨(i, v), lk_mem lv i v hl, rfl⟩)
def st1 (lv : List (Nat × Value)) (i : Nat) (v : Value) : List (Nat × Value) := (i, v) :: lv.filter (fun q => !(q.1 == i) && !(q.1 + 1 == i && q.2.category == 2))
def st2 (lv : List (Nat × Value)) (i : Nat) (v : Value) : List (Nat × Value) := (i, v) :: lv.filter (fun q => !(q.1 == i) && (!(q.1 == i + 1) && !(q.1 + 1 == i && q.2.category == 2)))
theorem st1_cv (κ : KX) (lv : List (Nat × Value)) (i : Nat) (v : Value) : (i, cv κ v) :: (cvl κ lv).filter (fun q => !(q.1 == i) && !(q.1 + 1 == i && q.2.category == 2)) = cvl κ (st1 lv i v) := by
  unfold st1 cvl
  rw [List.map_cons, List.filter_map]
  congr 2
  apply List.filter_congr
  intro q _
  simp [Function.comp, cv_cat]
theorem st2_cv (κ : KX) (lv : List (Nat × Value)) (i : Nat) (v : Value) : (i, cv κ v) :: (cvl κ lv).filter (fun q => !(q.1 == i) && (!(q.1 == i + 1) && !(q.1 + 1 == i && q.2.category == 2))) = cvl κ (st2 lv i v) := by
  unfold st2 cvl
  rw [List.map_cons, List.filter_map]
  congr 2
  apply List.filter_congr
  intro q _
  simp [Function.comp, cv_cat]
theorem cvs_sum (κ : KX) (st : List Value) : ((cvs κ st).map fun v => v.category).sum = (st.map fun v => v.category).sum := by
  congr 1
  unfold cvs
  rw [List.map_map]
  apply List.map_congr_left
  intro v _
  exact cv_cat κ v
theorem cvl_sub {κ : KX} {ls : Array Slot} {nL : Nat} {lv lv' : List (Nat × Value)} (h : lv_has ls nL (cvl κ lv)) (ks : List Nat) (hl : lv_pick lv ks = lv') : lv_has ls nL (cvl κ lv') := by
  refine lv_sub h ks ?_
  subst hl
  unfold lv_pick cvl
  rw [List.map_filterMap]
  congr 1
  funext i
  rw [List.getElem?_map]
theorem r_lv {sc : SC} {μ : MI} {mc ms k n pc : Nat} {lv : List (Nat × Value)} {st : List Value} {S : AS} {Q : Out → AS → Prop} {lv' : List (Nat × Value)} (ks : List Nat) (hl : lv_pick lv ks = lv') (kk : Wp sc μ mc ms k n pc lv' st S Q) : Wp sc μ mc ms k n pc lv st S Q := by
  intro l κ p e s m args below meth c H locs ls hfl hC hS hR hlv
  exact kk l κ p e s m args below meth c H locs ls hfl hC hS hR (cvl_sub hlv ks hl)
theorem r_top {sc : SC} {μ : MI} {mc ms k n pc : Nat} {lv : List (Nat × Value)} {st : List Value} {S : AS} {Q : Out → AS → Prop} {x y : Int32} (h : x = y) (kk : Wp sc μ mc ms k n pc lv (.int y :: st) S Q) : Wp sc μ mc ms k n pc lv (.int x :: st) S Q := h ▸ kk
theorem r_topL {sc : SC} {μ : MI} {mc ms k n pc : Nat} {lv : List (Nat × Value)} {st : List Value} {S : AS} {Q : Out → AS → Prop} {x y : Int64} (h : x = y) (kk : Wp sc μ mc ms k n pc lv (.long y :: st) S Q) : Wp sc μ mc ms k n pc lv (.long x :: st) S Q := h ▸ kk

theorem r_iconst {sc : SC} {μ : MI} {mc ms k n pc : Nat} {lv : List (Nat × Value)} {st : List Value} {S : AS} {Q : Out → AS → Prop} {z : Int} {v : Int32} (h : cf (mCd μ) pc = some (.iconst z, 1)) (hv : Int32.ofInt z = v) (kk : Wp sc μ mc ms k n (pc + 1) lv (.int v :: st) S Q) : Wp sc μ mc ms k n pc lv (st) S Q := by
  intro l κ p e s m args below meth c H locs ls hfl hC hS hR hlv
  exact lv_iconst hC.1.1 hC.1.2.1 (hC.dk h) hv (kk l κ p e s m args below meth c H locs _ hfl hC hS hR hlv)

theorem r_bipush {sc : SC} {μ : MI} {mc ms k n pc : Nat} {lv : List (Nat × Value)} {st : List Value} {S : AS} {Q : Out → AS → Prop} {z : Int} {v : Int32} (h : cf (mCd μ) pc = some (.bipush z, 2)) (hv : (Int8.ofInt z).toInt32 = v) (kk : Wp sc μ mc ms k n (pc + 2) lv (.int v :: st) S Q) : Wp sc μ mc ms k n pc lv (st) S Q := by
  intro l κ p e s m args below meth c H locs ls hfl hC hS hR hlv
  exact lv_bipush hC.1.1 hC.1.2.1 (hC.dk h) hv (kk l κ p e s m args below meth c H locs _ hfl hC hS hR hlv)

theorem r_sipush {sc : SC} {μ : MI} {mc ms k n pc : Nat} {lv : List (Nat × Value)} {st : List Value} {S : AS} {Q : Out → AS → Prop} {z : Int} {v : Int32} (h : cf (mCd μ) pc = some (.sipush z, 3)) (hv : (Int16.ofInt z).toInt32 = v) (kk : Wp sc μ mc ms k n (pc + 3) lv (.int v :: st) S Q) : Wp sc μ mc ms k n pc lv (st) S Q := by
  intro l κ p e s m args below meth c H locs ls hfl hC hS hR hlv
  exact lv_sipush hC.1.1 hC.1.2.1 (hC.dk h) hv (kk l κ p e s m args below meth c H locs _ hfl hC hS hR hlv)

theorem r_lconst {sc : SC} {μ : MI} {mc ms k n pc : Nat} {lv : List (Nat × Value)} {st : List Value} {S : AS} {Q : Out → AS → Prop} {z : Fin 2} {v : Int64} (h : cf (mCd μ) pc = some (.lconst z, 1)) (hv : Int64.ofNat (z : Nat) = v) (kk : Wp sc μ mc ms k n (pc + 1) lv (.long v :: st) S Q) : Wp sc μ mc ms k n pc lv (st) S Q := by
  intro l κ p e s m args below meth c H locs ls hfl hC hS hR hlv
  exact lv_lconst hC.1.1 hC.1.2.1 (hC.dk h) hv (kk l κ p e s m args below meth c H locs _ hfl hC hS hR hlv)

theorem r_ldc {sc : SC} {μ : MI} {mc ms k n pc : Nat} {lv : List (Nat × Value)} {st : List Value} {S : AS} {Q : Out → AS → Prop} {idx : Nat} {v : Int32} (h : cf (mCd μ) pc = some (.ldc idx, 2)) (hw : Cond.constant (mNm μ).cls idx v ∈ lw_gd) (kk : Wp sc μ mc ms k n (pc + 2) lv (.int v :: st) S Q) : Wp sc μ mc ms k n pc lv (st) S Q := by
  intro l κ p e s m args below meth c H locs ls hfl hC hS hR hlv
  exact lv_ldc hC.1.1 hC.1.2.1 hC.own (hC.wd hw) (hC.dk h) (kk l κ p e s m args below meth c H locs _ hfl hC hS hR hlv)

theorem r_ldcw {sc : SC} {μ : MI} {mc ms k n pc : Nat} {lv : List (Nat × Value)} {st : List Value} {S : AS} {Q : Out → AS → Prop} {idx : Nat} {v : Int32} (h : cf (mCd μ) pc = some (.ldc_w idx, 3)) (hw : Cond.constant (mNm μ).cls idx v ∈ lw_gd) (kk : Wp sc μ mc ms k n (pc + 3) lv (.int v :: st) S Q) : Wp sc μ mc ms k n pc lv (st) S Q := by
  intro l κ p e s m args below meth c H locs ls hfl hC hS hR hlv
  exact lv_ldcw hC.1.1 hC.1.2.1 hC.own (hC.wd hw) (hC.dk h) (kk l κ p e s m args below meth c H locs _ hfl hC hS hR hlv)

theorem r_ldc2 {sc : SC} {μ : MI} {mc ms k n pc : Nat} {lv : List (Nat × Value)} {st : List Value} {S : AS} {Q : Out → AS → Prop} {idx : Nat} {v : Int64} (h : cf (mCd μ) pc = some (.ldc2_w idx, 3)) (hw : Cond.constantLong (mNm μ).cls idx v ∈ lw_gd) (kk : Wp sc μ mc ms k n (pc + 3) lv (.long v :: st) S Q) : Wp sc μ mc ms k n pc lv (st) S Q := by
  intro l κ p e s m args below meth c H locs ls hfl hC hS hR hlv
  exact lv_ldc2 hC.1.1 hC.1.2.1 hC.own (hC.wd hw) (hC.dk h) (kk l κ p e s m args below meth c H locs _ hfl hC hS hR hlv)

theorem r_iload_n {sc : SC} {μ : MI} {mc ms k n pc : Nat} {lv : List (Nat × Value)} {st : List Value} {S : AS} {Q : Out → AS → Prop} {i : Fin 4} {x : Int32} (h : cf (mCd μ) pc = some (.iload_n i, 1)) (hl : lk lv (i : Nat) = some (.int x)) (kk : Wp sc μ mc ms k n (pc + 1) lv (.int x :: st) S Q) : Wp sc μ mc ms k n pc lv (st) S Q := by
  intro l κ p e s m args below meth c H locs ls hfl hC hS hR hlv
  exact lv_iload_n hC.1.1 hC.1.2.1 (hC.dk h) rfl (lk_at hlv hl) (kk l κ p e s m args below meth c H locs _ hfl hC hS hR hlv)

theorem r_iload {sc : SC} {μ : MI} {mc ms k n pc : Nat} {lv : List (Nat × Value)} {st : List Value} {S : AS} {Q : Out → AS → Prop} {i : Nat} {x : Int32} (h : cf (mCd μ) pc = some (.iload i, 2)) (hl : lk lv i = some (.int x)) (kk : Wp sc μ mc ms k n (pc + 2) lv (.int x :: st) S Q) : Wp sc μ mc ms k n pc lv (st) S Q := by
  intro l κ p e s m args below meth c H locs ls hfl hC hS hR hlv
  exact lv_iload hC.1.1 hC.1.2.1 (hC.dk h) (lk_at hlv hl) (kk l κ p e s m args below meth c H locs _ hfl hC hS hR hlv)

theorem r_lload_n {sc : SC} {μ : MI} {mc ms k n pc : Nat} {lv : List (Nat × Value)} {st : List Value} {S : AS} {Q : Out → AS → Prop} {i : Fin 4} {x : Int64} (h : cf (mCd μ) pc = some (.lload_n i, 1)) (hl : lk lv (i : Nat) = some (.long x)) (kk : Wp sc μ mc ms k n (pc + 1) lv (.long x :: st) S Q) : Wp sc μ mc ms k n pc lv (st) S Q := by
  intro l κ p e s m args below meth c H locs ls hfl hC hS hR hlv
  exact lv_lload_n hC.1.1 hC.1.2.1 (hC.dk h) rfl (lk_at hlv hl) (kk l κ p e s m args below meth c H locs _ hfl hC hS hR hlv)

theorem r_lload {sc : SC} {μ : MI} {mc ms k n pc : Nat} {lv : List (Nat × Value)} {st : List Value} {S : AS} {Q : Out → AS → Prop} {i : Nat} {x : Int64} (h : cf (mCd μ) pc = some (.lload i, 2)) (hl : lk lv i = some (.long x)) (kk : Wp sc μ mc ms k n (pc + 2) lv (.long x :: st) S Q) : Wp sc μ mc ms k n pc lv (st) S Q := by
  intro l κ p e s m args below meth c H locs ls hfl hC hS hR hlv
  exact lv_lload hC.1.1 hC.1.2.1 (hC.dk h) (lk_at hlv hl) (kk l κ p e s m args below meth c H locs _ hfl hC hS hR hlv)

theorem r_aload_n {sc : SC} {μ : MI} {mc ms k n pc : Nat} {lv : List (Nat × Value)} {st : List Value} {S : AS} {Q : Out → AS → Prop} {i : Fin 4} {x : Nat} (h : cf (mCd μ) pc = some (.aload_n i, 1)) (hl : lk lv (i : Nat) = some (.ref x)) (kk : Wp sc μ mc ms k n (pc + 1) lv (.ref x :: st) S Q) : Wp sc μ mc ms k n pc lv (st) S Q := by
  intro l κ p e s m args below meth c H locs ls hfl hC hS hR hlv
  exact lv_aload_n hC.1.1 hC.1.2.1 (hC.dk h) rfl (lk_at hlv hl) (kk l κ p e s m args below meth c H locs _ hfl hC hS hR hlv)

theorem r_aload {sc : SC} {μ : MI} {mc ms k n pc : Nat} {lv : List (Nat × Value)} {st : List Value} {S : AS} {Q : Out → AS → Prop} {i : Nat} {x : Nat} (h : cf (mCd μ) pc = some (.aload i, 2)) (hl : lk lv i = some (.ref x)) (kk : Wp sc μ mc ms k n (pc + 2) lv (.ref x :: st) S Q) : Wp sc μ mc ms k n pc lv (st) S Q := by
  intro l κ p e s m args below meth c H locs ls hfl hC hS hR hlv
  exact lv_aload hC.1.1 hC.1.2.1 (hC.dk h) (lk_at hlv hl) (kk l κ p e s m args below meth c H locs _ hfl hC hS hR hlv)

theorem cvK_ref (κ : KX) {x : Nat} (hx : x ≠ 99) : ∃ t, cv κ (.retAddr x) = .ref t := by
  show ∃ t, cvK κ x = .ref t
  unfold cvK
  split
  · exact ⟨_, rfl⟩
  · split
    · exact ⟨_, rfl⟩
    · rw [if_neg (by omega)]
      split <;> exact ⟨_, rfl⟩

theorem r_aload_nK {sc : SC} {μ : MI} {mc ms k n pc : Nat} {lv : List (Nat × Value)} {st : List Value} {S : AS} {Q : Out → AS → Prop} {i : Fin 4} {x : Nat} (h : cf (mCd μ) pc = some (.aload_n i, 1)) (hl : lk lv (i : Nat) = some (.retAddr x)) (hx : x ≠ 99) (kk : Wp sc μ mc ms k n (pc + 1) lv (.retAddr x :: st) S Q) : Wp sc μ mc ms k n pc lv st S Q := by
  intro l κ p e s m args below meth c H locs ls hfl hC hS hR hlv
  have h1 := lk_at hlv hl
  have h2 := kk l κ p e s m args below meth c H locs _ hfl hC hS hR hlv
  obtain ⟨t, ht⟩ := cvK_ref κ hx
  have h3 : cvs κ (.retAddr x :: st) = .ref t :: cvs κ st := by
    show cv κ (.retAddr x) :: cvs κ st = _
    rw [ht]
  rw [h3] at h2
  rw [ht] at h1
  exact lv_aload_n hC.1.1 hC.1.2.1 (hC.dk h) rfl h1 h2

theorem r_aloadK {sc : SC} {μ : MI} {mc ms k n pc : Nat} {lv : List (Nat × Value)} {st : List Value} {S : AS} {Q : Out → AS → Prop} {i : Nat} {x : Nat} (h : cf (mCd μ) pc = some (.aload i, 2)) (hl : lk lv i = some (.retAddr x)) (hx : x ≠ 99) (kk : Wp sc μ mc ms k n (pc + 2) lv (.retAddr x :: st) S Q) : Wp sc μ mc ms k n pc lv st S Q := by
  intro l κ p e s m args below meth c H locs ls hfl hC hS hR hlv
  have h1 := lk_at hlv hl
  have h2 := kk l κ p e s m args below meth c H locs _ hfl hC hS hR hlv
  obtain ⟨t, ht⟩ := cvK_ref κ hx
  have h3 : cvs κ (.retAddr x :: st) = .ref t :: cvs κ st := by
    show cv κ (.retAddr x) :: cvs κ st = _
    rw [ht]
  rw [h3] at h2
  rw [ht] at h1
  exact lv_aload hC.1.1 hC.1.2.1 (hC.dk h) h1 h2

theorem r_istore_n {sc : SC} {μ : MI} {mc ms k n pc : Nat} {lv : List (Nat × Value)} {st : List Value} {S : AS} {Q : Out → AS → Prop} {j : Fin 4} {i : Nat} {x : Int32} {lv' : List (Nat × Value)} (h : cf (mCd μ) pc = some (.istore_n j, 1)) (hi : (j : Nat) = i) (hn : i < mMl μ) (hl : st1 lv i (.int x) = lv') (kk : Wp sc μ mc ms k n (pc + 1) lv' st S Q) : Wp sc μ mc ms k n pc lv (.int x :: st) S Q := by
  intro l κ p e s m args below meth c H locs ls hfl hC hS hR hlv
  exact lv_istore_n (nL := mMl μ) (lv' := cvl κ lv') hC.1.1 hC.1.2.1 (hC.dk h) hi hlv hn (by subst hl; exact st1_cv κ lv i (.int x)) (fun ls' hlv => kk l κ p e s m args below meth c H locs ls' hfl hC hS hR hlv)

theorem r_istore {sc : SC} {μ : MI} {mc ms k n pc : Nat} {lv : List (Nat × Value)} {st : List Value} {S : AS} {Q : Out → AS → Prop} {i : Nat} {x : Int32} {lv' : List (Nat × Value)} (h : cf (mCd μ) pc = some (.istore i, 2)) (hn : i < mMl μ) (hl : st1 lv i (.int x) = lv') (kk : Wp sc μ mc ms k n (pc + 2) lv' st S Q) : Wp sc μ mc ms k n pc lv (.int x :: st) S Q := by
  intro l κ p e s m args below meth c H locs ls hfl hC hS hR hlv
  exact lv_istore (nL := mMl μ) (lv' := cvl κ lv') hC.1.1 hC.1.2.1 (hC.dk h) hlv hn (by subst hl; exact st1_cv κ lv i (.int x)) (fun ls' hlv => kk l κ p e s m args below meth c H locs ls' hfl hC hS hR hlv)

theorem r_lstore_n {sc : SC} {μ : MI} {mc ms k n pc : Nat} {lv : List (Nat × Value)} {st : List Value} {S : AS} {Q : Out → AS → Prop} {j : Fin 4} {i : Nat} {x : Int64} {lv' : List (Nat × Value)} (h : cf (mCd μ) pc = some (.lstore_n j, 1)) (hi : (j : Nat) = i) (hn : i + 1 < mMl μ) (hl : st2 lv i (.long x) = lv') (kk : Wp sc μ mc ms k n (pc + 1) lv' st S Q) : Wp sc μ mc ms k n pc lv (.long x :: st) S Q := by
  intro l κ p e s m args below meth c H locs ls hfl hC hS hR hlv
  exact lv_lstore_n (nL := mMl μ) (lv' := cvl κ lv') hC.1.1 hC.1.2.1 (hC.dk h) hi hlv hn (by subst hl; exact st2_cv κ lv i (.long x)) (fun ls' hlv => kk l κ p e s m args below meth c H locs ls' hfl hC hS hR hlv)

theorem r_lstore {sc : SC} {μ : MI} {mc ms k n pc : Nat} {lv : List (Nat × Value)} {st : List Value} {S : AS} {Q : Out → AS → Prop} {i : Nat} {x : Int64} {lv' : List (Nat × Value)} (h : cf (mCd μ) pc = some (.lstore i, 2)) (hn : i + 1 < mMl μ) (hl : st2 lv i (.long x) = lv') (kk : Wp sc μ mc ms k n (pc + 2) lv' st S Q) : Wp sc μ mc ms k n pc lv (.long x :: st) S Q := by
  intro l κ p e s m args below meth c H locs ls hfl hC hS hR hlv
  exact lv_lstore (nL := mMl μ) (lv' := cvl κ lv') hC.1.1 hC.1.2.1 (hC.dk h) hlv hn (by subst hl; exact st2_cv κ lv i (.long x)) (fun ls' hlv => kk l κ p e s m args below meth c H locs ls' hfl hC hS hR hlv)

theorem r_astore_n {sc : SC} {μ : MI} {mc ms k n pc : Nat} {lv : List (Nat × Value)} {st : List Value} {S : AS} {Q : Out → AS → Prop} {j : Fin 4} {i : Nat} {x : Nat} {lv' : List (Nat × Value)} (h : cf (mCd μ) pc = some (.astore_n j, 1)) (hi : (j : Nat) = i) (hn : i < mMl μ) (hl : st1 lv i (.ref x) = lv') (kk : Wp sc μ mc ms k n (pc + 1) lv' st S Q) : Wp sc μ mc ms k n pc lv (.ref x :: st) S Q := by
  intro l κ p e s m args below meth c H locs ls hfl hC hS hR hlv
  exact lv_astore_n (nL := mMl μ) (lv' := cvl κ lv') hC.1.1 hC.1.2.1 (hC.dk h) hi hlv hn (by subst hl; exact st1_cv κ lv i (.ref x)) (fun ls' hlv => kk l κ p e s m args below meth c H locs ls' hfl hC hS hR hlv)

theorem r_astore {sc : SC} {μ : MI} {mc ms k n pc : Nat} {lv : List (Nat × Value)} {st : List Value} {S : AS} {Q : Out → AS → Prop} {i : Nat} {x : Nat} {lv' : List (Nat × Value)} (h : cf (mCd μ) pc = some (.astore i, 2)) (hn : i < mMl μ) (hl : st1 lv i (.ref x) = lv') (kk : Wp sc μ mc ms k n (pc + 2) lv' st S Q) : Wp sc μ mc ms k n pc lv (.ref x :: st) S Q := by
  intro l κ p e s m args below meth c H locs ls hfl hC hS hR hlv
  exact lv_astore (nL := mMl μ) (lv' := cvl κ lv') hC.1.1 hC.1.2.1 (hC.dk h) hlv hn (by subst hl; exact st1_cv κ lv i (.ref x)) (fun ls' hlv => kk l κ p e s m args below meth c H locs ls' hfl hC hS hR hlv)

theorem r_iinc {sc : SC} {μ : MI} {mc ms k n pc : Nat} {lv : List (Nat × Value)} {st : List Value} {S : AS} {Q : Out → AS → Prop} {i : Nat} {z : Int} {x v : Int32} {lv' : List (Nat × Value)} (h : cf (mCd μ) pc = some (.iinc i z, 3)) (hx : lk lv i = some (.int x)) (hv : x + Int32.ofInt z = v) (hn : i < mMl μ) (hl : st1 lv i (.int v) = lv') (kk : Wp sc μ mc ms k n (pc + 3) lv' st S Q) : Wp sc μ mc ms k n pc lv st S Q := by
  intro l κ p e s m args below meth c H locs ls hfl hC hS hR hlv
  obtain ⟨j, hj⟩ := List.getElem?_of_mem (lk_mem lv i _ hx)
  exact lv_iinc (nL := mMl μ) (lv' := cvl κ lv') (k := j) (x := x) hC.1.1 hC.1.2.1 (hC.dk h) hlv (by unfold cvl; rw [List.getElem?_map, hj]; rfl) hv hn (by subst hl; exact st1_cv κ lv i (.int v)) (fun ls' hlv => kk l κ p e s m args below meth c H locs ls' hfl hC hS hR hlv)

theorem r_iadd {sc : SC} {μ : MI} {mc ms k n pc : Nat} {lv : List (Nat × Value)} {st : List Value} {S : AS} {Q : Out → AS → Prop} {x y : Int32} (h : cf (mCd μ) pc = some (.iadd, 1))  (kk : Wp sc μ mc ms k n (pc + 1) lv (.int (x + y) :: st) S Q) : Wp sc μ mc ms k n pc lv (.int y :: .int x :: st) S Q := by
  intro l κ p e s m args below meth c H locs ls hfl hC hS hR hlv
  exact lv_iadd hC.1.1 hC.1.2.1 (hC.dk h) (kk l κ p e s m args below meth c H locs _ hfl hC hS hR hlv)

theorem r_isub {sc : SC} {μ : MI} {mc ms k n pc : Nat} {lv : List (Nat × Value)} {st : List Value} {S : AS} {Q : Out → AS → Prop} {x y : Int32} (h : cf (mCd μ) pc = some (.isub, 1))  (kk : Wp sc μ mc ms k n (pc + 1) lv (.int (x - y) :: st) S Q) : Wp sc μ mc ms k n pc lv (.int y :: .int x :: st) S Q := by
  intro l κ p e s m args below meth c H locs ls hfl hC hS hR hlv
  exact lv_isub hC.1.1 hC.1.2.1 (hC.dk h) (kk l κ p e s m args below meth c H locs _ hfl hC hS hR hlv)

theorem r_imul {sc : SC} {μ : MI} {mc ms k n pc : Nat} {lv : List (Nat × Value)} {st : List Value} {S : AS} {Q : Out → AS → Prop} {x y : Int32} (h : cf (mCd μ) pc = some (.imul, 1))  (kk : Wp sc μ mc ms k n (pc + 1) lv (.int (x * y) :: st) S Q) : Wp sc μ mc ms k n pc lv (.int y :: .int x :: st) S Q := by
  intro l κ p e s m args below meth c H locs ls hfl hC hS hR hlv
  exact lv_imul hC.1.1 hC.1.2.1 (hC.dk h) (kk l κ p e s m args below meth c H locs _ hfl hC hS hR hlv)

theorem r_iand {sc : SC} {μ : MI} {mc ms k n pc : Nat} {lv : List (Nat × Value)} {st : List Value} {S : AS} {Q : Out → AS → Prop} {x y : Int32} (h : cf (mCd μ) pc = some (.iand, 1))  (kk : Wp sc μ mc ms k n (pc + 1) lv (.int (x &&& y) :: st) S Q) : Wp sc μ mc ms k n pc lv (.int y :: .int x :: st) S Q := by
  intro l κ p e s m args below meth c H locs ls hfl hC hS hR hlv
  exact lv_iand hC.1.1 hC.1.2.1 (hC.dk h) (kk l κ p e s m args below meth c H locs _ hfl hC hS hR hlv)

theorem r_ior {sc : SC} {μ : MI} {mc ms k n pc : Nat} {lv : List (Nat × Value)} {st : List Value} {S : AS} {Q : Out → AS → Prop} {x y : Int32} (h : cf (mCd μ) pc = some (.ior, 1))  (kk : Wp sc μ mc ms k n (pc + 1) lv (.int (x ||| y) :: st) S Q) : Wp sc μ mc ms k n pc lv (.int y :: .int x :: st) S Q := by
  intro l κ p e s m args below meth c H locs ls hfl hC hS hR hlv
  exact lv_ior hC.1.1 hC.1.2.1 (hC.dk h) (kk l κ p e s m args below meth c H locs _ hfl hC hS hR hlv)

theorem r_ixor {sc : SC} {μ : MI} {mc ms k n pc : Nat} {lv : List (Nat × Value)} {st : List Value} {S : AS} {Q : Out → AS → Prop} {x y : Int32} (h : cf (mCd μ) pc = some (.ixor, 1))  (kk : Wp sc μ mc ms k n (pc + 1) lv (.int (x ^^^ y) :: st) S Q) : Wp sc μ mc ms k n pc lv (.int y :: .int x :: st) S Q := by
  intro l κ p e s m args below meth c H locs ls hfl hC hS hR hlv
  exact lv_ixor hC.1.1 hC.1.2.1 (hC.dk h) (kk l κ p e s m args below meth c H locs _ hfl hC hS hR hlv)

theorem r_ishl {sc : SC} {μ : MI} {mc ms k n pc : Nat} {lv : List (Nat × Value)} {st : List Value} {S : AS} {Q : Out → AS → Prop} {x y : Int32} (h : cf (mCd μ) pc = some (.ishl, 1))  (kk : Wp sc μ mc ms k n (pc + 1) lv (.int (x <<< (y &&& 31)) :: st) S Q) : Wp sc μ mc ms k n pc lv (.int y :: .int x :: st) S Q := by
  intro l κ p e s m args below meth c H locs ls hfl hC hS hR hlv
  exact lv_ishl hC.1.1 hC.1.2.1 (hC.dk h) (kk l κ p e s m args below meth c H locs _ hfl hC hS hR hlv)

theorem r_ishr {sc : SC} {μ : MI} {mc ms k n pc : Nat} {lv : List (Nat × Value)} {st : List Value} {S : AS} {Q : Out → AS → Prop} {x y : Int32} (h : cf (mCd μ) pc = some (.ishr, 1))  (kk : Wp sc μ mc ms k n (pc + 1) lv (.int (x >>> (y &&& 31)) :: st) S Q) : Wp sc μ mc ms k n pc lv (.int y :: .int x :: st) S Q := by
  intro l κ p e s m args below meth c H locs ls hfl hC hS hR hlv
  exact lv_ishr hC.1.1 hC.1.2.1 (hC.dk h) (kk l κ p e s m args below meth c H locs _ hfl hC hS hR hlv)

theorem r_idiv {sc : SC} {μ : MI} {mc ms k n pc : Nat} {lv : List (Nat × Value)} {st : List Value} {S : AS} {Q : Out → AS → Prop} {x y : Int32} (h : cf (mCd μ) pc = some (.idiv, 1)) (hne : ¬ y = 0) (kk : Wp sc μ mc ms k n (pc + 1) lv (.int (x / y) :: st) S Q) : Wp sc μ mc ms k n pc lv (.int y :: .int x :: st) S Q := by
  intro l κ p e s m args below meth c H locs ls hfl hC hS hR hlv
  exact lv_idiv hC.1.1 hC.1.2.1 (hC.dk h) hne (kk l κ p e s m args below meth c H locs _ hfl hC hS hR hlv)

theorem r_irem {sc : SC} {μ : MI} {mc ms k n pc : Nat} {lv : List (Nat × Value)} {st : List Value} {S : AS} {Q : Out → AS → Prop} {x y : Int32} (h : cf (mCd μ) pc = some (.irem, 1)) (hne : ¬ y = 0) (kk : Wp sc μ mc ms k n (pc + 1) lv (.int (x - x / y * y) :: st) S Q) : Wp sc μ mc ms k n pc lv (.int y :: .int x :: st) S Q := by
  intro l κ p e s m args below meth c H locs ls hfl hC hS hR hlv
  exact lv_irem hC.1.1 hC.1.2.1 (hC.dk h) hne (kk l κ p e s m args below meth c H locs _ hfl hC hS hR hlv)

theorem r_ladd {sc : SC} {μ : MI} {mc ms k n pc : Nat} {lv : List (Nat × Value)} {st : List Value} {S : AS} {Q : Out → AS → Prop} {x y : Int64} (h : cf (mCd μ) pc = some (.ladd, 1))  (kk : Wp sc μ mc ms k n (pc + 1) lv (.long (x + y) :: st) S Q) : Wp sc μ mc ms k n pc lv (.long y :: .long x :: st) S Q := by
  intro l κ p e s m args below meth c H locs ls hfl hC hS hR hlv
  exact lv_ladd hC.1.1 hC.1.2.1 (hC.dk h) (kk l κ p e s m args below meth c H locs _ hfl hC hS hR hlv)

theorem r_lsub {sc : SC} {μ : MI} {mc ms k n pc : Nat} {lv : List (Nat × Value)} {st : List Value} {S : AS} {Q : Out → AS → Prop} {x y : Int64} (h : cf (mCd μ) pc = some (.lsub, 1))  (kk : Wp sc μ mc ms k n (pc + 1) lv (.long (x - y) :: st) S Q) : Wp sc μ mc ms k n pc lv (.long y :: .long x :: st) S Q := by
  intro l κ p e s m args below meth c H locs ls hfl hC hS hR hlv
  exact lv_lsub hC.1.1 hC.1.2.1 (hC.dk h) (kk l κ p e s m args below meth c H locs _ hfl hC hS hR hlv)

theorem r_lmul {sc : SC} {μ : MI} {mc ms k n pc : Nat} {lv : List (Nat × Value)} {st : List Value} {S : AS} {Q : Out → AS → Prop} {x y : Int64} (h : cf (mCd μ) pc = some (.lmul, 1))  (kk : Wp sc μ mc ms k n (pc + 1) lv (.long (x * y) :: st) S Q) : Wp sc μ mc ms k n pc lv (.long y :: .long x :: st) S Q := by
  intro l κ p e s m args below meth c H locs ls hfl hC hS hR hlv
  exact lv_lmul hC.1.1 hC.1.2.1 (hC.dk h) (kk l κ p e s m args below meth c H locs _ hfl hC hS hR hlv)

theorem r_land {sc : SC} {μ : MI} {mc ms k n pc : Nat} {lv : List (Nat × Value)} {st : List Value} {S : AS} {Q : Out → AS → Prop} {x y : Int64} (h : cf (mCd μ) pc = some (.land, 1))  (kk : Wp sc μ mc ms k n (pc + 1) lv (.long (x &&& y) :: st) S Q) : Wp sc μ mc ms k n pc lv (.long y :: .long x :: st) S Q := by
  intro l κ p e s m args below meth c H locs ls hfl hC hS hR hlv
  exact lv_land hC.1.1 hC.1.2.1 (hC.dk h) (kk l κ p e s m args below meth c H locs _ hfl hC hS hR hlv)

theorem r_lor {sc : SC} {μ : MI} {mc ms k n pc : Nat} {lv : List (Nat × Value)} {st : List Value} {S : AS} {Q : Out → AS → Prop} {x y : Int64} (h : cf (mCd μ) pc = some (.lor, 1))  (kk : Wp sc μ mc ms k n (pc + 1) lv (.long (x ||| y) :: st) S Q) : Wp sc μ mc ms k n pc lv (.long y :: .long x :: st) S Q := by
  intro l κ p e s m args below meth c H locs ls hfl hC hS hR hlv
  exact lv_lor hC.1.1 hC.1.2.1 (hC.dk h) (kk l κ p e s m args below meth c H locs _ hfl hC hS hR hlv)

theorem r_ldiv {sc : SC} {μ : MI} {mc ms k n pc : Nat} {lv : List (Nat × Value)} {st : List Value} {S : AS} {Q : Out → AS → Prop} {x y : Int64} (h : cf (mCd μ) pc = some (.ldiv, 1)) (hne : ¬ y = 0) (kk : Wp sc μ mc ms k n (pc + 1) lv (.long (x / y) :: st) S Q) : Wp sc μ mc ms k n pc lv (.long y :: .long x :: st) S Q := by
  intro l κ p e s m args below meth c H locs ls hfl hC hS hR hlv
  exact lv_ldiv hC.1.1 hC.1.2.1 (hC.dk h) hne (kk l κ p e s m args below meth c H locs _ hfl hC hS hR hlv)

theorem r_lrem {sc : SC} {μ : MI} {mc ms k n pc : Nat} {lv : List (Nat × Value)} {st : List Value} {S : AS} {Q : Out → AS → Prop} {x y : Int64} (h : cf (mCd μ) pc = some (.lrem, 1)) (hne : ¬ y = 0) (kk : Wp sc μ mc ms k n (pc + 1) lv (.long (x - x / y * y) :: st) S Q) : Wp sc μ mc ms k n pc lv (.long y :: .long x :: st) S Q := by
  intro l κ p e s m args below meth c H locs ls hfl hC hS hR hlv
  exact lv_lrem hC.1.1 hC.1.2.1 (hC.dk h) hne (kk l κ p e s m args below meth c H locs _ hfl hC hS hR hlv)

theorem r_lshl {sc : SC} {μ : MI} {mc ms k n pc : Nat} {lv : List (Nat × Value)} {st : List Value} {S : AS} {Q : Out → AS → Prop} {x v : Int64} {y : Int32} (h : cf (mCd μ) pc = some (.lshl, 1)) (hv : x <<< (y.toInt64 &&& 63) = v) (kk : Wp sc μ mc ms k n (pc + 1) lv (.long v :: st) S Q) : Wp sc μ mc ms k n pc lv (.int y :: .long x :: st) S Q := by
  intro l κ p e s m args below meth c H locs ls hfl hC hS hR hlv
  exact lv_lshl hC.1.1 hC.1.2.1 (hC.dk h) hv (kk l κ p e s m args below meth c H locs _ hfl hC hS hR hlv)

theorem r_i2l {sc : SC} {μ : MI} {mc ms k n pc : Nat} {lv : List (Nat × Value)} {st : List Value} {S : AS} {Q : Out → AS → Prop} {x : Int32} {v : Int64} (h : cf (mCd μ) pc = some (.i2l, 1)) (hv : x.toInt64 = v) (kk : Wp sc μ mc ms k n (pc + 1) lv (.long v :: st) S Q) : Wp sc μ mc ms k n pc lv (.int x :: st) S Q := by
  intro l κ p e s m args below meth c H locs ls hfl hC hS hR hlv
  exact lv_i2l hC.1.1 hC.1.2.1 (hC.dk h) hv (kk l κ p e s m args below meth c H locs _ hfl hC hS hR hlv)

theorem r_l2i {sc : SC} {μ : MI} {mc ms k n pc : Nat} {lv : List (Nat × Value)} {st : List Value} {S : AS} {Q : Out → AS → Prop} {x : Int64} {v : Int32} (h : cf (mCd μ) pc = some (.l2i, 1)) (hv : x.toInt32 = v) (kk : Wp sc μ mc ms k n (pc + 1) lv (.int v :: st) S Q) : Wp sc μ mc ms k n pc lv (.long x :: st) S Q := by
  intro l κ p e s m args below meth c H locs ls hfl hC hS hR hlv
  exact lv_l2i hC.1.1 hC.1.2.1 (hC.dk h) hv (kk l κ p e s m args below meth c H locs _ hfl hC hS hR hlv)

theorem r_i2b {sc : SC} {μ : MI} {mc ms k n pc : Nat} {lv : List (Nat × Value)} {st : List Value} {S : AS} {Q : Out → AS → Prop} {x v : Int32} (h : cf (mCd μ) pc = some (.i2b, 1)) (hv : x.toInt8.toInt32 = v) (kk : Wp sc μ mc ms k n (pc + 1) lv (.int v :: st) S Q) : Wp sc μ mc ms k n pc lv (.int x :: st) S Q := by
  intro l κ p e s m args below meth c H locs ls hfl hC hS hR hlv
  exact lv_i2b hC.1.1 hC.1.2.1 (hC.dk h) hv (kk l κ p e s m args below meth c H locs _ hfl hC hS hR hlv)

theorem r_lcmp {sc : SC} {μ : MI} {mc ms k n pc : Nat} {lv : List (Nat × Value)} {st : List Value} {S : AS} {Q : Out → AS → Prop} {x y : Int64} (h : cf (mCd μ) pc = some (.lcmp, 1)) (kk : Wp sc μ mc ms k n (pc + 1) lv (.int (lg_cmp x y) :: st) S Q) : Wp sc μ mc ms k n pc lv (.long y :: .long x :: st) S Q := by
  intro l κ p e s m args below meth c H locs ls hfl hC hS hR hlv
  exact W.lcmp hC.1.1 hC.1.2.1 (hC.dk h) (kk l κ p e s m args below meth c H locs _ hfl hC hS hR hlv)

theorem r_dup {sc : SC} {μ : MI} {mc ms k n pc : Nat} {lv : List (Nat × Value)} {st : List Value} {S : AS} {Q : Out → AS → Prop} {v : Value} (h : cf (mCd μ) pc = some (.dup, 1)) (hv : v.category = 1) (kk : Wp sc μ mc ms k n (pc + 1) lv (v :: v :: st) S Q) : Wp sc μ mc ms k n pc lv (v :: st) S Q := by
  intro l κ p e s m args below meth c H locs ls hfl hC hS hR hlv
  exact lv_dup hC.1.1 hC.1.2.1 (hC.dk h) (by rw [cv_cat]; exact hv) (kk l κ p e s m args below meth c H locs _ hfl hC hS hR hlv)

theorem r_dup2 {sc : SC} {μ : MI} {mc ms k n pc : Nat} {lv : List (Nat × Value)} {st : List Value} {S : AS} {Q : Out → AS → Prop} {v u : Value} (h : cf (mCd μ) pc = some (.dup2, 1)) (hv : v.category = 1) (hu : u.category = 1) (kk : Wp sc μ mc ms k n (pc + 1) lv (v :: u :: v :: u :: st) S Q) : Wp sc μ mc ms k n pc lv (v :: u :: st) S Q := by
  intro l κ p e s m args below meth c H locs ls hfl hC hS hR hlv
  exact lv_dup2_11 hC.1.1 hC.1.2.1 (hC.dk h) (by rw [cv_cat]; exact hv) (by rw [cv_cat]; exact hu) (kk l κ p e s m args below meth c H locs _ hfl hC hS hR hlv)

theorem r_dup2L {sc : SC} {μ : MI} {mc ms k n pc : Nat} {lv : List (Nat × Value)} {st : List Value} {S : AS} {Q : Out → AS → Prop} {v : Value} (h : cf (mCd μ) pc = some (.dup2, 1)) (hv : v.category = 2) (kk : Wp sc μ mc ms k n (pc + 1) lv (v :: v :: st) S Q) : Wp sc μ mc ms k n pc lv (v :: st) S Q := by
  intro l κ p e s m args below meth c H locs ls hfl hC hS hR hlv
  exact lv_dup2_2 hC.1.1 hC.1.2.1 (hC.dk h) (by rw [cv_cat]; exact hv) (kk l κ p e s m args below meth c H locs _ hfl hC hS hR hlv)

theorem r_pop {sc : SC} {μ : MI} {mc ms k n pc : Nat} {lv : List (Nat × Value)} {st : List Value} {S : AS} {Q : Out → AS → Prop} {v : Value} (h : cf (mCd μ) pc = some (.pop, 1)) (hv : v.category = 1) (kk : Wp sc μ mc ms k n (pc + 1) lv (st) S Q) : Wp sc μ mc ms k n pc lv (v :: st) S Q := by
  intro l κ p e s m args below meth c H locs ls hfl hC hS hR hlv
  exact lv_pop hC.1.1 hC.1.2.1 (hC.dk h) (by rw [cv_cat]; exact hv) (kk l κ p e s m args below meth c H locs _ hfl hC hS hR hlv)

theorem r_i2c {sc : SC} {μ : MI} {mc ms k n pc : Nat} {lv : List (Nat × Value)} {st : List Value} {S : AS} {Q : Out → AS → Prop} {x v : Int32} (h : cf (mCd μ) pc = some (.i2c, 1)) (hv : (x.toUInt32 % 65536).toInt32 = v) (kk : Wp sc μ mc ms k n (pc + 1) lv (.int v :: st) S Q) : Wp sc μ mc ms k n pc lv (.int x :: st) S Q := by
  intro l κ p e s m args below meth c H locs ls hfl hC hS hR hlv
  exact lv_i2c hC.1.1 hC.1.2.1 (hC.dk h) hv (kk l κ p e s m args below meth c H locs _ hfl hC hS hR hlv)

theorem r_if_eq {sc : SC} {μ : MI} {mc ms k n pc : Nat} {lv : List (Nat × Value)} {st : List Value} {S : AS} {Q : Out → AS → Prop} {x : Int32} {off : Int} {tgt : Nat} (h : cf (mCd μ) pc = some (.ifCond .eq off, 3)) (ht : (pc : Int) + off = (tgt : Int)) (kt : x = 0 → Wp sc μ mc ms k n tgt lv st S Q) (kf : ¬ x = 0 → Wp sc μ mc ms k n (pc + 3) lv st S Q) : Wp sc μ mc ms k n pc lv (.int x :: st) S Q := by
  intro l κ p e s m args below meth c H locs ls hfl hC hS hR hlv
  exact lv_if_eq hC.1.1 hC.1.2.1 (hC.dk h) ht (fun q => kt q l κ p e s m args below meth c H locs ls hfl hC hS hR hlv) (fun q => kf q l κ p e s m args below meth c H locs ls hfl hC hS hR hlv)

theorem r_if_ne {sc : SC} {μ : MI} {mc ms k n pc : Nat} {lv : List (Nat × Value)} {st : List Value} {S : AS} {Q : Out → AS → Prop} {x : Int32} {off : Int} {tgt : Nat} (h : cf (mCd μ) pc = some (.ifCond .ne off, 3)) (ht : (pc : Int) + off = (tgt : Int)) (kt : ¬ x = 0 → Wp sc μ mc ms k n tgt lv st S Q) (kf : x = 0 → Wp sc μ mc ms k n (pc + 3) lv st S Q) : Wp sc μ mc ms k n pc lv (.int x :: st) S Q := by
  intro l κ p e s m args below meth c H locs ls hfl hC hS hR hlv
  exact lv_if_ne hC.1.1 hC.1.2.1 (hC.dk h) ht (fun q => kt q l κ p e s m args below meth c H locs ls hfl hC hS hR hlv) (fun q => kf q l κ p e s m args below meth c H locs ls hfl hC hS hR hlv)

theorem r_if_lt {sc : SC} {μ : MI} {mc ms k n pc : Nat} {lv : List (Nat × Value)} {st : List Value} {S : AS} {Q : Out → AS → Prop} {x : Int32} {off : Int} {tgt : Nat} (h : cf (mCd μ) pc = some (.ifCond .lt off, 3)) (ht : (pc : Int) + off = (tgt : Int)) (kt : x < 0 → Wp sc μ mc ms k n tgt lv st S Q) (kf : ¬ x < 0 → Wp sc μ mc ms k n (pc + 3) lv st S Q) : Wp sc μ mc ms k n pc lv (.int x :: st) S Q := by
  intro l κ p e s m args below meth c H locs ls hfl hC hS hR hlv
  exact lv_if_lt hC.1.1 hC.1.2.1 (hC.dk h) ht (fun q => kt q l κ p e s m args below meth c H locs ls hfl hC hS hR hlv) (fun q => kf q l κ p e s m args below meth c H locs ls hfl hC hS hR hlv)

theorem r_if_ge {sc : SC} {μ : MI} {mc ms k n pc : Nat} {lv : List (Nat × Value)} {st : List Value} {S : AS} {Q : Out → AS → Prop} {x : Int32} {off : Int} {tgt : Nat} (h : cf (mCd μ) pc = some (.ifCond .ge off, 3)) (ht : (pc : Int) + off = (tgt : Int)) (kt : 0 ≤ x → Wp sc μ mc ms k n tgt lv st S Q) (kf : ¬ 0 ≤ x → Wp sc μ mc ms k n (pc + 3) lv st S Q) : Wp sc μ mc ms k n pc lv (.int x :: st) S Q := by
  intro l κ p e s m args below meth c H locs ls hfl hC hS hR hlv
  exact lv_if_ge hC.1.1 hC.1.2.1 (hC.dk h) ht (fun q => kt q l κ p e s m args below meth c H locs ls hfl hC hS hR hlv) (fun q => kf q l κ p e s m args below meth c H locs ls hfl hC hS hR hlv)

theorem r_if_gt {sc : SC} {μ : MI} {mc ms k n pc : Nat} {lv : List (Nat × Value)} {st : List Value} {S : AS} {Q : Out → AS → Prop} {x : Int32} {off : Int} {tgt : Nat} (h : cf (mCd μ) pc = some (.ifCond .gt off, 3)) (ht : (pc : Int) + off = (tgt : Int)) (kt : 0 < x → Wp sc μ mc ms k n tgt lv st S Q) (kf : ¬ 0 < x → Wp sc μ mc ms k n (pc + 3) lv st S Q) : Wp sc μ mc ms k n pc lv (.int x :: st) S Q := by
  intro l κ p e s m args below meth c H locs ls hfl hC hS hR hlv
  exact lv_if_gt hC.1.1 hC.1.2.1 (hC.dk h) ht (fun q => kt q l κ p e s m args below meth c H locs ls hfl hC hS hR hlv) (fun q => kf q l κ p e s m args below meth c H locs ls hfl hC hS hR hlv)

theorem r_if_le {sc : SC} {μ : MI} {mc ms k n pc : Nat} {lv : List (Nat × Value)} {st : List Value} {S : AS} {Q : Out → AS → Prop} {x : Int32} {off : Int} {tgt : Nat} (h : cf (mCd μ) pc = some (.ifCond .le off, 3)) (ht : (pc : Int) + off = (tgt : Int)) (kt : x ≤ 0 → Wp sc μ mc ms k n tgt lv st S Q) (kf : ¬ x ≤ 0 → Wp sc μ mc ms k n (pc + 3) lv st S Q) : Wp sc μ mc ms k n pc lv (.int x :: st) S Q := by
  intro l κ p e s m args below meth c H locs ls hfl hC hS hR hlv
  exact lv_if_le hC.1.1 hC.1.2.1 (hC.dk h) ht (fun q => kt q l κ p e s m args below meth c H locs ls hfl hC hS hR hlv) (fun q => kf q l κ p e s m args below meth c H locs ls hfl hC hS hR hlv)

theorem r_icmp_eq {sc : SC} {μ : MI} {mc ms k n pc : Nat} {lv : List (Nat × Value)} {st : List Value} {S : AS} {Q : Out → AS → Prop} {x y : Int32} {off : Int} {tgt : Nat} (h : cf (mCd μ) pc = some (.if_icmp .eq off, 3)) (ht : (pc : Int) + off = (tgt : Int)) (kt : x = y → Wp sc μ mc ms k n tgt lv st S Q) (kf : ¬ x = y → Wp sc μ mc ms k n (pc + 3) lv st S Q) : Wp sc μ mc ms k n pc lv (.int y :: .int x :: st) S Q := by
  intro l κ p e s m args below meth c H locs ls hfl hC hS hR hlv
  exact lv_icmp_eq hC.1.1 hC.1.2.1 (hC.dk h) ht (fun q => kt q l κ p e s m args below meth c H locs ls hfl hC hS hR hlv) (fun q => kf q l κ p e s m args below meth c H locs ls hfl hC hS hR hlv)

theorem r_icmp_ne {sc : SC} {μ : MI} {mc ms k n pc : Nat} {lv : List (Nat × Value)} {st : List Value} {S : AS} {Q : Out → AS → Prop} {x y : Int32} {off : Int} {tgt : Nat} (h : cf (mCd μ) pc = some (.if_icmp .ne off, 3)) (ht : (pc : Int) + off = (tgt : Int)) (kt : ¬ x = y → Wp sc μ mc ms k n tgt lv st S Q) (kf : x = y → Wp sc μ mc ms k n (pc + 3) lv st S Q) : Wp sc μ mc ms k n pc lv (.int y :: .int x :: st) S Q := by
  intro l κ p e s m args below meth c H locs ls hfl hC hS hR hlv
  exact lv_icmp_ne hC.1.1 hC.1.2.1 (hC.dk h) ht (fun q => kt q l κ p e s m args below meth c H locs ls hfl hC hS hR hlv) (fun q => kf q l κ p e s m args below meth c H locs ls hfl hC hS hR hlv)

theorem r_icmp_lt {sc : SC} {μ : MI} {mc ms k n pc : Nat} {lv : List (Nat × Value)} {st : List Value} {S : AS} {Q : Out → AS → Prop} {x y : Int32} {off : Int} {tgt : Nat} (h : cf (mCd μ) pc = some (.if_icmp .lt off, 3)) (ht : (pc : Int) + off = (tgt : Int)) (kt : x < y → Wp sc μ mc ms k n tgt lv st S Q) (kf : ¬ x < y → Wp sc μ mc ms k n (pc + 3) lv st S Q) : Wp sc μ mc ms k n pc lv (.int y :: .int x :: st) S Q := by
  intro l κ p e s m args below meth c H locs ls hfl hC hS hR hlv
  exact lv_icmp_lt hC.1.1 hC.1.2.1 (hC.dk h) ht (fun q => kt q l κ p e s m args below meth c H locs ls hfl hC hS hR hlv) (fun q => kf q l κ p e s m args below meth c H locs ls hfl hC hS hR hlv)

theorem r_icmp_ge {sc : SC} {μ : MI} {mc ms k n pc : Nat} {lv : List (Nat × Value)} {st : List Value} {S : AS} {Q : Out → AS → Prop} {x y : Int32} {off : Int} {tgt : Nat} (h : cf (mCd μ) pc = some (.if_icmp .ge off, 3)) (ht : (pc : Int) + off = (tgt : Int)) (kt : y ≤ x → Wp sc μ mc ms k n tgt lv st S Q) (kf : ¬ y ≤ x → Wp sc μ mc ms k n (pc + 3) lv st S Q) : Wp sc μ mc ms k n pc lv (.int y :: .int x :: st) S Q := by
  intro l κ p e s m args below meth c H locs ls hfl hC hS hR hlv
  exact lv_icmp_ge hC.1.1 hC.1.2.1 (hC.dk h) ht (fun q => kt q l κ p e s m args below meth c H locs ls hfl hC hS hR hlv) (fun q => kf q l κ p e s m args below meth c H locs ls hfl hC hS hR hlv)

theorem r_icmp_gt {sc : SC} {μ : MI} {mc ms k n pc : Nat} {lv : List (Nat × Value)} {st : List Value} {S : AS} {Q : Out → AS → Prop} {x y : Int32} {off : Int} {tgt : Nat} (h : cf (mCd μ) pc = some (.if_icmp .gt off, 3)) (ht : (pc : Int) + off = (tgt : Int)) (kt : y < x → Wp sc μ mc ms k n tgt lv st S Q) (kf : ¬ y < x → Wp sc μ mc ms k n (pc + 3) lv st S Q) : Wp sc μ mc ms k n pc lv (.int y :: .int x :: st) S Q := by
  intro l κ p e s m args below meth c H locs ls hfl hC hS hR hlv
  exact lv_icmp_gt hC.1.1 hC.1.2.1 (hC.dk h) ht (fun q => kt q l κ p e s m args below meth c H locs ls hfl hC hS hR hlv) (fun q => kf q l κ p e s m args below meth c H locs ls hfl hC hS hR hlv)

theorem r_icmp_le {sc : SC} {μ : MI} {mc ms k n pc : Nat} {lv : List (Nat × Value)} {st : List Value} {S : AS} {Q : Out → AS → Prop} {x y : Int32} {off : Int} {tgt : Nat} (h : cf (mCd μ) pc = some (.if_icmp .le off, 3)) (ht : (pc : Int) + off = (tgt : Int)) (kt : x ≤ y → Wp sc μ mc ms k n tgt lv st S Q) (kf : ¬ x ≤ y → Wp sc μ mc ms k n (pc + 3) lv st S Q) : Wp sc μ mc ms k n pc lv (.int y :: .int x :: st) S Q := by
  intro l κ p e s m args below meth c H locs ls hfl hC hS hR hlv
  exact lv_icmp_le hC.1.1 hC.1.2.1 (hC.dk h) ht (fun q => kt q l κ p e s m args below meth c H locs ls hfl hC hS hR hlv) (fun q => kf q l κ p e s m args below meth c H locs ls hfl hC hS hR hlv)

theorem r_goto {sc : SC} {μ : MI} {mc ms k n pc : Nat} {lv : List (Nat × Value)} {st : List Value} {S : AS} {Q : Out → AS → Prop} {off : Int} {tgt : Nat} (h : cf (mCd μ) pc = some (.goto off, 3)) (ht : (pc : Int) + off = (tgt : Int)) (kk : Wp sc μ mc ms k n tgt lv st S Q) : Wp sc μ mc ms k n pc lv st S Q := by
  intro l κ p e s m args below meth c H locs ls hfl hC hS hR hlv
  exact lv_goto hC.1.1 hC.1.2.1 (hC.dk h) ht (kk l κ p e s m args below meth c H locs _ hfl hC hS hR hlv)
theorem r_tblOut {sc : SC} {μ : MI} {mc ms k n pc : Nat} {lv : List (Nat × Value)} {st : List Value} {S : AS} {Q : Out → AS → Prop} {d lo hi : Int} {offs : Array Int} {len tgt : Nat} {x : Int32} (h : cf (mCd μ) pc = some (.tableswitch d lo hi offs, len)) (hx : x.toInt < lo ∨ hi < x.toInt) (ht : (pc : Int) + d = (tgt : Int)) (kk : Wp sc μ mc ms k n tgt lv st S Q) : Wp sc μ mc ms k n pc lv (.int x :: st) S Q := by
  intro l κ p e s m args below meth c H locs ls hfl hC hS hR hlv
  exact lv_tableOut hC.1.1 hC.1.2.1 (hC.dk h) hx ht (kk l κ p e s m args below meth c H locs _ hfl hC hS hR hlv)
theorem r_tblIn {sc : SC} {μ : MI} {mc ms k n pc : Nat} {lv : List (Nat × Value)} {st : List Value} {S : AS} {Q : Out → AS → Prop} {d lo hi : Int} {offs : Array Int} {len tgt : Nat} {x : Int32} {off : Int} (h : cf (mCd μ) pc = some (.tableswitch d lo hi offs, len)) (h1 : ¬ x.toInt < lo) (h2 : ¬ hi < x.toInt) (ho : offs[(x.toInt - lo).toNat]? = some off) (ht : (pc : Int) + off = (tgt : Int)) (kk : Wp sc μ mc ms k n tgt lv st S Q) : Wp sc μ mc ms k n pc lv (.int x :: st) S Q := by
  intro l κ p e s m args below meth c H locs ls hfl hC hS hR hlv
  exact lv_tableIn hC.1.1 hC.1.2.1 (hC.dk h) h1 h2 ho ht (kk l κ p e s m args below meth c H locs _ hfl hC hS hR hlv)
theorem r_lookup {sc : SC} {μ : MI} {mc ms k n pc : Nat} {lv : List (Nat × Value)} {st : List Value} {S : AS} {Q : Out → AS → Prop} {d off : Int} {ps : Array (Int × Int)} {len tgt : Nat} {x : Int32} (h : cf (mCd μ) pc = some (.lookupswitch d ps, len)) (hp : (ps.toList.zip (ps.toList.drop 1)).all (fun (a, next) => a.1 < next.1) = true) (ho : Op.lookupswitch.offset ps.toList d x.toInt = off) (ht : (pc : Int) + off = (tgt : Int)) (kk : Wp sc μ mc ms k n tgt lv st S Q) : Wp sc μ mc ms k n pc lv (.int x :: st) S Q := by
  intro l κ p e s m args below meth c H locs ls hfl hC hS hR hlv
  exact lv_lookup hC.1.1 hC.1.2.1 (hC.dk h) hp ho ht (kk l κ p e s m args below meth c H locs _ hfl hC hS hR hlv)
end
section
/-- a class of the tables -/
def CI (ci : Nat) (C : String) (T : u_T) (N : Nat) (ty : Nat → FieldType) : Prop := vwCl[ci]? = some (C, T, N) ∧ (∀ w ∈ u_ws C T N, w ∈ lw_gd) ∧ (∀ k, k < N → parseFieldDescriptor (T k).2.2.1 = some (ty k)) ∧ (∀ a, a < N → ∀ b, b < N → a ≠ b → (T a).2.1 ≠ (T b).2.1)
/-- a field's entry of the pool: class's number, field's number, final or not, type -/
def FL (own : String) (idx ci kf : Nat) (fin : Bool) (t : FieldType) : Prop := ∃ (C : String) (T : u_T) (N : Nat) (ty : Nat → FieldType), CI ci C T N ty ∧ kf < N ∧ Cond.fieldLink own idx (T kf).1 (T kf).2.1 (T kf).2.2.1 ∈ lw_gd ∧ (T kf).2.2.2 = fin ∧ ty kf = t
theorem FL.of {own : String} {idx ci kf : Nat} {fin : Bool} {t : FieldType} {C : String} {T : u_T} {N : Nat} {ty : Nat → FieldType} (h1 : CI ci C T N ty) (h2 : kf < N) (h3 : Cond.fieldLink own idx (T kf).1 (T kf).2.1 (T kf).2.2.1 ∈ lw_gd) (h4 : (T kf).2.2.2 = fin) (h5 : ty kf = t) : FL own idx ci kf fin t := ⟨C, T, N, ty, h1, h2, h3, h4, h5⟩
theorem nfs_of {ci : Nat} {C : String} {T : u_T} {N : Nat} (h : vwCl[ci]? = some (C, T, N)) : nfs ci = N := by
  unfold nfs
  rw [h]
theorem vw_lt {ci : Nat} {r : vw_C} (h : vwCl[ci]? = some r) : ci < 50 := Nat.lt_of_lt_of_le (List.getElem?_eq_some_iff.mp h).1 (by decide)
theorem jk_obj {ci : Nat} (V : Nat → Value) (h : ci < 50) : jk (.inr (.inr (ci, V))) = false := by
  show (Nat.ble 50 ci && Nat.ble ci 99) = false
  rw [show Nat.ble 50 ci = false from Bool.eq_false_iff.mpr fun q => absurd (Nat.le_of_ble_eq_true q) (by omega)]
  rfl
theorem conv_obj (κ : KX) {ci : Nat} (V : Nat → Value) (h : ci < 50) : conv κ (.inr (.inr (ci, V))) = .inr (ci, (List.range (nfs ci)).map (fun k => cv κ (V k))) := if_pos h
theorem Rep.at {κ : KX} {S : AS} {H : Heap} (hR : Rep κ S H) {o ci : Nat} {V : Nat → Value} {r : vw_C} (hc : vwCl[ci]? = some r) (hlt : o < S.2.1) (ho : S.1 o = .inr (.inr (ci, V))) : va_P (kD κ) vwCl [(kB κ + o, .inr (ci, (List.range (nfs ci)).map (fun k => cv κ (V k))))] H := by
  have h := hR.1 o hlt (by rw [ho]; exact jk_obj V (vw_lt hc))
  rw [ho, conv_obj κ V (vw_lt hc)] at h
  exact va1 h
theorem r_getf {sc : SC} {μ : MI} {mc ms k n pc : Nat} {lv : List (Nat × Value)} {st : List Value} {S : AS} {Q : Out → AS → Prop} {idx o ci kf : Nat} {fin : Bool} {t : FieldType} {V : Nat → Value} {v : Value} (h : cf (mCd μ) pc = some (.getfield idx, 3)) (hf : FL (mNm μ).cls idx ci kf fin t) (hlt : o < S.2.1) (ho : S.1 o = .inr (.inr (ci, V))) (hv : V kf = v) (kk : Wp sc μ mc ms k n (pc + 3) lv (v :: st) S Q) : Wp sc μ mc ms k n pc lv (.ref o :: st) S Q := by
  intro l κ p e s m args below meth c H locs ls hfl hC hS hR hlv
  obtain ⟨C, T, N, ty, ⟨hc, hin, hty, hnm⟩, hk, hl, hfn, ht⟩ := hf
  refine va_get (D := kD κ) (cl := vwCl) (ws := [(kB κ + o, .inr (ci, (List.range (nfs ci)).map (fun k => cv κ (V k))))]) (tys := tysK κ) (C := C) (T := T) (N := N) (ref := (T kf).1) (v := cv κ v) hC.1.1 hC.1.2.1 hC.2.1 (fun w hw => List.mem_cons_of_mem _ (hin w hw)) hC.own hC.kk (hR.at hc hlt ho) 0 rfl hc kf hk (hC.wd hl) (fun _ q => q) ?_ (hC.dk h) (kk l κ p e s m args below meth c H locs ls hfl hC hS hR hlv)
  rw [List.getElem?_map, nfs_of hc, List.getElem?_range hk, ← hv]
  rfl
theorem map_set (κ : KX) (V : Nat → Value) (N kf : Nat) (v : Value) : ((List.range N).map (fun k => cv κ (V k))).set kf (cv κ v) = (List.range N).map (fun k => cv κ (aup V kf v k)) := by
  apply List.ext_getElem?
  intro j
  by_cases hj : j < N
  · by_cases hjk : j = kf
    · subst hjk
      rw [List.getElem?_set_self (by simpa using hj), List.getElem?_map, List.getElem?_range hj]
      simp [aup]
    · rw [List.getElem?_set_ne (Ne.symm hjk), List.getElem?_map, List.getElem?_map, List.getElem?_range hj]
      simp [aup, hjk]
  · rw [List.getElem?_eq_none (by simp; omega), List.getElem?_eq_none (by simp; omega)]
theorem fits_ref (κ : KX) (t : FieldType) (o : Nat) (ht : (∃ C, t = .object C) ∨ ∃ u, t = .array u) : narrow t (cv κ (.ref o)) = cv κ (.ref o) ∧ fits t (cv κ (.ref o)) = true := by
  rcases ht with ⟨C, rfl⟩ | ⟨u, rfl⟩ <;> exact ⟨rfl, rfl⟩
def okv (t : FieldType) (v : Value) : Prop := ∀ κ : KX, narrow t (cv κ v) = cv κ v ∧ fits t (cv κ v) = true
theorem okv_i (x : Int32) : okv .int (.int x) := fun _ => ⟨rfl, rfl⟩
theorem okv_l (x : Int64) : okv .long (.long x) := fun _ => ⟨rfl, rfl⟩
theorem okv_o (C : String) (o : Nat) : okv (.object C) (.ref o) := fun _ => ⟨rfl, rfl⟩
theorem okv_a (u : FieldType) (o : Nat) : okv (.array u) (.ref o) := fun _ => ⟨rfl, rfl⟩
theorem okv_z {x : Int32} (h : x = 0 ∨ x = 1) : okv .boolean (.int x) := by
  intro κ
  rcases h with rfl | rfl <;> exact ⟨rfl, rfl⟩
theorem Rep.obj {κ : KX} {S : AS} {H H1 : Heap} {o ci kf N : Nat} {V : Nat → Value} {v : Value} {C : String} {T : u_T} {cell : Cell} {s : State} (hR : Rep κ S H) (hlt : o < S.2.1) (ho : S.1 o = .inr (.inr (ci, V))) (hc : vwCl[ci]? = some (C, T, N)) (hk : kf < N)
    (q2 : cell.cls = (kD κ).1 ci) (q3 : cell.vm = .none) (q4 : ∀ j, j < N → cell.slots[(kD κ).2 ci j]? = some (vp_V ((List.range (nfs ci)).map (fun k => cv κ (V k))) j)) (hap : ∀ a b, a < N → b < N → a ≠ b → (kD κ).2 ci a ≠ (kD κ).2 ci b)
    (e1 : H1[kB κ + o]? = some (cell.setSlot ((kD κ).2 ci kf) (cv κ v))) (e2 : H1.size = H.size) (e3 : ∀ q, q ≠ kB κ + o → H1[q]? = H[q]?) : Rep κ (aup S.1 o (.inr (.inr (ci, aup V kf v))), S.2) H1 := by
  refine hR.put hlt e2 ?_ e3
  rw [conv_obj κ _ (vw_lt hc)]
  refine ⟨_, hc, ?_⟩
  have hl : kf < ((List.range (nfs ci)).map (fun k => cv κ (V k))).length := by rw [List.length_map, List.length_range, nfs_of hc]; exact hk
  refine t_OB.to (V := updV (vp_V ((List.range (nfs ci)).map (fun k => cv κ (V k)))) kf (cv κ v)) ⟨_, e1, q2, q3, t_set q4 hap hk (cv κ v)⟩ (fun j _ => ?_)
  rw [vp_updV_set hl, map_set]
theorem r_putf {sc : SC} {μ : MI} {mc ms k n pc : Nat} {lv : List (Nat × Value)} {st : List Value} {S : AS} {Q : Out → AS → Prop} {idx o ci kf : Nat} {t : FieldType} {V : Nat → Value} {v : Value} (h : cf (mCd μ) pc = some (.putfield idx, 3)) (hf : FL (mNm μ).cls idx ci kf false t) (hv : okv t v) (hlt : o < S.2.1) (ho : S.1 o = .inr (.inr (ci, V))) (kk : Wp sc μ mc ms k n (pc + 3) lv st (aup S.1 o (.inr (.inr (ci, aup V kf v))), S.2) Q) : Wp sc μ mc ms k n pc lv (v :: .ref o :: st) S Q := by
  intro l κ p e s m args below meth c H locs ls hfl hC hS hR hlv
  obtain ⟨C, T, N, ty, ⟨hc, hin, hty, hnm⟩, hk, hl, hfn, ht⟩ := hf
  have hin' : ∀ w ∈ u_ws C T N, w ∈ wsO μ := fun w hw => List.mem_cons_of_mem _ (hin w hw)
  have hap := va_apart (own := (mNm μ).cls) hC.2.1 hin' ty hty hnm hC.kk hc
  obtain ⟨r, h1, cell, q1, q2, q3, q4⟩ := hR.at hc hlt ho 0 _ rfl
  have hr : r = (C, T, N) := Option.some.inj (h1.symm.trans hc)
  subst hr
  obtain ⟨hS9, hfc, kC, hkC, hkind⟩ := hC.kk.1 ci _ hc
  obtain ⟨cf9, kf9, fi, f, hi, hsl⟩ := hS9 kf hk
  have hlay := hC.2.1 _ (hin' _ (u_in_lay hk))
  unfold u_lay at hlay
  rw [if_neg (by rw [hfn]; decide)] at hlay
  have hst := (u_facts hfc hkC (u_lays hC.2.1 hin' hk) hi).1
  have hty2 := hty kf hk
  rw [ht] at hty2
  have h6 := u_store (v := cv κ v) hfc hkC hkind hlay hi hty2 (hv κ).1 (hv κ).2
  refine W.putK hC.1.1 hC.1.2.1 (f := f) ⟨hC.own, hC.wd hl, ⟨_, _, _, hi⟩, hst⟩ (by rw [q2]; exact h6) q1 q3 (by rw [hsl]; exact k2_hasslot (q4 kf hk)) rfl rfl (hC.dk h) fun H' e1 e2 e3 => ?_
  rw [hsl] at e1 ⊢
  exact kk l κ p e s m args below meth c H' _ ls hfl hC (hS.put e2 e3 (hR.2.2 o hlt)) (Rep.obj (s := s) hR hlt ho hc hk q2 q3 q4 hap e1 e2 e3) hlv
theorem r_putF {sc : SC} {μ : MI} {mc ms k n pc : Nat} {lv : List (Nat × Value)} {st : List Value} {S : AS} {Q : Out → AS → Prop} {idx o ci kf : Nat} {t : FieldType} {V : Nat → Value} {v : Value} (h : cf (mCd μ) pc = some (.putfield idx, 3)) (hf : FL (mNm μ).cls idx ci kf true t) (hdecl : ∀ r : vw_C, vwCl[ci]? = some r → (r.2.1 kf).1 = (mNm μ).cls) (hni : (mNm μ).name = "<init>") (hv : okv t v) (hlt : o < S.2.1) (ho : S.1 o = .inr (.inr (ci, V))) (kk : Wp sc μ mc ms k n (pc + 3) lv st (aup S.1 o (.inr (.inr (ci, aup V kf v))), S.2) Q) : Wp sc μ mc ms k n pc lv (v :: .ref o :: st) S Q := by
  intro l κ p e s m args below meth c H locs ls hfl hC hS hR hlv
  obtain ⟨C, T, N, ty, ⟨hc, hin, hty, hnm⟩, hk, hl, hfn, ht⟩ := hf
  have hin' : ∀ w ∈ u_ws C T N, w ∈ wsO μ := fun w hw => List.mem_cons_of_mem _ (hin w hw)
  have hap := va_apart (own := (mNm μ).cls) hC.2.1 hin' ty hty hnm hC.kk hc
  obtain ⟨r, h1, cell, q1, q2, q3, q4⟩ := hR.at hc hlt ho 0 _ rfl
  have hr : r = (C, T, N) := Option.some.inj (h1.symm.trans hc)
  subst hr
  obtain ⟨hS9, hfc, kC, hkC, hkind⟩ := hC.kk.1 ci _ hc
  obtain ⟨cf9, kf9, fi, f, hi, hsl⟩ := hS9 kf hk
  have hlay := hC.2.1 _ (hin' _ (u_in_lay hk))
  unfold u_lay at hlay
  rw [if_pos hfn] at hlay
  have hst := (u_facts hfc hkC (u_lays hC.2.1 hin' hk) hi).1
  have hcf : m.cls = cf9 := by
    obtain ⟨_, _, c', _, _, _, -, -, hf', -, -, -, hown2, -⟩ := Cond.laysFinal_spec hlay
    have e1 : c' = cf9 := by have := hi.symm.trans hf'; simp at this; exact this.1.symm
    rw [hdecl _ hc] at hown2
    rw [← e1]; exact Option.some.inj (hC.own.symm.trans hown2)
  have hty2 := hty kf hk
  rw [ht] at hty2
  have h6 := u_fits (v := cv κ v) hfc hkC hkind (Or.inr hlay) hi hty2 (hv κ).1 (hv κ).2
  refine W.putFinK hC.1.1 hC.1.2.1 hC.own (hC.wd hl) hi hst hcf (by rw [← hC.2.2.2.2.2.2]; exact hni) (by rw [q2]; exact h6) q1 q3 (by rw [hsl]; exact k2_hasslot (q4 kf hk)) rfl rfl (hC.dk h) fun H' e1 e2 e3 => ?_
  rw [hsl] at e1 ⊢
  exact kk l κ p e s m args below meth c H' _ ls hfl hC (hS.put e2 e3 (hR.2.2 o hlt)) (Rep.obj (s := s) hR hlt ho hc hk q2 q3 q4 hap e1 e2 e3) hlv
theorem Rep.arr {κ : KX} {S : AS} {H : Heap} (hR : Rep κ S H) {o t nn : Nat} {f : Nat → Int32} (hlt : o < S.2.1) (ho : S.1 o = .inl (t, nn, f)) : va_P (kD κ) vwCl [(kB κ + o, .inl (kA κ t, nn, .inl f))] H := by
  have h := hR.1 o hlt (by rw [ho]; rfl)
  rw [ho] at h
  exact va1 h
theorem Rep.arrL {κ : KX} {S : AS} {H : Heap} (hR : Rep κ S H) {o nn : Nat} {f : Nat → Int64} (hlt : o < S.2.1) (ho : S.1 o = .inr (.inl (nn, f))) : va_P (kD κ) vwCl [(kB κ + o, .inl (kA κ 3, nn, .inr (.inl f)))] H := by
  have h := hR.1 o hlt (by rw [ho]; rfl)
  rw [ho] at h
  exact va1 h
theorem adr_rf (κ : KX) {v : Value} (h : v = .null ∨ ∃ o, v = .ref o) : va_rf (adr κ v) = cv κ v := by
  rcases h with rfl | ⟨o, rfl⟩ <;> rfl
theorem Rep.arrQ {κ : KX} {S : AS} {H : Heap} (hR : Rep κ S H) {o nn : Nat} {V : Nat → Value} (hlt : o < S.2.1) (ho : S.1 o = .inr (.inr (100 + nn, V))) : va_P (kD κ) vwCl [(kB κ + o, .inl (kA κ 4, nn, .inr (.inr (.inr (.inr (fun j => adr κ (V j)))))))] H := by
  have h := hR.1 o hlt (by
    rw [ho]
    show (Nat.ble 50 (100 + nn) && Nat.ble (100 + nn) 99) = false
    rw [show Nat.ble (100 + nn) 99 = false from Bool.eq_false_iff.mpr fun q => absurd (Nat.le_of_ble_eq_true q) (by omega), Bool.and_false])
  rw [ho] at h
  have e : conv κ (.inr (.inr (100 + nn, V))) = .inl (kA κ 4, nn, .inr (.inr (.inr (.inr (fun j => adr κ (V j)))))) := by
    show (if 100 + nn < 50 then _ else _) = _
    rw [if_neg (by omega), show 100 + nn - 100 = nn by omega]
  rw [e] at h
  exact va1 h
theorem vin {j nn : Nat} (hj : j < nn) (hn : nn < 2147483648) : vp_in (nI j) nn := vp_in_nI hj hn
theorem r_iald {sc : SC} {μ : MI} {mc ms k n pc : Nat} {lv : List (Nat × Value)} {st : List Value} {S : AS} {Q : Out → AS → Prop} {o j nn : Nat} {f : Nat → Int32} (h : cf (mCd μ) pc = some (.iaload, 1)) (hlt : o < S.2.1) (ho : S.1 o = .inl (0, nn, f)) (hj : j < nn) (hn : nn < 2147483648) (kk : Wp sc μ mc ms k n (pc + 1) lv (.int (f j) :: st) S Q) : Wp sc μ mc ms k n pc lv (.int (nI j) :: .ref o :: st) S Q := by
  intro l κ p e s m args below meth c H locs ls hfl hC hS hR hlv
  refine va_iald (ws := [(kB κ + o, .inl (kA κ 0, nn, .inl f))]) (cl := vwCl) (D := kD κ) (tys := tysK κ) hC.1.1 hC.1.2.1 hC.kk (hR.arr hlt ho) 0 0 rfl rfl (vin hj hn) (hC.dk h) ?_
  rw [nI_clamp (Nat.lt_trans hj hn)]
  exact kk l κ p e s m args below meth c H locs ls hfl hC hS hR hlv

theorem r_bald {sc : SC} {μ : MI} {mc ms k n pc : Nat} {lv : List (Nat × Value)} {st : List Value} {S : AS} {Q : Out → AS → Prop} {o j nn : Nat} {f : Nat → Int32} (h : cf (mCd μ) pc = some (.baload, 1)) (hlt : o < S.2.1) (ho : S.1 o = .inl (1, nn, f)) (hj : j < nn) (hn : nn < 2147483648) (kk : Wp sc μ mc ms k n (pc + 1) lv (.int (f j) :: st) S Q) : Wp sc μ mc ms k n pc lv (.int (nI j) :: .ref o :: st) S Q := by
  intro l κ p e s m args below meth c H locs ls hfl hC hS hR hlv
  refine va_bald (ws := [(kB κ + o, .inl (kA κ 1, nn, .inl f))]) (cl := vwCl) (D := kD κ) (tys := tysK κ) hC.1.1 hC.1.2.1 hC.kk (hR.arr hlt ho) 0 1 rfl rfl (vin hj hn) (hC.dk h) ?_
  rw [nI_clamp (Nat.lt_trans hj hn)]
  exact kk l κ p e s m args below meth c H locs ls hfl hC hS hR hlv

theorem r_zald {sc : SC} {μ : MI} {mc ms k n pc : Nat} {lv : List (Nat × Value)} {st : List Value} {S : AS} {Q : Out → AS → Prop} {o j nn : Nat} {f : Nat → Int32} (h : cf (mCd μ) pc = some (.baload, 1)) (hlt : o < S.2.1) (ho : S.1 o = .inl (2, nn, f)) (hj : j < nn) (hn : nn < 2147483648) (kk : Wp sc μ mc ms k n (pc + 1) lv (.int (f j) :: st) S Q) : Wp sc μ mc ms k n pc lv (.int (nI j) :: .ref o :: st) S Q := by
  intro l κ p e s m args below meth c H locs ls hfl hC hS hR hlv
  refine va_zald (ws := [(kB κ + o, .inl (kA κ 2, nn, .inl f))]) (cl := vwCl) (D := kD κ) (tys := tysK κ) hC.1.1 hC.1.2.1 hC.kk (hR.arr hlt ho) 0 2 rfl rfl (vin hj hn) (hC.dk h) ?_
  rw [nI_clamp (Nat.lt_trans hj hn)]
  exact kk l κ p e s m args below meth c H locs ls hfl hC hS hR hlv

theorem r_lald {sc : SC} {μ : MI} {mc ms k n pc : Nat} {lv : List (Nat × Value)} {st : List Value} {S : AS} {Q : Out → AS → Prop} {o j nn : Nat} {f : Nat → Int64} (h : cf (mCd μ) pc = some (.laload, 1)) (hlt : o < S.2.1) (ho : S.1 o = .inr (.inl (nn, f))) (hj : j < nn) (hn : nn < 2147483648) (kk : Wp sc μ mc ms k n (pc + 1) lv (.long (f j) :: st) S Q) : Wp sc μ mc ms k n pc lv (.int (nI j) :: .ref o :: st) S Q := by
  intro l κ p e s m args below meth c H locs ls hfl hC hS hR hlv
  refine va_lald (ws := [(kB κ + o, .inl (kA κ 3, nn, .inr (.inl f)))]) (cl := vwCl) (D := kD κ) (tys := tysK κ) hC.1.1 hC.1.2.1 hC.kk (hR.arrL hlt ho) 0 3 rfl rfl (vin hj hn) (hC.dk h) ?_
  rw [nI_clamp (Nat.lt_trans hj hn)]
  exact kk l κ p e s m args below meth c H locs ls hfl hC hS hR hlv
theorem r_alen {sc : SC} {μ : MI} {mc ms k n pc : Nat} {lv : List (Nat × Value)} {st : List Value} {S : AS} {Q : Out → AS → Prop} {o t nn : Nat} {f : Nat → Int32} (h : cf (mCd μ) pc = some (.arraylength, 1)) (hlt : o < S.2.1) (ho : S.1 o = .inl (t, nn, f)) (ht : t < 3) (kk : Wp sc μ mc ms k n (pc + 1) lv (.int (nI nn) :: st) S Q) : Wp sc μ mc ms k n pc lv (.ref o :: st) S Q := by
  intro l κ p e s m args below meth c H locs ls hfl hC hS hR hlv
  have ht9 : ∃ ty, (tysK κ)[t]? = some (kA κ t, ty) := by
    rcases (show t = 0 ∨ t = 1 ∨ t = 2 by omega) with rfl | rfl | rfl <;> exact ⟨_, rfl⟩
  obtain ⟨ty, ht9⟩ := ht9
  exact va_alen (ws := [(kB κ + o, .inl (kA κ t, nn, .inl f))]) (cl := vwCl) (D := kD κ) (tys := tysK κ) hC.1.1 hC.1.2.1 hC.kk (hR.arr hlt ho) 0 t rfl ht9 rfl (hC.dk h) (kk l κ p e s m args below meth c H locs ls hfl hC hS hR hlv)
theorem r_iast {sc : SC} {μ : MI} {mc ms k n pc : Nat} {lv : List (Nat × Value)} {st : List Value} {S : AS} {Q : Out → AS → Prop} {o j nn : Nat} {f : Nat → Int32} {x : Int32} (h : cf (mCd μ) pc = some (.iastore, 1)) (hlt : o < S.2.1) (ho : S.1 o = .inl (0, nn, f)) (hj : j < nn) (hn : nn < 2147483648) (kk : Wp sc μ mc ms k n (pc + 1) lv st (aup S.1 o (.inl (0, nn, aup f j (x))), S.2) Q) : Wp sc μ mc ms k n pc lv (.int x :: .int (nI j) :: .ref o :: st) S Q := by
  intro l κ p e9 s m args below meth c H locs ls hfl hC hS hR hlv
  refine W.iast (cell := vp_cell (kA κ 0) (nn, .inl f)) (a := kB κ + o) hC.1.1 hC.1.2.1 (hR.arr hlt ho 0 _ rfl) ((hC.kk.2 0 _ rfl).1 nn (fun j => .int (f j))) (fun q => by cases q) (by show ¬ (nI j < 0 ∨ (arrV _ _ _).slots.size ≤ _); rw [arrV_size]; exact vin hj hn) rfl rfl (hC.dk h) fun H1 e z oq => ?_
  rw [nI_clamp (Nat.lt_trans hj hn)] at e ⊢
  refine kk l κ p e9 s m args below meth c H1 _ ls hfl hC (hS.put z oq (hR.2.2 o hlt)) ?_ hlv
  refine hR.put hlt z ?_ oq
  show H1[kB κ + o]? = some (vp_cell _ _)
  rw [e]
  rw [vp_cell_i, vp_cell_i, arrV_store]
  congr 2
  funext q
  by_cases hq : q = j
  · subst hq
    simp [updV, aup]
  · simp [updV, aup, hq]

theorem r_bast {sc : SC} {μ : MI} {mc ms k n pc : Nat} {lv : List (Nat × Value)} {st : List Value} {S : AS} {Q : Out → AS → Prop} {o j nn : Nat} {f : Nat → Int32} {x : Int32} (h : cf (mCd μ) pc = some (.bastore, 1)) (hlt : o < S.2.1) (ho : S.1 o = .inl (1, nn, f)) (hj : j < nn) (hn : nn < 2147483648) (kk : Wp sc μ mc ms k n (pc + 1) lv st (aup S.1 o (.inl (1, nn, aup f j (vp_nar .byte x))), S.2) Q) : Wp sc μ mc ms k n pc lv (.int x :: .int (nI j) :: .ref o :: st) S Q := by
  intro l κ p e9 s m args below meth c H locs ls hfl hC hS hR hlv
  refine W.bast (cell := vp_cell (kA κ 1) (nn, .inl f)) (a := kB κ + o) hC.1.1 hC.1.2.1 (hR.arr hlt ho 0 _ rfl) ((hC.kk.2 1 _ rfl).1 nn (fun j => .int (f j))) (fun q => by cases q) (by show ¬ (nI j < 0 ∨ (arrV _ _ _).slots.size ≤ _); rw [arrV_size]; exact vin hj hn) rfl rfl (hC.dk h) fun H1 e z oq => ?_
  rw [nI_clamp (Nat.lt_trans hj hn)] at e ⊢
  refine kk l κ p e9 s m args below meth c H1 _ ls hfl hC (hS.put z oq (hR.2.2 o hlt)) ?_ hlv
  refine hR.put hlt z ?_ oq
  show H1[kB κ + o]? = some (vp_cell _ _)
  rw [e]
  rw [vp_cell_i, vp_cell_i, arrV_store]
  congr 2
  funext q
  by_cases hq : q = j
  · subst hq
    simp [updV, aup, vp_nar, narrow]
  · simp [updV, aup, hq]

theorem r_zast {sc : SC} {μ : MI} {mc ms k n pc : Nat} {lv : List (Nat × Value)} {st : List Value} {S : AS} {Q : Out → AS → Prop} {o j nn : Nat} {f : Nat → Int32} {x : Int32} (h : cf (mCd μ) pc = some (.bastore, 1)) (hlt : o < S.2.1) (ho : S.1 o = .inl (2, nn, f)) (hj : j < nn) (hn : nn < 2147483648) (kk : Wp sc μ mc ms k n (pc + 1) lv st (aup S.1 o (.inl (2, nn, aup f j (vp_nar .boolean x))), S.2) Q) : Wp sc μ mc ms k n pc lv (.int x :: .int (nI j) :: .ref o :: st) S Q := by
  intro l κ p e9 s m args below meth c H locs ls hfl hC hS hR hlv
  refine W.zast (cell := vp_cell (kA κ 2) (nn, .inl f)) (a := kB κ + o) hC.1.1 hC.1.2.1 (hR.arr hlt ho 0 _ rfl) ((hC.kk.2 2 _ rfl).1 nn (fun j => .int (f j))) (fun q => by cases q) (by show ¬ (nI j < 0 ∨ (arrV _ _ _).slots.size ≤ _); rw [arrV_size]; exact vin hj hn) rfl rfl (hC.dk h) fun H1 e z oq => ?_
  rw [nI_clamp (Nat.lt_trans hj hn)] at e ⊢
  refine kk l κ p e9 s m args below meth c H1 _ ls hfl hC (hS.put z oq (hR.2.2 o hlt)) ?_ hlv
  refine hR.put hlt z ?_ oq
  show H1[kB κ + o]? = some (vp_cell _ _)
  rw [e]
  rw [vp_cell_i, vp_cell_i, arrV_store]
  congr 2
  funext q
  by_cases hq : q = j
  · subst hq
    simp [updV, aup, vp_nar, narrow]
  · simp [updV, aup, hq]

theorem r_last {sc : SC} {μ : MI} {mc ms k n pc : Nat} {lv : List (Nat × Value)} {st : List Value} {S : AS} {Q : Out → AS → Prop} {o j nn : Nat} {f : Nat → Int64} {x : Int64} (h : cf (mCd μ) pc = some (.lastore, 1)) (hlt : o < S.2.1) (ho : S.1 o = .inr (.inl (nn, f))) (hj : j < nn) (hn : nn < 2147483648) (kk : Wp sc μ mc ms k n (pc + 1) lv st (aup S.1 o (.inr (.inl (nn, aup f j x))), S.2) Q) : Wp sc μ mc ms k n pc lv (.long x :: .int (nI j) :: .ref o :: st) S Q := by
  intro l κ p e9 s m args below meth c H locs ls hfl hC hS hR hlv
  refine W.last (cell := vp_cell (kA κ 3) (nn, .inr (.inl f))) (a := kB κ + o) hC.1.1 hC.1.2.1 (hR.arrL hlt ho 0 _ rfl) ((hC.kk.2 3 _ rfl).1 nn (fun j => .long (f j))) (fun q => by cases q) (by show ¬ (nI j < 0 ∨ (arrV _ _ _).slots.size ≤ _); rw [arrV_size]; exact vin hj hn) rfl rfl (hC.dk h) fun H1 e z oq => ?_
  rw [nI_clamp (Nat.lt_trans hj hn)] at e ⊢
  refine kk l κ p e9 s m args below meth c H1 _ ls hfl hC (hS.put z oq (hR.2.2 o hlt)) ?_ hlv
  refine hR.put hlt z ?_ oq
  show H1[kB κ + o]? = some (vp_cell _ _)
  rw [e]
  rw [vp_cell_l, vp_cell_l, arrV_store]
  congr 2
  funext q
  by_cases hq : q = j
  · subst hq
    simp [updV, aup]
  · simp [updV, aup, hq]

theorem r_newa0 {sc : SC} {μ : MI} {mc ms k n pc : Nat} {lv : List (Nat × Value)} {st : List Value} {S : AS} {Q : Out → AS → Prop} {nn : Nat} (h : cf (mCd μ) pc = some (.newarray .int, 2)) (hw : Cond.arrayClass .int ∈ lw_gd) (hn : nn < 65536) (hex : S.2.2 = true) (hk : k + 1 ≤ mc) (hs : n + nn ≤ ms) (kk : Wp sc μ mc ms (k + 1) (n + nn) (pc + 2) lv (.ref S.2.1 :: st) (aup S.1 S.2.1 (.inl (0, nn, fun _ => 0)), S.2.1 + 1, true) Q) : Wp sc μ mc ms k n pc lv (.int (nI nn) :: st) S Q := by
  intro l κ p e s m args below meth c H locs ls hfl hC hS hR hlv
  refine va_newaK (atype := .int) (N := nn) hC.1.1 hC.1.2.1 (hC.wd hw) rfl (hC.dk h) rfl (nI_pos (by omega)) (nI_clamp (by omega)) (by show nn * _ ≤ _; simp only [newarray.typeOf, componentBytes]; omega) hk hs rfl fun H1 cA e1 z1 o1 hAr hNm => ?_
  have hca : cA = kA κ 0 := by
    have h9 : s.vm.findClass ("[" ++ ((.int : FieldType)).toString) = some (kA κ 0) := (hC.kk.2 0 _ rfl).2
    exact Option.some.inj (hNm.symm.trans h9)
  subst hca
  have hz : H.size = kB κ + S.2.1 := hR.2.1.2 hex
  have h9 := fun hq => kk l κ p e s m args below meth c H1 locs ls hfl hC ⟨Nat.le_trans hS.1 (by omega), fun x h1 h2 => (o1 x (Nat.lt_of_lt_of_le h1 hS.1)).trans (hS.2.1 x h1 h2), hS.2.2⟩ (hR.push (Nat.le_trans hC.gd.1.2.2 hS.1) hex z1 hq o1 true) hlv
  rw [hz]
  refine h9 ?_
  exact e1

theorem r_newa1 {sc : SC} {μ : MI} {mc ms k n pc : Nat} {lv : List (Nat × Value)} {st : List Value} {S : AS} {Q : Out → AS → Prop} {nn : Nat} (h : cf (mCd μ) pc = some (.newarray .byte, 2)) (hw : Cond.arrayClass .byte ∈ lw_gd) (hn : nn < 65536) (hex : S.2.2 = true) (hk : k + 1 ≤ mc) (hs : n + nn ≤ ms) (kk : Wp sc μ mc ms (k + 1) (n + nn) (pc + 2) lv (.ref S.2.1 :: st) (aup S.1 S.2.1 (.inl (1, nn, fun _ => 0)), S.2.1 + 1, true) Q) : Wp sc μ mc ms k n pc lv (.int (nI nn) :: st) S Q := by
  intro l κ p e s m args below meth c H locs ls hfl hC hS hR hlv
  refine va_newaK (atype := .byte) (N := nn) hC.1.1 hC.1.2.1 (hC.wd hw) rfl (hC.dk h) rfl (nI_pos (by omega)) (nI_clamp (by omega)) (by show nn * _ ≤ _; simp only [newarray.typeOf, componentBytes]; omega) hk hs rfl fun H1 cA e1 z1 o1 hAr hNm => ?_
  have hca : cA = kA κ 1 := by
    have h9 : s.vm.findClass ("[" ++ ((.byte : FieldType)).toString) = some (kA κ 1) := (hC.kk.2 1 _ rfl).2
    exact Option.some.inj (hNm.symm.trans h9)
  subst hca
  have hz : H.size = kB κ + S.2.1 := hR.2.1.2 hex
  have h9 := fun hq => kk l κ p e s m args below meth c H1 locs ls hfl hC ⟨Nat.le_trans hS.1 (by omega), fun x h1 h2 => (o1 x (Nat.lt_of_lt_of_le h1 hS.1)).trans (hS.2.1 x h1 h2), hS.2.2⟩ (hR.push (Nat.le_trans hC.gd.1.2.2 hS.1) hex z1 hq o1 true) hlv
  rw [hz]
  refine h9 ?_
  exact e1

theorem r_newa2 {sc : SC} {μ : MI} {mc ms k n pc : Nat} {lv : List (Nat × Value)} {st : List Value} {S : AS} {Q : Out → AS → Prop} {nn : Nat} (h : cf (mCd μ) pc = some (.newarray .boolean, 2)) (hw : Cond.arrayClass .boolean ∈ lw_gd) (hn : nn < 65536) (hex : S.2.2 = true) (hk : k + 1 ≤ mc) (hs : n + nn ≤ ms) (kk : Wp sc μ mc ms (k + 1) (n + nn) (pc + 2) lv (.ref S.2.1 :: st) (aup S.1 S.2.1 (.inl (2, nn, fun _ => 0)), S.2.1 + 1, true) Q) : Wp sc μ mc ms k n pc lv (.int (nI nn) :: st) S Q := by
  intro l κ p e s m args below meth c H locs ls hfl hC hS hR hlv
  refine va_newaK (atype := .boolean) (N := nn) hC.1.1 hC.1.2.1 (hC.wd hw) rfl (hC.dk h) rfl (nI_pos (by omega)) (nI_clamp (by omega)) (by show nn * _ ≤ _; simp only [newarray.typeOf, componentBytes]; omega) hk hs rfl fun H1 cA e1 z1 o1 hAr hNm => ?_
  have hca : cA = kA κ 2 := by
    have h9 : s.vm.findClass ("[" ++ ((.boolean : FieldType)).toString) = some (kA κ 2) := (hC.kk.2 2 _ rfl).2
    exact Option.some.inj (hNm.symm.trans h9)
  subst hca
  have hz : H.size = kB κ + S.2.1 := hR.2.1.2 hex
  have h9 := fun hq => kk l κ p e s m args below meth c H1 locs ls hfl hC ⟨Nat.le_trans hS.1 (by omega), fun x h1 h2 => (o1 x (Nat.lt_of_lt_of_le h1 hS.1)).trans (hS.2.1 x h1 h2), hS.2.2⟩ (hR.push (Nat.le_trans hC.gd.1.2.2 hS.1) hex z1 hq o1 true) hlv
  rw [hz]
  refine h9 ?_
  exact e1

theorem r_newa3 {sc : SC} {μ : MI} {mc ms k n pc : Nat} {lv : List (Nat × Value)} {st : List Value} {S : AS} {Q : Out → AS → Prop} {nn : Nat} (h : cf (mCd μ) pc = some (.newarray .long, 2)) (hw : Cond.arrayClass .long ∈ lw_gd) (hn : nn < 65536) (hex : S.2.2 = true) (hk : k + 1 ≤ mc) (hs : n + nn ≤ ms) (kk : Wp sc μ mc ms (k + 1) (n + nn) (pc + 2) lv (.ref S.2.1 :: st) (aup S.1 S.2.1 (.inr (.inl (nn, fun _ => 0))), S.2.1 + 1, true) Q) : Wp sc μ mc ms k n pc lv (.int (nI nn) :: st) S Q := by
  intro l κ p e s m args below meth c H locs ls hfl hC hS hR hlv
  refine va_newaK (atype := .long) (N := nn) hC.1.1 hC.1.2.1 (hC.wd hw) rfl (hC.dk h) rfl (nI_pos (by omega)) (nI_clamp (by omega)) (by show nn * _ ≤ _; simp only [newarray.typeOf, componentBytes]; omega) hk hs rfl fun H1 cA e1 z1 o1 hAr hNm => ?_
  have hca : cA = kA κ 3 := by
    have h9 : s.vm.findClass ("[" ++ ((.long : FieldType)).toString) = some (kA κ 3) := (hC.kk.2 3 _ rfl).2
    exact Option.some.inj (hNm.symm.trans h9)
  subst hca
  have hz : H.size = kB κ + S.2.1 := hR.2.1.2 hex
  have h9 := fun hq => kk l κ p e s m args below meth c H1 locs ls hfl hC ⟨Nat.le_trans hS.1 (by omega), fun x h1 h2 => (o1 x (Nat.lt_of_lt_of_le h1 hS.1)).trans (hS.2.1 x h1 h2), hS.2.2⟩ (hR.push (Nat.le_trans hC.gd.1.2.2 hS.1) hex z1 hq o1 true) hlv
  rw [hz]
  refine h9 ?_
  exact e1

theorem r_new {sc : SC} {μ : MI} {mc ms k n pc : Nat} {lv : List (Nat × Value)} {st : List Value} {S : AS} {Q : Out → AS → Prop} {idx ci N : Nat} {C : String} {T : u_T} {ty : Nat → FieldType} {V : Nat → Value} (h : cf (mCd μ) pc = some (.new idx, 3)) (hci : CI ci C T N ty) (hw1 : Cond.classLink (mNm μ).cls idx C ∈ lw_gd) (hw2 : Cond.instantiable C N ∈ lw_gd) (hw3 : Cond.initialized C ∈ lw_gd) (hV : ∀ (κ : KX) (j : Nat), j < N → defaultValue (ty j) = cv κ (V j)) (hex : S.2.2 = true) (hk : k + 1 ≤ mc) (hs : n + N ≤ ms) (kk : Wp sc μ mc ms (k + 1) (n + N) (pc + 3) lv (.ref S.2.1 :: st) (aup S.1 S.2.1 (.inr (.inr (ci, V))), S.2.1 + 1, true) Q) : Wp sc μ mc ms k n pc lv st S Q := by
  intro l κ p e s m args below meth c H locs ls hfl hC hS hR hlv
  obtain ⟨hc, hin, hty, hnm⟩ := hci
  have hin' : ∀ w ∈ u_ws C T N, w ∈ wsO μ := fun w hw => List.mem_cons_of_mem _ (hin w hw)
  have hKn := hC.kk.1 ci _ hc
  refine W.newcK hC.1.1 hC.1.2.1 hC.own (hC.wd hw1) (hC.wd hw2) (hC.wd hw3) rfl (hC.dk h) hk hs hKn.2.1 rfl fun H1 kC hkC e1 z1 o1 => ?_
  have hz : H.size = kB κ + S.2.1 := hR.2.1.2 hex
  have h9 := fun hq => kk l κ p e s m args below meth c H1 locs ls hfl hC ⟨Nat.le_trans hS.1 (by omega), fun x h1 h2 => (o1 x (Nat.lt_of_lt_of_le h1 hS.1)).trans (hS.2.1 x h1 h2), hS.2.2⟩ (hR.push (Nat.le_trans hC.gd.1.2.2 hS.1) hex z1 hq o1 true) hlv
  rw [hz]
  refine h9 ?_
  rw [conv_obj κ _ (vw_lt hc)]
  refine ⟨_, hc, (u_born ty hC.2.1 hin' hKn hkC e1 hty).to (fun j hj => ?_)⟩
  rw [hV κ j hj]
  unfold vp_V
  rw [List.getD_eq_getElem?_getD, List.getElem?_map, nfs_of hc, List.getElem?_range hj]
  rfl

theorem cv_scr (κ : KX) {x : Nat} (hx : x = 100) : cv κ (.retAddr x) = .ref (kSb κ) := by
  subst hx
  rfl
theorem cv_dig (κ : KX) (i : Nat) : cv κ (.retAddr (101 + i)) = .ref (kDT κ i) := by
  show cvK κ (101 + i) = _
  unfold cvK
  rw [if_neg (by omega), if_neg (by omega), if_neg (by omega), if_neg (by omega), show 101 + i - 101 = i by omega]
theorem cv_str (κ : KX) {x : Nat} (hx : x < 50) : cv κ (.retAddr x) = .ref (kSK κ x) := by
  show cvK κ x = _
  unfold cvK
  rw [if_pos hx]
theorem cv_stv (κ : KX) {x : Nat} (hx : x < 49) : cv κ (.retAddr (50 + x)) = .ref (kSV κ x) := by
  show cvK κ (50 + x) = _
  unfold cvK
  rw [if_neg (by omega), if_pos (by omega), Nat.add_sub_cancel_left]
/-- the script -/
theorem r_slen {sc : SC} {μ : MI} {mc ms k n pc : Nat} {lv : List (Nat × Value)} {st : List Value} {S : AS} {Q : Out → AS → Prop} {x : Nat} (h : cf (mCd μ) pc = some (.arraylength, 1)) (hx : x = 100) (kk : Wp sc μ mc ms k n (pc + 1) lv (.int (nI sc.1) :: st) S Q) : Wp sc μ mc ms k n pc lv (.retAddr x :: st) S Q := by
  intro l κ p e s m args below meth c H locs ls hfl hC hS hR hlv
  show W p l e (rmO μ mc ms) s m args below meth c H locs k n _ (F0 m pc ls (cv κ (.retAddr x) :: cvs κ st))
  rw [cv_scr κ hx]
  exact va_slen (A := kF κ) hC.1.1 hC.1.2.1 hC.gd.2.2.2.2.2.1 hC.gd.2.2.2.2.2.2.1 hC.gd.2.2.2.2.2.2.2 hS (hC.dk h) (kk l κ p e s m args below meth c H locs ls hfl hC hS hR hlv)
theorem r_sld {sc : SC} {μ : MI} {mc ms k n pc : Nat} {lv : List (Nat × Value)} {st : List Value} {S : AS} {Q : Out → AS → Prop} {x j : Nat} (h : cf (mCd μ) pc = some (.iaload, 1)) (hx : x = 100) (hj : j < sc.1) (hn : sc.1 < 2147483648) (kk : Wp sc μ mc ms k n (pc + 1) lv (.int (sc.2 j) :: st) S Q) : Wp sc μ mc ms k n pc lv (.int (nI j) :: .retAddr x :: st) S Q := by
  intro l κ p e s m args below meth c H locs ls hfl hC hS hR hlv
  show W p l e (rmO μ mc ms) s m args below meth c H locs k n _ (F0 m pc ls (.int (nI j) :: cv κ (.retAddr x) :: cvs κ st))
  rw [cv_scr κ hx]
  refine va_sld (A := kF κ) hC.1.1 hC.1.2.1 hC.gd.2.2.2.2.2.1 hC.gd.2.2.2.2.2.2.1 hC.gd.2.2.2.2.2.2.2 hS (vin hj hn) (hC.dk h) ?_
  rw [nI_clamp (Nat.lt_trans hj hn)]
  exact kk l κ p e s m args below meth c H locs ls hfl hC hS hR hlv
end
section
theorem run_go {sc : SC} {μ : MI} {mc ms k n mc1 ms1 pc : Nat} {st0 rest : List Value} {S : AS} {Q1 : Out → AS → Prop} {l : Launch} {κ : KX} {p : Program} {e : Env} {s : State} {m : MethodId} {args a : Array Value} {below : List Frame} {meth : Method} {c : Code} {H : Heap} {locs : List Loc} {ls : Array Slot} {G : State → Prop}
    (hr : vx_Run p l e (rmO μ mc ms) s m args below meth c H locs k n mc1 ms1 (F0 m pc ls st0) rest (QO κ Q1 a) (XO κ Q1) (kF κ)) (hS : va_S (kF κ) s.heap H locs)
    (kx : ∀ (ec : Nat) (ce : Cell) (q9 : Addr) (S' : AS) (H1 : Heap) (locs1 : List Loc), Q1 (.inr ec) S' → ec < 3 → Rep κ S' H1 → va_S (kF κ) s.heap H1 locs1 → H1[q9]? = some ce → ce.vm = .none → s.vm.findClass (exN ec) = some ce.cls → vx_W p l e (rmO μ mc ms) s m args below meth c H1 locs1 (k + mc1) (n + ms1) G (F0 m pc ls rest) q9)
    (kk : ∀ (r : Option Value) (S' : AS) (H1 : Heap) (locs1 : List Loc), Q1 (.inl r) S' → Rep κ S' H1 → va_S (kF κ) s.heap H1 locs1 → W p l e (rmO μ mc ms) s m args below meth c H1 locs1 (k + mc1) (n + ms1) G (F0 m (pc + 3) ls ((r.map (cv κ)).toList ++ rest))) : W p l e (rmO μ mc ms) s m args below meth c H locs k n G (F0 m pc ls st0) := by
  intro T hT X
  rcases hr T hT X with ⟨v, st₀, t, T', L, h0, X', hL, e1, e2, ⟨⟨r, S', hv, hq, hR'⟩, hF⟩, st⟩ | ⟨q, st₀, t, T', L, E, ce, h0, X', hL, e1, e2, ⟨⟨ec, S', hE, h3, hq, hR'⟩, hF⟩, hce, hcv, hcl, st⟩
  · cases hv
    obtain ⟨k1, k2, k3⟩ := vx_keep h0 e1 hS (fun _ _ h => h) (fun _ h => h) hL hF
    obtain ⟨t2, a1, b1⟩ := kk r S' T'.heap (locs ++ L) hq (by rw [e1]; exact hR') k3 T' rfl X'
    exact ⟨t2, st t2 a1, b1⟩
  · subst hE
    obtain ⟨k1, k2, k3⟩ := vx_keep h0 e1 hS (fun _ _ h => h) (fun _ h => h) hL hF
    obtain ⟨t2, a1, b1⟩ := kx ec ce q S' T'.heap (locs ++ L) hq h3 (by rw [e1]; exact hR') k3 (by rw [e1]; exact hce) hcv hcl T' rfl X'
    exact ⟨t2, st.trans a1, b1⟩
/-- an instance method's entry of the pool -/
def LV (own : String) (idx : Nat) (ν : MI) (na : Nat) : Prop := Cond.methodLink own idx (mNm ν) ∈ lw_gd ∧ Cond.instanceMethod (mNm ν) ∈ lw_gd ∧ Cond.selects (mNm ν).cls (mNm ν) (mNm ν) ∈ lw_gd ∧ (parseMethodDescriptor (mNm ν).desc).map (fun d => d.parameters.length) = some na ∧ GM ν ∧ mHh ν = []
/-- a static method's -/
def LS9 (own : String) (idx : Nat) (ν : MI) (na : Nat) : Prop := Cond.methodLink own idx (mNm ν) ∈ lw_gd ∧ Cond.static (mNm ν) ∈ lw_gd ∧ (parseMethodDescriptor (mNm ν).desc).map (fun d => d.parameters.length) = some na ∧ GM ν ∧ mHh ν = []
def LSN (own : String) (idx : Nat) (ν : MI) (na : Nat) : Prop := (∃ host : String, (own, idx, mNm ν, host) ∈ lw_nest) ∧ Cond.static (mNm ν) ∈ lw_gd ∧ (parseMethodDescriptor (mNm ν).desc).map (fun d => d.parameters.length) = some na ∧ GM ν ∧ mHh ν = []
def LI (own : String) (idx : Nat) (ν : MI) (na : Nat) : Prop := Cond.methodLink own idx (mNm ν) ∈ lw_gd ∧ Cond.instanceMethod (mNm ν) ∈ lw_gd ∧ (mNm ν).name = "<init>" ∧ (parseMethodDescriptor (mNm ν).desc).map (fun d => d.parameters.length) = some na ∧ GM ν ∧ mHh ν = [] ∧ mRt ν = none
def LIN (own : String) (idx : Nat) (ν : MI) (na : Nat) : Prop := (∃ host : String, (own, idx, mNm ν, host) ∈ lw_nest) ∧ Cond.instanceMethod (mNm ν) ∈ lw_gd ∧ (mNm ν).name = "<init>" ∧ (parseMethodDescriptor (mNm ν).desc).map (fun d => d.parameters.length) = some na ∧ GM ν ∧ mHh ν = [] ∧ mRt ν = none
def LSW (own : String) (idx : Nat) (ν : MI) (na : Nat) : Prop := Cond.methodLink own idx (mNm ν) ∈ lw_gd ∧ Cond.static (mNm ν) ∈ lw_gd ∧ (parseMethodDescriptor (mNm ν).desc).map (fun d => d.parameters.length) = some na ∧ GM ν ∧ ∃ x t, mHh ν = x :: t
theorem wsO_eq {ν : MI} (h : mHh ν = []) : wsO ν = Cond.code (mNm ν) (mBs ν) (mMl ν) (mRt ν) :: lw_gd := by
  unfold wsO cdW
  rw [h]
theorem wsO_eqW {ν : MI} {x : Nat × Nat × Nat × Nat} {t : List (Nat × Nat × Nat × Nat)} (h : mHh ν = x :: t) : wsO ν = Cond.codeWith (mNm ν) (mBs ν) (mMl ν) (mRt ν) (x :: t) :: lw_gd := by
  unfold wsO cdW
  rw [h]
theorem gin_app {μ : MI} {a b : List Cond} (ha : ∀ w ∈ a, w ∈ lw_gd) (hb : GoodIn (wsO μ) b) : GoodIn (wsO μ) (a ++ b) := by
  intro w hw
  rcases List.mem_append.mp hw with h | h
  · exact ⟨List.mem_cons_of_mem _ (ha w h), lw_gd_good (ha w h)⟩
  · exact hb w h
/-- room for a call -/
def rmB (μ ν : MI) (rest : List Value) : Bool := Nat.ble (mFr ν + 1) (mFr μ) && (Nat.ble (8 + (mMl ν + 11) + mLo ν) (mLo μ) && Nat.ble ((rest.map fun v => v.category).sum) 8)
theorem rmB_sp {μ ν : MI} {rest : List Value} (h : rmB μ ν rest = true) : mFr ν + 1 ≤ mFr μ ∧ 8 + (mMl ν + 11) + mLo ν ≤ mLo μ ∧ (rest.map fun v => v.category).sum ≤ 8 := by
  unfold rmB at h
  rw [Bool.and_eq_true, Bool.and_eq_true] at h
  exact ⟨Nat.le_of_ble_eq_true h.1, Nat.le_of_ble_eq_true h.2.1, Nat.le_of_ble_eq_true h.2.2⟩
theorem rm8 {κ : KX} {m : MethodId} {pc : Nat} {ls : Array Slot} {st rest : List Value} (h : (rest.map fun v => v.category).sum ≤ 8) : 2 * (F0 m pc ls st).monitorRoom + ((cvs κ rest).map fun v => v.category).sum ≤ 8 := by
  rw [cvs_sum]
  exact lv_room (m := m) (pc := pc) (ls := ls) (rest := st) h
theorem cvs_app (κ : KX) (a b : List Value) : cvs κ (a ++ b) = cvs κ a ++ cvs κ b := List.map_append
theorem cvs_rev (κ : KX) (a : List Value) : cvs κ a.reverse = (cvs κ a).reverse := List.map_reverse
/-- the receiver -/
theorem recv_at {κ : KX} {sc : SC} {s : State} {S : AS} {H : Heap} {o ci : Nat} {V : Nat → Value} {r : vw_C} (hG : Gd κ sc s) (hR : Rep κ S H) (hlt : o < S.2.1) (ho : S.1 o = .inr (.inr (ci, V))) (hc : vwCl[ci]? = some r) : ∃ cell : Cell, H[kB κ + o]? = some cell ∧ cell.vm.isStatics = false ∧ s.vm.findClass r.1 = some cell.cls :=
  va_recv (q0 := 0) hG.1.1 (hR.at hc hlt ho) hc rfl
theorem pre_at {κ : KX} {sc : SC} {s : State} {S : AS} {H : Heap} {locs : List Loc} {as : List Value} (hG : Gd κ sc s) (hS : va_S (kF κ) s.heap H locs) (hR : Rep κ S H) : ∀ U : State, U.heap = H → s.WarmedH U.vm → Pc0 κ sc as S (cvs κ as).toArray U :=
  fun U hU hW => ⟨rfl, hG.next hW hU hS, by rw [hU]; exact hR⟩
theorem r_vir {sc : SC} {μ ν : MI} {mc ms k n mc1 ms1 pc : Nat} {lv : List (Nat × Value)} {st : List Value} {S : AS} {Q Q1 : Out → AS → Prop} {idx o ci : Nat} {V : Nat → Value} {r : vw_C} (as rest : List Value) (h : cf (mCd μ) pc = some (.invokevirtual idx, 3)) (hL : LV (mNm μ).cls idx ν as.length) (hlt : o < S.2.1) (ho : S.1 o = .inr (.inr (ci, V))) (hc9 : vwCl[ci]? = some r) (hc : r.1 = (mNm ν).cls) (hcal : Cal sc ν mc1 ms1 (.ref o :: as) S Q1) (hst : st = as.reverse ++ .ref o :: rest) (hrm : rmB μ ν rest = true) (hmc : k + mc1 ≤ mc) (hms : n + ms1 ≤ ms) (hh : mHh μ = [])
    (kx : ∀ ec S', Q1 (.inr ec) S' → Q (.inr ec) S') (kk : ∀ r S', Q1 (.inl r) S' → Wp sc μ mc ms (k + mc1) (n + ms1) (pc + 3) lv (r.toList ++ rest) S' Q) : Wp sc μ mc ms k n pc lv st S Q := by
  intro l κ p e s m args below meth c H locs ls hfl hC hS hR hlv
  obtain ⟨w1, w2, w3, hd, hg, hhν⟩ := hL
  obtain ⟨m1, m2, m3⟩ := rmB_sp hrm
  have hgi : GoodIn (wsO μ) (wsV (mNm μ).cls idx (mNm ν).cls (mNm ν) (wsO ν)) := by
    unfold wsV
    refine gin_app ?_ (gin_O hg.2.1)
    intro w hw
    simp only [List.mem_cons, List.not_mem_nil, or_false] at hw
    rcases hw with rfl | rfl | rfl | rfl
    · exact w1
    · exact w2
    · exact w3
    · exact hg.2.2.2.2
  subst hst
  obtain ⟨cellB, b1, b2, b3⟩ := recv_at hC.gd hR hlt ho hc9
  rw [hc] at b3
  have hrun := vx_runV (R := rmO μ mc ms) (e := e) (meth := meth) (below := below) (rest := cvs κ rest) (g := F0 m pc ls (cvs κ (as.reverse ++ .ref o :: rest))) (locs := locs) (cells := k) (slots := n) (H := H) (As := cvs κ as) (b := kB κ + o) ⟨hC.1.1, hC.1.2.1, hC.1.2.2.2.1, hC.own, hC.2.1⟩ (hcal l κ hfl) (cwV (R := rmO μ mc ms) (rm := rmO ν mc1 ms1) as.length hC.2.1 hgi (wsO_eq hhν) rfl rfl ⟨rfl, hg.2.2.2.1.1, hg.2.2.2.1.2, hd⟩ ⟨m1, m2⟩) ⟨Pc0_blind κ sc _ S, ⟨cellB, b1, b2, b3⟩, pre_at (as := .ref o :: as) hC.gd hS hR⟩ rfl (by simp [cvs]) hlv.1 (by show cvs κ (as.reverse ++ .ref o :: rest) = _; rw [cvs_app, cvs_rev]; rfl) (rm8 m3) (hC.dk h) ⟨hmc, hms⟩
  refine run_go (sc := sc) (S := S) hrun hS (fun ec ce q9 S' H1 locs1 hq h3 hR1 hS1 hce hv hcl => ?_) (fun r S' H1 locs1 hq hR1 hS1 => ?_)
  · refine vx_out (by rw [hC.2.2.2.1, hh]; intro x hx; cases hx) hC.2.2.1 hce hv hcl (fun t ht hal => ⟨⟨ec, S', rfl, h3, kx ec S' hq, by rw [ht]; exact hR1⟩, hS1.F ht⟩) hS1.2.2 hmc hms
  · have h9 := kk r S' hq l κ p e s m args below meth c H1 locs1 ls hfl hC hS1 hR1 hlv
    rw [cvs_app] at h9
    cases r <;> exact h9
theorem r_sta {sc : SC} {μ ν : MI} {mc ms k n mc1 ms1 pc : Nat} {lv : List (Nat × Value)} {st : List Value} {S : AS} {Q Q1 : Out → AS → Prop} {idx : Nat} (as rest : List Value) (h : cf (mCd μ) pc = some (.invokestatic idx, 3)) (hL : LS9 (mNm μ).cls idx ν as.length) (hcal : Cal sc ν mc1 ms1 as S Q1) (hst : st = as.reverse ++ rest) (hrm : rmB μ ν rest = true) (hmc : k + mc1 ≤ mc) (hms : n + ms1 ≤ ms) (hh : mHh μ = [])
    (kx : ∀ ec S', Q1 (.inr ec) S' → Q (.inr ec) S') (kk : ∀ r S', Q1 (.inl r) S' → Wp sc μ mc ms (k + mc1) (n + ms1) (pc + 3) lv (r.toList ++ rest) S' Q) : Wp sc μ mc ms k n pc lv st S Q := by
  intro l κ p e s m args below meth c H locs ls hfl hC hS hR hlv
  obtain ⟨w1, w2, hd, hg, hhν⟩ := hL
  obtain ⟨m1, m2, m3⟩ := rmB_sp hrm
  have hcb := callB_of (R := rmO μ mc ms) (rm := rmO ν mc1 ms1) as.length hC.2.1 (gin_O hg.2.1) (wsO_eq hhν) rfl rfl (hC.wd hg.2.2.2.2) (hC.wd w1) ⟨hg.2.2.2.1.1, hg.2.2.2.1.2, hd⟩ ⟨m1, m2⟩
  subst hst
  have hrun := vx_runS (e := e) (meth := meth) (below := below) (rest := cvs κ rest) (g := F0 m pc ls (cvs κ (as.reverse ++ rest))) (locs := locs) (cells := k) (slots := n) (H := H) (As := cvs κ as) ⟨hC.1.1, hC.1.2.1, hC.1.2.2.2.1, hC.own, hC.2.1⟩ (hcal l κ hfl) ⟨hcb, hC.wd w2⟩ ⟨Pc0_blind κ sc _ S, pre_at hC.gd hS hR⟩ rfl (by simp [cvs]) hlv.1 (by show cvs κ (as.reverse ++ rest) = _; rw [cvs_app, cvs_rev]) (rm8 m3) (hC.dk h) ⟨hmc, hms⟩
  refine run_go (sc := sc) (S := S) hrun hS (fun ec ce q9 S' H1 locs1 hq h3 hR1 hS1 hce hv hcl => ?_) (fun r S' H1 locs1 hq hR1 hS1 => ?_)
  · refine vx_out (by rw [hC.2.2.2.1, hh]; intro x hx; cases hx) hC.2.2.1 hce hv hcl (fun t ht hal => ⟨⟨ec, S', rfl, h3, kx ec S' hq, by rw [ht]; exact hR1⟩, hS1.F ht⟩) hS1.2.2 hmc hms
  · have h9 := kk r S' hq l κ p e s m args below meth c H1 locs1 ls hfl hC hS1 hR1 hlv
    rw [cvs_app] at h9
    cases r <;> exact h9
theorem Cal.met {sc : SC} {ν : MI} {mc ms : Nat} {as : List Value} {S : AS} {Q : Out → AS → Prop} (h : Cal sc ν mc ms as S Q) (hno : ∀ ec S', ¬ Q (.inr ec) S') (l : Launch) (κ : KX) (hfl : l.stackTraces = false) : Met l (mNm ν) (wsO ν) (rmO ν mc ms) (Pc0 κ sc as S) (QO κ Q) mc ms (kF κ) := by
  intro p e ha hc hk s m args below hf happ hP hK
  obtain ⟨n, o, h1, h2, h3, h4⟩ := h l κ hfl p e ha hc hk s m args below hf happ hP hK
  refine ⟨n, o, h1, h2, h3, ?_⟩
  rcases h4 with h4 | ⟨q, e1, E, ce, L, ⟨⟨ec, S', f1, f2, f3, f4⟩, hF⟩, hr⟩
  · exact h4
  · exact (hno ec S' f3).elim
theorem run_goM {sc : SC} {μ : MI} {mc ms k n mc1 ms1 pc : Nat} {st0 rest : List Value} {S : AS} {Q1 : Out → AS → Prop} {l : Launch} {κ : KX} {p : Program} {e : Env} {s : State} {m : MethodId} {args a : Array Value} {below : List Frame} {meth : Method} {c : Code} {H : Heap} {locs : List Loc} {ls : Array Slot} {G : State → Prop}
    (hr : va_Run p l e (rmO μ mc ms) s m args below meth c H locs k n mc1 ms1 (F0 m pc ls st0) rest (QO κ Q1 a) (kF κ)) (hS : va_S (kF κ) s.heap H locs)
    (kk : ∀ (r : Option Value) (S' : AS) (H1 : Heap) (locs1 : List Loc), Q1 (.inl r) S' → Rep κ S' H1 → va_S (kF κ) s.heap H1 locs1 → W p l e (rmO μ mc ms) s m args below meth c H1 locs1 (k + mc1) (n + ms1) G (F0 m (pc + 3) ls ((r.map (cv κ)).toList ++ rest))) : W p l e (rmO μ mc ms) s m args below meth c H locs k n G (F0 m pc ls st0) := by
  intro T hT X
  obtain ⟨v, st₀, t, T', L, h0, X', hL, e1, e2, ⟨⟨r, S', hv, hq, hR'⟩, hF⟩, st⟩ := hr T hT X
  cases hv
  obtain ⟨k1, k2, k3⟩ := vx_keep h0 e1 hS (fun _ _ h => h) (fun _ h => h) hL hF
  obtain ⟨t2, a1, b1⟩ := kk r S' T'.heap (locs ++ L) hq (by rw [e1]; exact hR') k3 T' rfl X'
  exact ⟨t2, st t2 a1, b1⟩
theorem r_staN {sc : SC} {μ ν : MI} {mc ms k n mc1 ms1 pc : Nat} {lv : List (Nat × Value)} {st : List Value} {S : AS} {Q Q1 : Out → AS → Prop} {idx : Nat} (as rest : List Value) (h : cf (mCd μ) pc = some (.invokestatic idx, 3)) (hL : LSN (mNm μ).cls idx ν as.length) (hcal : Cal sc ν mc1 ms1 as S Q1) (hno : ∀ ec S', ¬ Q1 (.inr ec) S') (hst : st = as.reverse ++ rest) (hrm : rmB μ ν rest = true) (hmc : k + mc1 ≤ mc) (hms : n + ms1 ≤ ms)
    (kk : ∀ r S', Q1 (.inl r) S' → Wp sc μ mc ms (k + mc1) (n + ms1) (pc + 3) lv (r.toList ++ rest) S' Q) : Wp sc μ mc ms k n pc lv st S Q := by
  intro l κ p e s m args below meth c H locs ls hfl hC hS hR hlv
  obtain ⟨⟨host, w1⟩, w2, hd, hg, hhν⟩ := hL
  obtain ⟨m1, m2, m3⟩ := rmB_sp hrm
  have hcb := va_cnB (R := rmO μ mc ms) (rm := rmO ν mc1 ms1) as.length hC.2.1 (gin_O hg.2.1) (wsO_eq hhν) rfl rfl (hC.gd.2.2.2.2.1.1 _ w1) (hC.wd hg.2.2.2.2) ⟨hg.2.2.2.1.1, hg.2.2.2.1.2, hd⟩ ⟨m1, m2⟩
  subst hst
  have hrun := va_runSN (e := e) (meth := meth) (below := below) (rest := cvs κ rest) (g := F0 m pc ls (cvs κ (as.reverse ++ rest))) (locs := locs) (cells := k) (slots := n) (H := H) (As := cvs κ as) ⟨hC.1.1, hC.1.2.1, hC.1.2.2.2.1, hC.own, hC.2.1⟩ (hcal.met hno l κ hfl) ⟨hcb, hC.wd w2, trivial⟩ ⟨Pc0_blind κ sc _ S, pre_at hC.gd hS hR⟩ rfl (by simp [cvs]) hlv.1 (by show cvs κ (as.reverse ++ rest) = _; rw [cvs_app, cvs_rev]) (rm8 m3) (hC.dk h) ⟨hmc, hms⟩
  refine run_goM (sc := sc) (S := S) hrun hS (fun r S' H1 locs1 hq hR1 hS1 => ?_)
  have h9 := kk r S' hq l κ p e s m args below meth c H1 locs1 ls hfl hC hS1 hR1 hlv
  rw [cvs_app] at h9
  cases r <;> exact h9
theorem r_ini {sc : SC} {μ ν : MI} {mc ms k n mc1 ms1 pc : Nat} {lv : List (Nat × Value)} {st : List Value} {S : AS} {Q Q1 : Out → AS → Prop} {idx o : Nat} (as rest : List Value) (h : cf (mCd μ) pc = some (.invokespecial idx, 3)) (hL : LI (mNm μ).cls idx ν as.length) (hcal : Cal sc ν mc1 ms1 (.ref o :: as) S Q1) (hno : ∀ ec S', ¬ Q1 (.inr ec) S') (hst : st = as.reverse ++ .ref o :: rest) (hrm : rmB μ ν rest = true) (hmc : k + mc1 ≤ mc) (hms : n + ms1 ≤ ms)
    (kk : ∀ r S', Q1 (.inl r) S' → Wp sc μ mc ms (k + mc1) (n + ms1) (pc + 3) lv (r.toList ++ rest) S' Q) : Wp sc μ mc ms k n pc lv st S Q := by
  intro l κ p e s m args below meth c H locs ls hfl hC hS hR hlv
  obtain ⟨w1, w2, hnm, hd, hg, hhν, hrt⟩ := hL
  obtain ⟨m1, m2, m3⟩ := rmB_sp hrm
  have hwn : wsO ν = Cond.code (mNm ν) (mBs ν) (mMl ν) none :: lw_gd := by rw [wsO_eq hhν, hrt]
  have hcw := cwI (R := rmO μ mc ms) (rm := rmO ν mc1 ms1) as.length hC.2.1 (gin_O hg.2.1) hwn rfl rfl (hC.wd hg.2.2.2.2) (hC.wd w1) (hC.wd w2) hnm ⟨hg.2.2.2.1.1, hg.2.2.2.1.2, hd⟩ ⟨m1, m2⟩
  subst hst
  have hrun := va_runI (e := e) (meth := meth) (below := below) (rest := cvs κ rest) (g := F0 m pc ls (cvs κ (as.reverse ++ .ref o :: rest))) (locs := locs) (cells := k) (slots := n) (H := H) (As := cvs κ as) (b := kB κ + o) ⟨hC.1.1, hC.1.2.1, hC.1.2.2.2.1, hC.own, hC.2.1⟩ (hcal.met hno l κ hfl) hcw ⟨Pc0_blind κ sc _ S, pre_at (as := .ref o :: as) hC.gd hS hR⟩ rfl (by simp [cvs]) hlv.1 (by show cvs κ (as.reverse ++ .ref o :: rest) = _; rw [cvs_app, cvs_rev]; rfl) (rm8 m3) (hC.dk h) ⟨hmc, hms⟩
  refine run_goM (sc := sc) (S := S) hrun hS (fun r S' H1 locs1 hq hR1 hS1 => ?_)
  have h9 := kk r S' hq l κ p e s m args below meth c H1 locs1 ls hfl hC hS1 hR1 hlv
  rw [cvs_app] at h9
  cases r <;> exact h9
theorem r_iniN {sc : SC} {μ ν : MI} {mc ms k n mc1 ms1 pc : Nat} {lv : List (Nat × Value)} {st : List Value} {S : AS} {Q Q1 : Out → AS → Prop} {idx o : Nat} (as rest : List Value) (h : cf (mCd μ) pc = some (.invokespecial idx, 3)) (hL : LIN (mNm μ).cls idx ν as.length) (hcal : Cal sc ν mc1 ms1 (.ref o :: as) S Q1) (hno : ∀ ec S', ¬ Q1 (.inr ec) S') (hst : st = as.reverse ++ .ref o :: rest) (hrm : rmB μ ν rest = true) (hmc : k + mc1 ≤ mc) (hms : n + ms1 ≤ ms)
    (kk : ∀ r S', Q1 (.inl r) S' → Wp sc μ mc ms (k + mc1) (n + ms1) (pc + 3) lv (r.toList ++ rest) S' Q) : Wp sc μ mc ms k n pc lv st S Q := by
  intro l κ p e s m args below meth c H locs ls hfl hC hS hR hlv
  obtain ⟨⟨host, w1⟩, w2, hnm, hd, hg, hhν, hrt⟩ := hL
  obtain ⟨m1, m2, m3⟩ := rmB_sp hrm
  have hwn : wsO ν = Cond.code (mNm ν) (mBs ν) (mMl ν) none :: lw_gd := by rw [wsO_eq hhν, hrt]
  have hcb := va_cnB (R := rmO μ mc ms) (rm := rmO ν mc1 ms1) as.length hC.2.1 (gin_O hg.2.1) hwn rfl rfl (hC.gd.2.2.2.2.1.1 _ w1) (hC.wd hg.2.2.2.2) ⟨hg.2.2.2.1.1, hg.2.2.2.1.2, hd⟩ ⟨m1, m2⟩
  subst hst
  have hrun := va_runIN (e := e) (meth := meth) (below := below) (rest := cvs κ rest) (g := F0 m pc ls (cvs κ (as.reverse ++ .ref o :: rest))) (locs := locs) (cells := k) (slots := n) (H := H) (As := cvs κ as) (b := kB κ + o) ⟨hC.1.1, hC.1.2.1, hC.1.2.2.2.1, hC.own, hC.2.1⟩ (hcal.met hno l κ hfl) ⟨hcb, hnm, hC.wd w2⟩ ⟨Pc0_blind κ sc _ S, pre_at (as := .ref o :: as) hC.gd hS hR⟩ rfl (by simp [cvs]) hlv.1 (by show cvs κ (as.reverse ++ .ref o :: rest) = _; rw [cvs_app, cvs_rev]; rfl) (rm8 m3) (hC.dk h) ⟨hmc, hms⟩
  refine run_goM (sc := sc) (S := S) hrun hS (fun r S' H1 locs1 hq hR1 hS1 => ?_)
  have h9 := kk r S' hq l κ p e s m args below meth c H1 locs1 ls hfl hC hS1 hR1 hlv
  rw [cvs_app] at h9
  cases r <;> exact h9
/-- Object's constructor -/
theorem r_obj {sc : SC} {μ : MI} {mc ms k n pc : Nat} {lv : List (Nat × Value)} {st : List Value} {S : AS} {Q : Out → AS → Prop} {idx o : Nat} (h : cf (mCd μ) pc = some (.invokespecial idx, 3)) (hw : Cond.methodLink (mNm μ).cls idx objectInit ∈ lw_gd) (hw2 : Cond.instanceMethod objectInit ∈ lw_gd) (hw3 : Cond.code objectInit ⟨#[0xb1]⟩ 1 none ∈ lw_gd) (hfr : Nat.ble 1 (mFr μ) = true) (hlo : Nat.ble ((st.map fun v => v.category).sum + 12) (mLo μ) = true) (kk : Wp sc μ mc ms k n (pc + 3) lv st S Q) : Wp sc μ mc ms k n pc lv (.ref o :: st) S Q := by
  intro l κ p e s m args below meth c H locs ls hfl hC hS hR hlv
  refine W.objInit (a := kB κ + o) (rest := cvs κ st) hC.1.1 hC.1.2.1 hC.own (hC.wd hw) (hC.wd hw2) (hC.wd hw3) rfl (by rw [hC.1.2.2.2.1]; exact hlv.1) rfl (hC.dk h) (Nat.le_of_ble_eq_true hfr) ?_ (kk l κ p e s m args below meth c H locs ls hfl hC hS hR hlv)
  rw [cvs_sum]
  have := Nat.le_of_ble_eq_true hlo
  show 2 * 0 + _ + 12 ≤ mLo μ
  omega
theorem r_ret {sc : SC} {μ : MI} {mc ms k n pc : Nat} {lv : List (Nat × Value)} {S : AS} {Q : Out → AS → Prop} {x : Int32} {t : FieldType} (h : cf (mCd μ) pc = some (.ireturn, 1)) (hrt : mRt μ = some t) (hn : narrow t (.int x) = .int x) (hk : k ≤ mc) (hs : n ≤ ms) (hq : Q (.inl (some (.int x))) S) : Wp sc μ mc ms k n pc lv [.int x] S Q := by
  intro l κ p e s m args below meth c H locs ls hfl hC hS hR hlv
  refine W.widen hk hs (vx_ret ?_)
  exact W.zret (ty := t) hC.1.1 hC.1.2.1 (hC.1.2.2.1.trans hrt) hn (fun t ht hW => ⟨⟨some (.int x), S, rfl, hq, by rw [ht]; exact hR⟩, hS.F ht⟩) hS.2.2 (hC.dk h) hC.2.2.1
theorem r_lret {sc : SC} {μ : MI} {mc ms k n pc : Nat} {lv : List (Nat × Value)} {S : AS} {Q : Out → AS → Prop} {x : Int64} (h : cf (mCd μ) pc = some (.lreturn, 1)) (hrt : mRt μ = some .long) (hk : k ≤ mc) (hs : n ≤ ms) (hq : Q (.inl (some (.long x))) S) : Wp sc μ mc ms k n pc lv [.long x] S Q := by
  intro l κ p e s m args below meth c H locs ls hfl hC hS hR hlv
  refine W.widen hk hs (vx_ret ?_)
  exact W.lret hC.1.1 hC.1.2.1 (hC.1.2.2.1.trans hrt) (fun t ht hW => ⟨⟨some (.long x), S, rfl, hq, by rw [ht]; exact hR⟩, hS.F ht⟩) hS.2.2 (hC.dk h) hC.2.2.1
theorem r_vret {sc : SC} {μ : MI} {mc ms k n pc : Nat} {lv : List (Nat × Value)} {S : AS} {Q : Out → AS → Prop} (h : cf (mCd μ) pc = some (.return_, 1)) (hrt : mRt μ = none) (hk : k ≤ mc) (hs : n ≤ ms) (hq : Q (.inl none) S) : Wp sc μ mc ms k n pc lv [] S Q := by
  intro l κ p e s m args below meth c H locs ls hfl hC hS hR hlv
  refine W.widen hk hs (vx_ret ?_)
  exact W.vret hC.1.1 hC.1.2.1 (hC.1.2.2.1.trans hrt) (fun t ht hW => ⟨⟨none, S, rfl, hq, by rw [ht]; exact hR⟩, hS.F ht⟩) hS.2.2 (hC.dk h) hC.2.2.1
theorem r_mmin {sc : SC} {μ : MI} {mc ms k n pc : Nat} {lv : List (Nat × Value)} {st : List Value} {S : AS} {Q : Out → AS → Prop} {x y : Int32} {idx : Nat} (h : cf (mCd μ) pc = some (.invokestatic idx, 3)) (hw : Cond.methodLink (mNm μ).cls idx Lib.Math.min.name ∈ lw_gd) (hw2 : Cond.static Lib.Math.min.name ∈ lw_gd) (hw3 : Cond.initialized "java/lang/Math" ∈ lw_gd) (hw4 : Cond.code Lib.Math.min.name Lib.Math.min.code 2 (some .int) ∈ lw_gd) (hfr : Nat.ble 1 (mFr μ) = true) (hlo : Nat.ble ((st.map fun v => v.category).sum + 13) (mLo μ) = true) (hk : k ≤ mc) (hs : n ≤ ms) (kk : Wp sc μ mc ms k n (pc + 3) lv (.int (if y < x then y else x) :: st) S Q) : Wp sc μ mc ms k n pc lv (.int y :: .int x :: st) S Q := by
  intro l κ p e s m args below meth c H locs ls hfl hC hS hR hlv
  refine va_mmin hC.1.1 hC.1.2.1 (by rw [hC.1.2.2.2.1]; exact hlv.1.symm) hC.own (hC.wd hw) (hC.wd hw2) (hC.wd hw3) (hC.wd hw4) (Nat.le_of_ble_eq_true hfr) ?_ hk hs (hC.dk h) (kk l κ p e s m args below meth c H locs ls hfl hC hS hR hlv)
  show ((cvs κ st).map fun v => v.category).sum + 13 ≤ mLo μ
  rw [cvs_sum]
  exact Nat.le_of_ble_eq_true hlo
theorem r_mmax {sc : SC} {μ : MI} {mc ms k n pc : Nat} {lv : List (Nat × Value)} {st : List Value} {S : AS} {Q : Out → AS → Prop} {x y : Int32} {idx : Nat} (h : cf (mCd μ) pc = some (.invokestatic idx, 3)) (hw : Cond.methodLink (mNm μ).cls idx Lib.Math.max.name ∈ lw_gd) (hw2 : Cond.static Lib.Math.max.name ∈ lw_gd) (hw3 : Cond.initialized "java/lang/Math" ∈ lw_gd) (hw4 : Cond.code Lib.Math.max.name Lib.Math.max.code 2 (some .int) ∈ lw_gd) (hfr : Nat.ble 1 (mFr μ) = true) (hlo : Nat.ble ((st.map fun v => v.category).sum + 13) (mLo μ) = true) (hk : k ≤ mc) (hs : n ≤ ms) (kk : Wp sc μ mc ms k n (pc + 3) lv (.int (if x < y then y else x) :: st) S Q) : Wp sc μ mc ms k n pc lv (.int y :: .int x :: st) S Q := by
  intro l κ p e s m args below meth c H locs ls hfl hC hS hR hlv
  refine va_mmax hC.1.1 hC.1.2.1 (by rw [hC.1.2.2.2.1]; exact hlv.1.symm) hC.own (hC.wd hw) (hC.wd hw2) (hC.wd hw3) (hC.wd hw4) (Nat.le_of_ble_eq_true hfr) ?_ hk hs (hC.dk h) (kk l κ p e s m args below meth c H locs ls hfl hC hS hR hlv)
  show ((cvs κ st).map fun v => v.category).sum + 13 ≤ mLo μ
  rw [cvs_sum]
  exact Nat.le_of_ble_eq_true hlo
theorem str_lt {i : Nat} {x : String × Nat × String × List Int32} (h : strJ[i]? = some x) : i < 38 := (List.getElem?_eq_some_iff.mp h).1
theorem r_ldcS {sc : SC} {μ : MI} {mc ms k n pc : Nat} {lv : List (Nat × Value)} {st : List Value} {S : AS} {Q : Out → AS → Prop} {idx i : Nat} {tx : String} {bs : List Int32} (h : cf (mCd μ) pc = some (.ldc idx, 2)) (hs : strJ[i]? = some ((mNm μ).cls, idx, tx, bs)) (kk : Wp sc μ mc ms k n (pc + 2) lv (.retAddr i :: st) S Q) : Wp sc μ mc ms k n pc lv st S Q := by
  intro l κ p e s m args below meth c H locs ls hfl hC hS hR hlv
  have hi := str_lt hs
  refine va_ldcS (q := kSK κ i) hC.1.1 hC.1.2.1 hC.own (hC.gd.2.1 i _ hs).2 (hC.dk h) ?_
  rw [← cv_str κ (Nat.lt_trans hi (by decide))]
  exact kk l κ p e s m args below meth c H locs ls hfl hC hS hR hlv
theorem r_getsC {sc : SC} {μ : MI} {mc ms k n pc : Nat} {lv : List (Nat × Value)} {st : List Value} {S : AS} {Q : Out → AS → Prop} {idx : Nat} (h : cf (mCd μ) pc = some (.getstatic idx, 3)) (hw : Cond.fieldLink (mNm μ).cls idx "java/lang/String" "COMPACT_STRINGS" "Z" ∈ lw_gd) (kk : Wp sc μ mc ms k n (pc + 3) lv (.int 1 :: st) S Q) : Wp sc μ mc ms k n pc lv st S Q := by
  intro l κ p e s m args below meth c H locs ls hfl hC hS hR hlv
  exact va_gets (A := kF κ) hC.1.1 hC.1.2.1 hC.gd.2.2.2.1.1 hS hC.own (hC.wd hw) (fun _ q => q) (hC.dk h) (kk l κ p e s m args below meth c H locs ls hfl hC hS hR hlv)
theorem r_getsF {sc : SC} {μ : MI} {mc ms k n pc : Nat} {lv : List (Nat × Value)} {st : List Value} {S : AS} {Q : Out → AS → Prop} {idx : Nat} (h : cf (mCd μ) pc = some (.getstatic idx, 3)) (hw : Cond.fieldLink (mNm μ).cls idx "jdk/internal/util/Preconditions" "SIOOBE_FORMATTER" "Ljava/util/function/BiFunction;" ∈ lw_gd) (kk : Wp sc μ mc ms k n (pc + 3) lv (.retAddr 99 :: st) S Q) : Wp sc μ mc ms k n pc lv st S Q := by
  intro l κ p e s m args below meth c H locs ls hfl hC hS hR hlv
  exact va_gets (A := kF κ) hC.1.1 hC.1.2.1 hC.gd.2.2.2.1.2 hS hC.own (hC.wd hw) (fun _ q => q) (hC.dk h) (kk l κ p e s m args below meth c H locs ls hfl hC hS hR hlv)
theorem r_getC {sc : SC} {μ : MI} {mc ms k n pc : Nat} {lv : List (Nat × Value)} {st : List Value} {S : AS} {Q : Out → AS → Prop} {idx i : Nat} {x : String × Nat × String × List Int32} (h : cf (mCd μ) pc = some (.getfield idx, 3)) (hs : strJ[i]? = some x) (hw : Cond.fieldLink (mNm μ).cls idx "java/lang/String" "coder" "B" ∈ lw_gd) (kk : Wp sc μ mc ms k n (pc + 3) lv (.int 0 :: st) S Q) : Wp sc μ mc ms k n pc lv (.retAddr i :: st) S Q := by
  intro l κ p e s m args below meth c H locs ls hfl hC hS hR hlv
  have hi := str_lt hs
  show W p l e (rmO μ mc ms) s m args below meth c H locs k n _ (F0 m pc ls (cv κ (.retAddr i) :: cvs κ st))
  rw [cv_str κ (Nat.lt_trans hi (by decide))]
  exact vk_getf (A := kF κ) hC.1.1 hC.1.2.1 (hC.gd.2.1 i _ hs).1.2.1 hS hC.own (hC.wd hw) (fun _ q => q) (hC.dk h) (kk l κ p e s m args below meth c H locs ls hfl hC hS hR hlv)
theorem r_getV {sc : SC} {μ : MI} {mc ms k n pc : Nat} {lv : List (Nat × Value)} {st : List Value} {S : AS} {Q : Out → AS → Prop} {idx i : Nat} {x : String × Nat × String × List Int32} (h : cf (mCd μ) pc = some (.getfield idx, 3)) (hs : strJ[i]? = some x) (hw : Cond.fieldLink (mNm μ).cls idx "java/lang/String" "value" "[B" ∈ lw_gd) (kk : Wp sc μ mc ms k n (pc + 3) lv (.retAddr (50 + i) :: st) S Q) : Wp sc μ mc ms k n pc lv (.retAddr i :: st) S Q := by
  intro l κ p e s m args below meth c H locs ls hfl hC hS hR hlv
  have hi := str_lt hs
  have h9 := kk l κ p e s m args below meth c H locs ls hfl hC hS hR hlv
  show W p l e (rmO μ mc ms) s m args below meth c H locs k n _ (F0 m pc ls (cv κ (.retAddr i) :: cvs κ st))
  rw [cv_str κ (Nat.lt_trans hi (by decide))]
  refine vk_getf (A := kF κ) hC.1.1 hC.1.2.1 (hC.gd.2.1 i _ hs).1.2.2.1 hS hC.own (hC.wd hw) (fun _ q => q) (hC.dk h) ?_
  rw [← cv_stv κ (Nat.lt_trans hi (by decide))]
  exact h9
theorem r_alenK {sc : SC} {μ : MI} {mc ms k n pc : Nat} {lv : List (Nat × Value)} {st : List Value} {S : AS} {Q : Out → AS → Prop} {i : Nat} {x : String × Nat × String × List Int32} (h : cf (mCd μ) pc = some (.arraylength, 1)) (hs : strJ[i]? = some x) (kk : Wp sc μ mc ms k n (pc + 1) lv (.int (nI x.2.2.2.length) :: st) S Q) : Wp sc μ mc ms k n pc lv (.retAddr (50 + i) :: st) S Q := by
  intro l κ p e s m args below meth c H locs ls hfl hC hS hR hlv
  have hi := str_lt hs
  show W p l e (rmO μ mc ms) s m args below meth c H locs k n _ (F0 m pc ls (cv κ (.retAddr (50 + i)) :: cvs κ st))
  rw [cv_stv κ (Nat.lt_trans hi (by decide))]
  exact va_tlen (A := kF κ) hC.1.1 hC.1.2.1 (hC.gd.2.1 i _ hs).1.2.2.2 hS rfl (hC.dk h) (kk l κ p e s m args below meth c H locs ls hfl hC hS hR hlv)
theorem r_baldK {sc : SC} {μ : MI} {mc ms k n pc : Nat} {lv : List (Nat × Value)} {st : List Value} {S : AS} {Q : Out → AS → Prop} {i j : Nat} {x : String × Nat × String × List Int32} (h : cf (mCd μ) pc = some (.baload, 1)) (hs : strJ[i]? = some x) (hj : j < x.2.2.2.length) (hn : x.2.2.2.length < 2147483648) (kk : Wp sc μ mc ms k n (pc + 1) lv (.int (x.2.2.2.getD j 0) :: st) S Q) : Wp sc μ mc ms k n pc lv (.int (nI j) :: .retAddr (50 + i) :: st) S Q := by
  intro l κ p e s m args below meth c H locs ls hfl hC hS hR hlv
  have hi := str_lt hs
  show W p l e (rmO μ mc ms) s m args below meth c H locs k n _ (F0 m pc ls (.int (nI j) :: cv κ (.retAddr (50 + i)) :: cvs κ st))
  rw [cv_stv κ (Nat.lt_trans hi (by decide))]
  exact va_tb (A := kF κ) hC.1.1 hC.1.2.1 (hC.gd.2.1 i _ hs).1.2.2.2 hS (vin hj hn) (by rw [nI_clamp (Nat.lt_trans hj hn)]; rfl) (hC.dk h) (kk l κ p e s m args below meth c H locs ls hfl hC hS hR hlv)
theorem r_virK {sc : SC} {μ ν : MI} {mc ms k n mc1 ms1 pc : Nat} {lv : List (Nat × Value)} {st : List Value} {S : AS} {Q Q1 : Out → AS → Prop} {idx i : Nat} {x : String × Nat × String × List Int32} (as rest : List Value) (h : cf (mCd μ) pc = some (.invokevirtual idx, 3)) (hL : LV (mNm μ).cls idx ν as.length) (hs : strJ[i]? = some x) (hc : "java/lang/String" = (mNm ν).cls) (hcal : Cal sc ν mc1 ms1 (.retAddr i :: as) S Q1) (hno : ∀ ec S', ¬ Q1 (.inr ec) S') (hst : st = as.reverse ++ .retAddr i :: rest) (hrm : rmB μ ν rest = true) (hmc : k + mc1 ≤ mc) (hms : n + ms1 ≤ ms)
    (kk : ∀ r S', Q1 (.inl r) S' → Wp sc μ mc ms (k + mc1) (n + ms1) (pc + 3) lv (r.toList ++ rest) S' Q) : Wp sc μ mc ms k n pc lv st S Q := by
  intro l κ p e s m args below meth c H locs ls hfl hC hS hR hlv
  obtain ⟨w1, w2, w3, hd, hg, hhν⟩ := hL
  obtain ⟨m1, m2, m3⟩ := rmB_sp hrm
  have hi := str_lt hs
  have hcvi := cv_str κ (Nat.lt_trans hi (by decide : 38 < 50))
  have hgi : GoodIn (wsO μ) (wsV (mNm μ).cls idx (mNm ν).cls (mNm ν) (wsO ν)) := by
    unfold wsV
    refine gin_app ?_ (gin_O hg.2.1)
    intro w hw
    simp only [List.mem_cons, List.not_mem_nil, or_false] at hw
    rcases hw with rfl | rfl | rfl | rfl
    · exact w1
    · exact w2
    · exact w3
    · exact hg.2.2.2.2
  subst hst
  obtain ⟨cellB, b1, b2, b3, -⟩ := (hC.gd.2.1 i _ hs).1.1.kept hS.2.1
  rw [hc] at b3
  have hpre := pre_at (as := .retAddr i :: as) hC.gd hS hR
  have hstk : cvs κ (as.reverse ++ .retAddr i :: rest) = (cvs κ as).reverse ++ .ref (kSK κ i) :: cvs κ rest := by
    rw [cvs_app, cvs_rev]
    show _ ++ cv κ (.retAddr i) :: cvs κ rest = _
    rw [hcvi]
  have hpre' : ∀ U : State, U.heap = H → s.WarmedH U.vm → Pc0 κ sc (.retAddr i :: as) S (Value.ref (kSK κ i) :: cvs κ as).toArray U := by
    intro U hU hW
    rw [← hcvi]
    exact hpre U hU hW
  have hrun := va_runV (R := rmO μ mc ms) (e := e) (meth := meth) (below := below) (rest := cvs κ rest) (g := F0 m pc ls (cvs κ (as.reverse ++ .retAddr i :: rest))) (locs := locs) (cells := k) (slots := n) (H := H) (As := cvs κ as) (b := kSK κ i) ⟨hC.1.1, hC.1.2.1, hC.1.2.2.2.1, hC.own, hC.2.1⟩ (hcal.met hno l κ hfl) (cwV (R := rmO μ mc ms) (rm := rmO ν mc1 ms1) as.length hC.2.1 hgi (wsO_eq hhν) rfl rfl ⟨rfl, hg.2.2.2.1.1, hg.2.2.2.1.2, hd⟩ ⟨m1, m2⟩) ⟨Pc0_blind κ sc _ S, ⟨cellB, b1, b2, b3⟩, hpre'⟩ rfl (by simp [cvs]) hlv.1 hstk (rm8 m3) (hC.dk h) ⟨hmc, hms⟩
  refine run_goM (sc := sc) (S := S) hrun hS (fun r S' H1 locs1 hq hR1 hS1 => ?_)
  have h9 := kk r S' hq l κ p e s m args below meth c H1 locs1 ls hfl hC hS1 hR1 hlv
  rw [cvs_app] at h9
  cases r <;> exact h9
/-- a call of a static method with handlers -/
theorem r_staW {sc : SC} {μ ν : MI} {mc ms k n mc1 ms1 pc : Nat} {lv : List (Nat × Value)} {st : List Value} {S : AS} {Q Q1 : Out → AS → Prop} {idx : Nat} (as rest : List Value) (h : cf (mCd μ) pc = some (.invokestatic idx, 3)) (hL : LSW (mNm μ).cls idx ν as.length) (hcal : Cal sc ν mc1 ms1 as S Q1) (hno : ∀ ec S', ¬ Q1 (.inr ec) S') (hst : st = as.reverse ++ rest) (hrm : rmB μ ν rest = true) (hmc : k + mc1 ≤ mc) (hms : n + ms1 ≤ ms)
    (kk : ∀ r S', Q1 (.inl r) S' → Wp sc μ mc ms (k + mc1) (n + ms1) (pc + 3) lv (r.toList ++ rest) S' Q) : Wp sc μ mc ms k n pc lv st S Q := by
  intro l κ p e s m args below meth c H locs ls hfl hC hS hR hlv
  obtain ⟨w1, w2, hd, hg, x, t, hhν⟩ := hL
  obtain ⟨m1, m2, m3⟩ := rmB_sp hrm
  have hgi : GoodIn (wsO μ) (va_wsS (mNm μ).cls idx (mNm ν) (wsO ν)) := by
    unfold va_wsS
    refine gin_app ?_ (gin_O hg.2.1)
    intro w hw
    simp only [List.mem_cons, List.not_mem_nil, or_false] at hw
    rcases hw with rfl | rfl | rfl
    · exact w1
    · exact w2
    · exact hg.2.2.2.2
  subst hst
  have hrun := vx_runSW (R := rmO μ mc ms) (e := e) (meth := meth) (below := below) (rest := cvs κ rest) (g := F0 m pc ls (cvs κ (as.reverse ++ rest))) (locs := locs) (cells := k) (slots := n) (H := H) (As := cvs κ as) ⟨hC.1.1, hC.1.2.1, hC.1.2.2.2.1, hC.own, hC.2.1⟩ (hcal.met hno l κ hfl) (vx_cwSW (R := rmO μ mc ms) (rm := rmO ν mc1 ms1) as.length hC.2.1 hgi (wsO_eqW hhν) rfl rfl ⟨hg.2.2.2.1.1, hg.2.2.2.1.2, hd⟩ ⟨m1, m2⟩) ⟨Pc0_blind κ sc _ S, pre_at hC.gd hS hR⟩ rfl (by simp [cvs]) hlv.1 (by show cvs κ (as.reverse ++ rest) = _; rw [cvs_app, cvs_rev]) (rm8 m3) (hC.dk h) ⟨hmc, hms⟩
  refine run_goM (sc := sc) (S := S) hrun hS (fun r S' H1 locs1 hq hR1 hS1 => ?_)
  have h9 := kk r S' hq l κ p e s m args below meth c H1 locs1 ls hfl hC hS1 hR1 hlv
  rw [cvs_app] at h9
  cases r <;> exact h9
end
section
theorem lw_gd_w {w : Cond} (h : w ∈ lw_gd) : goodWord w = true := by
  rcases List.mem_append.mp h with h | h
  · obtain ⟨y, -, rfl⟩ := List.mem_map.mp h
    rfl
  · exact (List.mem_filter.mp h).2
abbrev supN : List String := ["java/lang/RuntimeException", "java/lang/Exception"]
/-- the words of a throw of ec in the class own -/
def TH (own : String) (ik ic ec : Nat) : Prop := Cond.classLink own ik (exN ec) ∈ lw_gd ∧ Cond.methodLink own ic (Bundle.initS (exN ec)) ∈ lw_gd
theorem atS_split (own : String) (ic : Nat) (X : String) (nm : List String) : ∀ w ∈ vx_atS own ic X nm, w = Cond.methodLink own ic (Bundle.initS X) ∨ w ∈ vx_atS "" 0 X nm := by
  intro w hw
  unfold vx_atS at hw ⊢
  obtain ⟨h1, h2⟩ := List.mem_filter.mp hw
  unfold Bundle.ownAtoms at h1
  rw [List.mem_append] at h1
  rcases h1 with h1 | h1
  · refine Or.inr (List.mem_filter.mpr ⟨?_, h2⟩)
    unfold Bundle.ownAtoms
    exact List.mem_append_left _ h1
  · rcases List.mem_cons.mp h1 with e | h1
    · exact Or.inl e
    · refine Or.inr (List.mem_filter.mpr ⟨?_, h2⟩)
      unfold Bundle.ownAtoms
      exact List.mem_append_right _ (List.mem_cons_of_mem _ h1)
set_option maxRecDepth 100000 in
theorem atS_ok : ∀ ec, ec < 3 → ∀ w ∈ vx_atS "" 0 (exN ec) supN, w = Cond.methodLink "" 0 (Bundle.initS (exN ec)) ∨ (w ∈ lw_tbl ∧ goodWord w = true) ∨ w = Cond.castable (exN ec) (exN ec) ∨ w ∈ lw_dcl.map Cond.declares := by decide +kernel
theorem ex_cst : ∀ ec, ec < 3 → (exN ec, exN ec) ∈ lw_cst := by decide
theorem ex_ini : ∀ ec, ec < 3 → Cond.initialized (exN ec) ∈ lw_tbl := by decide +kernel
theorem ex_fit : ∀ ec, ec < 3 → Bundle.fit (exN ec) = true := by decide +kernel
theorem sup_fit : ∀ n ∈ supN, Bundle.fit n = true := by decide +kernel
theorem th_no : ∀ ec, ec < 3 → Cond.methodLink "" 0 (Bundle.initS (exN ec)) ∉ Bundle.throwableAtoms ++ Bundle.throwableSAtoms ++ Bundle.chainSAtoms (exN ec) supN := by decide +kernel
theorem th_all {own : String} {ik ic ec : Nat} (h : TH own ik ic ec) (he : ec < 3) {args : Array Value} {s : State} (hw : ∀ w ∈ lw_gd, w.before args s = true) (hc : va_Nw (.castable (exN ec) (exN ec)) s) (hd : ∀ x ∈ lw_dcl, va_Nw (.declares x) s) : ∀ w ∈ vx_atS own ic (exN ec) supN, w.before args s = true ∧ vx_ot w = true := by
  have g : ∀ w ∈ lw_gd, w.before args s = true ∧ vx_ot w = true := fun w h9 => ⟨hw w h9, by unfold vx_ot; rw [lw_gd_w h9, Bool.or_true]⟩
  intro w hw1
  rcases atS_split _ _ _ _ w hw1 with rfl | hw2
  · exact g _ h.2
  · rcases atS_ok ec he w hw2 with e | ⟨h1, h2⟩ | e | e
    · unfold vx_atS at hw1
      have h7 := (List.mem_filter.mp hw1).1
      unfold Bundle.ownAtoms at h7
      rw [List.mem_append] at h7
      rw [e] at h7
      rcases h7 with h7 | h7
      · exact (th_no ec he h7).elim
      · rcases List.mem_cons.mp h7 with e2 | h7
        · rw [e, e2]
          exact g _ h.2
        · simp only [List.mem_cons, List.not_mem_nil, or_false, reduceCtorEq, false_or] at h7
    · exact g _ (lw_gd_of h1 h2)
    · rw [e]
      exact ⟨va_Nw.use rfl hc, rfl⟩
    · obtain ⟨y, hy, rfl⟩ := List.mem_map.mp e
      exact ⟨va_Nw.use rfl (hd y hy), rfl⟩
theorem r_throw {sc : SC} {μ : MI} {mc ms k n pc : Nat} {lv : List (Nat × Value)} {st : List Value} {S : AS} {Q : Out → AS → Prop} {ik is ic i ec : Nat} {tx : String} {bs : List Int32} (d0 : cf (mCd μ) pc = some (.new ik, 3)) (d3 : cf (mCd μ) (pc + 3) = some (.dup, 1)) (d4 : cf (mCd μ) (pc + 4) = some (.ldc is, 2)) (d6 : cf (mCd μ) (pc + 6) = some (.invokespecial ic, 3)) (d9 : cf (mCd μ) (pc + 9) = some (.athrow, 1))
    (he : ec < 3) (hT : TH (mNm μ).cls ik ic ec) (hs : strJ[i]? = some ((mNm μ).cls, is, tx, bs)) (hh : mHh μ = []) (hfr : Nat.ble 6 (mFr μ) = true) (hlo : Nat.ble ((st.map fun v => v.category).sum + 82) (mLo μ) = true) (hk : k + 1 ≤ mc) (hn : n + 6 ≤ ms) (hq : Q (.inr ec) (S.1, S.2.1, false)) : Wp sc μ mc ms k n pc lv st S Q := by
  intro l κ p e s m args below meth c H locs ls hfl hC hS hR hlv
  have hcs : va_Nw (.castable (exN ec) (exN ec)) s := hC.gd.2.2.2.2.1.2.1 _ (ex_cst ec he)
  have hall := th_all hT he (fun w hw => hC.wd hw) hcs hC.gd.2.2.2.2.1.2.2.2
  have hini : Cond.initialized (exN ec) ∈ lw_gd := lw_gd_of (ex_ini ec he) rfl
  refine vx_throwS (names := supN) (cls := exN ec) (sa := kSK κ i) (text := tx) hC.1.1 hC.1.2.1 hfl hC.own (ex_fit ec he) sup_fit (hC.wd hT.1) (hC.wd hini) (hC.gd.2.1 i _ hs).2 (fun w hw => (hall w hw).1) ?_ hC.gd.2.2.1.1 hC.gd.2.2.1.2.1 hS (hlv.1.trans hC.1.2.2.2.1.symm) (hC.dk d0) (hC.dk d3) (hC.dk d4) (hC.dk d6) (hC.dk d9) (by rw [hC.2.2.2.1, hh]; intro x hx; cases hx) (Nat.le_of_ble_eq_true hfr) ?_ hk hn hC.2.2.1 ?_ hS.2.2 hk hn
  · intro w hw
    rcases List.mem_cons.mp hw with rfl | hw
    · rfl
    · rcases List.mem_cons.mp hw with rfl | hw
      · rfl
      · exact (hall w hw).2
  · show ((cvs κ st).map fun v => v.category).sum + 82 ≤ mLo μ
    rw [cvs_sum]
    exact Nat.le_of_ble_eq_true hlo
  · intro t hal hz hkp
    refine ⟨⟨ec, (S.1, S.2.1, false), rfl, he, hq, ⟨hR.kept hkp, ⟨Nat.le_trans hR.2.1.1 hz, (fun q => by cases q)⟩, hR.2.2⟩⟩, ⟨Nat.le_trans hS.1 hz, fun q h1 h2 => (hkp q (Nat.lt_of_lt_of_le h1 hS.1)).trans (hS.2.1 q h1 h2)⟩⟩
theorem r_throwW {sc : SC} {μ : MI} {mc ms k n pc : Nat} {lv : List (Nat × Value)} {st : List Value} {S : AS} {Q : Out → AS → Prop} {ik is ic i ec : Nat} {tx : String} {bs : List Int32} (d0 : cf (mCd μ) pc = some (.new ik, 3)) (d3 : cf (mCd μ) (pc + 3) = some (.dup, 1)) (d4 : cf (mCd μ) (pc + 4) = some (.ldc_w is, 3)) (d6 : cf (mCd μ) (pc + 7) = some (.invokespecial ic, 3)) (d9 : cf (mCd μ) (pc + 10) = some (.athrow, 1))
    (he : ec < 3) (hT : TH (mNm μ).cls ik ic ec) (hs : strJ[i]? = some ((mNm μ).cls, is, tx, bs)) (hh : mHh μ = []) (hfr : Nat.ble 6 (mFr μ) = true) (hlo : Nat.ble ((st.map fun v => v.category).sum + 82) (mLo μ) = true) (hk : k + 1 ≤ mc) (hn : n + 6 ≤ ms) (hq : Q (.inr ec) (S.1, S.2.1, false)) : Wp sc μ mc ms k n pc lv st S Q := by
  intro l κ p e s m args below meth c H locs ls hfl hC hS hR hlv
  have hcs : va_Nw (.castable (exN ec) (exN ec)) s := hC.gd.2.2.2.2.1.2.1 _ (ex_cst ec he)
  have hall := th_all hT he (fun w hw => hC.wd hw) hcs hC.gd.2.2.2.2.1.2.2.2
  have hini : Cond.initialized (exN ec) ∈ lw_gd := lw_gd_of (ex_ini ec he) rfl
  refine vx_throwSW (names := supN) (cls := exN ec) (sa := kSK κ i) (text := tx) hC.1.1 hC.1.2.1 hfl hC.own (ex_fit ec he) sup_fit (hC.wd hT.1) (hC.wd hini) (hC.gd.2.1 i _ hs).2 (fun w hw => (hall w hw).1) ?_ hC.gd.2.2.1.1 hC.gd.2.2.1.2.1 hS (hlv.1.trans hC.1.2.2.2.1.symm) (hC.dk d0) (hC.dk d3) (hC.dk d4) (hC.dk d6) (hC.dk d9) (by rw [hC.2.2.2.1, hh]; intro x hx; cases hx) (Nat.le_of_ble_eq_true hfr) ?_ hk hn hC.2.2.1 ?_ hS.2.2 hk hn
  · intro w hw
    rcases List.mem_cons.mp hw with rfl | hw
    · rfl
    · rcases List.mem_cons.mp hw with rfl | hw
      · rfl
      · exact (hall w hw).2
  · show ((cvs κ st).map fun v => v.category).sum + 82 ≤ mLo μ
    rw [cvs_sum]
    exact Nat.le_of_ble_eq_true hlo
  · intro t hal hz hkp
    refine ⟨⟨ec, (S.1, S.2.1, false), rfl, he, hq, ⟨hR.kept hkp, ⟨Nat.le_trans hR.2.1.1 hz, (fun q => by cases q)⟩, hR.2.2⟩⟩, ⟨Nat.le_trans hS.1 hz, fun q h1 h2 => (hkp q (Nat.lt_of_lt_of_le h1 hS.1)).trans (hS.2.1 q h1 h2)⟩⟩
/-- System.arraycopy -/
theorem r_cpyi {sc : SC} {μ : MI} {mc ms k n pc : Nat} {lv : List (Nat × Value)} {st : List Value} {S : AS} {Q : Out → AS → Prop} {idx a b sp dp w na nb : Nat} {f g : Nat → Int32} (h : cf (mCd μ) pc = some (.invokestatic idx, 3)) (hw : Cond.methodLink (mNm μ).cls idx arraycopyName ∈ lw_gd) (hw2 : Cond.native arraycopyName ∈ lw_gd) (hw3 : Cond.static arraycopyName ∈ lw_gd) (hw4 : Cond.initialized "java/lang/System" ∈ lw_gd) (ha : a < S.2.1) (hb : b < S.2.1) (hga : S.1 a = .inl (0, na, f)) (hgb : S.1 b = .inl (0, nb, g)) (h1 : sp + w ≤ na) (h2 : dp + w ≤ nb) (hna : na < 2147483648) (hnb : nb < 2147483648) (hfr : Nat.ble 1 (mFr μ) = true) (hlo : Nat.ble ((st.map fun v => v.category).sum + 40) (mLo μ) = true)
    (kk : Wp sc μ mc ms k n (pc + 3) lv st (aup S.1 b (.inl (0, nb, va_cpy f g sp dp w)), S.2.1, false) Q) : Wp sc μ mc ms k n pc lv (.int (nI w) :: .int (nI dp) :: .ref b :: .int (nI sp) :: .ref a :: st) S Q := by
  intro l κ p e s m args below meth c H locs ls hfl hC hS hR hlv
  obtain ⟨pa, -, ga⟩ := wsL_pos κ ha (by rw [hga]; rfl : jk (S.1 a) = false)
  obtain ⟨pb, hpb, gb⟩ := wsL_pos κ hb (by rw [hgb]; rfl : jk (S.1 b) = false)
  rw [hga] at ga
  rw [hgb] at gb
  refine va_copyi (D := kD κ) (cl := vwCl) (tys := tysK κ) (ws := wsL κ S.1 S.2.1) (ty := .int) hC.1.1 hC.1.2.1 (by rw [hC.1.2.2.2.1]; exact hlv.1.symm) hC.own (hC.wd hw) (hC.wd hw2) (hC.wd hw3) (hC.wd hw4) hC.kk hR.P (wsL_D κ S.1 S.2.1 hR.2.2) (⟨Nat.le_refl _, fun _ _ _ => rfl, hS.2.2⟩ : va_S (kF κ) H H locs) pa pb 0 0 ga gb rfl rfl rfl (nI_pos (by omega)) (nI_pos (by omega)) (nI_pos (by omega)) (by rw [nI_clamp (by omega), nI_clamp (by omega)]; exact h1) (by rw [nI_clamp (by omega), nI_clamp (by omega)]; exact h2) (fun _ _ => rfl) (Nat.le_of_ble_eq_true hfr) ?_ (hC.dk h) (fun H1 locs1 hP hD hS1 => ?_)
  · have e9 : nativeFrameWords "java/lang/System" "arraycopy" 5 + 11 ≤ 40 := by decide
    have e8 := Nat.le_of_ble_eq_true hlo
    show ((cvs κ st).map fun v => v.category).sum + _ ≤ mLo μ
    rw [cvs_sum]
    omega
  · rw [nI_clamp (by omega), nI_clamp (by omega), nI_clamp (by omega)] at hP
    refine kk l κ p e s m args below meth c H1 locs1 ls hfl hC ⟨Nat.le_trans hS.1 hS1.1, fun q q1 q2 => (hS1.2.1 q (Nat.lt_of_lt_of_le q1 hS.1) q2).trans (hS.2.1 q q1 q2), hS1.2.2⟩ ⟨?_, ⟨Nat.le_trans hR.2.1.1 hS1.1, (fun q => by cases q)⟩, hR.2.2⟩ hlv
    exact repSet hpb rfl hP
theorem r_cpyl {sc : SC} {μ : MI} {mc ms k n pc : Nat} {lv : List (Nat × Value)} {st : List Value} {S : AS} {Q : Out → AS → Prop} {idx a b sp dp w na nb : Nat} {f g : Nat → Int64} (h : cf (mCd μ) pc = some (.invokestatic idx, 3)) (hw : Cond.methodLink (mNm μ).cls idx arraycopyName ∈ lw_gd) (hw2 : Cond.native arraycopyName ∈ lw_gd) (hw3 : Cond.static arraycopyName ∈ lw_gd) (hw4 : Cond.initialized "java/lang/System" ∈ lw_gd) (ha : a < S.2.1) (hb : b < S.2.1) (hga : S.1 a = .inr (.inl (na, f))) (hgb : S.1 b = .inr (.inl (nb, g))) (h1 : sp + w ≤ na) (h2 : dp + w ≤ nb) (hna : na < 2147483648) (hnb : nb < 2147483648) (hfr : Nat.ble 1 (mFr μ) = true) (hlo : Nat.ble ((st.map fun v => v.category).sum + 40) (mLo μ) = true)
    (kk : Wp sc μ mc ms k n (pc + 3) lv st (aup S.1 b (.inr (.inl (nb, va_cpy f g sp dp w))), S.2.1, false) Q) : Wp sc μ mc ms k n pc lv (.int (nI w) :: .int (nI dp) :: .ref b :: .int (nI sp) :: .ref a :: st) S Q := by
  intro l κ p e s m args below meth c H locs ls hfl hC hS hR hlv
  obtain ⟨pa, -, ga⟩ := wsL_pos κ ha (by rw [hga]; rfl : jk (S.1 a) = false)
  obtain ⟨pb, hpb, gb⟩ := wsL_pos κ hb (by rw [hgb]; rfl : jk (S.1 b) = false)
  rw [hga] at ga
  rw [hgb] at gb
  refine va_copyl (D := kD κ) (cl := vwCl) (tys := tysK κ) (ws := wsL κ S.1 S.2.1) (ty := .long) hC.1.1 hC.1.2.1 (by rw [hC.1.2.2.2.1]; exact hlv.1.symm) hC.own (hC.wd hw) (hC.wd hw2) (hC.wd hw3) (hC.wd hw4) hC.kk hR.P (wsL_D κ S.1 S.2.1 hR.2.2) (⟨Nat.le_refl _, fun _ _ _ => rfl, hS.2.2⟩ : va_S (kF κ) H H locs) pa pb 3 3 ga gb rfl rfl rfl (nI_pos (by omega)) (nI_pos (by omega)) (nI_pos (by omega)) (by rw [nI_clamp (by omega), nI_clamp (by omega)]; exact h1) (by rw [nI_clamp (by omega), nI_clamp (by omega)]; exact h2) (fun _ _ => rfl) (Nat.le_of_ble_eq_true hfr) ?_ (hC.dk h) (fun H1 locs1 hP hD hS1 => ?_)
  · have e9 : nativeFrameWords "java/lang/System" "arraycopy" 5 + 11 ≤ 40 := by decide
    have e8 := Nat.le_of_ble_eq_true hlo
    show ((cvs κ st).map fun v => v.category).sum + _ ≤ mLo μ
    rw [cvs_sum]
    omega
  · rw [nI_clamp (by omega), nI_clamp (by omega), nI_clamp (by omega)] at hP
    refine kk l κ p e s m args below meth c H1 locs1 ls hfl hC ⟨Nat.le_trans hS.1 hS1.1, fun q q1 q2 => (hS1.2.1 q (Nat.lt_of_lt_of_le q1 hS.1) q2).trans (hS.2.1 q q1 q2), hS1.2.2⟩ ⟨?_, ⟨Nat.le_trans hR.2.1.1 hS1.1, (fun q => by cases q)⟩, hR.2.2⟩ hlv
    exact repSet hpb rfl hP
end
section
theorem zz_look : True := trivial
end
