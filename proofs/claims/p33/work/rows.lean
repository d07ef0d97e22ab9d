section
-- ===== PART A: goes FIRST, ahead of the names: the tables' words, and 'selects' of the private methods out of them =====
/-- a private method of a class that the tables say can be made, by its rows of tables_1 -/
def lw_okq (q : MethodName × Nat) : Prop := (q.1.cls ≠ "java/lang/invoke/MethodHandle" ∧ q.1.cls ≠ "java/lang/invoke/VarHandle") ∧ Cond.instantiable q.1.cls q.2 ∈ tables_1 ∧ Cond.privateMethod q.1 ∈ tables_1 ∧ Cond.instanceMethod q.1 ∈ tables_1
theorem lw_p0 : lw_okq (⟨"EstateSettlement$State", "cell", "(III)I"⟩, 1) := ⟨⟨by decide +kernel, by decide +kernel⟩, List.mem_of_getElem? (i := 149) (by decide +kernel), List.mem_of_getElem? (i := 370) (by decide +kernel), List.mem_of_getElem? (i := 371) (by decide +kernel)⟩
theorem lw_p1 : lw_okq (⟨"EstateSettlement$Inventory", "claimDebts", "(LEstateSettlement$State;I)V"⟩, 9) := ⟨⟨by decide +kernel, by decide +kernel⟩, List.mem_of_getElem? (i := 204) (by decide +kernel), List.mem_of_getElem? (i := 384) (by decide +kernel), List.mem_of_getElem? (i := 385) (by decide +kernel)⟩
theorem lw_p2 : lw_okq (⟨"EstateSettlement$Lines", "countLine", "(I)V"⟩, 5) := ⟨⟨by decide +kernel, by decide +kernel⟩, List.mem_of_getElem? (i := 247) (by decide +kernel), List.mem_of_getElem? (i := 429) (by decide +kernel), List.mem_of_getElem? (i := 430) (by decide +kernel)⟩
theorem lw_p3 : lw_okq (⟨"EstateSettlement$Lines", "divisorBelow", "(LEstateSettlement$State;I)I"⟩, 5) := ⟨⟨by decide +kernel, by decide +kernel⟩, List.mem_of_getElem? (i := 247) (by decide +kernel), List.mem_of_getElem? (i := 437) (by decide +kernel), List.mem_of_getElem? (i := 438) (by decide +kernel)⟩
theorem lw_p4 : lw_okq (⟨"EstateSettlement$Settlement", "divideResidue", "(LEstateSettlement$Estate;LEstateSettlement$State;)V"⟩, 8) := ⟨⟨by decide +kernel, by decide +kernel⟩, List.mem_of_getElem? (i := 198) (by decide +kernel), List.mem_of_getElem? (i := 454) (by decide +kernel), List.mem_of_getElem? (i := 455) (by decide +kernel)⟩
theorem lw_p5 : lw_okq (⟨"EstateSettlement$Portions", "reckon", "(I)V"⟩, 6) := ⟨⟨by decide +kernel, by decide +kernel⟩, List.mem_of_getElem? (i := 275) (by decide +kernel), List.mem_of_getElem? (i := 490) (by decide +kernel), List.mem_of_getElem? (i := 491) (by decide +kernel)⟩
theorem lw_p6 : lw_okq (⟨"EstateSettlement$Portions", "isInAccount", "(I)Z"⟩, 6) := ⟨⟨by decide +kernel, by decide +kernel⟩, List.mem_of_getElem? (i := 275) (by decide +kernel), List.mem_of_getElem? (i := 495) (by decide +kernel), List.mem_of_getElem? (i := 496) (by decide +kernel)⟩
theorem lw_p7 : lw_okq (⟨"EstateSettlement$Portions", "findOverpaid", "()I"⟩, 6) := ⟨⟨by decide +kernel, by decide +kernel⟩, List.mem_of_getElem? (i := 275) (by decide +kernel), List.mem_of_getElem? (i := 499) (by decide +kernel), List.mem_of_getElem? (i := 500) (by decide +kernel)⟩
theorem lw_p8 : lw_okq (⟨"EstateSettlementLaw$Estate", "goes", "(II)V"⟩, 31) := ⟨⟨by decide +kernel, by decide +kernel⟩, List.mem_of_getElem? (i := 571) (by decide +kernel), List.mem_of_getElem? (i := 905) (by decide +kernel), List.mem_of_getElem? (i := 906) (by decide +kernel)⟩
theorem lw_p9 : lw_okq (⟨"EstateSettlementLaw$Estate", "lines", "(I)I"⟩, 31) := ⟨⟨by decide +kernel, by decide +kernel⟩, List.mem_of_getElem? (i := 571) (by decide +kernel), List.mem_of_getElem? (i := 909) (by decide +kernel), List.mem_of_getElem? (i := 910) (by decide +kernel)⟩
theorem lw_p10 : lw_okq (⟨"EstateSettlementLaw$Estate", "isEmpty", "(I)Z"⟩, 31) := ⟨⟨by decide +kernel, by decide +kernel⟩, List.mem_of_getElem? (i := 571) (by decide +kernel), List.mem_of_getElem? (i := 913) (by decide +kernel), List.mem_of_getElem? (i := 914) (by decide +kernel)⟩
theorem lw_p11 : lw_okq (⟨"EstateSettlementLaw$Estate", "shares", "()V"⟩, 31) := ⟨⟨by decide +kernel, by decide +kernel⟩, List.mem_of_getElem? (i := 571) (by decide +kernel), List.mem_of_getElem? (i := 917) (by decide +kernel), List.mem_of_getElem? (i := 918) (by decide +kernel)⟩
theorem lw_p12 : lw_okq (⟨"java/lang/Throwable", "fillInStackTrace", "(I)Ljava/lang/Throwable;"⟩, 6) := ⟨⟨by decide +kernel, by decide +kernel⟩, List.mem_of_getElem? (i := 1063) (by decide +kernel), List.mem_of_getElem? (i := 1061) (by decide +kernel), List.mem_of_getElem? (i := 1062) (by decide +kernel)⟩
theorem lw_p13 : lw_okq (⟨"EstateSettlement$Input", "kindAt", "(I)I"⟩, 6) := ⟨⟨by decide +kernel, by decide +kernel⟩, List.mem_of_getElem? (i := 44) (by decide +kernel), List.mem_of_getElem? (i := 1112) (by decide +kernel), List.mem_of_getElem? (i := 1113) (by decide +kernel)⟩
theorem lw_p14 : lw_okq (⟨"EstateSettlement$Parser", "readStatement", "()Z"⟩, 10) := ⟨⟨by decide +kernel, by decide +kernel⟩, List.mem_of_getElem? (i := 38) (by decide +kernel), List.mem_of_getElem? (i := 1116) (by decide +kernel), List.mem_of_getElem? (i := 1117) (by decide +kernel)⟩
theorem lw_p15 : lw_okq (⟨"EstateSettlement$Input", "byteAt", "(I)I"⟩, 6) := ⟨⟨by decide +kernel, by decide +kernel⟩, List.mem_of_getElem? (i := 44) (by decide +kernel), List.mem_of_getElem? (i := 1126) (by decide +kernel), List.mem_of_getElem? (i := 1127) (by decide +kernel)⟩
def lw_privs_1 : List (MethodName × Nat) := [(⟨"EstateSettlement$State", "cell", "(III)I"⟩, 1), (⟨"EstateSettlement$Inventory", "claimDebts", "(LEstateSettlement$State;I)V"⟩, 9), (⟨"EstateSettlement$Lines", "countLine", "(I)V"⟩, 5), (⟨"EstateSettlement$Lines", "divisorBelow", "(LEstateSettlement$State;I)I"⟩, 5), (⟨"EstateSettlement$Settlement", "divideResidue", "(LEstateSettlement$Estate;LEstateSettlement$State;)V"⟩, 8), (⟨"EstateSettlement$Portions", "reckon", "(I)V"⟩, 6), (⟨"EstateSettlement$Portions", "isInAccount", "(I)Z"⟩, 6), (⟨"EstateSettlement$Portions", "findOverpaid", "()I"⟩, 6), (⟨"EstateSettlementLaw$Estate", "goes", "(II)V"⟩, 31), (⟨"EstateSettlementLaw$Estate", "lines", "(I)I"⟩, 31), (⟨"EstateSettlementLaw$Estate", "isEmpty", "(I)Z"⟩, 31), (⟨"EstateSettlementLaw$Estate", "shares", "()V"⟩, 31), (⟨"java/lang/Throwable", "fillInStackTrace", "(I)Ljava/lang/Throwable;"⟩, 6), (⟨"EstateSettlement$Input", "kindAt", "(I)I"⟩, 6), (⟨"EstateSettlement$Parser", "readStatement", "()Z"⟩, 10), (⟨"EstateSettlement$Input", "byteAt", "(I)I"⟩, 6)]
theorem lw_r1 : ∀ q ∈ lw_privs_1, lw_okq q := List.forall_mem_cons.mpr ⟨lw_p0, List.forall_mem_cons.mpr ⟨lw_p1, List.forall_mem_cons.mpr ⟨lw_p2, List.forall_mem_cons.mpr ⟨lw_p3, List.forall_mem_cons.mpr ⟨lw_p4, List.forall_mem_cons.mpr ⟨lw_p5, List.forall_mem_cons.mpr ⟨lw_p6, List.forall_mem_cons.mpr ⟨lw_p7, List.forall_mem_cons.mpr ⟨lw_p8, List.forall_mem_cons.mpr ⟨lw_p9, List.forall_mem_cons.mpr ⟨lw_p10, List.forall_mem_cons.mpr ⟨lw_p11, List.forall_mem_cons.mpr ⟨lw_p12, List.forall_mem_cons.mpr ⟨lw_p13, List.forall_mem_cons.mpr ⟨lw_p14, List.forall_mem_cons.mpr ⟨lw_p15, fun _ h => absurd h List.not_mem_nil⟩⟩⟩⟩⟩⟩⟩⟩⟩⟩⟩⟩⟩⟩⟩⟩
theorem lw_p16 : lw_okq (⟨"EstateSettlement$Parser", "readPerson", "()Z"⟩, 10) := ⟨⟨by decide +kernel, by decide +kernel⟩, List.mem_of_getElem? (i := 38) (by decide +kernel), List.mem_of_getElem? (i := 1131) (by decide +kernel), List.mem_of_getElem? (i := 1132) (by decide +kernel)⟩
theorem lw_p17 : lw_okq (⟨"EstateSettlement$Parser", "fail", "(I)Z"⟩, 10) := ⟨⟨by decide +kernel, by decide +kernel⟩, List.mem_of_getElem? (i := 38) (by decide +kernel), List.mem_of_getElem? (i := 1135) (by decide +kernel), List.mem_of_getElem? (i := 1136) (by decide +kernel)⟩
theorem lw_p18 : lw_okq (⟨"EstateSettlement$Parser", "readKnownPerson", "(I)Z"⟩, 10) := ⟨⟨by decide +kernel, by decide +kernel⟩, List.mem_of_getElem? (i := 38) (by decide +kernel), List.mem_of_getElem? (i := 1150) (by decide +kernel), List.mem_of_getElem? (i := 1151) (by decide +kernel)⟩
theorem lw_p19 : lw_okq (⟨"EstateSettlement$Parser", "readNumber", "(II)Z"⟩, 10) := ⟨⟨by decide +kernel, by decide +kernel⟩, List.mem_of_getElem? (i := 38) (by decide +kernel), List.mem_of_getElem? (i := 1155) (by decide +kernel), List.mem_of_getElem? (i := 1156) (by decide +kernel)⟩
theorem lw_p20 : lw_okq (⟨"EstateSettlement$State", "putCell", "(IIII)V"⟩, 1) := ⟨⟨by decide +kernel, by decide +kernel⟩, List.mem_of_getElem? (i := 149) (by decide +kernel), List.mem_of_getElem? (i := 1171) (by decide +kernel), List.mem_of_getElem? (i := 1172) (by decide +kernel)⟩
theorem lw_p21 : lw_okq (⟨"EstateSettlement$Parser", "readStanding", "(II)Z"⟩, 10) := ⟨⟨by decide +kernel, by decide +kernel⟩, List.mem_of_getElem? (i := 38) (by decide +kernel), List.mem_of_getElem? (i := 1175) (by decide +kernel), List.mem_of_getElem? (i := 1176) (by decide +kernel)⟩
theorem lw_p22 : lw_okq (⟨"EstateSettlement$Parser", "readAsset", "()Z"⟩, 10) := ⟨⟨by decide +kernel, by decide +kernel⟩, List.mem_of_getElem? (i := 38) (by decide +kernel), List.mem_of_getElem? (i := 1186) (by decide +kernel), List.mem_of_getElem? (i := 1187) (by decide +kernel)⟩
theorem lw_p23 : lw_okq (⟨"EstateSettlement$Parser", "readDebt", "()Z"⟩, 10) := ⟨⟨by decide +kernel, by decide +kernel⟩, List.mem_of_getElem? (i := 38) (by decide +kernel), List.mem_of_getElem? (i := 1201) (by decide +kernel), List.mem_of_getElem? (i := 1202) (by decide +kernel)⟩
theorem lw_p24 : lw_okq (⟨"EstateSettlement$Parser", "readGift", "()Z"⟩, 10) := ⟨⟨by decide +kernel, by decide +kernel⟩, List.mem_of_getElem? (i := 38) (by decide +kernel), List.mem_of_getElem? (i := 1212) (by decide +kernel), List.mem_of_getElem? (i := 1213) (by decide +kernel)⟩
theorem lw_p25 : lw_okq (⟨"EstateSettlement$Parser", "readLegacy", "()Z"⟩, 10) := ⟨⟨by decide +kernel, by decide +kernel⟩, List.mem_of_getElem? (i := 38) (by decide +kernel), List.mem_of_getElem? (i := 1222) (by decide +kernel), List.mem_of_getElem? (i := 1223) (by decide +kernel)⟩
theorem lw_p26 : lw_okq (⟨"EstateSettlement$Parser", "readShare", "()Z"⟩, 10) := ⟨⟨by decide +kernel, by decide +kernel⟩, List.mem_of_getElem? (i := 38) (by decide +kernel), List.mem_of_getElem? (i := 1231) (by decide +kernel), List.mem_of_getElem? (i := 1232) (by decide +kernel)⟩
theorem lw_p27 : lw_okq (⟨"EstateSettlement$Parser", "readLife", "()Z"⟩, 10) := ⟨⟨by decide +kernel, by decide +kernel⟩, List.mem_of_getElem? (i := 38) (by decide +kernel), List.mem_of_getElem? (i := 1236) (by decide +kernel), List.mem_of_getElem? (i := 1237) (by decide +kernel)⟩
theorem lw_p28 : lw_okq (⟨"EstateSettlement$Parser", "readAccrue", "()Z"⟩, 10) := ⟨⟨by decide +kernel, by decide +kernel⟩, List.mem_of_getElem? (i := 38) (by decide +kernel), List.mem_of_getElem? (i := 1241) (by decide +kernel), List.mem_of_getElem? (i := 1242) (by decide +kernel)⟩
theorem lw_p29 : lw_okq (⟨"EstateSettlement$Parser", "readSemicolon", "()Z"⟩, 10) := ⟨⟨by decide +kernel, by decide +kernel⟩, List.mem_of_getElem? (i := 38) (by decide +kernel), List.mem_of_getElem? (i := 1254) (by decide +kernel), List.mem_of_getElem? (i := 1255) (by decide +kernel)⟩
theorem lw_p30 : lw_okq (⟨"EstateSettlement", "requirePerson", "(I)V"⟩, 8) := ⟨⟨by decide +kernel, by decide +kernel⟩, List.mem_of_getElem? (i := 30) (by decide +kernel), List.mem_of_getElem? (i := 1364) (by decide +kernel), List.mem_of_getElem? (i := 1365) (by decide +kernel)⟩
theorem lw_p31 : lw_okq (⟨"EstateSettlement", "givenIfRefused", "(II)I"⟩, 8) := ⟨⟨by decide +kernel, by decide +kernel⟩, List.mem_of_getElem? (i := 30) (by decide +kernel), List.mem_of_getElem? (i := 1415) (by decide +kernel), List.mem_of_getElem? (i := 1416) (by decide +kernel)⟩
def lw_privs_2 : List (MethodName × Nat) := [(⟨"EstateSettlement$Parser", "readPerson", "()Z"⟩, 10), (⟨"EstateSettlement$Parser", "fail", "(I)Z"⟩, 10), (⟨"EstateSettlement$Parser", "readKnownPerson", "(I)Z"⟩, 10), (⟨"EstateSettlement$Parser", "readNumber", "(II)Z"⟩, 10), (⟨"EstateSettlement$State", "putCell", "(IIII)V"⟩, 1), (⟨"EstateSettlement$Parser", "readStanding", "(II)Z"⟩, 10), (⟨"EstateSettlement$Parser", "readAsset", "()Z"⟩, 10), (⟨"EstateSettlement$Parser", "readDebt", "()Z"⟩, 10), (⟨"EstateSettlement$Parser", "readGift", "()Z"⟩, 10), (⟨"EstateSettlement$Parser", "readLegacy", "()Z"⟩, 10), (⟨"EstateSettlement$Parser", "readShare", "()Z"⟩, 10), (⟨"EstateSettlement$Parser", "readLife", "()Z"⟩, 10), (⟨"EstateSettlement$Parser", "readAccrue", "()Z"⟩, 10), (⟨"EstateSettlement$Parser", "readSemicolon", "()Z"⟩, 10), (⟨"EstateSettlement", "requirePerson", "(I)V"⟩, 8), (⟨"EstateSettlement", "givenIfRefused", "(II)I"⟩, 8)]
theorem lw_r2 : ∀ q ∈ lw_privs_2, lw_okq q := List.forall_mem_cons.mpr ⟨lw_p16, List.forall_mem_cons.mpr ⟨lw_p17, List.forall_mem_cons.mpr ⟨lw_p18, List.forall_mem_cons.mpr ⟨lw_p19, List.forall_mem_cons.mpr ⟨lw_p20, List.forall_mem_cons.mpr ⟨lw_p21, List.forall_mem_cons.mpr ⟨lw_p22, List.forall_mem_cons.mpr ⟨lw_p23, List.forall_mem_cons.mpr ⟨lw_p24, List.forall_mem_cons.mpr ⟨lw_p25, List.forall_mem_cons.mpr ⟨lw_p26, List.forall_mem_cons.mpr ⟨lw_p27, List.forall_mem_cons.mpr ⟨lw_p28, List.forall_mem_cons.mpr ⟨lw_p29, List.forall_mem_cons.mpr ⟨lw_p30, List.forall_mem_cons.mpr ⟨lw_p31, fun _ h => absurd h List.not_mem_nil⟩⟩⟩⟩⟩⟩⟩⟩⟩⟩⟩⟩⟩⟩⟩⟩
theorem lw_p32 : lw_okq (⟨"EstateSettlement", "isLeftOutWith", "(II)Z"⟩, 8) := ⟨⟨by decide +kernel, by decide +kernel⟩, List.mem_of_getElem? (i := 30) (by decide +kernel), List.mem_of_getElem? (i := 1428) (by decide +kernel), List.mem_of_getElem? (i := 1429) (by decide +kernel)⟩
theorem lw_p33 : lw_okq (⟨"EstateSettlement", "requireAsset", "(I)V"⟩, 8) := ⟨⟨by decide +kernel, by decide +kernel⟩, List.mem_of_getElem? (i := 30) (by decide +kernel), List.mem_of_getElem? (i := 1501) (by decide +kernel), List.mem_of_getElem? (i := 1502) (by decide +kernel)⟩
def lw_privs_3 : List (MethodName × Nat) := [(⟨"EstateSettlement", "isLeftOutWith", "(II)Z"⟩, 8), (⟨"EstateSettlement", "requireAsset", "(I)V"⟩, 8)]
theorem lw_r3 : ∀ q ∈ lw_privs_3, lw_okq q := List.forall_mem_cons.mpr ⟨lw_p32, List.forall_mem_cons.mpr ⟨lw_p33, fun _ h => absurd h List.not_mem_nil⟩⟩
def lw_privs : List (MethodName × Nat) := lw_privs_1 ++ (lw_privs_2 ++ (lw_privs_3))
def lw_tbl : List Cond := k2_sels lw_privs ++ tables_1
theorem lw_privs_ok : ∀ q ∈ lw_privs, lw_okq q := by
  show ∀ q ∈ lw_privs_1 ++ (lw_privs_2 ++ (lw_privs_3)), lw_okq q
  exact List.forall_mem_append.mpr ⟨lw_r1, List.forall_mem_append.mpr ⟨lw_r2, lw_r3⟩⟩
/-! ===== BEGIN words of one list among another's, by their places ===== -/
theorem goodIn_r {big : List Cond} (ws : List Cond) (ps : List Nat) (hp : ws = ps.filterMap (fun i => big[i]?)) (h : ws.all goodWord = true) : GoodIn big ws := by
  intro w hw
  have h1 := List.all_eq_true.mp h w hw
  rw [hp] at hw
  obtain ⟨i, -, hi⟩ := List.mem_filterMap.mp hw
  have hm : w ∈ big := by first | exact List.mem_of_getElem? hi | exact List.getElem?_mem hi
  exact ⟨hm, good_of_word h1⟩
theorem goodIn_app {big a b : List Cond} (ha : GoodIn big a) (hb : GoodIn big b) : GoodIn big (a ++ b) := fun w h => (List.mem_append.mp h).elim (ha w) (hb w)
theorem goodIn_ca {big a b : List Cond} {c : Cond} (ha : GoodIn big (c :: a)) (hb : GoodIn big b) : GoodIn big (c :: (a ++ b)) := fun w h => (List.mem_cons.mp h).elim (fun e => ha w (List.mem_cons.mpr (Or.inl e))) (fun h => (List.mem_append.mp h).elim (fun h => ha w (List.mem_cons.mpr (Or.inr h))) (hb w))
theorem goodIn_sub {big ws : List Cond} (hm : ∀ w ∈ ws, w ∈ big) (h : ws.all goodWord = true) : GoodIn big ws := fun w hw => ⟨hm w hw, good_of_word (List.all_eq_true.mp h w hw)⟩
/-! ===== END ===== -/

/-! ===== BEGIN exceptions that leave a method, and their catching by the caller (launches without stack traces) ===== -/
section VXA
/-! The laws vx_back, vx_callV, vx_callS, vx_callSW, vx_throw0, vx_throwS follow proofs of the library, with one case more: JvmDerived/Free/Laws.lean (Back.of_free), Shelf42/LK1.lean (callV, callS), Shelf/KitTraced.lean (throwNew0V, throwNewS). -/
/-- where a method has thrown q: the class by its name, the cell, what was written, the world -/
def vx_T (XC : String → State → State → Prop) (st : State) (q : Addr) (t : State) (mc ms : Nat) (free : Addr → Prop) : Prop :=
  ∃ (E : String) (ce : Cell) (L : List Loc), XC E st t ∧ t.heap[q]? = some ce ∧ ce.vm = .none ∧ st.vm.findClass E = some ce.cls ∧ st.WarmedH t.vm ∧ st.sameButNew ({ t with vm := st.vm } : State) L mc ms ∧ ∀ z ∈ L, free z.base
def vx_Q (Qc : Array Value → State → Outcome → State → Prop) (XC : String → State → State → Prop) (mc ms : Nat) (free : Addr → Prop) : Array Value → State → Outcome → State → Prop := fun a st o t =>
  (Qc a st o t ∧ ∃ L, FrameEnd st o t L mc ms ∧ ∀ q ∈ L, free q.base) ∨ ∃ q, o = .threw q ∧ vx_T XC st q t mc ms free
/-- a callee that returns or throws -/
def vx_Met (l : Launch) (y : MethodName) (ws : List Cond) (rm : Room) (Pc : Array Value → State → Prop) (Qc : Array Value → State → Outcome → State → Prop) (XC : String → State → State → Prop) (mc ms : Nat) (free : Addr → Prop) : Prop :=
  MetFree l y (headSpec ws rm) Pc (fun _ _ _ _ _ => True) (vx_Q Qc XC mc ms free)
def vx_Post (XC : String → State → State → Prop) (mc ms : Nat) (free : Addr → Prop) : Pt → Array Value → Addr → Pt → Prop := fun A a q B =>
  ∃ (g : JFrame) (mk : MethodId) (t : State) (L : List Loc) (E : String) (ce : Cell), B.U.heap = t.heap ∧ B.U.vm = t.vm ∧ XC E (A.U.calling g mk a) t ∧ t.heap[q]? = some ce ∧ ce.vm = .none ∧ A.U.vm.findClass E = some ce.cls ∧ B.locs = A.locs ++ L ∧ (∀ z ∈ L, free z.base) ∧ B.cells = A.cells + mc ∧ B.slots = A.slots + ms
def vx_Back (l : Launch) (R : Room) (p : Program) (e : Env) (below : List Frame) (s : State) (sargs : Array Value) (y : MethodName) (len W9 : Nat)
    (Pre : Pt → Array Value → Prop) (Post : Pt → Array Value → Option Value → Pt → Prop) (PostX : Pt → Array Value → Addr → Pt → Prop) : Prop :=
  ∀ (m : MethodId) (meth : Method) (c : Code) (A : Pt) (g : JFrame) (ig : Instr) (mk : MethodId) (a : Array Value),
    Stand p l e R s m sargs below meth c A.U A.locs A.cells A.slots → g.method = m → g.locals.size = c.maxLocals → decode c.code g.pc = .ok (ig, len) →
    2 * g.monitorRoom + (g.stack.map fun v => v.category).sum ≤ W9 → A.U.methodNamed? y = some mk → Pre A a →
    (∃ (v : Option Value) (B : Pt), Stand p l e R s m sargs below meth c B.U B.locs B.cells B.slots ∧ Post A a v B ∧
      Steps p.tables e below (doInvoke e (A.U.setTop g) [] mk a).1 (B.U.setTop { g with pc := g.pc + len, stack := v.toList ++ g.stack })) ∨
    (∃ (q : Addr) (B : Pt), Stand p l e R s m sargs below meth c B.U B.locs B.cells B.slots ∧ PostX A a q B ∧
      Steps p.tables e below (doInvoke e (A.U.setTop g) [] mk a).1 ((B.U.setTop g).pushFrame (.throwing q)))
section Payer
variable {l : Launch} {R : Room} {p : Program} {e : Env} {below : List Frame} {s : State} {sargs : Array Value} {y : MethodName} {len W9 : Nat}
theorem vx_back {ws : List Cond} {rm : Room} {Pc : Array Value → State → Prop} {Qc : Array Value → State → Outcome → State → Prop} {XC : String → State → State → Prop} {mc ms : Nat} {free : Addr → Prop} {bytes : ByteArray} {maxL : Nat} {ret : Option FieldType}
    (hM : vx_Met l y ws rm Pc Qc XC mc ms free) (hblind : FrameBlind Pc) (hrc : rm.cells = mc) (hrs : rm.slots = ms)
    (hframes : rm.frames + 1 ≤ R.frames) (hlocals : W9 + (maxL + 11) + rm.locals ≤ R.locals)
    (hws : ∀ w ∈ ws, ∀ a' U, s.WarmedH U.vm → w.before a' U = true) (hcode : Cond.code y bytes maxL ret ∈ ws) (hinit : ∀ a' U, s.WarmedH U.vm → (Cond.initialized y.cls).before a' U = true) :
    vx_Back l R p e below s sargs y len W9 (PreOf R mc ms Pc) (PostOf Qc mc ms free) (vx_Post XC mc ms free) := by
  intro m meth c A g ig mk a X hg hsize hdg hW hn hp
  have h1 : (headSpec ws rm).pre.before a A.U = true := atoms_intro fun w hw => hws w hw _ _ X.warmed
  have h2 : (Cond.code y bytes maxL ret).before a A.U = true := hws _ hcode _ _ X.warmed
  have h3 : (Cond.initialized y.cls).before a A.U = true := hinit _ _ X.warmed
  have h4 : A.cells + (headSpec ws rm).room.cells ≤ R.cells := by rw [show (headSpec ws rm).room.cells = mc from hrc]; exact hp.1
  have h5 : A.slots + (headSpec ws rm).room.slots ≤ R.slots := by rw [show (headSpec ws rm).room.slots = ms from hrs]; exact hp.2.1
  have hPc : Pc a (A.U.calling g mk a) := hblind _ _ _ _ hp.2.2
  obtain ⟨U, Ls, c0, s0⟩ := A
  dsimp only [Pt.U, Pt.locs, Pt.cells, Pt.slots] at h1 h2 h3 h4 h5 X hn hPc ⊢
  obtain ⟨methY, cY, hmY, hcY, -, hlY, -, -, -, -⟩ := Cond.code_spec hn h2
  obtain ⟨kY, hkY, -⟩ := className_of_methodNamed hn
  have hinitY : kY.init = .initialized := Cond.initialized_spec (findClass_of_methodNamed hn) hkY h3
  have h : At U g.method c below := by rw [hg]; exact X.here
  have hlocals9 : W9 + (maxL + 11) + (headSpec ws rm).room.locals ≤ R.locals := hlocals
  have happ : (headSpec ws rm).appliesLoose y e.platform (U.calling g mk a) = true :=
    Spec.appliesLoose_calling (g := g) h hdg hn hkY hinitY
      (X.room_calling (g := g) (R' := (headSpec ws rm).room) hsize hmY hcY hframes (by rw [hlY]; omega) h4 h5) h1
  obtain ⟨mid, hmid⟩ := h.above
  have hfr : (U.setTop g).frames = (.java g :: mid) ++ below := by rw [State.frames_setTop' g h.top, hmid]; rfl
  obtain ⟨o, s₂, hsteps, -, hend, hq⟩ := Steps.callFree hM p X.admits X.cas X.clock (acts := []) hfr happ hPc trivial
  have hq' : vx_Q Qc XC mc ms free a (U.calling g mk a) o s₂ := hq
  rw [State.frames_setTop' g h.top] at hend
  obtain ⟨g₀, hg0⟩ := Option.isSome_iff_exists.mp h.top
  obtain ⟨r, hr⟩ := State.topJava?_eq_some.mp hg0
  have hr' : (({ U with heap := s₂.heap, slotsUsed := s₂.slotsUsed } : State).setVm s₂.vm).frames = .java g₀ :: r := hr
  rcases hq' with ⟨hqc, L, hfe, hL⟩ | ⟨q, rfl, E, ce, L, hx, hce, hcv, hcl, hW₂, hsm, hL⟩
  · obtain ⟨⟨v, rfl⟩, hW₂, e2, q2, q3, q4, q5, q6⟩ := id hfe
    have e3 : s₂ = ({ (U.calling g mk a).setFrames s₂.frames with heap := s₂.heap, slotsUsed := s₂.slotsUsed } : State).setVm s₂.vm := by
      have : s₂ = ({ s₂ with vm := (U.calling g mk a).vm } : State).setVm s₂.vm := rfl
      rw [e2] at this
      exact this
    obtain ⟨c₂, i₂, len₂, hc₂, hd₂, hf₂⟩ := hend
    have hW' : U.WarmedH s₂.vm := hW₂
    have hcc : c₂ = c := by
      have h1 : s₂.code? g.method = U.code? g.method := by
        rw [State.code?_eq, State.code?_eq, hW'.alike.method?]
      exact Option.some.inj (hc₂.symm.trans (h1.trans h.code))
    subst hcc
    have hlen : len₂ = len := by rw [hdg] at hd₂; cases hd₂; rfl
    subst hlen
    have hs₂ : s₂ = (({ U with heap := s₂.heap, slotsUsed := s₂.slotsUsed } : State).setVm s₂.vm).setTop { g with pc := g.pc + len₂, stack := v.toList ++ g.stack } := by
      refine e3.trans ?_
      rw [hf₂, State.calling_eq h.top, State.setFrames_setFrames, State.setTop_of_frames _ hr', hr]
      rfl
    have hsame : U.sameButNew ({ U with heap := s₂.heap, slotsUsed := s₂.slotsUsed } : State) L mc ms := by
      refine ⟨?_, q2, q3, q4, q5, q6⟩
      obtain ⟨t, ht, -⟩ := State.frames_cons hr
      show ({ U with heap := s₂.heap, slotsUsed := s₂.slotsUsed } : State) = { U.setFrames U.frames with heap := s₂.heap, slotsUsed := s₂.slotsUsed }
      rw [State.setFrames_self ht]
    subst hg
    refine Or.inl ⟨v, ⟨(({ U with heap := s₂.heap, slotsUsed := s₂.slotsUsed } : State).setVm s₂.vm), Ls ++ L, c0 + mc, s0 + ms⟩,
      ⟨X.admits, X.cas, X.clock, X.frames, X.room, X.hears, X.method, X.code, (X.here.setHeapUsed s₂.heap s₂.slotsUsed).setVm hW'.alike, X.tail, State.WarmedH.trans X.warmed hW', X.limits, X.bytes, X.same.trans (hsame.setVm s.vm)⟩,
      ⟨g, mk, s₂, L, rfl, rfl, hqc, rfl, hL, rfl, rfl⟩, ?_⟩
    show Steps p.tables e below _ ((({ U with heap := s₂.heap, slotsUsed := s₂.slotsUsed } : State).setVm s₂.vm).setTop { g with pc := g.pc + len₂, stack := v.toList ++ g.stack })
    rw [← hs₂]
    exact hsteps
  · obtain ⟨e2, q2, q3, q4, q5, q6⟩ := id hsm
    have e3 : s₂ = ({ (U.calling g mk a).setFrames s₂.frames with heap := s₂.heap, slotsUsed := s₂.slotsUsed } : State).setVm s₂.vm := by
      have : s₂ = ({ s₂ with vm := (U.calling g mk a).vm } : State).setVm s₂.vm := rfl
      rw [e2] at this
      exact this
    have hf₂ : s₂.frames = .throwing q :: .java g :: U.frames.tail := hend
    have hW' : U.WarmedH s₂.vm := hW₂
    have hs₂ : s₂ = ((({ U with heap := s₂.heap, slotsUsed := s₂.slotsUsed } : State).setVm s₂.vm).setTop g).pushFrame (.throwing q) := by
      refine e3.trans ?_
      rw [hf₂, State.calling_eq h.top, State.setFrames_setFrames, State.pushFrame, State.frames_setTop _ hr', State.setTop_of_frames _ hr', State.setFrames_setFrames, hr]
      rfl
    have hsame : U.sameButNew ({ U with heap := s₂.heap, slotsUsed := s₂.slotsUsed } : State) L mc ms := by
      refine ⟨?_, q2, q3, q4, q5, q6⟩
      obtain ⟨t, ht, -⟩ := State.frames_cons hr
      show ({ U with heap := s₂.heap, slotsUsed := s₂.slotsUsed } : State) = { U.setFrames U.frames with heap := s₂.heap, slotsUsed := s₂.slotsUsed }
      rw [State.setFrames_self ht]
    subst hg
    refine Or.inr ⟨q, ⟨(({ U with heap := s₂.heap, slotsUsed := s₂.slotsUsed } : State).setVm s₂.vm), Ls ++ L, c0 + mc, s0 + ms⟩,
      ⟨X.admits, X.cas, X.clock, X.frames, X.room, X.hears, X.method, X.code, (X.here.setHeapUsed s₂.heap s₂.slotsUsed).setVm hW'.alike, X.tail, State.WarmedH.trans X.warmed hW', X.limits, X.bytes, X.same.trans (hsame.setVm s.vm)⟩,
      ⟨g, mk, s₂, L, E, ce, rfl, rfl, hx, hce, hcv, hcl, rfl, hL, rfl, rfl⟩, ?_⟩
    show Steps p.tables e below _ (((({ U with heap := s₂.heap, slotsUsed := s₂.slotsUsed } : State).setVm s₂.vm).setTop g).pushFrame (.throwing q))
    rw [← hs₂]
    exact hsteps
end Payer
section Calls
variable {p : Program} {l : Launch} {e : Env} {R : Room} {s : State} {m : MethodId} {args : Array Value} {below : List Frame} {meth : Method} {c : Code} {T : State} {locs : List Loc} {cells slots : Nat}
theorem vx_callV (X : Stand p l e R s m args below meth c T locs cells slots) (hexec : p.tables.exec = Jvm.exec) {own C : String} {index : Nat} {y : MethodName} {bytes : ByteArray} {maxL : Nat} {ret : Option FieldType}
    (hown : s.vm.findClass own = some m.cls) (hlink : (Cond.methodLink own index y).before args s = true) (hinst : (Cond.instanceMethod y).before args s = true) (hsel : (Cond.selects C y y).before args s = true)
    (hcode : (Cond.code y bytes maxL ret).before args s = true) (hy : y.cls ≠ "java/lang/invoke/MethodHandle" ∧ y.cls ≠ "java/lang/invoke/VarHandle")
    {W9 : Nat} {Pre : Pt → Array Value → Prop} {Post : Pt → Array Value → Option Value → Pt → Prop} {PostX : Pt → Array Value → Addr → Pt → Prop} (hK : vx_Back l R p e below s args y 3 W9 Pre Post PostX)
    {b : Addr} {cellB : Cell} (hcell : T.heap[b]? = some cellB) (hobj : cellB.vm.isStatics = false) (hcls : s.vm.findClass C = some cellB.cls)
    {g : JFrame} (hg : g.method = m) (hsize : g.locals.size = c.maxLocals) {argsL rest : List Value} (hlen : ∀ sig, parseMethodDescriptor y.desc = some sig → argsL.length = sig.parameters.length)
    (hstack : g.stack = argsL.reverse ++ .ref b :: rest) (hW : 2 * g.monitorRoom + (rest.map fun v => v.category).sum ≤ W9) (hdg : decode c.code g.pc = .ok (.invokevirtual index, 3))
    (hpre : ∀ vm₁, s.WarmedH vm₁ → Pre ⟨T.setVm vm₁, locs, cells, slots⟩ (Value.ref b :: argsL).toArray) :
    (∃ (v : Option Value) (vm₁ : Vm) (B : Pt), s.WarmedH vm₁ ∧ Stand p l e R s m args below meth c B.U B.locs B.cells B.slots ∧ Post ⟨T.setVm vm₁, locs, cells, slots⟩ (Value.ref b :: argsL).toArray v B ∧
      ∀ target, Steps p.tables e below (B.U.setTop { g with pc := g.pc + 3, stack := v.toList ++ rest }) target → Steps p.tables e below (T.setTop g) target) ∨
    (∃ (q : Addr) (vm₁ : Vm) (B : Pt), s.WarmedH vm₁ ∧ Stand p l e R s m args below meth c B.U B.locs B.cells B.slots ∧ PostX ⟨T.setVm vm₁, locs, cells, slots⟩ (Value.ref b :: argsL).toArray q B ∧
      Steps p.tables e below (T.setTop g) ((B.U.setTop { g with stack := rest }).pushFrame (.throwing q))) := by
  obtain ⟨mk, methM, hnamed, hmethM, hstM, habM⟩ := Cond.instanceMethod_spec hinst
  obtain ⟨methM', cM, hmethM', -, -, -, -, -, -, hsigM⟩ := Cond.code_spec hnamed hcode
  cases hmethM.symm.trans hmethM'
  obtain ⟨c2, r2, m2, q1, q2, q3, q4, kP, hkP, hkPi⟩ := Cond.selects_spec hsel
  cases hcls.symm.trans q1
  cases (State.methodFound?_of_named hnamed hy).symm.trans q2
  cases hnamed.symm.trans q3
  have hselP : selectMethod e.platform s.vm cellB.cls mk = .method mk := by rw [Launch.admits_selectMethod X.admits]; exact q4
  obtain ⟨vm₁, X₁, hstep₁⟩ := X.invokevirtual hexec hown hlink hnamed hmethM hstM hkP hkPi hy (a := b) (cell := cellB) hcell
    (fun z h => by rw [h] at hobj; cases hobj) hselP hmethM habM hkP hkPi (g := g) hg (argsL := argsL) (rest := rest) (hlen _ hsigM) hstack hdg
  rcases hK m meth c ⟨T.setVm vm₁, locs, cells, slots⟩ { g with stack := rest } (.invokevirtual index) mk (Value.ref b :: argsL).toArray X₁ hg hsize hdg hW (X₁.named hnamed) (hpre vm₁ X₁.warmed) with ⟨v, B, X', hpost, hsteps⟩ | ⟨q, B, X', hpost, hsteps⟩
  · exact Or.inl ⟨v, vm₁, B, X₁.warmed, X', hpost, fun target h => hstep₁ _ fun acts => by rw [doInvoke_state]; exact hsteps.trans h⟩
  · exact Or.inr ⟨q, vm₁, B, X₁.warmed, X', hpost, hstep₁ _ fun acts => by rw [doInvoke_state]; exact hsteps⟩
theorem vx_callS (X : Stand p l e R s m args below meth c T locs cells slots) (hexec : p.tables.exec = Jvm.exec) {own : String} {index : Nat} {y : MethodName} {bytes : ByteArray} {maxL : Nat} {ret : Option FieldType}
    (hown : s.vm.findClass own = some m.cls) (hlink : (Cond.methodLink own index y).before args s = true) (hstat : (Cond.static y).before args s = true) (hinit : (Cond.initialized y.cls).before args s = true)
    (hcode : (Cond.code y bytes maxL ret).before args s = true) (hy : y.cls ≠ "java/lang/invoke/MethodHandle" ∧ y.cls ≠ "java/lang/invoke/VarHandle")
    {W9 : Nat} {Pre : Pt → Array Value → Prop} {Post : Pt → Array Value → Option Value → Pt → Prop} {PostX : Pt → Array Value → Addr → Pt → Prop} (hK : vx_Back l R p e below s args y 3 W9 Pre Post PostX)
    {g : JFrame} (hg : g.method = m) (hsize : g.locals.size = c.maxLocals) {argsL rest : List Value} (hlen : ∀ sig, parseMethodDescriptor y.desc = some sig → argsL.length = sig.parameters.length)
    (hstack : g.stack = argsL.reverse ++ rest) (hW : 2 * g.monitorRoom + (rest.map fun v => v.category).sum ≤ W9) (hdg : decode c.code g.pc = .ok (.invokestatic index, 3))
    (hpre : ∀ vm₁, s.WarmedH vm₁ → Pre ⟨T.setVm vm₁, locs, cells, slots⟩ argsL.toArray) :
    (∃ (v : Option Value) (vm₁ : Vm) (B : Pt), s.WarmedH vm₁ ∧ Stand p l e R s m args below meth c B.U B.locs B.cells B.slots ∧ Post ⟨T.setVm vm₁, locs, cells, slots⟩ argsL.toArray v B ∧
      ∀ target, Steps p.tables e below (B.U.setTop { g with pc := g.pc + 3, stack := v.toList ++ rest }) target → Steps p.tables e below (T.setTop g) target) ∨
    (∃ (q : Addr) (vm₁ : Vm) (B : Pt), s.WarmedH vm₁ ∧ Stand p l e R s m args below meth c B.U B.locs B.cells B.slots ∧ PostX ⟨T.setVm vm₁, locs, cells, slots⟩ argsL.toArray q B ∧
      Steps p.tables e below (T.setTop g) ((B.U.setTop { g with stack := rest }).pushFrame (.throwing q))) := by
  obtain ⟨mk, hnamed⟩ := Cond.code_named hcode
  obtain ⟨methM, cM, hmethM, -, -, -, -, -, -, hsigM⟩ := Cond.code_spec hnamed hcode
  have hstatic : methM.isStatic = true := Cond.static_spec hnamed hmethM hstat
  obtain ⟨kP, hkP, -⟩ := className_of_methodNamed hnamed
  have hinitP : kP.init = .initialized := Cond.initialized_spec (findClass_of_methodNamed hnamed) hkP hinit
  obtain ⟨vm₁, X₁, hstep₁⟩ := X.invokestatic hexec hown hlink hnamed hmethM hstatic hkP hinitP hy (g := g) hg (argsL := argsL) (rest := rest) (hlen _ hsigM) hstack hdg
  rcases hK m meth c ⟨T.setVm vm₁, locs, cells, slots⟩ { g with stack := rest } (.invokestatic index) mk argsL.toArray X₁ hg hsize hdg hW (X₁.named hnamed) (hpre vm₁ X₁.warmed) with ⟨v, B, X', hpost, hsteps⟩ | ⟨q, B, X', hpost, hsteps⟩
  · exact Or.inl ⟨v, vm₁, B, X₁.warmed, X', hpost, fun target h => hstep₁ _ fun acts => by rw [doInvoke_state]; exact hsteps.trans h⟩
  · exact Or.inr ⟨q, vm₁, B, X₁.warmed, X', hpost, hstep₁ _ fun acts => by rw [doInvoke_state]; exact hsteps⟩
end Calls
theorem vx_cls {s : State} {T : State} {vm₁ : Vm} {E : String} {k : ClassId} (hW : s.WarmedH vm₁) (h : (T.setVm vm₁).vm.findClass E = some k) : s.vm.findClass E = some k := by
  have h1 : vm₁.findClass E = some k := h
  rw [hW.alike.findClass] at h1
  exact h1
/-- the method's frame g, with q thrown over it -/
def vx_W (p : Program) (l : Launch) (e : Env) (R : Room) (s : State) (m : MethodId) (args : Array Value) (below : List Frame) (meth : Method) (c : Code) (H : Heap) (locs : List Loc) (cells slots : Nat) (Q : State → Prop) (g : JFrame) (q : Addr) : Prop :=
  ∀ T : State, T.heap = H → Stand p l e R s m args below meth c T locs cells slots → ∃ t, Steps p.tables e below ((T.setTop g).pushFrame (.throwing q)) t ∧ Q t
def vx_Run (p : Program) (l : Launch) (e : Env) (R : Room) (s : State) (m : MethodId) (args : Array Value) (below : List Frame) (meth : Method) (c : Code) (H : Heap) (locs : List Loc) (cells slots mc ms : Nat) (g : JFrame) (rest : List Value) (Qa : State → Outcome → State → Prop) (XC : String → State → State → Prop) (free : Addr → Prop) : Prop :=
  ∀ T : State, T.heap = H → Stand p l e R s m args below meth c T locs cells slots →
    (∃ (v : Option Value) (st₀ t T' : State) (L : List Loc), st₀.heap = H ∧ Stand p l e R s m args below meth c T' (locs ++ L) (cells + mc) (slots + ms) ∧ (∀ q ∈ L, free q.base) ∧ T'.heap = t.heap ∧ T'.vm = t.vm ∧ Qa st₀ (.returned v) t ∧
      Goes p e below T g T' { g with pc := g.pc + 3, stack := v.toList ++ rest }) ∨
    (∃ (q : Addr) (st₀ t T' : State) (L : List Loc) (E : String) (ce : Cell), st₀.heap = H ∧ Stand p l e R s m args below meth c T' (locs ++ L) (cells + mc) (slots + ms) ∧ (∀ z ∈ L, free z.base) ∧ T'.heap = t.heap ∧ T'.vm = t.vm ∧ XC E st₀ t ∧ t.heap[q]? = some ce ∧ ce.vm = .none ∧ s.vm.findClass E = some ce.cls ∧
      Steps p.tables e below (T.setTop g) ((T'.setTop { g with stack := rest }).pushFrame (.throwing q)))
def vx_X {S : Type} (px : S → Prop) (B : String → S → State → Prop) (A : Nat → Prop) : String → State → State → Prop := fun E st t => ∃ u : S, px u ∧ B E u t ∧ va_F A st t
section Runs
variable {p : Program} {l : Launch} {e : Env} {R : Room} {s : State} {m : MethodId} {args : Array Value} {below : List Frame} {meth : Method} {c : Code} {H : Heap} {locs : List Loc} {cells slots : Nat}
variable {y : MethodName} {bytes cc : ByteArray} {maxL nL mc ms n index : Nat} {ret : Option FieldType} {ws : List Cond} {rm : Room} {Pc : Array Value → State → Prop} {Qc : Array Value → State → Outcome → State → Prop} {XC : String → State → State → Prop} {free : Addr → Prop} {Ts : List Cond} {own C : String} {b : Addr} {As rest : List Value} {g : JFrame}
theorem vx_callBack (cb : CallB R s args own index y bytes maxL ret ws rm mc ms n) (hM : vx_Met l y ws rm Pc Qc XC mc ms free) (hbl : FrameBlind Pc) : vx_Back l R p e below s args y 3 8 (PreOf R mc ms Pc) (PostOf Qc mc ms free) (vx_Post XC mc ms free) := by
  obtain ⟨hrc, hrs, hfr, hlo, hws, hcw, -, hini, -⟩ := cb
  exact vx_back (bytes := bytes) (maxL := maxL) (ret := ret) hM hbl hrc hrs hfr hlo hws hcw (fun a' U hW => word_at hW (Or.inl (by first | rfl | simp [Cond.onTables, Cond.keeps, Cond.steady])) hini)
theorem vx_runV (S : CallFix p m c cc nL s args Ts own) (hM : vx_Met l y ws rm Pc Qc XC mc ms free) (cw : CallW R s args own C index y bytes maxL ret ws rm mc ms n) (hp : PreV s H C b Pc As)
    (hg : g.method = m) (hn : As.length = n) (hsize : g.locals.size = nL) (hstack : g.stack = As.reverse ++ .ref b :: rest) (hW : 2 * g.monitorRoom + (rest.map fun v => v.category).sum ≤ 8) (hdg : decode cc g.pc = .ok (.invokevirtual index, 3)) (hf : cells + mc ≤ R.cells ∧ slots + ms ≤ R.slots) :
    vx_Run p l e R s m args below meth c H locs cells slots mc ms g rest (Qc (Value.ref b :: As).toArray) XC free := by
  have hK : vx_Back l R p e below s args y 3 8 (PreOf R mc ms Pc) (PostOf Qc mc ms free) (vx_Post XC mc ms free) := vx_callBack cw.1 hM hp.1
  obtain ⟨⟨-, -, -, -, -, -, hcode, -, hy, hlen, hl⟩, hin, hse⟩ := cw
  obtain ⟨hx, hb, hml, ho, -⟩ := S
  obtain ⟨-, ⟨cellB, hcB, hoB, hclB⟩, hPc⟩ := hp
  intro T hT X
  rcases vx_callV X hx (C := C) (bytes := bytes) (maxL := maxL) (ret := ret) ho hl hin hse hcode hy hK (by rw [hT]; exact hcB) hoB hclB hg (hsize.trans hml.symm) (argsL := As) (rest := rest) (fun sig h => hn.trans (hlen sig h)) hstack hW (by rw [hb]; exact hdg)
    (fun vm₁ hW₁ => ⟨hf.1, hf.2, hPc (T.setVm vm₁) hT hW₁⟩) with ⟨v, vm₁, ⟨U', l2, c2, s2⟩, hW₁, X', ⟨g', mk, t, L, e1, e2, hq, h1, hL, h2, h3⟩, st⟩ | ⟨q, vm₁, ⟨U', l2, c2, s2⟩, hW₁, X', ⟨g', mk, t, L, E, ce, e1, e2, hq, hce, hcv, hcl, h1, hL, h2, h3⟩, st⟩
  · dsimp only [Pt.U, Pt.locs, Pt.cells, Pt.slots] at X' e1 e2 h1 h2 h3 st
    subst h1; subst h2; subst h3
    exact Or.inl ⟨v, (T.setVm vm₁).calling g' mk (Value.ref b :: As).toArray, t, U', L, hT, X', hL, e1, e2, hq, st⟩
  · dsimp only [Pt.U, Pt.locs, Pt.cells, Pt.slots] at X' e1 e2 h1 h2 h3 st hcl
    subst h1; subst h2; subst h3
    exact Or.inr ⟨q, (T.setVm vm₁).calling g' mk (Value.ref b :: As).toArray, t, U', L, E, ce, hT, X', hL, e1, e2, hq, hce, hcv, vx_cls hW₁ hcl, st⟩
theorem vx_runS (S : CallFix p m c cc nL s args Ts own) (hM : vx_Met l y ws rm Pc Qc XC mc ms free) (cw : CallB R s args own index y bytes maxL ret ws rm mc ms n ∧ (Cond.static y).before args s = true) (hp : PreS s H Pc As)
    (hg : g.method = m) (hn : As.length = n) (hsize : g.locals.size = nL) (hstack : g.stack = As.reverse ++ rest) (hW : 2 * g.monitorRoom + (rest.map fun v => v.category).sum ≤ 8) (hdg : decode cc g.pc = .ok (.invokestatic index, 3)) (hf : cells + mc ≤ R.cells ∧ slots + ms ≤ R.slots) :
    vx_Run p l e R s m args below meth c H locs cells slots mc ms g rest (Qc As.toArray) XC free := by
  have hK : vx_Back l R p e below s args y 3 8 (PreOf R mc ms Pc) (PostOf Qc mc ms free) (vx_Post XC mc ms free) := vx_callBack cw.1 hM hp.1
  obtain ⟨⟨-, -, -, -, -, -, hcode, hini, hy, hlen, hl⟩, hstt⟩ := cw
  obtain ⟨hx, hb, hml, ho, -⟩ := S
  intro T hT X
  rcases vx_callS X hx (bytes := bytes) (maxL := maxL) (ret := ret) ho hl hstt hini hcode hy hK hg (hsize.trans hml.symm) (argsL := As) (rest := rest) (fun sig h => hn.trans (hlen sig h)) hstack hW (by rw [hb]; exact hdg)
    (fun vm₁ hW₁ => ⟨hf.1, hf.2, hp.2 (T.setVm vm₁) hT hW₁⟩) with ⟨v, vm₁, ⟨U', l2, c2, s2⟩, hW₁, X', ⟨g', mk, t, L, e1, e2, hq, h1, hL, h2, h3⟩, st⟩ | ⟨q, vm₁, ⟨U', l2, c2, s2⟩, hW₁, X', ⟨g', mk, t, L, E, ce, e1, e2, hq, hce, hcv, hcl, h1, hL, h2, h3⟩, st⟩
  · dsimp only [Pt.U, Pt.locs, Pt.cells, Pt.slots] at X' e1 e2 h1 h2 h3 st
    subst h1; subst h2; subst h3
    exact Or.inl ⟨v, (T.setVm vm₁).calling g' mk As.toArray, t, U', L, hT, X', hL, e1, e2, hq, st⟩
  · dsimp only [Pt.U, Pt.locs, Pt.cells, Pt.slots] at X' e1 e2 h1 h2 h3 st hcl
    subst h1; subst h2; subst h3
    exact Or.inr ⟨q, (T.setVm vm₁).calling g' mk As.toArray, t, U', L, E, ce, hT, X', hL, e1, e2, hq, hce, hcv, vx_cls hW₁ hcl, st⟩
end Runs
section Rows
variable {p : Program} {l : Launch} {e : Env} {R : Room} {s : State} {m : MethodId} {args : Array Value} {below : List Frame} {meth : Method} {c : Code} {H : Heap} {locs : List Loc} {cells slots : Nat} {Q : State → Prop}
variable {mc ms : Nat} {free : Addr → Prop} {A0 A1 : Nat → Prop} {H0 : Heap} {a : Array Value} {pc : Nat} {ls : Array Slot} {st0 rest : List Value}
theorem vx_keep {st₀ t T' : State} {L : List Loc} (h0 : st₀.heap = H) (e1 : T'.heap = t.heap) (hS : va_S A0 H0 H locs) (hA : ∀ q, q < H.size → A1 q → A0 q) (hf : ∀ q, free q → A0 q) (hL : ∀ q ∈ L, free q.base) (hF : va_F A1 st₀ t) :
    H.size ≤ T'.heap.size ∧ (∀ q : Nat, q < H.size → ¬ A1 q → T'.heap[q]? = H[q]?) ∧ va_S A0 H0 T'.heap (locs ++ L) := by
  obtain ⟨hz, hk⟩ := hF
  rw [h0] at hz hk
  exact ⟨by rw [e1]; exact hz, fun q h1 h2 => by rw [e1]; exact hk q h1 h2,
    ⟨Nat.le_trans hS.1 (by rw [e1]; exact hz), fun q h1 h2 => by rw [e1, hk q (Nat.lt_of_lt_of_le h1 hS.1) (fun z => h2 (hA q (Nat.lt_of_lt_of_le h1 hS.1) z))]; exact hS.2.1 q h1 h2, fun q hq => by
      rcases List.mem_append.mp hq with h | h
      · exact hS.2.2 q h
      · exact hf _ (hL q h)⟩⟩
theorem vx_calli {S SX : Type} {post : Int32 → S → Prop} {px : SX → Prop} {B : S → State → Prop} {BX : String → SX → State → Prop} {AX : Nat → Prop} (hr : vx_Run p l e R s m args below meth c H locs cells slots mc ms (F0 m pc ls st0) rest (va_Qi post B A1 a) (vx_X px BX AX) free) (hS : va_S A0 H0 H locs) (hA : ∀ q, q < H.size → A1 q → A0 q) (hf : ∀ q, free q → A0 q) (hAX : ∀ q, q < H.size → AX q → A0 q)
    (kx : ∀ (E : String) (ce : Cell) (q9 : Addr) (u : SX) (t : State) (H1 : Heap) (locs1 : List Loc), t.heap = H1 → s.vm.Alike t.vm → px u → BX E u t → H.size ≤ H1.size → (∀ q : Nat, q < H.size → ¬ AX q → H1[q]? = H[q]?) → va_S A0 H0 H1 locs1 → H1[q9]? = some ce → ce.vm = .none → s.vm.findClass E = some ce.cls → vx_W p l e R s m args below meth c H1 locs1 (cells + mc) (slots + ms) Q (F0 m pc ls rest) q9)
    (kk : ∀ (r : Int32) (u : S) (t : State) (H1 : Heap) (locs1 : List Loc), t.heap = H1 → s.vm.Alike t.vm → post r u → B u t → H.size ≤ H1.size → (∀ q : Nat, q < H.size → ¬ A1 q → H1[q]? = H[q]?) → va_S A0 H0 H1 locs1 → W p l e R s m args below meth c H1 locs1 (cells + mc) (slots + ms) Q (F0 m (pc + 3) ls (.int r :: rest))) : W p l e R s m args below meth c H locs cells slots Q (F0 m pc ls st0) := by
  intro T hT X
  rcases hr T hT X with ⟨v, st₀, t, T', L, h0, X', hL, e1, e2, ⟨⟨r, u, hv, hp, hb⟩, hF⟩, st⟩ | ⟨q, st₀, t, T', L, E, ce, h0, X', hL, e1, e2, ⟨u, hp, hb, hF⟩, hce, hcv, hcl, st⟩
  · cases hv
    obtain ⟨k1, k2, k3⟩ := vx_keep h0 e1 hS hA hf hL hF
    obtain ⟨t2, a1, b1⟩ := kk r u t T'.heap (locs ++ L) e1.symm (by rw [← e2]; exact X'.warmed.alike) hp hb k1 k2 k3 T' rfl X'
    exact ⟨t2, st t2 a1, b1⟩
  · obtain ⟨k1, k2, k3⟩ := vx_keep h0 e1 hS hAX hf hL hF
    obtain ⟨t2, a1, b1⟩ := kx E ce q u t T'.heap (locs ++ L) e1.symm (by rw [← e2]; exact X'.warmed.alike) hp hb k1 k2 k3 (by rw [e1]; exact hce) hcv hcl T' rfl X'
    exact ⟨t2, st.trans a1, b1⟩
theorem vx_calll {S SX : Type} {post : Int64 → S → Prop} {px : SX → Prop} {B : S → State → Prop} {BX : String → SX → State → Prop} {AX : Nat → Prop} (hr : vx_Run p l e R s m args below meth c H locs cells slots mc ms (F0 m pc ls st0) rest (va_Ql post B A1 a) (vx_X px BX AX) free) (hS : va_S A0 H0 H locs) (hA : ∀ q, q < H.size → A1 q → A0 q) (hf : ∀ q, free q → A0 q) (hAX : ∀ q, q < H.size → AX q → A0 q)
    (kx : ∀ (E : String) (ce : Cell) (q9 : Addr) (u : SX) (t : State) (H1 : Heap) (locs1 : List Loc), t.heap = H1 → s.vm.Alike t.vm → px u → BX E u t → H.size ≤ H1.size → (∀ q : Nat, q < H.size → ¬ AX q → H1[q]? = H[q]?) → va_S A0 H0 H1 locs1 → H1[q9]? = some ce → ce.vm = .none → s.vm.findClass E = some ce.cls → vx_W p l e R s m args below meth c H1 locs1 (cells + mc) (slots + ms) Q (F0 m pc ls rest) q9)
    (kk : ∀ (r : Int64) (u : S) (t : State) (H1 : Heap) (locs1 : List Loc), t.heap = H1 → s.vm.Alike t.vm → post r u → B u t → H.size ≤ H1.size → (∀ q : Nat, q < H.size → ¬ A1 q → H1[q]? = H[q]?) → va_S A0 H0 H1 locs1 → W p l e R s m args below meth c H1 locs1 (cells + mc) (slots + ms) Q (F0 m (pc + 3) ls (.long r :: rest))) : W p l e R s m args below meth c H locs cells slots Q (F0 m pc ls st0) := by
  intro T hT X
  rcases hr T hT X with ⟨v, st₀, t, T', L, h0, X', hL, e1, e2, ⟨⟨r, u, hv, hp, hb⟩, hF⟩, st⟩ | ⟨q, st₀, t, T', L, E, ce, h0, X', hL, e1, e2, ⟨u, hp, hb, hF⟩, hce, hcv, hcl, st⟩
  · cases hv
    obtain ⟨k1, k2, k3⟩ := vx_keep h0 e1 hS hA hf hL hF
    obtain ⟨t2, a1, b1⟩ := kk r u t T'.heap (locs ++ L) e1.symm (by rw [← e2]; exact X'.warmed.alike) hp hb k1 k2 k3 T' rfl X'
    exact ⟨t2, st t2 a1, b1⟩
  · obtain ⟨k1, k2, k3⟩ := vx_keep h0 e1 hS hAX hf hL hF
    obtain ⟨t2, a1, b1⟩ := kx E ce q u t T'.heap (locs ++ L) e1.symm (by rw [← e2]; exact X'.warmed.alike) hp hb k1 k2 k3 (by rw [e1]; exact hce) hcv hcl T' rfl X'
    exact ⟨t2, st.trans a1, b1⟩
theorem vx_callf {S SX : Type} {post : UInt32 → S → Prop} {px : SX → Prop} {B : S → State → Prop} {BX : String → SX → State → Prop} {AX : Nat → Prop} (hr : vx_Run p l e R s m args below meth c H locs cells slots mc ms (F0 m pc ls st0) rest (va_Qf post B A1 a) (vx_X px BX AX) free) (hS : va_S A0 H0 H locs) (hA : ∀ q, q < H.size → A1 q → A0 q) (hf : ∀ q, free q → A0 q) (hAX : ∀ q, q < H.size → AX q → A0 q)
    (kx : ∀ (E : String) (ce : Cell) (q9 : Addr) (u : SX) (t : State) (H1 : Heap) (locs1 : List Loc), t.heap = H1 → s.vm.Alike t.vm → px u → BX E u t → H.size ≤ H1.size → (∀ q : Nat, q < H.size → ¬ AX q → H1[q]? = H[q]?) → va_S A0 H0 H1 locs1 → H1[q9]? = some ce → ce.vm = .none → s.vm.findClass E = some ce.cls → vx_W p l e R s m args below meth c H1 locs1 (cells + mc) (slots + ms) Q (F0 m pc ls rest) q9)
    (kk : ∀ (r : UInt32) (u : S) (t : State) (H1 : Heap) (locs1 : List Loc), t.heap = H1 → s.vm.Alike t.vm → post r u → B u t → H.size ≤ H1.size → (∀ q : Nat, q < H.size → ¬ A1 q → H1[q]? = H[q]?) → va_S A0 H0 H1 locs1 → W p l e R s m args below meth c H1 locs1 (cells + mc) (slots + ms) Q (F0 m (pc + 3) ls (.float r :: rest))) : W p l e R s m args below meth c H locs cells slots Q (F0 m pc ls st0) := by
  intro T hT X
  rcases hr T hT X with ⟨v, st₀, t, T', L, h0, X', hL, e1, e2, ⟨⟨r, u, hv, hp, hb⟩, hF⟩, st⟩ | ⟨q, st₀, t, T', L, E, ce, h0, X', hL, e1, e2, ⟨u, hp, hb, hF⟩, hce, hcv, hcl, st⟩
  · cases hv
    obtain ⟨k1, k2, k3⟩ := vx_keep h0 e1 hS hA hf hL hF
    obtain ⟨t2, a1, b1⟩ := kk r u t T'.heap (locs ++ L) e1.symm (by rw [← e2]; exact X'.warmed.alike) hp hb k1 k2 k3 T' rfl X'
    exact ⟨t2, st t2 a1, b1⟩
  · obtain ⟨k1, k2, k3⟩ := vx_keep h0 e1 hS hAX hf hL hF
    obtain ⟨t2, a1, b1⟩ := kx E ce q u t T'.heap (locs ++ L) e1.symm (by rw [← e2]; exact X'.warmed.alike) hp hb k1 k2 k3 (by rw [e1]; exact hce) hcv hcl T' rfl X'
    exact ⟨t2, st.trans a1, b1⟩
theorem vx_calld {S SX : Type} {post : UInt64 → S → Prop} {px : SX → Prop} {B : S → State → Prop} {BX : String → SX → State → Prop} {AX : Nat → Prop} (hr : vx_Run p l e R s m args below meth c H locs cells slots mc ms (F0 m pc ls st0) rest (va_Qd post B A1 a) (vx_X px BX AX) free) (hS : va_S A0 H0 H locs) (hA : ∀ q, q < H.size → A1 q → A0 q) (hf : ∀ q, free q → A0 q) (hAX : ∀ q, q < H.size → AX q → A0 q)
    (kx : ∀ (E : String) (ce : Cell) (q9 : Addr) (u : SX) (t : State) (H1 : Heap) (locs1 : List Loc), t.heap = H1 → s.vm.Alike t.vm → px u → BX E u t → H.size ≤ H1.size → (∀ q : Nat, q < H.size → ¬ AX q → H1[q]? = H[q]?) → va_S A0 H0 H1 locs1 → H1[q9]? = some ce → ce.vm = .none → s.vm.findClass E = some ce.cls → vx_W p l e R s m args below meth c H1 locs1 (cells + mc) (slots + ms) Q (F0 m pc ls rest) q9)
    (kk : ∀ (r : UInt64) (u : S) (t : State) (H1 : Heap) (locs1 : List Loc), t.heap = H1 → s.vm.Alike t.vm → post r u → B u t → H.size ≤ H1.size → (∀ q : Nat, q < H.size → ¬ A1 q → H1[q]? = H[q]?) → va_S A0 H0 H1 locs1 → W p l e R s m args below meth c H1 locs1 (cells + mc) (slots + ms) Q (F0 m (pc + 3) ls (.double r :: rest))) : W p l e R s m args below meth c H locs cells slots Q (F0 m pc ls st0) := by
  intro T hT X
  rcases hr T hT X with ⟨v, st₀, t, T', L, h0, X', hL, e1, e2, ⟨⟨r, u, hv, hp, hb⟩, hF⟩, st⟩ | ⟨q, st₀, t, T', L, E, ce, h0, X', hL, e1, e2, ⟨u, hp, hb, hF⟩, hce, hcv, hcl, st⟩
  · cases hv
    obtain ⟨k1, k2, k3⟩ := vx_keep h0 e1 hS hA hf hL hF
    obtain ⟨t2, a1, b1⟩ := kk r u t T'.heap (locs ++ L) e1.symm (by rw [← e2]; exact X'.warmed.alike) hp hb k1 k2 k3 T' rfl X'
    exact ⟨t2, st t2 a1, b1⟩
  · obtain ⟨k1, k2, k3⟩ := vx_keep h0 e1 hS hAX hf hL hF
    obtain ⟨t2, a1, b1⟩ := kx E ce q u t T'.heap (locs ++ L) e1.symm (by rw [← e2]; exact X'.warmed.alike) hp hb k1 k2 k3 (by rw [e1]; exact hce) hcv hcl T' rfl X'
    exact ⟨t2, st.trans a1, b1⟩
theorem vx_callv {S SX : Type} {post : S → Prop} {px : SX → Prop} {B : S → State → Prop} {BX : String → SX → State → Prop} {AX : Nat → Prop} (hr : vx_Run p l e R s m args below meth c H locs cells slots mc ms (F0 m pc ls st0) rest (va_Qv post B A1 a) (vx_X px BX AX) free) (hS : va_S A0 H0 H locs) (hA : ∀ q, q < H.size → A1 q → A0 q) (hf : ∀ q, free q → A0 q) (hAX : ∀ q, q < H.size → AX q → A0 q)
    (kx : ∀ (E : String) (ce : Cell) (q9 : Addr) (u : SX) (t : State) (H1 : Heap) (locs1 : List Loc), t.heap = H1 → s.vm.Alike t.vm → px u → BX E u t → H.size ≤ H1.size → (∀ q : Nat, q < H.size → ¬ AX q → H1[q]? = H[q]?) → va_S A0 H0 H1 locs1 → H1[q9]? = some ce → ce.vm = .none → s.vm.findClass E = some ce.cls → vx_W p l e R s m args below meth c H1 locs1 (cells + mc) (slots + ms) Q (F0 m pc ls rest) q9)
    (kk : ∀ (u : S) (t : State) (H1 : Heap) (locs1 : List Loc), t.heap = H1 → s.vm.Alike t.vm → post u → B u t → H.size ≤ H1.size → (∀ q : Nat, q < H.size → ¬ A1 q → H1[q]? = H[q]?) → va_S A0 H0 H1 locs1 → W p l e R s m args below meth c H1 locs1 (cells + mc) (slots + ms) Q (F0 m (pc + 3) ls (rest))) : W p l e R s m args below meth c H locs cells slots Q (F0 m pc ls st0) := by
  intro T hT X
  rcases hr T hT X with ⟨v, st₀, t, T', L, h0, X', hL, e1, e2, ⟨⟨u, hv, hp, hb⟩, hF⟩, st⟩ | ⟨q, st₀, t, T', L, E, ce, h0, X', hL, e1, e2, ⟨u, hp, hb, hF⟩, hce, hcv, hcl, st⟩
  · cases hv
    obtain ⟨k1, k2, k3⟩ := vx_keep h0 e1 hS hA hf hL hF
    obtain ⟨t2, a1, b1⟩ := kk u t T'.heap (locs ++ L) e1.symm (by rw [← e2]; exact X'.warmed.alike) hp hb k1 k2 k3 T' rfl X'
    exact ⟨t2, st t2 a1, b1⟩
  · obtain ⟨k1, k2, k3⟩ := vx_keep h0 e1 hS hAX hf hL hF
    obtain ⟨t2, a1, b1⟩ := kx E ce q u t T'.heap (locs ++ L) e1.symm (by rw [← e2]; exact X'.warmed.alike) hp hb k1 k2 k3 (by rw [e1]; exact hce) hcv hcl T' rfl X'
    exact ⟨t2, st.trans a1, b1⟩
/-- caught by the row x of this method's table; the rows ahead don't take it -/
theorem vx_catch {own name : String} {E : String} {ce : Cell} {q : Addr} (hown : s.vm.findClass own = some m.cls) (pre : List ExceptionTableEntry) (x : ExceptionTableEntry) (suf : List ExceptionTableEntry) (hsplit : c.exceptionTable.toList = pre ++ x :: suf)
    (hpass : ∀ z ∈ pre, covers z pc = false ∨ (z.catchType ≠ 0 ∧ ∃ nm : String, (Cond.classLink own z.catchType nm).before args s = true ∧ va_Nc E nm s)) (hx : covers x pc = true) (h0 : x.catchType ≠ 0)
    (hlink : (Cond.classLink own x.catchType name).before args s = true) (hcast : (Cond.castable E name).before args s = true) (hcell : H[q]? = some ce) (hv : ce.vm = .none) (hcl : s.vm.findClass E = some ce.cls)
    (kk : W p l e R s m args below meth c H locs cells slots Q (F0 m x.handlerPc ls [.ref q])) : vx_W p l e R s m args below meth c H locs cells slots Q (F0 m pc ls rest) q := by
  intro T hT X
  have hpl : e.platform.magicAccessors = ({} : Platform).magicAccessors := by rw [X.admits.platform]
  obtain ⟨c3, c4, hc3, hc4, hasg⟩ := Cond.castable_spec hcast
  cases Option.some.inj (hc3.symm.trans hcl)
  obtain ⟨c5, hc5, hcl5⟩ := Cond.classLink_spec hown hlink e.platform hpl
  cases Option.some.inj (hc4.symm.trans hc5)
  obtain ⟨vm', X', st⟩ := X.thenCaughtThrough q (g := F0 m pc ls rest) rfl (Steps.refl _) (by rw [hT]; exact hcell) (by rw [hv]; rfl) (by obtain ⟨k9, h9, -⟩ := Vm.findClass_spec hcl; exact ⟨k9, h9⟩) pre x suf hsplit
    (fun z hz => by
      rcases hpass z hz with h | ⟨hz0, nm, hl1, hn1⟩
      · exact Or.inl h
      · obtain ⟨c6, hc6, hcl6⟩ := Cond.classLink_spec hown hl1 e.platform hpl
        obtain ⟨a8, b8, h1, h2, h3⟩ := hn1
        cases Option.some.inj (h1.symm.trans hcl)
        cases Option.some.inj (h2.symm.trans hc6)
        exact Or.inr ⟨hz0, _, hcl6, h3⟩) hx (Or.inr ⟨h0, c4, hcl5, hasg⟩)
  obtain ⟨t, a1, b1⟩ := kk (T.setVm vm') hT X'
  exact ⟨t, st.trans a1, b1⟩
end Rows
section Ends
variable {p : Program} {l : Launch} {e : Env} {R : Room} {s : State} {m : MethodId} {args : Array Value} {below : List Frame} {meth : Method} {c : Code} {H : Heap} {locs : List Loc} {cells slots : Nat} {Q : State → Prop}
variable {mc ms : Nat} {free : Addr → Prop} {A0 A1 : Nat → Prop} {H0 : Heap} {a : Array Value} {ls : Array Slot} {st0 rest : List Value}
variable {Qc : Array Value → State → Outcome → State → Prop} {XC : String → State → State → Prop}
/-- what a body that may throw owes at its end -/
def vx_MQ (below : List Frame) (Qc : Array Value → State → Outcome → State → Prop) (XC : String → State → State → Prop) (a : Array Value) (s : State) (mc ms : Nat) (free : Addr → Prop) : State → Prop := fun t =>
  ∃ o, t.status = .running ∧ Ended t below o ∧ vx_Q Qc XC mc ms free a s o t
theorem vx_ret {g : JFrame} {mc ms : Nat} (k : W p l e R s m args below meth c H locs cells slots (MQ below Qc args s mc ms free) g) : W p l e R s m args below meth c H locs cells slots (vx_MQ below Qc XC args s mc ms free) g := by
  intro T hT X
  obtain ⟨t, a1, o, b1, b2, b3, b4⟩ := k T hT X
  exact ⟨t, a1, o, b1, b2, Or.inl ⟨b3, b4⟩⟩
/-- not caught here: it goes on to the caller -/
theorem vx_widen {g : JFrame} {q : Addr} {k n : Nat} (h1 : cells ≤ k) (h2 : slots ≤ n) (kk : vx_W p l e R s m args below meth c H locs k n Q g q) : vx_W p l e R s m args below meth c H locs cells slots Q g q := fun T hT X => kk T hT (stand_widen X h1 h2)
theorem vx_out {pc : Nat} {E : String} {ce : Cell} {q : Addr} {mc ms : Nat} (hout : ∀ x ∈ c.exceptionTable.toList, covers x pc = false) (hlocks : meth.locks = false) (hcell : H[q]? = some ce) (hv : ce.vm = .none) (hcl : s.vm.findClass E = some ce.cls)
    (hx : ∀ t : State, t.heap = H → s.vm.Alike t.vm → XC E s t) (hf : ∀ z ∈ locs, free z.base) (hc : cells ≤ mc) (hs : slots ≤ ms) :
    vx_W p l e R s m args below meth c H locs cells slots (vx_MQ below Qc XC args s mc ms free) (F0 m pc ls rest) q := by
  intro T hT X
  obtain ⟨st1, hrun, hend, hW, hsm⟩ := X.leaveThrown q (g := F0 m pc ls rest) rfl rfl rfl hout hlocks
  have hcell9 : (T.setFrames (.throwing q :: below)).heap[q]? = some ce := by
    show T.heap[q]? = some ce
    rw [hT]; exact hcell
  exact ⟨_, st1, .threw q, hrun, hend, Or.inr ⟨q, rfl, E, ce, locs, hx _ hT hW.alike, hcell9, hv, hcl, hW, hsm.mono hc hs, hf⟩⟩
theorem vx_frame {U : State} {k n : Nat} (h : s.sameButNew ({ U with vm := s.vm } : State) locs k n) : s.heap.size ≤ U.heap.size ∧ ∀ q : Nat, q < s.heap.size → (∀ z ∈ locs, z.base ≠ q) → U.heap[q]? = s.heap[q]? := by
  obtain ⟨-, h2, -, -, -, h6⟩ := h
  refine ⟨h2, fun q hq hz => ?_⟩
  obtain ⟨c9, e1, e2, e3, e4⟩ := h6 q _ (Array.getElem?_eq_getElem hq)
  have hs : c9.slots = (s.heap[q]).slots := Array.ext_getElem? fun i => e4 i fun hm => hz _ hm rfl
  have h9 : c9 = s.heap[q] := by
    rw [hs] at e2
    exact e2
  have e5 : U.heap[q]? = some c9 := e1
  rw [e5, h9, Array.getElem?_eq_getElem hq]
/-- the words of a throw but the four that speak of the heap -/
def vx_no (w : Cond) : Bool := decide (w ≠ .isRef (.static Bundle.tN "UNASSIGNED_STACK" Bundle.steD)) && decide (w ≠ .isRef (.static Bundle.tN "SUPPRESSED_SENTINEL" Bundle.listD)) && decide (w ≠ .laysStatic Bundle.tN "UNASSIGNED_STACK" Bundle.steD) && decide (w ≠ .laysStatic Bundle.tN "SUPPRESSED_SENTINEL" Bundle.listD)
def vx_at0 (own : String) (ic : Nat) (X : String) (names : List String) : List Cond := (Bundle.ownAtoms0 own ic X names).filter vx_no
def vx_atS (own : String) (ic : Nat) (X : String) (names : List String) : List Cond := (Bundle.ownAtoms own ic X names).filter vx_no
/-- a word that the tables alone decide, or a good one -/
def vx_ot (w : Cond) : Bool := w.onTables || goodWord w
theorem vx_ot_at {args a' : Array Value} {s U : State} {w : Cond} (hW : s.WarmedH U.vm) (hvm : s.vm = U.vm) (hg : vx_ot w = true) (h : w.before args s = true) : w.before a' U = true := by
  simp only [vx_ot, Bool.or_eq_true] at hg
  rcases hg with hg | hg
  · exact va_tabs hg hvm h
  · exact word_at hW (good_of_word hg) h
/-- a list's words: the good ones out of the method's own list, the others by premises of their own -/
theorem vx_hat {args : Array Value} {s : State} {L B : List Cond} (h1 : ∀ w ∈ L.filter goodWord, w.before args s = true) (h2 : ∀ w ∈ L.filter (fun w => !goodWord w), w ∈ B) (h3 : ∀ w ∈ B, w.before args s = true) : ∀ w ∈ L, w.before args s = true := by
  intro w hw
  by_cases g : goodWord w = true
  · exact h1 w (List.mem_filter.mpr ⟨hw, g⟩)
  · refine h3 w (h2 w (List.mem_filter.mpr ⟨hw, ?_⟩))
    show (!goodWord w) = true
    cases hgw : goodWord w
    · rfl
    · exact absurd hgw g
theorem vx_c {args : Array Value} {s : State} {w : Cond} {B : List Cond} (h : w.before args s = true) (t : ∀ w ∈ B, w.before args s = true) : ∀ w' ∈ w :: B, w'.before args s = true := fun w' h' => (List.mem_cons.mp h').elim (fun e => by rw [e]; exact h) (t w')
theorem vx_n {args : Array Value} {s : State} : ∀ w ∈ ([] : List Cond), w.before args s = true := fun _ h => nomatch h
theorem vx_own {args : Array Value} {s : State} {L : List Cond} (h1 : ∀ w ∈ L.filter vx_no, w.before args s = true)
    (hU : (Cond.isRef (.static Bundle.tN "UNASSIGNED_STACK" Bundle.steD)).before args s = true) (hN : (Cond.isRef (.static Bundle.tN "SUPPRESSED_SENTINEL" Bundle.listD)).before args s = true)
    (lU : (Cond.laysStatic Bundle.tN "UNASSIGNED_STACK" Bundle.steD).before args s = true) (lN : (Cond.laysStatic Bundle.tN "SUPPRESSED_SENTINEL" Bundle.listD).before args s = true) : ∀ w ∈ L, w.before args s = true := by
  intro w hw
  by_cases e1 : w = .isRef (.static Bundle.tN "UNASSIGNED_STACK" Bundle.steD)
  · rw [e1]; exact hU
  · by_cases e2 : w = .isRef (.static Bundle.tN "SUPPRESSED_SENTINEL" Bundle.listD)
    · rw [e2]; exact hN
    · by_cases e3 : w = .laysStatic Bundle.tN "UNASSIGNED_STACK" Bundle.steD
      · rw [e3]; exact lU
      · by_cases e4 : w = .laysStatic Bundle.tN "SUPPRESSED_SENTINEL" Bundle.listD
        · rw [e4]; exact lN
        · exact h1 w (List.mem_filter.mpr ⟨hw, by unfold vx_no; rw [decide_eq_true e1, decide_eq_true e2, decide_eq_true e3, decide_eq_true e4]; rfl⟩)
/-- where a static field lies, its class's statics cell in H -/
def vx_L (C n d : String) (A : Nat → Prop) (U : State) (H : Heap) : Prop := ∃ (c : ClassId) (k : Class) (i : Nat) (f : Field) (a : Nat) (cell : Cell), U.vm.findClass C = some c ∧ U.fieldFound? C n d = some (c, k, i, f) ∧ f.isStatic = true ∧ k.statics = some a ∧ H[a]? = some cell ∧ cell.vm.isStatics = true ∧ cell.cls = c ∧ f.slot < cell.slots.size ∧ k.staticTypes[f.slot]? = some f.type ∧ ¬ A a
theorem vx_L.moved {C n d : String} {A : Nat → Prop} {u U : State} {H : Heap} (hvm : u.vm.Alike U.vm) (h : vx_L C n d A u H) : vx_L C n d A U H := by
  obtain ⟨c, k, i, f, a, cell, h1, h2, h3, h4, h5, h6, h7, h8, h9, h10⟩ := h
  obtain ⟨k', hi', he⟩ := State.fieldFound?_setVm hvm h2
  exact ⟨c, k', i, f, a, cell, by rw [hvm.findClass]; exact h1, hi', h3, by rw [he]; exact h4, h5, h6, h7, h8, by rw [he]; exact h9, h10⟩
theorem vx_L.kept {C n d : String} {A : Nat → Prop} {U : State} {H H1 : Heap} (h : vx_L C n d A U H) (hq : ∀ a : Nat, a < H.size → ¬ A a → H1[a]? = H[a]?) : vx_L C n d A U H1 := by
  obtain ⟨c, k, i, f, a, cell, h1, h2, h3, h4, h5, h6, h7, h8, h9, h10⟩ := h
  exact ⟨c, k, i, f, a, cell, h1, h2, h3, h4, by rw [hq a (Array.getElem?_eq_some_iff.mp h5).1 h10]; exact h5, h6, h7, h8, h9, h10⟩
theorem vx_L.narrow {C n d : String} {A B : Nat → Prop} {U : State} {H : Heap} (h : vx_L C n d A U H) (hAB : ∀ q, B q → A q) : vx_L C n d B U H := by
  obtain ⟨c, k, i, f, a, cell, h1, h2, h3, h4, h5, h6, h7, h8, h9, h10⟩ := h
  exact ⟨c, k, i, f, a, cell, h1, h2, h3, h4, h5, h6, h7, h8, h9, fun z => h10 (hAB _ z)⟩
theorem vx_L.word {C n d : String} {A : Nat → Prop} {s : State} {args : Array Value} (h : vx_L C n d A s s.heap) : (Cond.laysStatic C n d).before args s = true := by
  obtain ⟨c, k, i, f, a, cell, h1, h2, h3, h4, h5, h6, h7, h8, h9, -⟩ := h
  show (Cond.laysStatic C n d).holds args s none s [] = true
  exact Cond.laysStatic_of h1 h2 h3 h4 h5 h6 h7 h8 h9
/-- .. and what it holds: null or some reference -/
def vx_Zq (C n d : String) (A : Nat → Prop) (U : State) (H : Heap) : Prop := va_Zq C n d A U H ∧ vx_L C n d A U H
theorem vx_Zq.moved {C n d : String} {A : Nat → Prop} {u U : State} {H : Heap} (hvm : u.vm.Alike U.vm) (h : vx_Zq C n d A u H) : vx_Zq C n d A U H := ⟨va_Zq.moved hvm h.1, vx_L.moved hvm h.2⟩
theorem vx_Zq.kept {C n d : String} {A : Nat → Prop} {U : State} {H H1 : Heap} (h : vx_Zq C n d A U H) (hq : ∀ a : Nat, a < H.size → ¬ A a → H1[a]? = H[a]?) : vx_Zq C n d A U H1 := ⟨va_Zq.kept h.1 hq, vx_L.kept h.2 hq⟩
theorem vx_Zq.narrow {C n d : String} {A B : Nat → Prop} {U : State} {H : Heap} (h : vx_Zq C n d A U H) (hAB : ∀ q, B q → A q) : vx_Zq C n d B U H := ⟨va_Zq.narrow h.1 hAB, vx_L.narrow h.2 hAB⟩
theorem vx_Zqof {args : Array Value} {s : State} {C n d : String} {A : Nat → Prop} (hl : (Cond.laysStatic C n d).before args s = true) (hini : (Cond.initialized C).before args s = true) (h : (Cond.isRef (.static C n d)).before args s = true) (hA : ∀ a : Nat, a < s.heap.size → ¬ A a) : vx_Zq C n d A s s.heap := by
  refine ⟨va_Zqof hl hini h hA, ?_⟩
  obtain ⟨c, k, i, f, a, cell, h1, h2, h3, h4, h5, h6, h7, h8, h9⟩ := Cond.laysStatic_spec hl
  exact ⟨c, k, i, f, a, cell, h1, h2, h3, h4, h5, h6, h7, h8, h9, hA a (Array.getElem?_eq_some_iff.mp h5).1⟩
theorem vx_isRef {C n d : String} {v : Value} {A : Nat → Prop} {s : State} {args : Array Value} (h : va_Z C n d v A s s.heap) (hv : v.isRef = true) : (Cond.isRef (.static C n d)).before args s = true := by
  obtain ⟨cf, kf, fi, f, a, cell, h1, h2, h3, h4, h5, h6, h7, -⟩ := h
  have he : (Term.static C n d).eval args s none [] s = some v := by
    simp [Term.eval, State.fieldNamed?, h1, h2, h4, h5, h6, h7]
  simp only [Cond.before, Cond.holds, Cond.value, he]
  cases v <;> simp_all [Value.isRef]
theorem vx_isRefq {C n d : String} {A : Nat → Prop} {s : State} {args : Array Value} (h : va_Zq C n d A s s.heap) : (Cond.isRef (.static C n d)).before args s = true := by
  rcases h with h | ⟨t, h⟩
  · exact vx_isRef h rfl
  · exact vx_isRef h rfl
/-- the same frame, seen from here: as if the method were called anew in this heap -/
theorem vx_rebase {T : State} (X : Stand p l e R s m args below meth c T locs cells slots) {R' : Room} (hf : R'.frames ≤ R.frames) (hl : R'.locals ≤ R.locals) (hc : cells + R'.cells ≤ R.cells) (hs : slots + R'.slots ≤ R.slots) :
    Stand p l e R' ((T.setVm s.vm).setFrames (.invoking m args :: below)) m args below meth c T [] 0 0 := by
  have htop : (T.setVm s.vm).topJava?.isSome := X.here.top
  have hF : ((T.setVm s.vm).setFrames (.invoking m args :: below)).frames = .invoking m args :: below := State.frames_setFrames _ (State.cur_lt_of_top htop)
  obtain ⟨g₀, hg0⟩ := Option.isSome_iff_exists.mp htop
  obtain ⟨r, hr⟩ := State.topJava?_eq_some.mp hg0
  have hl9 : e.platform.stackLimits (T.setVm s.vm).me = e.platform.stackLimits s.me := X.limits
  have hb9 : (T.setVm s.vm).me.stackBytes = s.me.stackBytes := X.bytes
  refine ⟨X.admits, X.cas, X.clock, hF, ?_, X.hears, X.method, X.code, X.here, X.tail, X.warmed, ?_, ?_, ?_⟩
  · have h := X.room
    have hU : ((T.setVm s.vm).setFrames (.invoking m args :: below)).localsInUse = s.localsInUse := by
      rw [State.localsInUse_invoking hF (meth := meth) (c := c) X.method X.code, State.localsInUse_invoking X.frames X.method X.code]
    simp only [State.hasRoom, Bool.and_eq_true, decide_eq_true_eq] at h ⊢
    obtain ⟨⟨⟨⟨h1, h2, h3, h4, h5, h6⟩, h7⟩, h8⟩, h9⟩ := h
    rw [X.frames, List.length_cons] at h2 h3
    have q1 := X.heapSize
    have q2 := X.used
    simp only [hF, hU, List.length_cons, State.stackLimits_setFrames, State.stackBytes_setFrames, hl9, hb9]
    refine ⟨⟨⟨⟨by omega, by omega, by omega, by omega, by omega, h6⟩, ?_⟩, ?_⟩, X.book⟩
    · show T.heap.size + R'.cells ≤ e.platform.maxCells
      omega
    · show T.slotsUsed + R'.slots ≤ e.platform.maxSlots
      omega
  · rw [State.stackLimits_setFrames]; rfl
  · rw [State.stackBytes_setFrames]; rfl
  · refine ⟨?_, Nat.le_refl _, Nat.le_refl _, ?_, ?_, fun a c9 h9 => ⟨c9, h9, rfl, rfl, fun _ _ => rfl⟩⟩
    · obtain ⟨t, ht, -⟩ := State.frames_cons hr
      show T.setVm s.vm = { ((T.setVm s.vm).setFrames (.invoking m args :: below)).setFrames (T.setVm s.vm).frames with heap := T.heap, slotsUsed := T.slotsUsed }
      rw [State.setFrames_setFrames, State.setFrames_self ht]
      rfl
    · show T.slotsUsed = T.slotsUsed + ((T.heap.toList.drop T.heap.size).map (·.slots.size)).sum
      rw [List.drop_eq_nil_of_le (Nat.le_of_eq Array.length_toList)]
      rfl
    · show ((T.heap.toList.drop T.heap.size).map (·.slots.size)).sum ≤ 0
      rw [List.drop_eq_nil_of_le (Nat.le_of_eq Array.length_toList)]
      exact Nat.le_refl _
/-- 'throw new E()': new; dup; invokespecial; athrow -/
theorem vx_throw0 {cc : ByteArray} {pc : Nat} (hexec : p.tables.exec = Jvm.exec) (hb : c.code = cc) (hl : l.stackTraces = false) {own cls : String} {names : List String} {ik ic mc ms : Nat} {A : Nat → Prop}
    (hown : s.vm.findClass own = some m.cls) (hcls : Bundle.fit cls = true) (hnames : ∀ n ∈ names, Bundle.fit n = true)
    (hk : (Cond.classLink own ik cls).before args s = true) (hini : (Cond.initialized cls).before args s = true) (hat : ∀ w ∈ vx_at0 own ic cls names, w.before args s = true)
    (hgood : ∀ w ∈ Cond.classLink own ik cls :: Cond.initialized cls :: vx_at0 own ic cls names, vx_ot w = true)
    (hU : vx_Zq Bundle.tN "UNASSIGNED_STACK" Bundle.steD A s s.heap) (hN : vx_Zq Bundle.tN "SUPPRESSED_SENTINEL" Bundle.listD A s s.heap) (hS : va_S A s.heap H locs) (hsize : ls.size = c.maxLocals)
    (d0 : decode cc pc = .ok (.new ik, 3)) (d3 : decode cc (pc + 3) = .ok (.dup, 1)) (d4 : decode cc (pc + 4) = .ok (.invokespecial ic, 3)) (d7 : decode cc (pc + 7) = .ok (.athrow, 1))
    (hout : ∀ x ∈ c.exceptionTable.toList, covers x (pc + 7) = false)
    (hRframes : names.length + 3 < R.frames) (hRlocals : (rest.map fun v => v.category).sum + (13 * (names.length + 1) + 42) ≤ R.locals) (hRcells : cells + 1 ≤ R.cells) (hRslots : slots + 6 ≤ R.slots) (hlocks : meth.locks = false)
    (hx : ∀ t : State, s.vm.Alike t.vm → H.size ≤ t.heap.size → (∀ q : Nat, q < H.size → t.heap[q]? = H[q]?) → XC cls s t)
    (hf : ∀ z ∈ locs, free z.base) (hc : cells + 1 ≤ mc) (hs : slots + 6 ≤ ms) :
    W p l e R s m args below meth c H locs cells slots (vx_MQ below Qc XC args s mc ms free) (F0 m pc ls rest) := by
  intro T hT X
  have htr : e.platform.stackTraces = false := (show e.platform.stackTraces = l.stackTraces by rw [X.admits.platform]).trans hl
  have Y := vx_rebase X (R' := { frames := R.frames, locals := R.locals, cells := 1, slots := 6 }) (Nat.le_refl _) (Nat.le_refl _) hRcells hRslots
  obtain ⟨s', hA⟩ : ∃ z, z = (T.setVm s.vm).setFrames (.invoking m args :: below) := ⟨_, rfl⟩
  rw [← hA] at Y
  have hvm : s'.vm = s.vm := by rw [hA]; rfl
  have hhp : s'.heap = H := by rw [hA]; exact hT
  have hW0 : s.WarmedH s'.vm := by rw [hvm]; exact State.WarmedH.refl s
  have hat' : ∀ w ∈ vx_at0 own ic cls names, w.before args s' = true := fun w hw => vx_ot_at hW0 hvm.symm (hgood w (List.mem_cons_of_mem _ (List.mem_cons_of_mem _ hw))) (hat w hw)
  have hk' : (Cond.classLink own ik cls).before args s' = true := vx_ot_at hW0 hvm.symm (hgood _ List.mem_cons_self) hk
  have hini' : (Cond.initialized cls).before args s' = true := vx_ot_at hW0 hvm.symm (hgood _ (List.mem_cons_of_mem _ List.mem_cons_self)) hini
  have hU' : vx_Zq Bundle.tN "UNASSIGNED_STACK" Bundle.steD A s' s'.heap := by rw [hhp]; exact vx_Zq.moved hW0.alike (hU.kept hS.2.1)
  have hN' : vx_Zq Bundle.tN "SUPPRESSED_SENTINEL" Bundle.listD A s' s'.heap := by rw [hhp]; exact vx_Zq.moved hW0.alike (hN.kept hS.2.1)
  have h : ∀ w ∈ Bundle.ownAtoms0 own ic cls names, w.before args s' = true := vx_own hat' (vx_isRefq hU'.1) (vx_isRefq hN'.1) hU'.2.word hN'.2.word
  have hown' : s'.vm.findClass own = some m.cls := by rw [hvm]; exact hown
  have hins : (Cond.instantiable cls 6).before args s' = true := h _ (by simp [Bundle.ownAtoms0])
  obtain ⟨vm₁, cX, kX, hfX, hkX, -, -, X₁, st1⟩ := Y.newCold hexec (own := own) (C := cls) (index := ik) (n := 6) hown' hk' hins hini'
    (g := F0 m pc ls rest) rfl (by rw [hb]; exact d0) (Nat.le_refl _) (Nat.le_refl _)
  generalize hT1 : (T.setVm vm₁).pushCell { cls := cX, slots := kX.instanceTypes.map defaultValue, vm := .none } = T1 at X₁ st1
  have hcat : (Value.ref T.heap.size).category = 1 := rfl
  have hcellA : T1.heap[T.heap.size]? = some (freshCell cX kX) := by rw [← hT1]; exact State.heap_pushCell_size _ _
  have d3' : decode c.code (pc + 3) = .ok (.dup, 1) := by rw [hb]; exact d3
  obtain ⟨U, hsteps, hrun, hend, hW, hsame, ce, hce, hO⟩ := X₁.ctorThrow0 hexec htr (own := own) (cls := cls) (names := names) (ic := ic) hown' hcls hnames h (fun x hx => nomatch hx) hfX hkX hcellA (by rw [hhp, hT]; exact Nat.le_refl _)
    (g := { method := m, pc := pc + 4, locals := ls, stack := .ref T.heap.size :: .ref T.heap.size :: rest, locked := none }) rfl hsize rfl rfl (rest := rest) rfl
    (by rw [hb]; exact d4) (by rw [hb]; exact d7) hout hRframes (by simp only [List.map_cons, List.sum_cons, hcat]; omega) hlocks
  obtain ⟨f1, f2⟩ := vx_frame hsame
  rw [hhp] at f1 f2
  have hWs : s.WarmedH U.vm := State.WarmedH.trans hW0 hW
  have hcl : s.vm.findClass cls = some ce.cls := by
    have h9 := hO.cls
    rw [hvm] at h9
    exact h9
  have hall : s.sameButNew ({ U with vm := s.vm } : State) locs mc ms := by
    subst hA
    obtain ⟨e1, e2⟩ := hsame
    rw [State.setFrames_setFrames] at e1
    have h2 : (T.setVm s.vm).sameButNew ({ U with vm := s.vm } : State) [] (0 + 1) (0 + 6) := ⟨e1, e2⟩
    have h3 := X.same.trans h2
    rw [List.append_nil] at h3
    exact h3.mono hc hs
  refine ⟨U, ?_, .threw T.heap.size, hrun, hend, Or.inr ⟨T.heap.size, rfl, cls, ce, locs, hx U hWs.alike f1 (fun q hq => f2 q hq (fun z hz => nomatch hz)), hce, hO.vm, hcl, hWs, hall, hf⟩⟩
  refine st1 _ ?_
  show Steps p.tables e below (T1.setTop { method := m, pc := pc + 3, locals := ls, stack := .ref T.heap.size :: rest, locked := none }) _
  jvm_step X₁.here [X₁.here.top, hexec, d3', Value.category]
  exact hsteps
/-- 'throw new E("text")': new; dup; ldc; invokespecial; athrow -/
theorem vx_throwS {cc : ByteArray} {pc : Nat} (hexec : p.tables.exec = Jvm.exec) (hb : c.code = cc) (hl : l.stackTraces = false) {own cls text : String} {names : List String} {ik is ic mc ms sa : Nat} {A : Nat → Prop}
    (hown : s.vm.findClass own = some m.cls) (hcls : Bundle.fit cls = true) (hnames : ∀ n ∈ names, Bundle.fit n = true)
    (hk : (Cond.classLink own ik cls).before args s = true) (hini : (Cond.initialized cls).before args s = true) (hstr : vk_R own is text sa s) (hat : ∀ w ∈ vx_atS own ic cls names, w.before args s = true)
    (hgood : ∀ w ∈ Cond.classLink own ik cls :: Cond.initialized cls :: vx_atS own ic cls names, vx_ot w = true)
    (hU : vx_Zq Bundle.tN "UNASSIGNED_STACK" Bundle.steD A s s.heap) (hN : vx_Zq Bundle.tN "SUPPRESSED_SENTINEL" Bundle.listD A s s.heap) (hS : va_S A s.heap H locs) (hsize : ls.size = c.maxLocals)
    (d0 : decode cc pc = .ok (.new ik, 3)) (d3 : decode cc (pc + 3) = .ok (.dup, 1)) (d4 : decode cc (pc + 4) = .ok (.ldc is, 2)) (d6 : decode cc (pc + 6) = .ok (.invokespecial ic, 3)) (d9 : decode cc (pc + 9) = .ok (.athrow, 1))
    (hout : ∀ x ∈ c.exceptionTable.toList, covers x (pc + 9) = false)
    (hRframes : names.length + 3 < R.frames) (hRlocals : (rest.map fun v => v.category).sum + (13 * (names.length + 1) + 43) ≤ R.locals) (hRcells : cells + 1 ≤ R.cells) (hRslots : slots + 6 ≤ R.slots) (hlocks : meth.locks = false)
    (hx : ∀ t : State, s.vm.Alike t.vm → H.size ≤ t.heap.size → (∀ q : Nat, q < H.size → t.heap[q]? = H[q]?) → XC cls s t)
    (hf : ∀ z ∈ locs, free z.base) (hc : cells + 1 ≤ mc) (hs : slots + 6 ≤ ms) :
    W p l e R s m args below meth c H locs cells slots (vx_MQ below Qc XC args s mc ms free) (F0 m pc ls rest) := by
  intro T hT X
  have htr : e.platform.stackTraces = false := (show e.platform.stackTraces = l.stackTraces by rw [X.admits.platform]).trans hl
  have Y := vx_rebase X (R' := { frames := R.frames, locals := R.locals, cells := 1, slots := 6 }) (Nat.le_refl _) (Nat.le_refl _) hRcells hRslots
  obtain ⟨s', hA⟩ : ∃ z, z = (T.setVm s.vm).setFrames (.invoking m args :: below) := ⟨_, rfl⟩
  rw [← hA] at Y
  have hvm : s'.vm = s.vm := by rw [hA]; rfl
  have hhp : s'.heap = H := by rw [hA]; exact hT
  have hW0 : s.WarmedH s'.vm := by rw [hvm]; exact State.WarmedH.refl s
  have hat' : ∀ w ∈ vx_atS own ic cls names, w.before args s' = true := fun w hw => vx_ot_at hW0 hvm.symm (hgood w (List.mem_cons_of_mem _ (List.mem_cons_of_mem _ hw))) (hat w hw)
  have hk' : (Cond.classLink own ik cls).before args s' = true := vx_ot_at hW0 hvm.symm (hgood _ List.mem_cons_self) hk
  have hini' : (Cond.initialized cls).before args s' = true := vx_ot_at hW0 hvm.symm (hgood _ (List.mem_cons_of_mem _ List.mem_cons_self)) hini
  have hU' : vx_Zq Bundle.tN "UNASSIGNED_STACK" Bundle.steD A s' s'.heap := by rw [hhp]; exact vx_Zq.moved hW0.alike (hU.kept hS.2.1)
  have hN' : vx_Zq Bundle.tN "SUPPRESSED_SENTINEL" Bundle.listD A s' s'.heap := by rw [hhp]; exact vx_Zq.moved hW0.alike (hN.kept hS.2.1)
  have h : ∀ w ∈ Bundle.ownAtoms own ic cls names, w.before args s' = true := vx_own hat' (vx_isRefq hU'.1) (vx_isRefq hN'.1) hU'.2.word hN'.2.word
  have hown' : s'.vm.findClass own = some m.cls := by rw [hvm]; exact hown
  have hins : (Cond.instantiable cls 6).before args s' = true := h _ (by simp [Bundle.ownAtoms])
  obtain ⟨vm₁, cX, kX, hfX, hkX, -, -, X₁, st1⟩ := Y.newCold hexec (own := own) (C := cls) (index := ik) (n := 6) hown' hk' hins hini'
    (g := F0 m pc ls rest) rfl (by rw [hb]; exact d0) (Nat.le_refl _) (Nat.le_refl _)
  generalize hT1 : (T.setVm vm₁).pushCell { cls := cX, slots := kX.instanceTypes.map defaultValue, vm := .none } = T1 at X₁ st1
  have hcat : (Value.ref T.heap.size).category = 1 := rfl
  have hcellA : T1.heap[T.heap.size]? = some (freshCell cX kX) := by rw [← hT1]; exact State.heap_pushCell_size _ _
  have d3' : decode c.code (pc + 3) = .ok (.dup, 1) := by rw [hb]; exact d3
  have d4' : decode c.code (pc + 4) = .ok (.ldc is, 2) := by rw [hb]; exact d4
  have hstr' : vk_R own is text sa s' := vk_R.warm hW0 hstr
  obtain ⟨U, hsteps, hrun, hend, hW, hsame, ce, hce, hO⟩ := X₁.ctorThrowS hexec htr (own := own) (cls := cls) (names := names) (ic := ic) hown' hcls hnames h (fun x hx => nomatch hx) hfX hkX hcellA (by rw [hhp, hT]; exact Nat.le_refl _) (msg := .ref sa) rfl
    (g := { method := m, pc := pc + 6, locals := ls, stack := .ref sa :: .ref T.heap.size :: .ref T.heap.size :: rest, locked := none }) rfl hsize rfl rfl (rest := rest) rfl
    (by rw [hb]; exact d6) (by rw [hb]; exact d9) hout hRframes (by simp only [List.map_cons, List.sum_cons, hcat]; omega) hlocks
  obtain ⟨f1, f2⟩ := vx_frame hsame
  rw [hhp] at f1 f2
  have hWs : s.WarmedH U.vm := State.WarmedH.trans hW0 hW
  have hcl : s.vm.findClass cls = some ce.cls := by
    have h9 := hO.cls
    rw [hvm] at h9
    exact h9
  have hall : s.sameButNew ({ U with vm := s.vm } : State) locs mc ms := by
    subst hA
    obtain ⟨e1, e2⟩ := hsame
    rw [State.setFrames_setFrames] at e1
    have h2 : (T.setVm s.vm).sameButNew ({ U with vm := s.vm } : State) [] (0 + 1) (0 + 6) := ⟨e1, e2⟩
    have h3 := X.same.trans h2
    rw [List.append_nil] at h3
    exact h3.mono hc hs
  refine ⟨U, ?_, .threw T.heap.size, hrun, hend, Or.inr ⟨T.heap.size, rfl, cls, ce, locs, hx U hWs.alike f1 (fun q hq => f2 q hq (fun z hz => nomatch hz)), hce, hO.vm, hcl, hWs, hall, hf⟩⟩
  refine st1 _ ?_
  show Steps p.tables e below (T1.setTop { method := m, pc := pc + 3, locals := ls, stack := .ref T.heap.size :: rest, locked := none }) _
  jvm_step X₁.here [X₁.here.top, hexec, d3', Value.category]
  exact X₁.ldcString hexec (own := own) (text := text) (index := is) (a := sa) hown' hstr'.1 hstr'.2
    (g := { method := m, pc := pc + 4, locals := ls, stack := .ref T.heap.size :: .ref T.heap.size :: rest, locked := none }) rfl d4' _ hsteps
/-- 'throw new E("text")', the text by a wide index -/
theorem vx_throwSW {cc : ByteArray} {pc : Nat} (hexec : p.tables.exec = Jvm.exec) (hb : c.code = cc) (hl : l.stackTraces = false) {own cls text : String} {names : List String} {ik is ic mc ms sa : Nat} {A : Nat → Prop}
    (hown : s.vm.findClass own = some m.cls) (hcls : Bundle.fit cls = true) (hnames : ∀ n ∈ names, Bundle.fit n = true)
    (hk : (Cond.classLink own ik cls).before args s = true) (hini : (Cond.initialized cls).before args s = true) (hstr : vk_R own is text sa s) (hat : ∀ w ∈ vx_atS own ic cls names, w.before args s = true)
    (hgood : ∀ w ∈ Cond.classLink own ik cls :: Cond.initialized cls :: vx_atS own ic cls names, vx_ot w = true)
    (hU : vx_Zq Bundle.tN "UNASSIGNED_STACK" Bundle.steD A s s.heap) (hN : vx_Zq Bundle.tN "SUPPRESSED_SENTINEL" Bundle.listD A s s.heap) (hS : va_S A s.heap H locs) (hsize : ls.size = c.maxLocals)
    (d0 : decode cc pc = .ok (.new ik, 3)) (d3 : decode cc (pc + 3) = .ok (.dup, 1)) (d4 : decode cc (pc + 4) = .ok (.ldc_w is, 3)) (d7 : decode cc (pc + 7) = .ok (.invokespecial ic, 3)) (d10 : decode cc (pc + 10) = .ok (.athrow, 1))
    (hout : ∀ x ∈ c.exceptionTable.toList, covers x (pc + 10) = false)
    (hRframes : names.length + 3 < R.frames) (hRlocals : (rest.map fun v => v.category).sum + (13 * (names.length + 1) + 43) ≤ R.locals) (hRcells : cells + 1 ≤ R.cells) (hRslots : slots + 6 ≤ R.slots) (hlocks : meth.locks = false)
    (hx : ∀ t : State, s.vm.Alike t.vm → H.size ≤ t.heap.size → (∀ q : Nat, q < H.size → t.heap[q]? = H[q]?) → XC cls s t)
    (hf : ∀ z ∈ locs, free z.base) (hc : cells + 1 ≤ mc) (hs : slots + 6 ≤ ms) :
    W p l e R s m args below meth c H locs cells slots (vx_MQ below Qc XC args s mc ms free) (F0 m pc ls rest) := by
  intro T hT X
  have htr : e.platform.stackTraces = false := (show e.platform.stackTraces = l.stackTraces by rw [X.admits.platform]).trans hl
  have Y := vx_rebase X (R' := { frames := R.frames, locals := R.locals, cells := 1, slots := 6 }) (Nat.le_refl _) (Nat.le_refl _) hRcells hRslots
  obtain ⟨s', hA⟩ : ∃ z, z = (T.setVm s.vm).setFrames (.invoking m args :: below) := ⟨_, rfl⟩
  rw [← hA] at Y
  have hvm : s'.vm = s.vm := by rw [hA]; rfl
  have hhp : s'.heap = H := by rw [hA]; exact hT
  have hW0 : s.WarmedH s'.vm := by rw [hvm]; exact State.WarmedH.refl s
  have hat' : ∀ w ∈ vx_atS own ic cls names, w.before args s' = true := fun w hw => vx_ot_at hW0 hvm.symm (hgood w (List.mem_cons_of_mem _ (List.mem_cons_of_mem _ hw))) (hat w hw)
  have hk' : (Cond.classLink own ik cls).before args s' = true := vx_ot_at hW0 hvm.symm (hgood _ List.mem_cons_self) hk
  have hini' : (Cond.initialized cls).before args s' = true := vx_ot_at hW0 hvm.symm (hgood _ (List.mem_cons_of_mem _ List.mem_cons_self)) hini
  have hU' : vx_Zq Bundle.tN "UNASSIGNED_STACK" Bundle.steD A s' s'.heap := by rw [hhp]; exact vx_Zq.moved hW0.alike (hU.kept hS.2.1)
  have hN' : vx_Zq Bundle.tN "SUPPRESSED_SENTINEL" Bundle.listD A s' s'.heap := by rw [hhp]; exact vx_Zq.moved hW0.alike (hN.kept hS.2.1)
  have h : ∀ w ∈ Bundle.ownAtoms own ic cls names, w.before args s' = true := vx_own hat' (vx_isRefq hU'.1) (vx_isRefq hN'.1) hU'.2.word hN'.2.word
  have hown' : s'.vm.findClass own = some m.cls := by rw [hvm]; exact hown
  have hins : (Cond.instantiable cls 6).before args s' = true := h _ (by simp [Bundle.ownAtoms])
  obtain ⟨vm₁, cX, kX, hfX, hkX, -, -, X₁, st1⟩ := Y.newCold hexec (own := own) (C := cls) (index := ik) (n := 6) hown' hk' hins hini'
    (g := F0 m pc ls rest) rfl (by rw [hb]; exact d0) (Nat.le_refl _) (Nat.le_refl _)
  generalize hT1 : (T.setVm vm₁).pushCell { cls := cX, slots := kX.instanceTypes.map defaultValue, vm := .none } = T1 at X₁ st1
  have hcat : (Value.ref T.heap.size).category = 1 := rfl
  have hcellA : T1.heap[T.heap.size]? = some (freshCell cX kX) := by rw [← hT1]; exact State.heap_pushCell_size _ _
  have d3' : decode c.code (pc + 3) = .ok (.dup, 1) := by rw [hb]; exact d3
  have d4' : decode c.code (pc + 4) = .ok (.ldc_w is, 3) := by rw [hb]; exact d4
  have hstr' : vk_R own is text sa s' := vk_R.warm hW0 hstr
  obtain ⟨U, hsteps, hrun, hend, hW, hsame, ce, hce, hO⟩ := X₁.ctorThrowS hexec htr (own := own) (cls := cls) (names := names) (ic := ic) hown' hcls hnames h (fun x hx => nomatch hx) hfX hkX hcellA (by rw [hhp, hT]; exact Nat.le_refl _) (msg := .ref sa) rfl
    (g := { method := m, pc := pc + 7, locals := ls, stack := .ref sa :: .ref T.heap.size :: .ref T.heap.size :: rest, locked := none }) rfl hsize rfl rfl (rest := rest) rfl
    (by rw [hb]; exact d7) (by rw [hb]; exact d10) hout hRframes (by simp only [List.map_cons, List.sum_cons, hcat]; omega) hlocks
  obtain ⟨f1, f2⟩ := vx_frame hsame
  rw [hhp] at f1 f2
  have hWs : s.WarmedH U.vm := State.WarmedH.trans hW0 hW
  have hcl : s.vm.findClass cls = some ce.cls := by
    have h9 := hO.cls
    rw [hvm] at h9
    exact h9
  have hall : s.sameButNew ({ U with vm := s.vm } : State) locs mc ms := by
    subst hA
    obtain ⟨e1, e2⟩ := hsame
    rw [State.setFrames_setFrames] at e1
    have h2 : (T.setVm s.vm).sameButNew ({ U with vm := s.vm } : State) [] (0 + 1) (0 + 6) := ⟨e1, e2⟩
    have h3 := X.same.trans h2
    rw [List.append_nil] at h3
    exact h3.mono hc hs
  refine ⟨U, ?_, .threw T.heap.size, hrun, hend, Or.inr ⟨T.heap.size, rfl, cls, ce, locs, hx U hWs.alike f1 (fun q hq => f2 q hq (fun z hz => nomatch hz)), hce, hO.vm, hcl, hWs, hall, hf⟩⟩
  refine st1 _ ?_
  show Steps p.tables e below (T1.setTop { method := m, pc := pc + 3, locals := ls, stack := .ref T.heap.size :: rest, locked := none }) _
  jvm_step X₁.here [X₁.here.top, hexec, d3', Value.category]
  exact X₁.ldcStringW hexec (own := own) (text := text) (index := is) (a := sa) hown' hstr'.1 hstr'.2
    (g := { method := m, pc := pc + 4, locals := ls, stack := .ref T.heap.size :: .ref T.heap.size :: rest, locked := none }) rfl d4' _ hsteps
end Ends
section Bodies
variable {l : Launch}
theorem vx_ofW {y : MethodName} {ws ws' : List Cond} {rm : Room} {Pc : Array Value → State → Prop} {Qc : Array Value → State → Outcome → State → Prop} {XC : String → State → State → Prop} {mc ms : Nat} {free : Addr → Prop} {cc : ByteArray} {maxL : Nat} {ret : Option FieldType}
    (hy : plainName y.cls = true) (hw : ws = Cond.code y cc maxL ret :: ws')
    (body : ∀ p e s m args below meth c s₁, BodyLoose p l y (headSpec ws rm) cc maxL ret e s m args below meth c s₁ → c.maxLocals = maxL → (∀ x ∈ c.exceptionTable.toList, False) → Pc args s →
      W p l e (headSpec ws rm).room s m args below meth c s.heap [] 0 0 (vx_MQ below Qc XC args s mc ms free) (entryFrame m args maxL)) : vx_Met l y ws rm Pc Qc XC mc ms free := by
  refine MetFree.of_bodyS (code := cc) (maxLocals := maxL) (ret := ret) hy ?_ ?_
  · intro args s m h hn
    obtain ⟨meth, c, h1, h2, h3, h4, h5, h6, -, -⟩ := Cond.code_spec hn (atoms_spec (ws := ws) h _ (by rw [hw]; exact List.mem_cons_self))
    exact ⟨meth, c, h1, h2, h3, h4, h5, h6⟩
  · intro p e s m args below meth c s₁ B hml hP _
    have hh0 : s₁.heap = s.heap := by rw [B.state]; rfl
    have ht : ∀ x ∈ c.exceptionTable.toList, False := by
      obtain ⟨meth9, c9, h1, h2, -, -, -, -, h7, -⟩ := Cond.code_spec B.named (atoms_spec (ws := ws) B.pre _ (by rw [hw]; exact List.mem_cons_self))
      cases Option.some.inj (h1.symm.trans B.method)
      cases Option.some.inj (h2.symm.trans (Stand.of_body B).code)
      intro x hx
      rw [Array.isEmpty_iff.mp h7] at hx
      cases hx
    obtain ⟨t, a1, o, b1, b2, b3⟩ := body p e s m args below meth c s₁ B hml ht hP s₁ hh0 (Stand.of_body B)
    exact ⟨t, o, a1, b1, b2, b3⟩
/-- the table of a body with handlers -/
theorem vx_table {p : Program} {x y : MethodName} {S : Spec} {cc bytes : ByteArray} {maxL maxL' : Nat} {ret ret' : Option FieldType} {e : Env} {s s₁ : State} {m : MethodId} {args : Array Value} {below : List Frame} {meth : Method} {c : Code} {hh : List (Nat × Nat × Nat × Nat)}
    (B : BodyLoose p l y S cc maxL ret e s m args below meth c s₁) (h : (Cond.codeWith y bytes maxL' ret' hh).before args s = true) : c.exceptionTable.toList = tableOf hh := by
  obtain ⟨m9, meth9, c9, hn9, h1, h2, -, -, h6, -⟩ := Cond.codeWith_spec h
  cases Option.some.inj (hn9.symm.trans B.named)
  cases Option.some.inj (h1.symm.trans B.method)
  cases Option.some.inj (h2.symm.trans (Stand.of_body B).code)
  rw [← h6, table_eq]
end Bodies
end VXA
/-! ===== END ===== -/
/-! ===== BEGIN a static call of a method with an exception table ===== -/
section VXS
variable {p : Program} {l : Launch} {e : Env} {R : Room} {s : State} {m : MethodId} {args : Array Value} {below : List Frame} {meth : Method} {c : Code} {T : State} {H : Heap} {locs : List Loc} {cells slots : Nat}
abbrev vx_CSW (R : Room) (s : State) (args : Array Value) (own : String) (index : Nat) (y : MethodName) (bytes : ByteArray) (maxL : Nat) (ret : Option FieldType) (hh : List (Nat × Nat × Nat × Nat)) (ws : List Cond) (rm : Room) (mc ms n : Nat) : Prop :=
  (rm.cells = mc ∧ rm.slots = ms ∧ rm.frames + 1 ≤ R.frames ∧ 8 + (maxL + 11) + rm.locals ≤ R.locals ∧ (∀ w ∈ ws, ∀ (a' : Array Value) (U : State), s.WarmedH U.vm → w.before a' U = true) ∧ Cond.codeWith y bytes maxL ret hh ∈ ws) ∧
  (Cond.codeWith y bytes maxL ret hh).before args s = true ∧ (Cond.initialized y.cls).before args s = true ∧ (y.cls ≠ "java/lang/invoke/MethodHandle" ∧ y.cls ≠ "java/lang/invoke/VarHandle") ∧
  (∀ sig, parseMethodDescriptor y.desc = some sig → n = sig.parameters.length) ∧ (Cond.methodLink own index y).before args s = true ∧ (Cond.static y).before args s = true
theorem vx_cwSW {own : String} {index maxL mc ms : Nat} {y : MethodName} {bytes : ByteArray} {ret : Option FieldType} {hh : List (Nat × Nat × Nat × Nat)} {Ts ws ws' : List Cond} {rm : Room} (n : Nat) (ht : ∀ w ∈ Ts, w.before args s = true) (hT : GoodIn Ts (va_wsS own index y ws)) (hw : ws = Cond.codeWith y bytes maxL ret hh :: ws') (hrc : rm.cells = mc) (hrs : rm.slots = ms)
    (hd : y.cls ≠ "java/lang/invoke/MethodHandle" ∧ y.cls ≠ "java/lang/invoke/VarHandle" ∧ (parseMethodDescriptor y.desc).map (fun d => d.parameters.length) = some n) (hR : rm.frames + 1 ≤ R.frames ∧ 8 + (maxL + 11) + rm.locals ≤ R.locals) :
    vx_CSW R s args own index y bytes maxL ret hh ws rm mc ms n := by
  have ok : ∀ w ∈ va_wsS own index y ws, w.before args s = true := fun w h => ht w (hT w h).1
  have hG : GoodIn Ts ws := fun w h => hT w (by unfold va_wsS; exact List.mem_append_right _ h)
  have hc : Cond.codeWith y bytes maxL ret hh ∈ ws := by rw [hw]; exact List.mem_cons_self
  refine ⟨⟨hrc, hrs, hR.1, hR.2, pay_in ht hG, hc⟩, ht _ (hG _ hc).1, ok _ (by simp [va_wsS]), ⟨hd.1, hd.2.1⟩, fun sig h => ?_, ok _ (by simp [va_wsS]), ok _ (by simp [va_wsS])⟩
  have h2 := hd.2.2
  rw [h] at h2
  exact (Option.some.inj h2).symm
theorem vx_callSW (X : Stand p l e R s m args below meth c T locs cells slots) (hexec : p.tables.exec = Jvm.exec) {own : String} {index : Nat} {y : MethodName} {bytes : ByteArray} {maxL : Nat} {ret : Option FieldType} {hh : List (Nat × Nat × Nat × Nat)}
    (hown : s.vm.findClass own = some m.cls) (hlink : (Cond.methodLink own index y).before args s = true) (hstat : (Cond.static y).before args s = true) (hinit : (Cond.initialized y.cls).before args s = true)
    (hcode : (Cond.codeWith y bytes maxL ret hh).before args s = true) (hy : y.cls ≠ "java/lang/invoke/MethodHandle" ∧ y.cls ≠ "java/lang/invoke/VarHandle")
    {W9 : Nat} {Pre : Pt → Array Value → Prop} {Post : Pt → Array Value → Option Value → Pt → Prop} (hK : Back l R p e below s args y 3 W9 Pre Post)
    {g : JFrame} (hg : g.method = m) (hsize : g.locals.size = c.maxLocals) {argsL rest : List Value} (hlen : ∀ sig, parseMethodDescriptor y.desc = some sig → argsL.length = sig.parameters.length)
    (hstack : g.stack = argsL.reverse ++ rest) (hW : 2 * g.monitorRoom + (rest.map fun v => v.category).sum ≤ W9) (hdg : decode c.code g.pc = .ok (.invokestatic index, 3))
    (hpre : ∀ vm₁, s.WarmedH vm₁ → Pre ⟨T.setVm vm₁, locs, cells, slots⟩ argsL.toArray) :
    ∃ (v : Option Value) (vm₁ : Vm) (B : Pt), s.WarmedH vm₁ ∧ Stand p l e R s m args below meth c B.U B.locs B.cells B.slots ∧ Post ⟨T.setVm vm₁, locs, cells, slots⟩ argsL.toArray v B ∧
      ∀ target, Steps p.tables e below (B.U.setTop { g with pc := g.pc + 3, stack := v.toList ++ rest }) target → Steps p.tables e below (T.setTop g) target := by
  obtain ⟨mk, methM, cM, hnamed, hmethM, -, -, -, -, -, -, hsigM⟩ := Cond.codeWith_spec hcode
  have hstatic : methM.isStatic = true := Cond.static_spec hnamed hmethM hstat
  obtain ⟨kP, hkP, -⟩ := className_of_methodNamed hnamed
  have hinitP : kP.init = .initialized := Cond.initialized_spec (findClass_of_methodNamed hnamed) hkP hinit
  obtain ⟨vm₁, X₁, hstep₁⟩ := X.invokestatic hexec hown hlink hnamed hmethM hstatic hkP hinitP hy (g := g) hg (argsL := argsL) (rest := rest) (hlen _ hsigM) hstack hdg
  obtain ⟨v, B, X', hpost, hsteps⟩ := hK m meth c ⟨T.setVm vm₁, locs, cells, slots⟩ { g with stack := rest } (.invokestatic index) mk argsL.toArray X₁ hg hsize hdg hW (X₁.named hnamed) (hpre vm₁ X₁.warmed)
  exact ⟨v, vm₁, B, X₁.warmed, X', hpost, fun target h => hstep₁ _ fun acts => by rw [doInvoke_state]; exact hsteps.trans h⟩
theorem vx_runSW {y : MethodName} {bytes cc : ByteArray} {maxL nL mc ms n index : Nat} {ret : Option FieldType} {hh : List (Nat × Nat × Nat × Nat)} {ws : List Cond} {rm : Room} {Pc : Array Value → State → Prop} {Qc : Array Value → State → Outcome → State → Prop} {free : Addr → Prop} {Ts : List Cond} {own : String} {As rest : List Value} {g : JFrame}
    (S : CallFix p m c cc nL s args Ts own) (hM : Met l y ws rm Pc Qc mc ms free) (cw : vx_CSW R s args own index y bytes maxL ret hh ws rm mc ms n) (hp : PreS s H Pc As)
    (hg : g.method = m) (hn : As.length = n) (hsize : g.locals.size = nL) (hstack : g.stack = As.reverse ++ rest) (hW : 2 * g.monitorRoom + (rest.map fun v => v.category).sum ≤ 8) (hdg : decode cc g.pc = .ok (.invokestatic index, 3)) (hf : cells + mc ≤ R.cells ∧ slots + ms ≤ R.slots) :
    va_Run p l e R s m args below meth c H locs cells slots mc ms g rest (Qc As.toArray) (free) := by
  obtain ⟨⟨hrc, hrs, hfr, hlo, hws, hcw⟩, hcode, hini, hy, hlen, hl, hstt⟩ := cw
  have hK : Back l R p e below s args y 3 8 (PreOf R mc ms Pc) (PostOf Qc mc ms free) := va_backW (hh := hh) (bytes := bytes) (maxL := maxL) (ret := ret) hM hp.1 hrc hrs hfr hlo hws hcw (fun a' U hW => word_at hW (Or.inl (by first | rfl | simp [Cond.onTables, Cond.keeps, Cond.steady])) hini)
  obtain ⟨hx, hb, hml, ho, -⟩ := S
  intro T hT X
  obtain ⟨v, vm₁, ⟨U', l2, c2, s2⟩, hW₁, X', ⟨g', mk, t, L, e1, e2, hq, h1, hL, h2, h3⟩, st⟩ := vx_callSW X hx (hh := hh) (bytes := bytes) (maxL := maxL) (ret := ret) ho hl hstt hini hcode hy hK hg (hsize.trans hml.symm) (argsL := As) (rest := rest) (fun sig h => hn.trans (hlen sig h)) hstack hW (by rw [hb]; exact hdg)
    (fun vm₁ hW₁ => ⟨hf.1, hf.2, hp.2 (T.setVm vm₁) hT hW₁⟩)
  dsimp only [Pt.U, Pt.locs, Pt.cells, Pt.slots] at X' e1 e2 h1 h2 h3 st
  subst h1; subst h2; subst h3
  exact ⟨v, (T.setVm vm₁).calling g' mk As.toArray, t, U', L, hT, X', hL, e1, e2, hq, st⟩
/-- not caught here, past rows that name other classes: it goes on to the caller -/
theorem vx_outP {p : Program} {l : Launch} {e : Env} {R : Room} {s : State} {m : MethodId} {args : Array Value} {below : List Frame} {meth : Method} {c : Code} {H : Heap} {locs : List Loc} {cells slots : Nat} {free : Addr → Prop} {ls : Array Slot} {rest : List Value} {Qc : Array Value → State → Outcome → State → Prop} {XC : String → State → State → Prop}
    {pc : Nat} {own E : String} {ce : Cell} {q : Addr} {mc ms : Nat} (hown : s.vm.findClass own = some m.cls) (hlocks : meth.locks = false)
    (hpass : ∀ z ∈ c.exceptionTable.toList, covers z pc = false ∨ (z.catchType ≠ 0 ∧ ∃ nm : String, (Cond.classLink own z.catchType nm).before args s = true ∧ va_Nc E nm s)) (hcell : H[q]? = some ce) (hv : ce.vm = .none) (hcl : s.vm.findClass E = some ce.cls)
    (hx : ∀ t : State, t.heap = H → s.vm.Alike t.vm → XC E s t) (hf : ∀ z ∈ locs, free z.base) (hc : cells ≤ mc) (hs : slots ≤ ms) :
    vx_W p l e R s m args below meth c H locs cells slots (vx_MQ below Qc XC args s mc ms free) (F0 m pc ls rest) q := by
  intro T hT X
  have hpl : e.platform.magicAccessors = ({} : Platform).magicAccessors := by rw [X.admits.platform]
  obtain ⟨vm', hW', X', st⟩ := X.outThrough hlocks q (g := F0 m pc ls rest) rfl rfl rfl (cell := ce) (by rw [hT]; exact hcell) (by rw [hv]; rfl)
    (by obtain ⟨k9, h9, -⟩ := Vm.findClass_spec hcl; exact ⟨k9, h9⟩) (fun z hz => by
      rcases hpass z hz with h | ⟨hz0, nm, hl1, hn1⟩
      · exact Or.inl h
      · obtain ⟨c6, hc6, hcl6⟩ := Cond.classLink_spec hown hl1 e.platform hpl
        obtain ⟨a8, b8, h1, h2, h3⟩ := hn1
        cases Option.some.inj (h1.symm.trans hcl)
        cases Option.some.inj (h2.symm.trans hc6)
        exact Or.inr ⟨hz0, _, hcl6, h3⟩)
  obtain ⟨g₀, hfr⟩ := X'.frames_eq
  have hcell9 : ((T.setVm vm').setFrames (.throwing q :: below)).heap[q]? = some ce := by
    show T.heap[q]? = some ce
    rw [hT]; exact hcell
  have hend : Ended ((T.setVm vm').setFrames (.throwing q :: below)) below (.threw q) := State.frames_setFrames _ (State.cur_lt_of_frames hfr)
  refine ⟨(T.setVm vm').setFrames (.throwing q :: below), ?_, .threw q, X'.here.running, hend, Or.inr ⟨q, rfl, E, ce, locs, hx _ hT (X'.ends _).1.alike, hcell9, hv, hcl, (X'.ends _).1, (X'.ends _).2.mono hc hs, hf⟩⟩
  rw [X.pushThrowing_eq]
  exact st
/-- a thing of a world lies in the heap -/
theorem vx_lt {D : va_G} {cl : List vw_C} {ws : va_W} {H1 : Heap} (h : va_P D cl ws H1) {k : Nat} {q : Nat × va_E} (hk : ws[k]? = some q) : q.1 < H1.size := (h k q hk).lt
end VXS
/-! ===== END ===== -/
/-! ===== BEGIN methods with a table of their own: called by a name, returning or throwing ===== -/
section VXH
/-! vx_backW, vx_callVX, vx_callSX, vx_callVW, vx_runVW, vx_runVX, vx_runSX, vx_ofWH follow the same proofs as their sisters above (Free/Laws.lean, Shelf42/LK1.lean); vx_outP calls Shelf42/NT130.lean (outThrough). -/
section
variable {l : Launch} {R : Room} {p : Program} {e : Env} {below : List Frame} {s : State} {sargs : Array Value} {y : MethodName} {len W9 : Nat}
theorem vx_backW {ws : List Cond} {rm : Room} {Pc : Array Value → State → Prop} {Qc : Array Value → State → Outcome → State → Prop} {XC : String → State → State → Prop} {mc ms : Nat} {free : Addr → Prop} {bytes : ByteArray} {maxL : Nat} {ret : Option FieldType} {hh : List (Nat × Nat × Nat × Nat)}
    (hM : vx_Met l y ws rm Pc Qc XC mc ms free) (hblind : FrameBlind Pc) (hrc : rm.cells = mc) (hrs : rm.slots = ms)
    (hframes : rm.frames + 1 ≤ R.frames) (hlocals : W9 + (maxL + 11) + rm.locals ≤ R.locals)
    (hws : ∀ w ∈ ws, ∀ a' U, s.WarmedH U.vm → w.before a' U = true) (hcode : Cond.codeWith y bytes maxL ret hh ∈ ws) (hinit : ∀ a' U, s.WarmedH U.vm → (Cond.initialized y.cls).before a' U = true) :
    vx_Back l R p e below s sargs y len W9 (PreOf R mc ms Pc) (PostOf Qc mc ms free) (vx_Post XC mc ms free) := by
  intro m meth c A g ig mk a X hg hsize hdg hW hn hp
  have h1 : (headSpec ws rm).pre.before a A.U = true := atoms_intro fun w hw => hws w hw _ _ X.warmed
  have h2 : (Cond.codeWith y bytes maxL ret hh).before a A.U = true := hws _ hcode _ _ X.warmed
  have h3 : (Cond.initialized y.cls).before a A.U = true := hinit _ _ X.warmed
  have h4 : A.cells + (headSpec ws rm).room.cells ≤ R.cells := by rw [show (headSpec ws rm).room.cells = mc from hrc]; exact hp.1
  have h5 : A.slots + (headSpec ws rm).room.slots ≤ R.slots := by rw [show (headSpec ws rm).room.slots = ms from hrs]; exact hp.2.1
  have hPc : Pc a (A.U.calling g mk a) := hblind _ _ _ _ hp.2.2
  obtain ⟨U, Ls, c0, s0⟩ := A
  dsimp only [Pt.U, Pt.locs, Pt.cells, Pt.slots] at h1 h2 h3 h4 h5 X hn hPc ⊢
  obtain ⟨m9, methY, cY, hn9, hmY, hcY, -, hlY, -⟩ := Cond.codeWith_spec h2
  cases Option.some.inj (hn9.symm.trans hn)
  obtain ⟨kY, hkY, -⟩ := className_of_methodNamed hn
  have hinitY : kY.init = .initialized := Cond.initialized_spec (findClass_of_methodNamed hn) hkY h3
  have h : At U g.method c below := by rw [hg]; exact X.here
  have hlocals9 : W9 + (maxL + 11) + (headSpec ws rm).room.locals ≤ R.locals := hlocals
  have happ : (headSpec ws rm).appliesLoose y e.platform (U.calling g mk a) = true :=
    Spec.appliesLoose_calling (g := g) h hdg hn hkY hinitY
      (X.room_calling (g := g) (R' := (headSpec ws rm).room) hsize hmY hcY hframes (by rw [hlY]; omega) h4 h5) h1
  obtain ⟨mid, hmid⟩ := h.above
  have hfr : (U.setTop g).frames = (.java g :: mid) ++ below := by rw [State.frames_setTop' g h.top, hmid]; rfl
  obtain ⟨o, s₂, hsteps, -, hend, hq⟩ := Steps.callFree hM p X.admits X.cas X.clock (acts := []) hfr happ hPc trivial
  have hq' : vx_Q Qc XC mc ms free a (U.calling g mk a) o s₂ := hq
  rw [State.frames_setTop' g h.top] at hend
  obtain ⟨g₀, hg0⟩ := Option.isSome_iff_exists.mp h.top
  obtain ⟨r, hr⟩ := State.topJava?_eq_some.mp hg0
  have hr' : (({ U with heap := s₂.heap, slotsUsed := s₂.slotsUsed } : State).setVm s₂.vm).frames = .java g₀ :: r := hr
  rcases hq' with ⟨hqc, L, hfe, hL⟩ | ⟨q, rfl, E, ce, L, hx, hce, hcv, hcl, hW₂, hsm, hL⟩
  · obtain ⟨⟨v, rfl⟩, hW₂, e2, q2, q3, q4, q5, q6⟩ := id hfe
    have e3 : s₂ = ({ (U.calling g mk a).setFrames s₂.frames with heap := s₂.heap, slotsUsed := s₂.slotsUsed } : State).setVm s₂.vm := by
      have : s₂ = ({ s₂ with vm := (U.calling g mk a).vm } : State).setVm s₂.vm := rfl
      rw [e2] at this
      exact this
    obtain ⟨c₂, i₂, len₂, hc₂, hd₂, hf₂⟩ := hend
    have hW' : U.WarmedH s₂.vm := hW₂
    have hcc : c₂ = c := by
      have h1 : s₂.code? g.method = U.code? g.method := by
        rw [State.code?_eq, State.code?_eq, hW'.alike.method?]
      exact Option.some.inj (hc₂.symm.trans (h1.trans h.code))
    subst hcc
    have hlen : len₂ = len := by rw [hdg] at hd₂; cases hd₂; rfl
    subst hlen
    have hs₂ : s₂ = (({ U with heap := s₂.heap, slotsUsed := s₂.slotsUsed } : State).setVm s₂.vm).setTop { g with pc := g.pc + len₂, stack := v.toList ++ g.stack } := by
      refine e3.trans ?_
      rw [hf₂, State.calling_eq h.top, State.setFrames_setFrames, State.setTop_of_frames _ hr', hr]
      rfl
    have hsame : U.sameButNew ({ U with heap := s₂.heap, slotsUsed := s₂.slotsUsed } : State) L mc ms := by
      refine ⟨?_, q2, q3, q4, q5, q6⟩
      obtain ⟨t, ht, -⟩ := State.frames_cons hr
      show ({ U with heap := s₂.heap, slotsUsed := s₂.slotsUsed } : State) = { U.setFrames U.frames with heap := s₂.heap, slotsUsed := s₂.slotsUsed }
      rw [State.setFrames_self ht]
    subst hg
    refine Or.inl ⟨v, ⟨(({ U with heap := s₂.heap, slotsUsed := s₂.slotsUsed } : State).setVm s₂.vm), Ls ++ L, c0 + mc, s0 + ms⟩,
      ⟨X.admits, X.cas, X.clock, X.frames, X.room, X.hears, X.method, X.code, (X.here.setHeapUsed s₂.heap s₂.slotsUsed).setVm hW'.alike, X.tail, State.WarmedH.trans X.warmed hW', X.limits, X.bytes, X.same.trans (hsame.setVm s.vm)⟩,
      ⟨g, mk, s₂, L, rfl, rfl, hqc, rfl, hL, rfl, rfl⟩, ?_⟩
    show Steps p.tables e below _ ((({ U with heap := s₂.heap, slotsUsed := s₂.slotsUsed } : State).setVm s₂.vm).setTop { g with pc := g.pc + len₂, stack := v.toList ++ g.stack })
    rw [← hs₂]
    exact hsteps
  · obtain ⟨e2, q2, q3, q4, q5, q6⟩ := id hsm
    have e3 : s₂ = ({ (U.calling g mk a).setFrames s₂.frames with heap := s₂.heap, slotsUsed := s₂.slotsUsed } : State).setVm s₂.vm := by
      have : s₂ = ({ s₂ with vm := (U.calling g mk a).vm } : State).setVm s₂.vm := rfl
      rw [e2] at this
      exact this
    have hf₂ : s₂.frames = .throwing q :: .java g :: U.frames.tail := hend
    have hW' : U.WarmedH s₂.vm := hW₂
    have hs₂ : s₂ = ((({ U with heap := s₂.heap, slotsUsed := s₂.slotsUsed } : State).setVm s₂.vm).setTop g).pushFrame (.throwing q) := by
      refine e3.trans ?_
      rw [hf₂, State.calling_eq h.top, State.setFrames_setFrames, State.pushFrame, State.frames_setTop _ hr', State.setTop_of_frames _ hr', State.setFrames_setFrames, hr]
      rfl
    have hsame : U.sameButNew ({ U with heap := s₂.heap, slotsUsed := s₂.slotsUsed } : State) L mc ms := by
      refine ⟨?_, q2, q3, q4, q5, q6⟩
      obtain ⟨t, ht, -⟩ := State.frames_cons hr
      show ({ U with heap := s₂.heap, slotsUsed := s₂.slotsUsed } : State) = { U.setFrames U.frames with heap := s₂.heap, slotsUsed := s₂.slotsUsed }
      rw [State.setFrames_self ht]
    subst hg
    refine Or.inr ⟨q, ⟨(({ U with heap := s₂.heap, slotsUsed := s₂.slotsUsed } : State).setVm s₂.vm), Ls ++ L, c0 + mc, s0 + ms⟩,
      ⟨X.admits, X.cas, X.clock, X.frames, X.room, X.hears, X.method, X.code, (X.here.setHeapUsed s₂.heap s₂.slotsUsed).setVm hW'.alike, X.tail, State.WarmedH.trans X.warmed hW', X.limits, X.bytes, X.same.trans (hsame.setVm s.vm)⟩,
      ⟨g, mk, s₂, L, E, ce, rfl, rfl, hx, hce, hcv, hcl, rfl, hL, rfl, rfl⟩, ?_⟩
    show Steps p.tables e below _ (((({ U with heap := s₂.heap, slotsUsed := s₂.slotsUsed } : State).setVm s₂.vm).setTop g).pushFrame (.throwing q))
    rw [← hs₂]
    exact hsteps
end
variable {p : Program} {l : Launch} {e : Env} {R : Room} {s : State} {m : MethodId} {args : Array Value} {below : List Frame} {meth : Method} {c : Code} {T : State} {H : Heap} {locs : List Loc} {cells slots : Nat}
theorem vx_callVX (X : Stand p l e R s m args below meth c T locs cells slots) (hexec : p.tables.exec = Jvm.exec) {own C : String} {index : Nat} {y : MethodName} {bytes : ByteArray} {maxL : Nat} {ret : Option FieldType} {hh : List (Nat × Nat × Nat × Nat)}
    (hown : s.vm.findClass own = some m.cls) (hlink : (Cond.methodLink own index y).before args s = true) (hinst : (Cond.instanceMethod y).before args s = true) (hsel : (Cond.selects C y y).before args s = true)
    (hcode : (Cond.codeWith y bytes maxL ret hh).before args s = true) (hy : y.cls ≠ "java/lang/invoke/MethodHandle" ∧ y.cls ≠ "java/lang/invoke/VarHandle")
    {W9 : Nat} {Pre : Pt → Array Value → Prop} {Post : Pt → Array Value → Option Value → Pt → Prop} {PostX : Pt → Array Value → Addr → Pt → Prop} (hK : vx_Back l R p e below s args y 3 W9 Pre Post PostX)
    {b : Addr} {cellB : Cell} (hcell : T.heap[b]? = some cellB) (hobj : cellB.vm.isStatics = false) (hcls : s.vm.findClass C = some cellB.cls)
    {g : JFrame} (hg : g.method = m) (hsize : g.locals.size = c.maxLocals) {argsL rest : List Value} (hlen : ∀ sig, parseMethodDescriptor y.desc = some sig → argsL.length = sig.parameters.length)
    (hstack : g.stack = argsL.reverse ++ .ref b :: rest) (hW : 2 * g.monitorRoom + (rest.map fun v => v.category).sum ≤ W9) (hdg : decode c.code g.pc = .ok (.invokevirtual index, 3))
    (hpre : ∀ vm₁, s.WarmedH vm₁ → Pre ⟨T.setVm vm₁, locs, cells, slots⟩ (Value.ref b :: argsL).toArray) :
    (∃ (v : Option Value) (vm₁ : Vm) (B : Pt), s.WarmedH vm₁ ∧ Stand p l e R s m args below meth c B.U B.locs B.cells B.slots ∧ Post ⟨T.setVm vm₁, locs, cells, slots⟩ (Value.ref b :: argsL).toArray v B ∧
      ∀ target, Steps p.tables e below (B.U.setTop { g with pc := g.pc + 3, stack := v.toList ++ rest }) target → Steps p.tables e below (T.setTop g) target) ∨
    (∃ (q : Addr) (vm₁ : Vm) (B : Pt), s.WarmedH vm₁ ∧ Stand p l e R s m args below meth c B.U B.locs B.cells B.slots ∧ PostX ⟨T.setVm vm₁, locs, cells, slots⟩ (Value.ref b :: argsL).toArray q B ∧
      Steps p.tables e below (T.setTop g) ((B.U.setTop { g with stack := rest }).pushFrame (.throwing q))) := by
  obtain ⟨mk, methM, hnamed, hmethM, hstM, habM⟩ := Cond.instanceMethod_spec hinst
  obtain ⟨m8, methM', cM, hn8, hmethM', -, -, -, -, -, -, hsigM⟩ := Cond.codeWith_spec hcode
  cases Option.some.inj (hn8.symm.trans hnamed)
  cases hmethM.symm.trans hmethM'
  obtain ⟨c2, r2, m2, q1, q2, q3, q4, kP, hkP, hkPi⟩ := Cond.selects_spec hsel
  cases hcls.symm.trans q1
  cases (State.methodFound?_of_named hnamed hy).symm.trans q2
  cases hnamed.symm.trans q3
  have hselP : selectMethod e.platform s.vm cellB.cls mk = .method mk := by rw [Launch.admits_selectMethod X.admits]; exact q4
  obtain ⟨vm₁, X₁, hstep₁⟩ := X.invokevirtual hexec hown hlink hnamed hmethM hstM hkP hkPi hy (a := b) (cell := cellB) hcell
    (fun z h => by rw [h] at hobj; cases hobj) hselP hmethM habM hkP hkPi (g := g) hg (argsL := argsL) (rest := rest) (hlen _ hsigM) hstack hdg
  rcases hK m meth c ⟨T.setVm vm₁, locs, cells, slots⟩ { g with stack := rest } (.invokevirtual index) mk (Value.ref b :: argsL).toArray X₁ hg hsize hdg hW (X₁.named hnamed) (hpre vm₁ X₁.warmed) with ⟨v, B, X', hpost, hsteps⟩ | ⟨q, B, X', hpost, hsteps⟩
  · exact Or.inl ⟨v, vm₁, B, X₁.warmed, X', hpost, fun target h => hstep₁ _ fun acts => by rw [doInvoke_state]; exact hsteps.trans h⟩
  · exact Or.inr ⟨q, vm₁, B, X₁.warmed, X', hpost, hstep₁ _ fun acts => by rw [doInvoke_state]; exact hsteps⟩
theorem vx_callSX (X : Stand p l e R s m args below meth c T locs cells slots) (hexec : p.tables.exec = Jvm.exec) {own : String} {index : Nat} {y : MethodName} {bytes : ByteArray} {maxL : Nat} {ret : Option FieldType} {hh : List (Nat × Nat × Nat × Nat)}
    (hown : s.vm.findClass own = some m.cls) (hlink : (Cond.methodLink own index y).before args s = true) (hstat : (Cond.static y).before args s = true) (hinit : (Cond.initialized y.cls).before args s = true)
    (hcode : (Cond.codeWith y bytes maxL ret hh).before args s = true) (hy : y.cls ≠ "java/lang/invoke/MethodHandle" ∧ y.cls ≠ "java/lang/invoke/VarHandle")
    {W9 : Nat} {Pre : Pt → Array Value → Prop} {Post : Pt → Array Value → Option Value → Pt → Prop} {PostX : Pt → Array Value → Addr → Pt → Prop} (hK : vx_Back l R p e below s args y 3 W9 Pre Post PostX)
    {g : JFrame} (hg : g.method = m) (hsize : g.locals.size = c.maxLocals) {argsL rest : List Value} (hlen : ∀ sig, parseMethodDescriptor y.desc = some sig → argsL.length = sig.parameters.length)
    (hstack : g.stack = argsL.reverse ++ rest) (hW : 2 * g.monitorRoom + (rest.map fun v => v.category).sum ≤ W9) (hdg : decode c.code g.pc = .ok (.invokestatic index, 3))
    (hpre : ∀ vm₁, s.WarmedH vm₁ → Pre ⟨T.setVm vm₁, locs, cells, slots⟩ argsL.toArray) :
    (∃ (v : Option Value) (vm₁ : Vm) (B : Pt), s.WarmedH vm₁ ∧ Stand p l e R s m args below meth c B.U B.locs B.cells B.slots ∧ Post ⟨T.setVm vm₁, locs, cells, slots⟩ argsL.toArray v B ∧
      ∀ target, Steps p.tables e below (B.U.setTop { g with pc := g.pc + 3, stack := v.toList ++ rest }) target → Steps p.tables e below (T.setTop g) target) ∨
    (∃ (q : Addr) (vm₁ : Vm) (B : Pt), s.WarmedH vm₁ ∧ Stand p l e R s m args below meth c B.U B.locs B.cells B.slots ∧ PostX ⟨T.setVm vm₁, locs, cells, slots⟩ argsL.toArray q B ∧
      Steps p.tables e below (T.setTop g) ((B.U.setTop { g with stack := rest }).pushFrame (.throwing q))) := by
  obtain ⟨mk, methM, cM, hnamed, hmethM, -, -, -, -, -, -, hsigM⟩ := Cond.codeWith_spec hcode
  have hstatic : methM.isStatic = true := Cond.static_spec hnamed hmethM hstat
  obtain ⟨kP, hkP, -⟩ := className_of_methodNamed hnamed
  have hinitP : kP.init = .initialized := Cond.initialized_spec (findClass_of_methodNamed hnamed) hkP hinit
  obtain ⟨vm₁, X₁, hstep₁⟩ := X.invokestatic hexec hown hlink hnamed hmethM hstatic hkP hinitP hy (g := g) hg (argsL := argsL) (rest := rest) (hlen _ hsigM) hstack hdg
  rcases hK m meth c ⟨T.setVm vm₁, locs, cells, slots⟩ { g with stack := rest } (.invokestatic index) mk argsL.toArray X₁ hg hsize hdg hW (X₁.named hnamed) (hpre vm₁ X₁.warmed) with ⟨v, B, X', hpost, hsteps⟩ | ⟨q, B, X', hpost, hsteps⟩
  · exact Or.inl ⟨v, vm₁, B, X₁.warmed, X', hpost, fun target h => hstep₁ _ fun acts => by rw [doInvoke_state]; exact hsteps.trans h⟩
  · exact Or.inr ⟨q, vm₁, B, X₁.warmed, X', hpost, hstep₁ _ fun acts => by rw [doInvoke_state]; exact hsteps⟩
theorem vx_callVW (X : Stand p l e R s m args below meth c T locs cells slots) (hexec : p.tables.exec = Jvm.exec) {own C : String} {index : Nat} {y : MethodName} {bytes : ByteArray} {maxL : Nat} {ret : Option FieldType} {hh : List (Nat × Nat × Nat × Nat)}
    (hown : s.vm.findClass own = some m.cls) (hlink : (Cond.methodLink own index y).before args s = true) (hinst : (Cond.instanceMethod y).before args s = true) (hsel : (Cond.selects C y y).before args s = true)
    (hcode : (Cond.codeWith y bytes maxL ret hh).before args s = true) (hy : y.cls ≠ "java/lang/invoke/MethodHandle" ∧ y.cls ≠ "java/lang/invoke/VarHandle")
    {W9 : Nat} {Pre : Pt → Array Value → Prop} {Post : Pt → Array Value → Option Value → Pt → Prop} (hK : Back l R p e below s args y 3 W9 Pre Post)
    {b : Addr} {cellB : Cell} (hcell : T.heap[b]? = some cellB) (hobj : cellB.vm.isStatics = false) (hcls : s.vm.findClass C = some cellB.cls)
    {g : JFrame} (hg : g.method = m) (hsize : g.locals.size = c.maxLocals) {argsL rest : List Value} (hlen : ∀ sig, parseMethodDescriptor y.desc = some sig → argsL.length = sig.parameters.length)
    (hstack : g.stack = argsL.reverse ++ .ref b :: rest) (hW : 2 * g.monitorRoom + (rest.map fun v => v.category).sum ≤ W9) (hdg : decode c.code g.pc = .ok (.invokevirtual index, 3))
    (hpre : ∀ vm₁, s.WarmedH vm₁ → Pre ⟨T.setVm vm₁, locs, cells, slots⟩ (Value.ref b :: argsL).toArray) :
    ∃ (v : Option Value) (vm₁ : Vm) (B : Pt), s.WarmedH vm₁ ∧ Stand p l e R s m args below meth c B.U B.locs B.cells B.slots ∧ Post ⟨T.setVm vm₁, locs, cells, slots⟩ (Value.ref b :: argsL).toArray v B ∧
      ∀ target, Steps p.tables e below (B.U.setTop { g with pc := g.pc + 3, stack := v.toList ++ rest }) target → Steps p.tables e below (T.setTop g) target := by
  obtain ⟨mk, methM, hnamed, hmethM, hstM, habM⟩ := Cond.instanceMethod_spec hinst
  obtain ⟨m8, methM', cM, hn8, hmethM', -, -, -, -, -, -, hsigM⟩ := Cond.codeWith_spec hcode
  cases Option.some.inj (hn8.symm.trans hnamed)
  cases hmethM.symm.trans hmethM'
  obtain ⟨c2, r2, m2, q1, q2, q3, q4, kP, hkP, hkPi⟩ := Cond.selects_spec hsel
  cases hcls.symm.trans q1
  cases (State.methodFound?_of_named hnamed hy).symm.trans q2
  cases hnamed.symm.trans q3
  have hselP : selectMethod e.platform s.vm cellB.cls mk = .method mk := by rw [Launch.admits_selectMethod X.admits]; exact q4
  obtain ⟨vm₁, X₁, hstep₁⟩ := X.invokevirtual hexec hown hlink hnamed hmethM hstM hkP hkPi hy (a := b) (cell := cellB) hcell
    (fun z h => by rw [h] at hobj; cases hobj) hselP hmethM habM hkP hkPi (g := g) hg (argsL := argsL) (rest := rest) (hlen _ hsigM) hstack hdg
  obtain ⟨v, B, X', hpost, hsteps⟩ := hK m meth c ⟨T.setVm vm₁, locs, cells, slots⟩ { g with stack := rest } (.invokevirtual index) mk (Value.ref b :: argsL).toArray X₁ hg hsize hdg hW (X₁.named hnamed) (hpre vm₁ X₁.warmed)
  exact ⟨v, vm₁, B, X₁.warmed, X', hpost, fun target h => hstep₁ _ fun acts => by rw [doInvoke_state]; exact hsteps.trans h⟩
abbrev vx_CVW (R : Room) (s : State) (args : Array Value) (own C : String) (index : Nat) (y : MethodName) (bytes : ByteArray) (maxL : Nat) (ret : Option FieldType) (hh : List (Nat × Nat × Nat × Nat)) (ws : List Cond) (rm : Room) (mc ms n : Nat) : Prop :=
  (rm.cells = mc ∧ rm.slots = ms ∧ rm.frames + 1 ≤ R.frames ∧ 8 + (maxL + 11) + rm.locals ≤ R.locals ∧ (∀ w ∈ ws, ∀ (a' : Array Value) (U : State), s.WarmedH U.vm → w.before a' U = true) ∧ Cond.codeWith y bytes maxL ret hh ∈ ws) ∧
  (Cond.codeWith y bytes maxL ret hh).before args s = true ∧ (Cond.initialized y.cls).before args s = true ∧ (y.cls ≠ "java/lang/invoke/MethodHandle" ∧ y.cls ≠ "java/lang/invoke/VarHandle") ∧
  (∀ sig, parseMethodDescriptor y.desc = some sig → n = sig.parameters.length) ∧ (Cond.methodLink own index y).before args s = true ∧ (Cond.instanceMethod y).before args s = true ∧ (Cond.selects C y y).before args s = true
theorem vx_cwVW {own C : String} {index maxL mc ms : Nat} {y : MethodName} {bytes : ByteArray} {ret : Option FieldType} {hh : List (Nat × Nat × Nat × Nat)} {Ts ws ws' : List Cond} {rm : Room} (n : Nat) (ht : ∀ w ∈ Ts, w.before args s = true) (hT : GoodIn Ts (wsV own index C y ws)) (hw : ws = Cond.codeWith y bytes maxL ret hh :: ws') (hrc : rm.cells = mc) (hrs : rm.slots = ms)
    (hd : y.cls = C ∧ y.cls ≠ "java/lang/invoke/MethodHandle" ∧ y.cls ≠ "java/lang/invoke/VarHandle" ∧ (parseMethodDescriptor y.desc).map (fun d => d.parameters.length) = some n) (hR : rm.frames + 1 ≤ R.frames ∧ 8 + (maxL + 11) + rm.locals ≤ R.locals) :
    vx_CVW R s args own C index y bytes maxL ret hh ws rm mc ms n := by
  obtain ⟨hC, hd⟩ := hd
  subst hC
  have ok : ∀ w ∈ wsV own index y.cls y ws, w.before args s = true := fun w h => ht w (hT w h).1
  have hG : GoodIn Ts ws := fun w h => hT w (by unfold wsV; exact List.mem_append_right _ h)
  have hc : Cond.codeWith y bytes maxL ret hh ∈ ws := by rw [hw]; exact List.mem_cons_self
  refine ⟨⟨hrc, hrs, hR.1, hR.2, pay_in ht hG, hc⟩, ht _ (hG _ hc).1, ok _ (by simp [wsV]), ⟨hd.1, hd.2.1⟩, fun sig h => ?_, ok _ (by simp [wsV]), ok _ (by simp [wsV]), ok _ (by simp [wsV])⟩
  have h2 := hd.2.2
  rw [h] at h2
  exact (Option.some.inj h2).symm
theorem vx_runVW {y : MethodName} {bytes cc : ByteArray} {maxL nL mc ms n index : Nat} {ret : Option FieldType} {hh : List (Nat × Nat × Nat × Nat)} {ws : List Cond} {rm : Room} {Pc : Array Value → State → Prop} {Qc : Array Value → State → Outcome → State → Prop} {free : Addr → Prop} {Ts : List Cond} {own C : String} {b : Addr} {As rest : List Value} {g : JFrame}
    (S : CallFix p m c cc nL s args Ts own) (hM : Met l y ws rm Pc Qc mc ms free) (cw : vx_CVW R s args own C index y bytes maxL ret hh ws rm mc ms n) (hp : PreV s H C b Pc As)
    (hg : g.method = m) (hn : As.length = n) (hsize : g.locals.size = nL) (hstack : g.stack = As.reverse ++ .ref b :: rest) (hW : 2 * g.monitorRoom + (rest.map fun v => v.category).sum ≤ 8) (hdg : decode cc g.pc = .ok (.invokevirtual index, 3)) (hf : cells + mc ≤ R.cells ∧ slots + ms ≤ R.slots) :
    va_Run p l e R s m args below meth c H locs cells slots mc ms g rest (Qc (Value.ref b :: As).toArray) free := by
  obtain ⟨⟨hrc, hrs, hfr, hlo, hws, hcw⟩, hcode, hini, hy, hlen, hl, hin, hse⟩ := cw
  have hK : Back l R p e below s args y 3 8 (PreOf R mc ms Pc) (PostOf Qc mc ms free) := va_backW (hh := hh) (bytes := bytes) (maxL := maxL) (ret := ret) hM hp.1 hrc hrs hfr hlo hws hcw (fun a' U hW => word_at hW (Or.inl (by first | rfl | simp [Cond.onTables, Cond.keeps, Cond.steady])) hini)
  obtain ⟨hx, hb, hml, ho, -⟩ := S
  obtain ⟨-, ⟨cellB, hcB, hoB, hclB⟩, hPc⟩ := hp
  intro T hT X
  obtain ⟨v, vm₁, ⟨U', l2, c2, s2⟩, hW₁, X', ⟨g', mk, t, L, e1, e2, hq, h1, hL, h2, h3⟩, st⟩ := vx_callVW X hx (C := C) (hh := hh) (bytes := bytes) (maxL := maxL) (ret := ret) ho hl hin hse hcode hy hK (by rw [hT]; exact hcB) hoB hclB hg (hsize.trans hml.symm) (argsL := As) (rest := rest) (fun sig h => hn.trans (hlen sig h)) hstack hW (by rw [hb]; exact hdg)
    (fun vm₁ hW₁ => ⟨hf.1, hf.2, hPc (T.setVm vm₁) hT hW₁⟩)
  dsimp only [Pt.U, Pt.locs, Pt.cells, Pt.slots] at X' e1 e2 h1 h2 h3 st
  subst h1; subst h2; subst h3
  exact ⟨v, (T.setVm vm₁).calling g' mk (Value.ref b :: As).toArray, t, U', L, hT, X', hL, e1, e2, hq, st⟩
section
variable {y : MethodName} {bytes cc : ByteArray} {maxL nL mc ms n index : Nat} {ret : Option FieldType} {ws : List Cond} {rm : Room} {Pc : Array Value → State → Prop} {Qc : Array Value → State → Outcome → State → Prop} {XC : String → State → State → Prop} {free : Addr → Prop} {Ts : List Cond} {own C : String} {b : Addr} {As rest : List Value} {g : JFrame}
theorem vx_runVX {hh : List (Nat × Nat × Nat × Nat)} (S : CallFix p m c cc nL s args Ts own) (hM : vx_Met l y ws rm Pc Qc XC mc ms free) (cw : vx_CVW R s args own C index y bytes maxL ret hh ws rm mc ms n) (hp : PreV s H C b Pc As)
    (hg : g.method = m) (hn : As.length = n) (hsize : g.locals.size = nL) (hstack : g.stack = As.reverse ++ .ref b :: rest) (hW : 2 * g.monitorRoom + (rest.map fun v => v.category).sum ≤ 8) (hdg : decode cc g.pc = .ok (.invokevirtual index, 3)) (hf : cells + mc ≤ R.cells ∧ slots + ms ≤ R.slots) :
    vx_Run p l e R s m args below meth c H locs cells slots mc ms g rest (Qc (Value.ref b :: As).toArray) XC free := by
  obtain ⟨⟨hrc, hrs, hfr, hlo, hws, hcw⟩, hcode, hini, hy, hlen, hl, hin, hse⟩ := cw
  have hK : vx_Back l R p e below s args y 3 8 (PreOf R mc ms Pc) (PostOf Qc mc ms free) (vx_Post XC mc ms free) := vx_backW (hh := hh) (bytes := bytes) (maxL := maxL) (ret := ret) hM hp.1 hrc hrs hfr hlo hws hcw (fun a' U hW => word_at hW (Or.inl (by first | rfl | simp [Cond.onTables, Cond.keeps, Cond.steady])) hini)
  obtain ⟨hx, hb, hml, ho, -⟩ := S
  obtain ⟨-, ⟨cellB, hcB, hoB, hclB⟩, hPc⟩ := hp
  intro T hT X
  rcases vx_callVX X hx (C := C) (hh := hh) (bytes := bytes) (maxL := maxL) (ret := ret) ho hl hin hse hcode hy hK (by rw [hT]; exact hcB) hoB hclB hg (hsize.trans hml.symm) (argsL := As) (rest := rest) (fun sig h => hn.trans (hlen sig h)) hstack hW (by rw [hb]; exact hdg)
    (fun vm₁ hW₁ => ⟨hf.1, hf.2, hPc (T.setVm vm₁) hT hW₁⟩) with ⟨v, vm₁, ⟨U', l2, c2, s2⟩, hW₁, X', ⟨g', mk, t, L, e1, e2, hq, h1, hL, h2, h3⟩, st⟩ | ⟨q, vm₁, ⟨U', l2, c2, s2⟩, hW₁, X', ⟨g', mk, t, L, E, ce, e1, e2, hq, hce, hcv, hcl, h1, hL, h2, h3⟩, st⟩
  · dsimp only [Pt.U, Pt.locs, Pt.cells, Pt.slots] at X' e1 e2 h1 h2 h3 st
    subst h1; subst h2; subst h3
    exact Or.inl ⟨v, (T.setVm vm₁).calling g' mk (Value.ref b :: As).toArray, t, U', L, hT, X', hL, e1, e2, hq, st⟩
  · dsimp only [Pt.U, Pt.locs, Pt.cells, Pt.slots] at X' e1 e2 h1 h2 h3 st hcl
    subst h1; subst h2; subst h3
    exact Or.inr ⟨q, (T.setVm vm₁).calling g' mk (Value.ref b :: As).toArray, t, U', L, E, ce, hT, X', hL, e1, e2, hq, hce, hcv, vx_cls hW₁ hcl, st⟩
theorem vx_runSX {hh : List (Nat × Nat × Nat × Nat)} (S : CallFix p m c cc nL s args Ts own) (hM : vx_Met l y ws rm Pc Qc XC mc ms free) (cw : vx_CSW R s args own index y bytes maxL ret hh ws rm mc ms n) (hp : PreS s H Pc As)
    (hg : g.method = m) (hn : As.length = n) (hsize : g.locals.size = nL) (hstack : g.stack = As.reverse ++ rest) (hW : 2 * g.monitorRoom + (rest.map fun v => v.category).sum ≤ 8) (hdg : decode cc g.pc = .ok (.invokestatic index, 3)) (hf : cells + mc ≤ R.cells ∧ slots + ms ≤ R.slots) :
    vx_Run p l e R s m args below meth c H locs cells slots mc ms g rest (Qc As.toArray) XC free := by
  obtain ⟨⟨hrc, hrs, hfr, hlo, hws, hcw⟩, hcode, hini, hy, hlen, hl, hstt⟩ := cw
  have hK : vx_Back l R p e below s args y 3 8 (PreOf R mc ms Pc) (PostOf Qc mc ms free) (vx_Post XC mc ms free) := vx_backW (hh := hh) (bytes := bytes) (maxL := maxL) (ret := ret) hM hp.1 hrc hrs hfr hlo hws hcw (fun a' U hW => word_at hW (Or.inl (by first | rfl | simp [Cond.onTables, Cond.keeps, Cond.steady])) hini)
  obtain ⟨hx, hb, hml, ho, -⟩ := S
  intro T hT X
  rcases vx_callSX X hx (hh := hh) (bytes := bytes) (maxL := maxL) (ret := ret) ho hl hstt hini hcode hy hK hg (hsize.trans hml.symm) (argsL := As) (rest := rest) (fun sig h => hn.trans (hlen sig h)) hstack hW (by rw [hb]; exact hdg)
    (fun vm₁ hW₁ => ⟨hf.1, hf.2, hp.2 (T.setVm vm₁) hT hW₁⟩) with ⟨v, vm₁, ⟨U', l2, c2, s2⟩, hW₁, X', ⟨g', mk, t, L, e1, e2, hq, h1, hL, h2, h3⟩, st⟩ | ⟨q, vm₁, ⟨U', l2, c2, s2⟩, hW₁, X', ⟨g', mk, t, L, E, ce, e1, e2, hq, hce, hcv, hcl, h1, hL, h2, h3⟩, st⟩
  · dsimp only [Pt.U, Pt.locs, Pt.cells, Pt.slots] at X' e1 e2 h1 h2 h3 st
    subst h1; subst h2; subst h3
    exact Or.inl ⟨v, (T.setVm vm₁).calling g' mk As.toArray, t, U', L, hT, X', hL, e1, e2, hq, st⟩
  · dsimp only [Pt.U, Pt.locs, Pt.cells, Pt.slots] at X' e1 e2 h1 h2 h3 st hcl
    subst h1; subst h2; subst h3
    exact Or.inr ⟨q, (T.setVm vm₁).calling g' mk As.toArray, t, U', L, E, ce, hT, X', hL, e1, e2, hq, hce, hcv, vx_cls hW₁ hcl, st⟩
end
end VXH
theorem vx_ofWH {l : Launch} {y : MethodName} {ws ws' : List Cond} {rm : Room} {Pc : Array Value → State → Prop} {Qc : Array Value → State → Outcome → State → Prop} {XC : String → State → State → Prop} {mc ms : Nat} {free : Addr → Prop} {cc : ByteArray} {maxL : Nat} {ret : Option FieldType} {hh : List (Nat × Nat × Nat × Nat)}
    (hy : plainName y.cls = true) (hw : ws = Cond.codeWith y cc maxL ret hh :: ws')
    (body : ∀ p e s m args below meth c s₁, BodyLoose p l y (headSpec ws rm) cc maxL ret e s m args below meth c s₁ → c.maxLocals = maxL → Pc args s →
      W p l e (headSpec ws rm).room s m args below meth c s.heap [] 0 0 (vx_MQ below Qc XC args s mc ms free) (entryFrame m args maxL)) : vx_Met l y ws rm Pc Qc XC mc ms free := by
  refine MetFree.of_bodyS (code := cc) (maxLocals := maxL) (ret := ret) hy ?_ ?_
  · intro args s m h hn
    obtain ⟨m9, meth, c, hn9, h1, h2, h3, h4, -, h5, h6, -⟩ := Cond.codeWith_spec (atoms_spec (ws := ws) h _ (by rw [hw]; exact List.mem_cons_self))
    cases hn.symm.trans hn9
    exact ⟨meth, c, h1, h2, h3, h4, h5, h6⟩
  · intro p e s m args below meth c s₁ B hml hP _
    have hh0 : s₁.heap = s.heap := by rw [B.state]; rfl
    obtain ⟨t, a1, o, b1, b2, b3⟩ := body p e s m args below meth c s₁ B hml hP s₁ hh0 (Stand.of_body B)
    exact ⟨t, o, a1, b1, b2, b3⟩
/-! ===== END ===== -/

def RX0 : String := "EstateSettlement$Estate"
def TX0 : u_T := fun k => match k with
  | 0 => ("EstateSettlement$Estate", "personCount", "I", false)
  | 1 => ("EstateSettlement$Estate", "names", "[J", true)
  | 2 => ("EstateSettlement$Estate", "parents", "[I", true)
  | 3 => ("EstateSettlement$Estate", "spouse", "I", false)
  | 4 => ("EstateSettlement$Estate", "assetCount", "I", false)
  | 5 => ("EstateSettlement$Estate", "charges", "[I", true)
  | 6 => ("EstateSettlement$Estate", "legacyCount", "I", false)
  | 7 => ("EstateSettlement$Estate", "legatees", "[I", true)
  | 8 => ("EstateSettlement$Estate", "legacyAmounts", "[I", true)
  | 9 => ("EstateSettlement$Estate", "whole", "I", false)
  | 10 => ("EstateSettlement$Estate", "part", "I", false)
  | _ => ("EstateSettlement$Estate", "life", "I", false)
def tyX0 : Nat → FieldType := fun k => match k with
  | 0 => .int
  | 1 => .array .long
  | 2 => .array .int
  | 3 => .int
  | 4 => .int
  | 5 => .array .int
  | 6 => .int
  | 7 => .array .int
  | 8 => .array .int
  | 9 => .int
  | 10 => .int
  | _ => .int
abbrev wsX00 : List Cond := u_ws RX0 TX0 12
theorem nmX0 : ∀ a, a < 12 → ∀ b, b < 12 → a ≠ b → (TX0 a).2.1 ≠ (TX0 b).2.1 := by decide +kernel
theorem tyX0_ok : ∀ k, k < 12 → parseFieldDescriptor (TX0 k).2.2.1 = some (tyX0 k) := by decide +kernel
abbrev cX0_init : ByteArray := prog_2_method_1_code
def yX0_init : MethodName := ⟨RX0, "<init>", "()V"⟩
abbrev cX0_clear : ByteArray := prog_2_method_2_code
def yX0_clear : MethodName := ⟨RX0, "clear", "()V"⟩
abbrev cX0_copy : ByteArray := prog_2_method_3_code
def yX0_copy : MethodName := ⟨RX0, "copy", "(LEstateSettlement$Estate;)V"⟩
abbrev cX0_personNamed : ByteArray := prog_2_method_4_code
def yX0_personNamed : MethodName := ⟨RX0, "personNamed", "(J)I"⟩
abbrev cX0_childrenOf : ByteArray := prog_2_method_5_code
def yX0_childrenOf : MethodName := ⟨RX0, "childrenOf", "(I)I"⟩
abbrev cX0_putPerson : ByteArray := prog_2_method_6_code
def yX0_putPerson : MethodName := ⟨RX0, "putPerson", "(JI)V"⟩
abbrev cX0_putAsset : ByteArray := prog_2_method_7_code
def yX0_putAsset : MethodName := ⟨RX0, "putAsset", "(I)V"⟩
abbrev cX0_putLegacy : ByteArray := prog_2_method_8_code
def yX0_putLegacy : MethodName := ⟨RX0, "putLegacy", "(II)V"⟩
def RX1 : String := "EstateSettlement$Input"
def TX1 : u_T := fun k => match k with
  | 0 => ("EstateSettlement$Input", "bytes", "[B", true)
  | 1 => ("EstateSettlement$Input", "length", "I", false)
  | 2 => ("EstateSettlement$Input", "textLength", "I", false)
  | 3 => ("EstateSettlement$Input", "kind", "I", false)
  | 4 => ("EstateSettlement$Input", "start", "I", false)
  | _ => ("EstateSettlement$Input", "end", "I", false)
def tyX1 : Nat → FieldType := fun k => match k with
  | 0 => .array .byte
  | 1 => .int
  | 2 => .int
  | 3 => .int
  | 4 => .int
  | _ => .int
abbrev wsX10 : List Cond := u_ws RX1 TX1 6
theorem nmX1 : ∀ a, a < 6 → ∀ b, b < 6 → a ≠ b → (TX1 a).2.1 ≠ (TX1 b).2.1 := by decide +kernel
theorem tyX1_ok : ∀ k, k < 6 → parseFieldDescriptor (TX1 k).2.2.1 = some (tyX1 k) := by decide +kernel
abbrev cX1_init : ByteArray := prog_3_method_1_code
def yX1_init : MethodName := ⟨RX1, "<init>", "()V"⟩
abbrev cX1_hasRoom : ByteArray := prog_3_method_2_code
def yX1_hasRoom : MethodName := ⟨RX1, "hasRoom", "()Z"⟩
abbrev cX1_add : ByteArray := prog_3_method_3_code
def yX1_add : MethodName := ⟨RX1, "add", "(I)V"⟩
abbrev cX1_clear : ByteArray := prog_3_method_4_code
def yX1_clear : MethodName := ⟨RX1, "clear", "()V"⟩
abbrev cX1_open : ByteArray := prog_3_method_5_code
def yX1_open : MethodName := ⟨RX1, "open", "(I)V"⟩
abbrev cX1_advance : ByteArray := prog_3_method_6_code
def yX1_advance : MethodName := ⟨RX1, "advance", "()V"⟩
abbrev cX1_isWord : ByteArray := prog_3_method_7_code
def yX1_isWord : MethodName := ⟨RX1, "isWord", "(Ljava/lang/String;)Z"⟩
abbrev cX1_word : ByteArray := prog_3_method_8_code
def yX1_word : MethodName := ⟨RX1, "word", "()J"⟩
abbrev cX1_number : ByteArray := prog_3_method_9_code
def yX1_number : MethodName := ⟨RX1, "number", "()I"⟩
abbrev cX1_byteAt : ByteArray := prog_3_method_11_code
def yX1_byteAt : MethodName := ⟨RX1, "byteAt", "(I)I"⟩
abbrev cX1_kindAt : ByteArray := prog_3_method_12_code
def yX1_kindAt : MethodName := ⟨RX1, "kindAt", "(I)I"⟩
def RX2 : String := "EstateSettlement$Inventory"
def TX2 : u_T := fun k => match k with
  | 0 => ("EstateSettlement$Inventory", "netEstate", "I", false)
  | 1 => ("EstateSettlement$Inventory", "debtsPaid", "I", false)
  | 2 => ("EstateSettlement$Inventory", "debtsUnpaid", "I", false)
  | 3 => ("EstateSettlement$Inventory", "legaciesPaid", "I", false)
  | 4 => ("EstateSettlement$Inventory", "residue", "I", false)
  | 5 => ("EstateSettlement$Inventory", "debtPaid", "[I", true)
  | 6 => ("EstateSettlement$Inventory", "legacyPaid", "[I", true)
  | 7 => ("EstateSettlement$Inventory", "claims", "[I", true)
  | _ => ("EstateSettlement$Inventory", "parts", "[I", true)
def tyX2 : Nat → FieldType := fun k => match k with
  | 0 => .int
  | 1 => .int
  | 2 => .int
  | 3 => .int
  | 4 => .int
  | 5 => .array .int
  | 6 => .array .int
  | 7 => .array .int
  | _ => .array .int
abbrev wsX20 : List Cond := u_ws RX2 TX2 9
theorem nmX2 : ∀ a, a < 9 → ∀ b, b < 9 → a ≠ b → (TX2 a).2.1 ≠ (TX2 b).2.1 := by decide +kernel
theorem tyX2_ok : ∀ k, k < 9 → parseFieldDescriptor (TX2 k).2.2.1 = some (tyX2 k) := by decide +kernel
abbrev cX2_init : ByteArray := prog_4_method_1_code
def yX2_init : MethodName := ⟨RX2, "<init>", "()V"⟩
abbrev cX2_netValue : ByteArray := prog_4_method_2_code
def yX2_netValue : MethodName := ⟨RX2, "netValue", "(LEstateSettlement$Estate;LEstateSettlement$State;I)I"⟩
abbrev cX2_addUpAssets : ByteArray := prog_4_method_3_code
def yX2_addUpAssets : MethodName := ⟨RX2, "addUpAssets", "(LEstateSettlement$Estate;LEstateSettlement$State;)V"⟩
abbrev cX2_payDebts : ByteArray := prog_4_method_4_code
def yX2_payDebts : MethodName := ⟨RX2, "payDebts", "(LEstateSettlement$State;)V"⟩
abbrev cX2_claimDebts : ByteArray := prog_4_method_5_code
def yX2_claimDebts : MethodName := ⟨RX2, "claimDebts", "(LEstateSettlement$State;I)V"⟩
abbrev cX2_payLegacies : ByteArray := prog_4_method_6_code
def yX2_payLegacies : MethodName := ⟨RX2, "payLegacies", "(LEstateSettlement$Estate;LEstateSettlement$State;)V"⟩
def RX3 : String := "EstateSettlement$Lines"
def TX3 : u_T := fun k => match k with
  | 0 => ("EstateSettlement$Lines", "heirs", "I", false)
  | 1 => ("EstateSettlement$Lines", "notEmpty", "I", false)
  | 2 => ("EstateSettlement$Lines", "openLines", "[I", true)
  | 3 => ("EstateSettlement$Lines", "divisors", "[I", true)
  | _ => ("EstateSettlement$Lines", "weights", "[I", true)
def tyX3 : Nat → FieldType := fun k => match k with
  | 0 => .int
  | 1 => .int
  | 2 => .array .int
  | 3 => .array .int
  | _ => .array .int
abbrev wsX30 : List Cond := u_ws RX3 TX3 5
theorem nmX3 : ∀ a, a < 5 → ∀ b, b < 5 → a ≠ b → (TX3 a).2.1 ≠ (TX3 b).2.1 := by decide +kernel
theorem tyX3_ok : ∀ k, k < 5 → parseFieldDescriptor (TX3 k).2.2.1 = some (tyX3 k) := by decide +kernel
abbrev cX3_init : ByteArray := prog_5_method_1_code
def yX3_init : MethodName := ⟨RX3, "<init>", "()V"⟩
abbrev cX3_findOpenLines : ByteArray := prog_5_method_2_code
def yX3_findOpenLines : MethodName := ⟨RX3, "findOpenLines", "(LEstateSettlement$Estate;LEstateSettlement$State;)V"⟩
abbrev cX3_countLine : ByteArray := prog_5_method_3_code
def yX3_countLine : MethodName := ⟨RX3, "countLine", "(I)V"⟩
abbrev cX3_findHeirs : ByteArray := prog_5_method_4_code
def yX3_findHeirs : MethodName := ⟨RX3, "findHeirs", "(LEstateSettlement$Estate;LEstateSettlement$State;)V"⟩
abbrev cX3_divisorBelow : ByteArray := prog_5_method_5_code
def yX3_divisorBelow : MethodName := ⟨RX3, "divisorBelow", "(LEstateSettlement$State;I)I"⟩
abbrev cX3_findWeights : ByteArray := prog_5_method_6_code
def yX3_findWeights : MethodName := ⟨RX3, "findWeights", "()V"⟩
def RX4 : String := "EstateSettlement$Memory"
def TX4 : u_T := fun k => match k with
  | 0 => ("EstateSettlement$Memory", "undoRows", "[I", true)
  | 1 => ("EstateSettlement$Memory", "slotRows", "[I", true)
  | 2 => ("EstateSettlement$Memory", "undoCount", "I", false)
  | _ => ("EstateSettlement$Memory", "usedSlots", "I", false)
def tyX4 : Nat → FieldType := fun k => match k with
  | 0 => .array .int
  | 1 => .array .int
  | 2 => .int
  | _ => .int
abbrev wsX40 : List Cond := u_ws RX4 TX4 4
theorem nmX4 : ∀ a, a < 4 → ∀ b, b < 4 → a ≠ b → (TX4 a).2.1 ≠ (TX4 b).2.1 := by decide +kernel
theorem tyX4_ok : ∀ k, k < 4 → parseFieldDescriptor (TX4 k).2.2.1 = some (tyX4 k) := by decide +kernel
abbrev cX4_init : ByteArray := prog_6_method_1_code
def yX4_init : MethodName := ⟨RX4, "<init>", "()V"⟩
abbrev cX4_clearUndo : ByteArray := prog_6_method_2_code
def yX4_clearUndo : MethodName := ⟨RX4, "clearUndo", "()V"⟩
abbrev cX4_clearSlots : ByteArray := prog_6_method_3_code
def yX4_clearSlots : MethodName := ⟨RX4, "clearSlots", "()V"⟩
abbrev cX4_remember : ByteArray := prog_6_method_4_code
def yX4_remember : MethodName := ⟨RX4, "remember", "(LEstateSettlement$State;)V"⟩
def RX5 : String := "EstateSettlement$Parser"
def TX5 : u_T := fun k => match k with
  | 0 => ("EstateSettlement$Parser", "input", "LEstateSettlement$Input;", true)
  | 1 => ("EstateSettlement$Parser", "estate", "LEstateSettlement$Estate;", true)
  | 2 => ("EstateSettlement$Parser", "state", "LEstateSettlement$State;", true)
  | 3 => ("EstateSettlement$Parser", "errorPosition", "I", false)
  | 4 => ("EstateSettlement$Parser", "errorCode", "I", false)
  | 5 => ("EstateSettlement$Parser", "shareRead", "Z", false)
  | 6 => ("EstateSettlement$Parser", "lifeRead", "Z", false)
  | 7 => ("EstateSettlement$Parser", "accrueRead", "Z", false)
  | 8 => ("EstateSettlement$Parser", "numberRead", "I", false)
  | _ => ("EstateSettlement$Parser", "personRead", "I", false)
def tyX5 : Nat → FieldType := fun k => match k with
  | 0 => .object "EstateSettlement$Input"
  | 1 => .object "EstateSettlement$Estate"
  | 2 => .object "EstateSettlement$State"
  | 3 => .int
  | 4 => .int
  | 5 => .boolean
  | 6 => .boolean
  | 7 => .boolean
  | 8 => .int
  | _ => .int
abbrev wsX50 : List Cond := u_ws RX5 TX5 10
theorem nmX5 : ∀ a, a < 10 → ∀ b, b < 10 → a ≠ b → (TX5 a).2.1 ≠ (TX5 b).2.1 := by decide +kernel
theorem tyX5_ok : ∀ k, k < 10 → parseFieldDescriptor (TX5 k).2.2.1 = some (tyX5 k) := by decide +kernel
abbrev cX5_init : ByteArray := prog_7_method_1_code
def yX5_init : MethodName := ⟨RX5, "<init>", "()V"⟩
abbrev cX5_read : ByteArray := prog_7_method_2_code
def yX5_read : MethodName := ⟨RX5, "read", "(I)I"⟩
abbrev cX5_fail : ByteArray := prog_7_method_3_code
def yX5_fail : MethodName := ⟨RX5, "fail", "(I)Z"⟩
abbrev cX5_readStatement : ByteArray := prog_7_method_4_code
def yX5_readStatement : MethodName := ⟨RX5, "readStatement", "()Z"⟩
abbrev cX5_readSemicolon : ByteArray := prog_7_method_5_code
def yX5_readSemicolon : MethodName := ⟨RX5, "readSemicolon", "()Z"⟩
abbrev cX5_readPerson : ByteArray := prog_7_method_6_code
def yX5_readPerson : MethodName := ⟨RX5, "readPerson", "()Z"⟩
abbrev cX5_readStanding : ByteArray := prog_7_method_7_code
def yX5_readStanding : MethodName := ⟨RX5, "readStanding", "(II)Z"⟩
abbrev cX5_readAsset : ByteArray := prog_7_method_8_code
def yX5_readAsset : MethodName := ⟨RX5, "readAsset", "()Z"⟩
abbrev cX5_readDebt : ByteArray := prog_7_method_9_code
def yX5_readDebt : MethodName := ⟨RX5, "readDebt", "()Z"⟩
abbrev cX5_readGift : ByteArray := prog_7_method_10_code
def yX5_readGift : MethodName := ⟨RX5, "readGift", "()Z"⟩
abbrev cX5_readLegacy : ByteArray := prog_7_method_11_code
def yX5_readLegacy : MethodName := ⟨RX5, "readLegacy", "()Z"⟩
abbrev cX5_readShare : ByteArray := prog_7_method_12_code
def yX5_readShare : MethodName := ⟨RX5, "readShare", "()Z"⟩
abbrev cX5_readLife : ByteArray := prog_7_method_13_code
def yX5_readLife : MethodName := ⟨RX5, "readLife", "()Z"⟩
abbrev cX5_readAccrue : ByteArray := prog_7_method_14_code
def yX5_readAccrue : MethodName := ⟨RX5, "readAccrue", "()Z"⟩
abbrev cX5_readNumber : ByteArray := prog_7_method_15_code
def yX5_readNumber : MethodName := ⟨RX5, "readNumber", "(II)Z"⟩
abbrev cX5_readKnownPerson : ByteArray := prog_7_method_16_code
def yX5_readKnownPerson : MethodName := ⟨RX5, "readKnownPerson", "(I)Z"⟩
def RX6 : String := "EstateSettlement$Portions"
def TX6 : u_T := fun k => match k with
  | 0 => ("EstateSettlement$Portions", "leftOut", "I", false)
  | 1 => ("EstateSettlement$Portions", "pot", "I", false)
  | 2 => ("EstateSettlement$Portions", "weightSum", "I", false)
  | 3 => ("EstateSettlement$Portions", "gifts", "[I", true)
  | 4 => ("EstateSettlement$Portions", "weights", "[I", true)
  | _ => ("EstateSettlement$Portions", "parts", "[I", true)
def tyX6 : Nat → FieldType := fun k => match k with
  | 0 => .int
  | 1 => .int
  | 2 => .int
  | 3 => .array .int
  | 4 => .array .int
  | _ => .array .int
abbrev wsX60 : List Cond := u_ws RX6 TX6 6
theorem nmX6 : ∀ a, a < 6 → ∀ b, b < 6 → a ≠ b → (TX6 a).2.1 ≠ (TX6 b).2.1 := by decide +kernel
theorem tyX6_ok : ∀ k, k < 6 → parseFieldDescriptor (TX6 k).2.2.1 = some (tyX6 k) := by decide +kernel
abbrev cX6_init : ByteArray := prog_8_method_1_code
def yX6_init : MethodName := ⟨RX6, "<init>", "()V"⟩
abbrev cX6_bring : ByteArray := prog_8_method_2_code
def yX6_bring : MethodName := ⟨RX6, "bring", "(LEstateSettlement$State;)V"⟩
abbrev cX6_bringFurther : ByteArray := prog_8_method_3_code
def yX6_bringFurther : MethodName := ⟨RX6, "bringFurther", "(II)V"⟩
abbrev cX6_divide : ByteArray := prog_8_method_4_code
def yX6_divide : MethodName := ⟨RX6, "divide", "(ILEstateSettlement$Lines;)V"⟩
abbrev cX6_due : ByteArray := prog_8_method_5_code
def yX6_due : MethodName := ⟨RX6, "due", "(I)I"⟩
abbrev cX6_cent : ByteArray := prog_8_method_6_code
def yX6_cent : MethodName := ⟨RX6, "cent", "(I)I"⟩
abbrev cX6_fromFund : ByteArray := prog_8_method_7_code
def yX6_fromFund : MethodName := ⟨RX6, "fromFund", "(I)I"⟩
abbrev cX6_isInAccount : ByteArray := prog_8_method_8_code
def yX6_isInAccount : MethodName := ⟨RX6, "isInAccount", "(I)Z"⟩
abbrev cX6_reckon : ByteArray := prog_8_method_9_code
def yX6_reckon : MethodName := ⟨RX6, "reckon", "(I)V"⟩
abbrev cX6_findOverpaid : ByteArray := prog_8_method_10_code
def yX6_findOverpaid : MethodName := ⟨RX6, "findOverpaid", "()I"⟩
def RX7 : String := "EstateSettlement$Settlement"
def TX7 : u_T := fun k => match k with
  | 0 => ("EstateSettlement$Settlement", "inventory", "LEstateSettlement$Inventory;", true)
  | 1 => ("EstateSettlement$Settlement", "lines", "LEstateSettlement$Lines;", true)
  | 2 => ("EstateSettlement$Settlement", "portions", "LEstateSettlement$Portions;", true)
  | 3 => ("EstateSettlement$Settlement", "spouseShare", "I", false)
  | 4 => ("EstateSettlement$Settlement", "burdened", "I", false)
  | 5 => ("EstateSettlement$Settlement", "worth", "I", false)
  | 6 => ("EstateSettlement$Settlement", "fund", "I", false)
  | _ => ("EstateSettlement$Settlement", "toTheState", "I", false)
def tyX7 : Nat → FieldType := fun k => match k with
  | 0 => .object "EstateSettlement$Inventory"
  | 1 => .object "EstateSettlement$Lines"
  | 2 => .object "EstateSettlement$Portions"
  | 3 => .int
  | 4 => .int
  | 5 => .int
  | 6 => .int
  | _ => .int
abbrev wsX70 : List Cond := u_ws RX7 TX7 8
theorem nmX7 : ∀ a, a < 8 → ∀ b, b < 8 → a ≠ b → (TX7 a).2.1 ≠ (TX7 b).2.1 := by decide +kernel
theorem tyX7_ok : ∀ k, k < 8 → parseFieldDescriptor (TX7 k).2.2.1 = some (tyX7 k) := by decide +kernel
abbrev cX7_init : ByteArray := prog_9_method_1_code
def yX7_init : MethodName := ⟨RX7, "<init>", "()V"⟩
abbrev cX7_lifeFactor : ByteArray := prog_9_method_2_code
def yX7_lifeFactor : MethodName := ⟨RX7, "lifeFactor", "(I)I"⟩
abbrev cX7_settle : ByteArray := prog_9_method_3_code
def yX7_settle : MethodName := ⟨RX7, "settle", "(LEstateSettlement$Estate;LEstateSettlement$State;)V"⟩
abbrev cX7_givenTo : ByteArray := prog_9_method_4_code
def yX7_givenTo : MethodName := ⟨RX7, "givenTo", "(LEstateSettlement$Estate;I)I"⟩
abbrev cX7_divideResidue : ByteArray := prog_9_method_5_code
def yX7_divideResidue : MethodName := ⟨RX7, "divideResidue", "(LEstateSettlement$Estate;LEstateSettlement$State;)V"⟩
def RX8 : String := "EstateSettlement$State"
def TX8 : u_T := fun k => match k with
  | _ => ("EstateSettlement$State", "cells", "[I", true)
def tyX8 : Nat → FieldType := fun k => match k with
  | _ => .array .int
abbrev wsX80 : List Cond := u_ws RX8 TX8 1
theorem nmX8 : ∀ a, a < 1 → ∀ b, b < 1 → a ≠ b → (TX8 a).2.1 ≠ (TX8 b).2.1 := by decide +kernel
theorem tyX8_ok : ∀ k, k < 1 → parseFieldDescriptor (TX8 k).2.2.1 = some (tyX8 k) := by decide +kernel
abbrev cX8_init : ByteArray := prog_10_method_1_code
def yX8_init : MethodName := ⟨RX8, "<init>", "()V"⟩
abbrev cX8_clear : ByteArray := prog_10_method_2_code
def yX8_clear : MethodName := ⟨RX8, "clear", "()V"⟩
abbrev cX8_copy : ByteArray := prog_10_method_3_code
def yX8_copy : MethodName := ⟨RX8, "copy", "(LEstateSettlement$State;)V"⟩
abbrev cX8_writeTo : ByteArray := prog_10_method_4_code
def yX8_writeTo : MethodName := ⟨RX8, "writeTo", "([II)V"⟩
abbrev cX8_age : ByteArray := prog_10_method_6_code
def yX8_age : MethodName := ⟨RX8, "age", "(I)I"⟩
abbrev cX8_isDead : ByteArray := prog_10_method_7_code
def yX8_isDead : MethodName := ⟨RX8, "isDead", "(I)Z"⟩
abbrev cX8_isRefusing : ByteArray := prog_10_method_8_code
def yX8_isRefusing : MethodName := ⟨RX8, "isRefusing", "(I)Z"⟩
abbrev cX8_takes : ByteArray := prog_10_method_9_code
def yX8_takes : MethodName := ⟨RX8, "takes", "(I)Z"⟩
abbrev cX8_passesOn : ByteArray := prog_10_method_10_code
def yX8_passesOn : MethodName := ⟨RX8, "passesOn", "(I)Z"⟩
abbrev cX8_accruesInLine : ByteArray := prog_10_method_11_code
def yX8_accruesInLine : MethodName := ⟨RX8, "accruesInLine", "()Z"⟩
abbrev cX8_value : ByteArray := prog_10_method_12_code
def yX8_value : MethodName := ⟨RX8, "value", "(I)I"⟩
abbrev cX8_giftCount : ByteArray := prog_10_method_13_code
def yX8_giftCount : MethodName := ⟨RX8, "giftCount", "()I"⟩
abbrev cX8_giftsTo : ByteArray := prog_10_method_14_code
def yX8_giftsTo : MethodName := ⟨RX8, "giftsTo", "(I)I"⟩
abbrev cX8_debtCount : ByteArray := prog_10_method_15_code
def yX8_debtCount : MethodName := ⟨RX8, "debtCount", "()I"⟩
abbrev cX8_debtRank : ByteArray := prog_10_method_16_code
def yX8_debtRank : MethodName := ⟨RX8, "debtRank", "(I)I"⟩
abbrev cX8_debtAmount : ByteArray := prog_10_method_17_code
def yX8_debtAmount : MethodName := ⟨RX8, "debtAmount", "(I)I"⟩
abbrev cX8_putAge : ByteArray := prog_10_method_18_code
def yX8_putAge : MethodName := ⟨RX8, "putAge", "(II)V"⟩
abbrev cX8_putDead : ByteArray := prog_10_method_19_code
def yX8_putDead : MethodName := ⟨RX8, "putDead", "(I)V"⟩
abbrev cX8_putRefusing : ByteArray := prog_10_method_20_code
def yX8_putRefusing : MethodName := ⟨RX8, "putRefusing", "(IZ)V"⟩
abbrev cX8_putAccrual : ByteArray := prog_10_method_21_code
def yX8_putAccrual : MethodName := ⟨RX8, "putAccrual", "(Z)V"⟩
abbrev cX8_putValue : ByteArray := prog_10_method_22_code
def yX8_putValue : MethodName := ⟨RX8, "putValue", "(II)V"⟩
abbrev cX8_putGift : ByteArray := prog_10_method_23_code
def yX8_putGift : MethodName := ⟨RX8, "putGift", "(II)V"⟩
abbrev cX8_putDebt : ByteArray := prog_10_method_24_code
def yX8_putDebt : MethodName := ⟨RX8, "putDebt", "(II)V"⟩
abbrev cX8_cell : ByteArray := prog_10_method_25_code
def yX8_cell : MethodName := ⟨RX8, "cell", "(III)I"⟩
abbrev cX8_putCell : ByteArray := prog_10_method_26_code
def yX8_putCell : MethodName := ⟨RX8, "putCell", "(IIII)V"⟩
def RX9 : String := "EstateSettlement"
def TX9 : u_T := fun k => match k with
  | 0 => ("EstateSettlement", "parser", "LEstateSettlement$Parser;", true)
  | 1 => ("EstateSettlement", "estate", "LEstateSettlement$Estate;", true)
  | 2 => ("EstateSettlement", "state", "LEstateSettlement$State;", true)
  | 3 => ("EstateSettlement", "settlement", "LEstateSettlement$Settlement;", true)
  | 4 => ("EstateSettlement", "trialState", "LEstateSettlement$State;", true)
  | 5 => ("EstateSettlement", "trial", "LEstateSettlement$Settlement;", true)
  | 6 => ("EstateSettlement", "memory", "LEstateSettlement$Memory;", true)
  | _ => ("EstateSettlement", "lastErrorPosition", "I", false)
def tyX9 : Nat → FieldType := fun k => match k with
  | 0 => .object "EstateSettlement$Parser"
  | 1 => .object "EstateSettlement$Estate"
  | 2 => .object "EstateSettlement$State"
  | 3 => .object "EstateSettlement$Settlement"
  | 4 => .object "EstateSettlement$State"
  | 5 => .object "EstateSettlement$Settlement"
  | 6 => .object "EstateSettlement$Memory"
  | _ => .int
abbrev wsX90 : List Cond := u_ws RX9 TX9 8
theorem nmX9 : ∀ a, a < 8 → ∀ b, b < 8 → a ≠ b → (TX9 a).2.1 ≠ (TX9 b).2.1 := by decide +kernel
theorem tyX9_ok : ∀ k, k < 8 → parseFieldDescriptor (TX9 k).2.2.1 = some (tyX9 k) := by decide +kernel
abbrev cX9_init : ByteArray := prog_1_method_1_code
def yX9_init : MethodName := ⟨RX9, "<init>", "()V"⟩
abbrev cX9_append : ByteArray := prog_1_method_2_code
def yX9_append : MethodName := ⟨RX9, "append", "(IIIII)I"⟩
abbrev cX9_parse : ByteArray := prog_1_method_3_code
def yX9_parse : MethodName := ⟨RX9, "parse", "(I)I"⟩
abbrev cX9_size : ByteArray := prog_1_method_5_code
def yX9_size : MethodName := ⟨RX9, "size", "(I)I"⟩
abbrev cX9_person : ByteArray := prog_1_method_7_code
def yX9_person : MethodName := ⟨RX9, "person", "(II)I"⟩
abbrev cX9_debt : ByteArray := prog_1_method_9_code
def yX9_debt : MethodName := ⟨RX9, "debt", "(II)I"⟩
abbrev cX9_legacy : ByteArray := prog_1_method_10_code
def yX9_legacy : MethodName := ⟨RX9, "legacy", "(II)I"⟩
abbrev cX9_account : ByteArray := prog_1_method_11_code
def yX9_account : MethodName := ⟨RX9, "account", "(I)I"⟩
abbrev cX9_heirs : ByteArray := prog_1_method_13_code
def yX9_heirs : MethodName := ⟨RX9, "heirs", "()I"⟩
abbrev cX9_leftOut : ByteArray := prog_1_method_14_code
def yX9_leftOut : MethodName := ⟨RX9, "leftOut", "()I"⟩
abbrev cX9_isEmpty : ByteArray := prog_1_method_15_code
def yX9_isEmpty : MethodName := ⟨RX9, "isEmpty", "(I)Z"⟩
abbrev cX9_step : ByteArray := prog_1_method_16_code
def yX9_step : MethodName := ⟨RX9, "step", "(II)I"⟩
abbrev cX9_given : ByteArray := prog_1_method_17_code
def yX9_given : MethodName := ⟨RX9, "given", "(I)I"⟩
abbrev cX9_isBalanced : ByteArray := prog_1_method_18_code
def yX9_isBalanced : MethodName := ⟨RX9, "isBalanced", "()Z"⟩
abbrev cX9_givenIf : ByteArray := prog_1_method_19_code
def yX9_givenIf : MethodName := ⟨RX9, "givenIf", "(II)I"⟩
abbrev cX9_helper : ByteArray := prog_1_method_20_code
def yX9_helper : MethodName := ⟨RX9, "helper", "(I)I"⟩
abbrev cX9_tooMuch : ByteArray := prog_1_method_21_code
def yX9_tooMuch : MethodName := ⟨RX9, "tooMuch", "(I)I"⟩
abbrev cX9_givenIfRefused : ByteArray := prog_1_method_22_code
def yX9_givenIfRefused : MethodName := ⟨RX9, "givenIfRefused", "(II)I"⟩
abbrev cX9_isLeftOutWith : ByteArray := prog_1_method_23_code
def yX9_isLeftOutWith : MethodName := ⟨RX9, "isLeftOutWith", "(II)Z"⟩
abbrev cX9_refuse : ByteArray := prog_1_method_24_code
def yX9_refuse : MethodName := ⟨RX9, "refuse", "(IZ)Z"⟩
abbrev cX9_die : ByteArray := prog_1_method_25_code
def yX9_die : MethodName := ⟨RX9, "die", "(I)I"⟩
abbrev cX9_setAge : ByteArray := prog_1_method_26_code
def yX9_setAge : MethodName := ⟨RX9, "setAge", "(II)I"⟩
abbrev cX9_addGift : ByteArray := prog_1_method_27_code
def yX9_addGift : MethodName := ⟨RX9, "addGift", "(II)I"⟩
abbrev cX9_setValue : ByteArray := prog_1_method_29_code
def yX9_setValue : MethodName := ⟨RX9, "setValue", "(II)I"⟩
abbrev cX9_setAccrue : ByteArray := prog_1_method_30_code
def yX9_setAccrue : MethodName := ⟨RX9, "setAccrue", "(Z)I"⟩
abbrev cX9_requirePerson : ByteArray := prog_1_method_34_code
def yX9_requirePerson : MethodName := ⟨RX9, "requirePerson", "(I)V"⟩
abbrev cX9_requireAsset : ByteArray := prog_1_method_35_code
def yX9_requireAsset : MethodName := ⟨RX9, "requireAsset", "(I)V"⟩
abbrev cX9_requireWhat : ByteArray := prog_1_method_37_code
def yX9_requireWhat : MethodName := ⟨RX9, "requireWhat", "(II)V"⟩
abbrev cX9_requireRange : ByteArray := prog_1_method_38_code
def yX9_requireRange : MethodName := ⟨RX9, "requireRange", "(III)V"⟩
abbrev cX9_at : ByteArray := prog_1_method_39_code
def yX9_at : MethodName := ⟨RX9, "at", "([II)I"⟩
abbrev cX9_asInt : ByteArray := prog_1_method_40_code
def yX9_asInt : MethodName := ⟨RX9, "asInt", "(Z)I"⟩
abbrev cX9_hasBit : ByteArray := prog_1_method_41_code
def yX9_hasBit : MethodName := ⟨RX9, "hasBit", "(II)Z"⟩
abbrev cX9_portion : ByteArray := prog_1_method_42_code
def yX9_portion : MethodName := ⟨RX9, "portion", "(III)I"⟩
abbrev cX9_greatestCommonDivisor : ByteArray := prog_1_method_43_code
def yX9_greatestCommonDivisor : MethodName := ⟨RX9, "greatestCommonDivisor", "(II)I"⟩
abbrev cX9_leastCommonMultiple : ByteArray := prog_1_method_44_code
def yX9_leastCommonMultiple : MethodName := ⟨RX9, "leastCommonMultiple", "(II)I"⟩
abbrev cX9_sumOf : ByteArray := prog_1_method_45_code
def yX9_sumOf : MethodName := ⟨RX9, "sumOf", "([I)I"⟩
abbrev cX9_split : ByteArray := prog_1_method_46_code
def yX9_split : MethodName := ⟨RX9, "split", "(I[I[I)V"⟩
def RX10 : String := "EstateSettlementLaw$Estate"
def TX10 : u_T := fun k => match k with
  | 0 => ("EstateSettlementLaw$Estate", "persons", "I", false)
  | 1 => ("EstateSettlementLaw$Estate", "spouse", "I", false)
  | 2 => ("EstateSettlementLaw$Estate", "whole", "I", false)
  | 3 => ("EstateSettlementLaw$Estate", "part", "I", false)
  | 4 => ("EstateSettlementLaw$Estate", "life", "I", false)
  | 5 => ("EstateSettlementLaw$Estate", "line", "Z", false)
  | 6 => ("EstateSettlementLaw$Estate", "parent", "[I", true)
  | 7 => ("EstateSettlementLaw$Estate", "age", "[I", true)
  | 8 => ("EstateSettlementLaw$Estate", "dead", "[Z", true)
  | 9 => ("EstateSettlementLaw$Estate", "refuses", "[Z", true)
  | 10 => ("EstateSettlementLaw$Estate", "assets", "[[I", false)
  | 11 => ("EstateSettlementLaw$Estate", "debts", "[[I", false)
  | 12 => ("EstateSettlementLaw$Estate", "gifts", "[[I", false)
  | 13 => ("EstateSettlementLaw$Estate", "legacies", "[[I", false)
  | 14 => ("EstateSettlementLaw$Estate", "paid", "[I", false)
  | 15 => ("EstateSettlementLaw$Estate", "bequeathed", "[I", false)
  | 16 => ("EstateSettlementLaw$Estate", "divisors", "[I", false)
  | 17 => ("EstateSettlementLaw$Estate", "got", "[I", false)
  | 18 => ("EstateSettlementLaw$Estate", "weights", "[I", false)
  | 19 => ("EstateSettlementLaw$Estate", "dues", "[I", false)
  | 20 => ("EstateSettlementLaw$Estate", "out", "[Z", false)
  | 21 => ("EstateSettlementLaw$Estate", "cents", "[Z", false)
  | 22 => ("EstateSettlementLaw$Estate", "net", "J", false)
  | 23 => ("EstateSettlementLaw$Estate", "owed", "J", false)
  | 24 => ("EstateSettlementLaw$Estate", "residue", "J", false)
  | 25 => ("EstateSettlementLaw$Estate", "widow", "J", false)
  | 26 => ("EstateSettlementLaw$Estate", "burden", "J", false)
  | 27 => ("EstateSettlementLaw$Estate", "worth", "J", false)
  | 28 => ("EstateSettlementLaw$Estate", "fund", "J", false)
  | 29 => ("EstateSettlementLaw$Estate", "state", "J", false)
  | _ => ("EstateSettlementLaw$Estate", "pot", "J", false)
def tyX10 : Nat → FieldType := fun k => match k with
  | 0 => .int
  | 1 => .int
  | 2 => .int
  | 3 => .int
  | 4 => .int
  | 5 => .boolean
  | 6 => .array .int
  | 7 => .array .int
  | 8 => .array .boolean
  | 9 => .array .boolean
  | 10 => .array (.array .int)
  | 11 => .array (.array .int)
  | 12 => .array (.array .int)
  | 13 => .array (.array .int)
  | 14 => .array .int
  | 15 => .array .int
  | 16 => .array .int
  | 17 => .array .int
  | 18 => .array .int
  | 19 => .array .int
  | 20 => .array .boolean
  | 21 => .array .boolean
  | 22 => .long
  | 23 => .long
  | 24 => .long
  | 25 => .long
  | 26 => .long
  | 27 => .long
  | 28 => .long
  | 29 => .long
  | _ => .long
abbrev wsX100 : List Cond := u_ws RX10 TX10 31
theorem nmX10 : ∀ a, a < 31 → ∀ b, b < 31 → a ≠ b → (TX10 a).2.1 ≠ (TX10 b).2.1 := by decide +kernel
theorem tyX10_ok : ∀ k, k < 31 → parseFieldDescriptor (TX10 k).2.2.1 = some (tyX10 k) := by decide +kernel
abbrev cX10_init : ByteArray := prog_12_method_1_code
def yX10_init : MethodName := ⟨RX10, "<init>", "()V"⟩
abbrev cX10_takes : ByteArray := prog_12_method_2_code
def yX10_takes : MethodName := ⟨RX10, "takes", "(I)Z"⟩
abbrev cX10_isEmpty : ByteArray := prog_12_method_3_code
def yX10_isEmpty : MethodName := ⟨RX10, "isEmpty", "(I)Z"⟩
abbrev cX10_lines : ByteArray := prog_12_method_4_code
def yX10_lines : MethodName := ⟨RX10, "lines", "(I)I"⟩
abbrev cX10_goes : ByteArray := prog_12_method_5_code
def yX10_goes : MethodName := ⟨RX10, "goes", "(II)V"⟩
abbrev cX10_splits : ByteArray := prog_12_method_6_code
def yX10_splits : MethodName := ⟨RX10, "splits", "(J[J)[I"⟩
abbrev cX10_gift : ByteArray := prog_12_method_7_code
def yX10_gift : MethodName := ⟨RX10, "gift", "(I)I"⟩
abbrev cX10_factor : ByteArray := prog_12_method_8_code
def yX10_factor : MethodName := ⟨RX10, "factor", "(I)I"⟩
abbrev cX10_settles : ByteArray := prog_12_method_9_code
def yX10_settles : MethodName := ⟨RX10, "settles", "()V"⟩
abbrev cX10_shares : ByteArray := prog_12_method_10_code
def yX10_shares : MethodName := ⟨RX10, "shares", "()V"⟩
abbrev cX10_given : ByteArray := prog_12_method_11_code
def yX10_given : MethodName := ⟨RX10, "given", "(I)I"⟩
abbrev cX10_set : ByteArray := prog_12_method_12_code
def yX10_set : MethodName := ⟨RX10, "set", "(Z)I"⟩
def RX11 : String := "EstateSettlementModel"
def TX11 : u_T := fun k => match k with
  | _ => ("", "", "", false)
def tyX11 : Nat → FieldType := fun k => match k with
  | _ => .int
abbrev wsX110 : List Cond := u_ws RX11 TX11 0
theorem nmX11 : ∀ a, a < 0 → ∀ b, b < 0 → a ≠ b → (TX11 a).2.1 ≠ (TX11 b).2.1 := by decide +kernel
theorem tyX11_ok : ∀ k, k < 0 → parseFieldDescriptor (TX11 k).2.2.1 = some (tyX11 k) := by decide +kernel
def RJ5 : String := "java/lang/AbstractStringBuilder"
def TJ5 : u_T := fun k => match k with
  | _ => ("", "", "", false)
def tyJ5 : Nat → FieldType := fun k => match k with
  | _ => .int
abbrev wsJ50 : List Cond := u_ws RJ5 TJ5 0
theorem nmJ5 : ∀ a, a < 0 → ∀ b, b < 0 → a ≠ b → (TJ5 a).2.1 ≠ (TJ5 b).2.1 := by decide +kernel
theorem tyJ5_ok : ∀ k, k < 0 → parseFieldDescriptor (TJ5 k).2.2.1 = some (tyJ5 k) := by decide +kernel
abbrev cJ5_init_d00df : ByteArray := prog_14_method_2_code
def yJ5_init_d00df : MethodName := ⟨RJ5, "<init>", "(I)V"⟩
abbrev cJ5_length_8abf5 : ByteArray := prog_14_method_6_code
def yJ5_length_8abf5 : MethodName := ⟨RJ5, "length", "()I"⟩
abbrev cJ5_ensureCapacityInternal_d00df : ByteArray := prog_14_method_9_code
def yJ5_ensureCapacityInternal_d00df : MethodName := ⟨RJ5, "ensureCapacityInternal", "(I)V"⟩
abbrev cJ5_newCapacity_0f7a4 : ByteArray := prog_14_method_10_code
def yJ5_newCapacity_0f7a4 : MethodName := ⟨RJ5, "newCapacity", "(I)I"⟩
abbrev cJ5_inflate_da8c8 : ByteArray := prog_14_method_11_code
def yJ5_inflate_da8c8 : MethodName := ⟨RJ5, "inflate", "()V"⟩
abbrev cJ5_append_cf1ce : ByteArray := prog_14_method_22_code
def yJ5_append_cf1ce : MethodName := ⟨RJ5, "append", "(Ljava/lang/String;)Ljava/lang/AbstractStringBuilder;"⟩
abbrev cJ5_appendNull_278bc : ByteArray := prog_14_method_26_code
def yJ5_appendNull_278bc : MethodName := ⟨RJ5, "appendNull", "()Ljava/lang/AbstractStringBuilder;"⟩
abbrev cJ5_append_3fe6f : ByteArray := prog_14_method_31_code
def yJ5_append_3fe6f : MethodName := ⟨RJ5, "append", "(C)Ljava/lang/AbstractStringBuilder;"⟩
abbrev cJ5_append_c97b9 : ByteArray := prog_14_method_32_code
def yJ5_append_c97b9 : MethodName := ⟨RJ5, "append", "(I)Ljava/lang/AbstractStringBuilder;"⟩
abbrev cJ5_getValue_6d5f1 : ByteArray := prog_14_method_64_code
def yJ5_getValue_6d5f1 : MethodName := ⟨RJ5, "getValue", "()[B"⟩
abbrev cJ5_isLatin1_aae02 : ByteArray := prog_14_method_68_code
def yJ5_isLatin1_aae02 : MethodName := ⟨RJ5, "isLatin1", "()Z"⟩
abbrev cJ5_inflateIfNeededFor_a7421 : ByteArray := prog_14_method_71_code
def yJ5_inflateIfNeededFor_a7421 : MethodName := ⟨RJ5, "inflateIfNeededFor", "(Ljava/lang/String;)V"⟩
abbrev cJ5_putStringAt_47b60 : ByteArray := prog_14_method_73_code
def yJ5_putStringAt_47b60 : MethodName := ⟨RJ5, "putStringAt", "(ILjava/lang/String;)V"⟩
def RJx8e188 : String := "java/lang/Cloneable"
def TJx8e188 : u_T := fun k => match k with
  | _ => ("", "", "", false)
def tyJx8e188 : Nat → FieldType := fun k => match k with
  | _ => .int
abbrev wsJx8e1880 : List Cond := u_ws RJx8e188 TJx8e188 0
theorem nmJx8e188 : ∀ a, a < 0 → ∀ b, b < 0 → a ≠ b → (TJx8e188 a).2.1 ≠ (TJx8e188 b).2.1 := by decide +kernel
theorem tyJx8e188_ok : ∀ k, k < 0 → parseFieldDescriptor (TJx8e188 k).2.2.1 = some (tyJx8e188 k) := by decide +kernel
def RJ6 : String := "java/lang/Integer"
def TJ6 : u_T := fun k => match k with
  | _ => ("", "", "", false)
def tyJ6 : Nat → FieldType := fun k => match k with
  | _ => .int
abbrev wsJ60 : List Cond := u_ws RJ6 TJ6 0
theorem nmJ6 : ∀ a, a < 0 → ∀ b, b < 0 → a ≠ b → (TJ6 a).2.1 ≠ (TJ6 b).2.1 := by decide +kernel
theorem tyJ6_ok : ∀ k, k < 0 → parseFieldDescriptor (TJ6 k).2.2.1 = some (tyJ6 k) := by decide +kernel
abbrev cJ6_getChars_ba4f3 : ByteArray := prog_20_method_12_code
def yJ6_getChars_ba4f3 : MethodName := ⟨RJ6, "getChars", "(II[B)I"⟩
abbrev cJ6_stringSize_0f7a4 : ByteArray := prog_20_method_13_code
def yJ6_stringSize_0f7a4 : MethodName := ⟨RJ6, "stringSize", "(I)I"⟩
def RJ9 : String := "java/lang/Math"
def TJ9 : u_T := fun k => match k with
  | _ => ("", "", "", false)
def tyJ9 : Nat → FieldType := fun k => match k with
  | _ => .int
abbrev wsJ90 : List Cond := u_ws RJ9 TJ9 0
theorem nmJ9 : ∀ a, a < 0 → ∀ b, b < 0 → a ≠ b → (TJ9 a).2.1 ≠ (TJ9 b).2.1 := by decide +kernel
theorem tyJ9_ok : ∀ k, k < 0 → parseFieldDescriptor (TJ9 k).2.2.1 = some (tyJ9 k) := by decide +kernel
abbrev cJ9_max_7cf53 : ByteArray := prog_21_method_65_code
def yJ9_max_7cf53 : MethodName := ⟨RJ9, "max", "(II)I"⟩
abbrev cJ9_min_7cf53 : ByteArray := prog_21_method_69_code
def yJ9_min_7cf53 : MethodName := ⟨RJ9, "min", "(II)I"⟩
abbrev cJ9_min_f86c9 : ByteArray := prog_21_method_70_code
def yJ9_min_f86c9 : MethodName := ⟨RJ9, "min", "(JJ)J"⟩
def RJ0 : String := "java/lang/String"
def TJ0 : u_T := fun k => match k with
  | 0 => ("java/lang/String", "value", "[B", true)
  | 1 => ("java/lang/String", "coder", "B", true)
  | 2 => ("java/lang/String", "hash", "I", false)
  | _ => ("java/lang/String", "hashIsZero", "Z", false)
def tyJ0 : Nat → FieldType := fun k => match k with
  | 0 => .array .byte
  | 1 => .byte
  | 2 => .int
  | _ => .boolean
abbrev wsJ00 : List Cond := u_ws RJ0 TJ0 4
theorem nmJ0 : ∀ a, a < 4 → ∀ b, b < 4 → a ≠ b → (TJ0 a).2.1 ≠ (TJ0 b).2.1 := by decide +kernel
theorem tyJ0_ok : ∀ k, k < 4 → parseFieldDescriptor (TJ0 k).2.2.1 = some (tyJ0 k) := by decide +kernel
abbrev cJ0_init_81219 : ByteArray := prog_23_method_53_code
def yJ0_init_81219 : MethodName := ⟨RJ0, "<init>", "(Ljava/lang/StringBuilder;)V"⟩
abbrev cJ0_length_8abf5 : ByteArray := prog_23_method_54_code
def yJ0_length_8abf5 : MethodName := ⟨RJ0, "length", "()I"⟩
abbrev cJ0_charAt_5068e : ByteArray := prog_23_method_56_code
def yJ0_charAt_5068e : MethodName := ⟨RJ0, "charAt", "(I)C"⟩
abbrev cJ0_getBytes_840e7 : ByteArray := prog_23_method_147_code
def yJ0_getBytes_840e7 : MethodName := ⟨RJ0, "getBytes", "([BIB)V"⟩
abbrev cJ0_init_db425 : ByteArray := prog_23_method_150_code
def yJ0_init_db425 : MethodName := ⟨RJ0, "<init>", "(Ljava/lang/AbstractStringBuilder;Ljava/lang/Void;)V"⟩
abbrev cJ0_coder_7d493 : ByteArray := prog_23_method_152_code
def yJ0_coder_7d493 : MethodName := ⟨RJ0, "coder", "()B"⟩
abbrev cJ0_isLatin1_aae02 : ByteArray := prog_23_method_154_code
def yJ0_isLatin1_aae02 : MethodName := ⟨RJ0, "isLatin1", "()Z"⟩
abbrev cJ0_checkIndex_df160 : ByteArray := prog_23_method_155_code
def yJ0_checkIndex_df160 : MethodName := ⟨RJ0, "checkIndex", "(II)V"⟩
abbrev cJ0_checkBoundsOffCount_cabcc : ByteArray := prog_23_method_157_code
def yJ0_checkBoundsOffCount_cabcc : MethodName := ⟨RJ0, "checkBoundsOffCount", "(III)I"⟩
abbrev cJ0_checkBoundsBeginEnd_23922 : ByteArray := prog_23_method_158_code
def yJ0_checkBoundsBeginEnd_23922 : MethodName := ⟨RJ0, "checkBoundsBeginEnd", "(III)V"⟩
def RJ4 : String := "java/lang/StringBuilder"
def TJ4 : u_T := fun k => match k with
  | 0 => ("java/lang/AbstractStringBuilder", "value", "[B", false)
  | 1 => ("java/lang/AbstractStringBuilder", "coder", "B", false)
  | 2 => ("java/lang/AbstractStringBuilder", "maybeLatin1", "Z", false)
  | _ => ("java/lang/AbstractStringBuilder", "count", "I", false)
def tyJ4 : Nat → FieldType := fun k => match k with
  | 0 => .array .byte
  | 1 => .byte
  | 2 => .boolean
  | _ => .int
abbrev wsJ40 : List Cond := u_ws RJ4 TJ4 4
theorem nmJ4 : ∀ a, a < 4 → ∀ b, b < 4 → a ≠ b → (TJ4 a).2.1 ≠ (TJ4 b).2.1 := by decide +kernel
theorem tyJ4_ok : ∀ k, k < 4 → parseFieldDescriptor (TJ4 k).2.2.1 = some (tyJ4 k) := by decide +kernel
abbrev cJ4_init_da8c8 : ByteArray := prog_24_method_1_code
def yJ4_init_da8c8 : MethodName := ⟨RJ4, "<init>", "()V"⟩
abbrev cJ4_append_15ec4 : ByteArray := prog_24_method_7_code
def yJ4_append_15ec4 : MethodName := ⟨RJ4, "append", "(Ljava/lang/String;)Ljava/lang/StringBuilder;"⟩
abbrev cJ4_append_cf468 : ByteArray := prog_24_method_14_code
def yJ4_append_cf468 : MethodName := ⟨RJ4, "append", "(C)Ljava/lang/StringBuilder;"⟩
abbrev cJ4_append_bf812 : ByteArray := prog_24_method_15_code
def yJ4_append_bf812 : MethodName := ⟨RJ4, "append", "(I)Ljava/lang/StringBuilder;"⟩
abbrev cJ4_toString_0e30d : ByteArray := prog_24_method_42_code
def yJ4_toString_0e30d : MethodName := ⟨RJ4, "toString", "()Ljava/lang/String;"⟩
abbrev cJ4_length_8abf5 : ByteArray := prog_24_method_93_code
def yJ4_length_8abf5 : MethodName := ⟨RJ4, "length", "()I"⟩
def RJ1 : String := "java/lang/StringLatin1"
def TJ1 : u_T := fun k => match k with
  | _ => ("", "", "", false)
def tyJ1 : Nat → FieldType := fun k => match k with
  | _ => .int
abbrev wsJ10 : List Cond := u_ws RJ1 TJ1 0
theorem nmJ1 : ∀ a, a < 0 → ∀ b, b < 0 → a ≠ b → (TJ1 a).2.1 ≠ (TJ1 b).2.1 := by decide +kernel
theorem tyJ1_ok : ∀ k, k < 0 → parseFieldDescriptor (TJ1 k).2.2.1 = some (tyJ1 k) := by decide +kernel
abbrev cJ1_charAt_3b067 : ByteArray := prog_25_method_2_code
def yJ1_charAt_3b067 : MethodName := ⟨RJ1, "charAt", "([BI)C"⟩
abbrev cJ1_canEncode_fc78d : ByteArray := prog_25_method_3_code
def yJ1_canEncode_fc78d : MethodName := ⟨RJ1, "canEncode", "(C)Z"⟩
abbrev cJ1_inflate_0e8fd : ByteArray := prog_25_method_50_code
def yJ1_inflate_0e8fd : MethodName := ⟨RJ1, "inflate", "([BI[BII)V"⟩
def RJ2 : String := "java/lang/StringUTF16"
def TJ2 : u_T := fun k => match k with
  | _ => ("", "", "", false)
def tyJ2 : Nat → FieldType := fun k => match k with
  | _ => .int
abbrev wsJ20 : List Cond := u_ws RJ2 TJ2 0
theorem nmJ2 : ∀ a, a < 0 → ∀ b, b < 0 → a ≠ b → (TJ2 a).2.1 ≠ (TJ2 b).2.1 := by decide +kernel
theorem tyJ2_ok : ∀ k, k < 0 → parseFieldDescriptor (TJ2 k).2.2.1 = some (tyJ2 k) := by decide +kernel
abbrev cJ2_newBytesFor_77867 : ByteArray := prog_26_method_2_code
def yJ2_newBytesFor_77867 : MethodName := ⟨RJ2, "newBytesFor", "(I)[B"⟩
abbrev cJ2_newBytesLength_0f7a4 : ByteArray := prog_26_method_3_code
def yJ2_newBytesLength_0f7a4 : MethodName := ⟨RJ2, "newBytesLength", "(I)I"⟩
abbrev cJ2_putChar_b72d1 : ByteArray := prog_26_method_4_code
def yJ2_putChar_b72d1 : MethodName := ⟨RJ2, "putChar", "([BII)V"⟩
abbrev cJ2_getChar_3b067 : ByteArray := prog_26_method_5_code
def yJ2_getChar_3b067 : MethodName := ⟨RJ2, "getChar", "([BI)C"⟩
abbrev cJ2_length_9d52b : ByteArray := prog_26_method_6_code
def yJ2_length_9d52b : MethodName := ⟨RJ2, "length", "([B)I"⟩
abbrev cJ2_coderFromArrayLen_85cad : ByteArray := prog_26_method_15_code
def yJ2_coderFromArrayLen_85cad : MethodName := ⟨RJ2, "coderFromArrayLen", "([BI)B"⟩
abbrev cJ2_compress_39247 : ByteArray := prog_26_method_17_code
def yJ2_compress_39247 : MethodName := ⟨RJ2, "compress", "([BII)[B"⟩
abbrev cJ2_compress_5af95 : ByteArray := prog_26_method_22_code
def yJ2_compress_5af95 : MethodName := ⟨RJ2, "compress", "([BI[BII)I"⟩
abbrev cJ2_putCharSB_b72d1 : ByteArray := prog_26_method_71_code
def yJ2_putCharSB_b72d1 : MethodName := ⟨RJ2, "putCharSB", "([BII)V"⟩
abbrev cJ2_getChars_46870 : ByteArray := prog_26_method_77_code
def yJ2_getChars_46870 : MethodName := ⟨RJ2, "getChars", "(III[B)I"⟩
abbrev cJ2_putCharsAt_cd4e5 : ByteArray := prog_26_method_81_code
def yJ2_putCharsAt_cd4e5 : MethodName := ⟨RJ2, "putCharsAt", "([BICCCC)I"⟩
abbrev cJ2_charAt_3b067 : ByteArray := prog_26_method_83_code
def yJ2_charAt_3b067 : MethodName := ⟨RJ2, "charAt", "([BI)C"⟩
abbrev cJ2_inflate_0e8fd : ByteArray := prog_26_method_86_code
def yJ2_inflate_0e8fd : MethodName := ⟨RJ2, "inflate", "([BI[BII)V"⟩
abbrev cJ2_getChars_ba4f3 : ByteArray := prog_26_method_89_code
def yJ2_getChars_ba4f3 : MethodName := ⟨RJ2, "getChars", "(II[B)I"⟩
abbrev cJ2_checkIndex_2214a : ByteArray := prog_26_method_91_code
def yJ2_checkIndex_2214a : MethodName := ⟨RJ2, "checkIndex", "(I[B)V"⟩
abbrev cJ2_checkBoundsBeginEnd_d044e : ByteArray := prog_26_method_93_code
def yJ2_checkBoundsBeginEnd_d044e : MethodName := ⟨RJ2, "checkBoundsBeginEnd", "(II[B)V"⟩
abbrev cJ2_checkBoundsOffCount_d044e : ByteArray := prog_26_method_94_code
def yJ2_checkBoundsOffCount_d044e : MethodName := ⟨RJ2, "checkBoundsOffCount", "(II[B)V"⟩
def RJ10 : String := "java/lang/System"
def TJ10 : u_T := fun k => match k with
  | _ => ("", "", "", false)
def tyJ10 : Nat → FieldType := fun k => match k with
  | _ => .int
abbrev wsJ100 : List Cond := u_ws RJ10 TJ10 0
theorem nmJ10 : ∀ a, a < 0 → ∀ b, b < 0 → a ≠ b → (TJ10 a).2.1 ≠ (TJ10 b).2.1 := by decide +kernel
theorem tyJ10_ok : ∀ k, k < 0 → parseFieldDescriptor (TJ10 k).2.2.1 = some (tyJ10 k) := by decide +kernel
def RJ7 : String := "java/util/Arrays"
def TJ7 : u_T := fun k => match k with
  | _ => ("", "", "", false)
def tyJ7 : Nat → FieldType := fun k => match k with
  | _ => .int
abbrev wsJ70 : List Cond := u_ws RJ7 TJ7 0
theorem nmJ7 : ∀ a, a < 0 → ∀ b, b < 0 → a ≠ b → (TJ7 a).2.1 ≠ (TJ7 b).2.1 := by decide +kernel
theorem tyJ7_ok : ∀ k, k < 0 → parseFieldDescriptor (TJ7 k).2.2.1 = some (tyJ7 k) := by decide +kernel
abbrev cJ7_copyOf_9075b : ByteArray := prog_29_method_121_code
def yJ7_copyOf_9075b : MethodName := ⟨RJ7, "copyOf", "([BI)[B"⟩
abbrev cJ7_checkLength_df160 : ByteArray := prog_29_method_131_code
def yJ7_checkLength_df160 : MethodName := ⟨RJ7, "checkLength", "(II)V"⟩
abbrev cJ7_copyOfRange_39247 : ByteArray := prog_29_method_132_code
def yJ7_copyOfRange_39247 : MethodName := ⟨RJ7, "copyOfRange", "([BII)[B"⟩
abbrev cJ7_copyOfRangeByte_39247 : ByteArray := prog_29_method_133_code
def yJ7_copyOfRangeByte_39247 : MethodName := ⟨RJ7, "copyOfRangeByte", "([BII)[B"⟩
def RJ8 : String := "jdk/internal/util/ArraysSupport"
def TJ8 : u_T := fun k => match k with
  | _ => ("", "", "", false)
def tyJ8 : Nat → FieldType := fun k => match k with
  | _ => .int
abbrev wsJ80 : List Cond := u_ws RJ8 TJ8 0
theorem nmJ8 : ∀ a, a < 0 → ∀ b, b < 0 → a ≠ b → (TJ8 a).2.1 ≠ (TJ8 b).2.1 := by decide +kernel
theorem tyJ8_ok : ∀ k, k < 0 → parseFieldDescriptor (TJ8 k).2.2.1 = some (tyJ8 k) := by decide +kernel
abbrev cJ8_newLength_cabcc : ByteArray := prog_30_method_27_code
def yJ8_newLength_cabcc : MethodName := ⟨RJ8, "newLength", "(III)I"⟩
abbrev cJ8_hugeLength_7cf53 : ByteArray := prog_30_method_28_code
def yJ8_hugeLength_7cf53 : MethodName := ⟨RJ8, "hugeLength", "(II)I"⟩
def RJ3 : String := "jdk/internal/util/Preconditions"
def TJ3 : u_T := fun k => match k with
  | _ => ("", "", "", false)
def tyJ3 : Nat → FieldType := fun k => match k with
  | _ => .int
abbrev wsJ30 : List Cond := u_ws RJ3 TJ3 0
theorem nmJ3 : ∀ a, a < 0 → ∀ b, b < 0 → a ≠ b → (TJ3 a).2.1 ≠ (TJ3 b).2.1 := by decide +kernel
theorem tyJ3_ok : ∀ k, k < 0 → parseFieldDescriptor (TJ3 k).2.2.1 = some (tyJ3 k) := by decide +kernel
abbrev cJ3_checkIndex_8e157 : ByteArray := prog_31_method_11_code
def yJ3_checkIndex_8e157 : MethodName := ⟨RJ3, "checkIndex", "(IILjava/util/function/BiFunction;)I"⟩
abbrev cJ3_checkFromToIndex_8c36e : ByteArray := prog_31_method_12_code
def yJ3_checkFromToIndex_8c36e : MethodName := ⟨RJ3, "checkFromToIndex", "(IIILjava/util/function/BiFunction;)I"⟩
abbrev cJ3_checkFromIndexSize_8c36e : ByteArray := prog_31_method_13_code
def yJ3_checkFromIndexSize_8c36e : MethodName := ⟨RJ3, "checkFromIndexSize", "(IIILjava/util/function/BiFunction;)I"⟩
def RL : String := "EstateSettlementLaw"
abbrev cL_feeds : ByteArray := method_2_code
def yL_feeds : MethodName := ⟨RL, "feeds", "(LEstateSettlement;Ljava/lang/String;)Z"⟩
abbrev cL_draw : ByteArray := method_3_code
def yL_draw : MethodName := ⟨RL, "draw", "([II)I"⟩
abbrev cL_law : ByteArray := code
def yL_law : MethodName := ⟨RL, "law", "([I)Z"⟩
abbrev cL_rows : ByteArray := method_5_code
def yL_rows : MethodName := ⟨RL, "rows", "(Ljava/lang/StringBuilder;[ILjava/lang/String;[IIIII)[[I"⟩
abbrev cL_estate : ByteArray := method_6_code
def yL_estate : MethodName := ⟨RL, "estate", "(Ljava/lang/StringBuilder;[I)LEstateSettlementLaw$Estate;"⟩
abbrev cL_plays : ByteArray := method_7_code
def yL_plays : MethodName := ⟨RL, "plays", "(LEstateSettlement;[I)Z"⟩
abbrev cL_accounts : ByteArray := method_8_code
def yL_accounts : MethodName := ⟨RL, "accounts", "(LEstateSettlement;LEstateSettlementLaw$Estate;)Z"⟩
abbrev cL_heirs : ByteArray := method_9_code
def yL_heirs : MethodName := ⟨RL, "heirs", "(LEstateSettlement;LEstateSettlementLaw$Estate;)Z"⟩
abbrev cL_wouldBe : ByteArray := method_10_code
def yL_wouldBe : MethodName := ⟨RL, "wouldBe", "(LEstateSettlement;LEstateSettlementLaw$Estate;[I)Z"⟩
abbrev cL_isOut : ByteArray := method_11_code
def yL_isOut : MethodName := ⟨RL, "isOut", "(LEstateSettlementLaw$Estate;II)Z"⟩
abbrev cL_changes : ByteArray := method_12_code
def yL_changes : MethodName := ⟨RL, "changes", "(LEstateSettlement;LEstateSettlementLaw$Estate;[I)Z"⟩
abbrev vwCl : List vw_C := [(RX0, TX0, 12), (RX1, TX1, 6), (RX2, TX2, 9), (RX3, TX3, 5), (RX4, TX4, 4), (RX5, TX5, 10), (RX6, TX6, 6), (RX7, TX7, 8), (RX8, TX8, 1), (RX9, TX9, 8), (RX10, TX10, 31), (RJ0, TJ0, 4), (RJ4, TJ4, 4)]
end
section
/-! The layer between the kit's rows and the contracts of this claim. A heap is a function from places (the order of making) to things; a place is the base plus its number. -/
abbrev AE : Type := (Nat × Nat × (Nat → Int32)) ⊕ ((Nat × (Nat → Int64)) ⊕ (Nat × (Nat → Value)))
abbrev AS : Type := (Nat → AE) × Nat × Bool
abbrev Out : Type := Option Value ⊕ Nat
/-- name, code, words of locals, return, frames below, words below, handlers, instructions -/
abbrev MI : Type := MethodName × ByteArray × Nat × Option FieldType × Nat × Nat × List (Nat × Nat × Nat × Nat) × List (Nat × Instr × Nat)
abbrev mNm (μ : MI) : MethodName := μ.1
abbrev mBs (μ : MI) : ByteArray := μ.2.1
abbrev mMl (μ : MI) : Nat := μ.2.2.1
abbrev mRt (μ : MI) : Option FieldType := μ.2.2.2.1
abbrev mFr (μ : MI) : Nat := μ.2.2.2.2.1
abbrev mLo (μ : MI) : Nat := μ.2.2.2.2.2.1
abbrev mHh (μ : MI) : List (Nat × Nat × Nat × Nat) := μ.2.2.2.2.2.2.1
abbrev mCd (μ : MI) : List (Nat × Instr × Nat) := μ.2.2.2.2.2.2.2
/-- the instruction at a place -/
def cf : List (Nat × Instr × Nat) → Nat → Option (Instr × Nat)
  | [], _ => none
  | e :: t, q => if e.1 = q then some e.2 else cf t q
theorem cf_mem : ∀ (l : List (Nat × Instr × Nat)) (q : Nat) (x : Instr × Nat), cf l q = some x → (q, x) ∈ l
  | [], _, _, h => by cases h
  | e :: t, q, x, h => by
    unfold cf at h
    by_cases he : e.1 = q
    · rw [if_pos he] at h
      cases h
      subst he
      exact List.mem_cons_self
    · rw [if_neg he] at h
      exact List.mem_cons_of_mem _ (cf_mem t q x h)
def DK (μ : MI) : Prop := ∀ (q : Nat) (x : Instr × Nat), cf (mCd μ) q = some x → decode (mBs μ) q = .ok x
def dkB (b : ByteArray) (l : List (Nat × Instr × Nat)) : Bool := l.all (fun e => decide (decode b e.1 = .ok e.2))
theorem dk_of {μ : MI} (h : dkB (mBs μ) (mCd μ) = true) : DK μ := by
  intro q x hx
  have h1 := List.all_eq_true.mp h _ (cf_mem _ _ _ hx)
  exact of_decide_eq_true h1
def lw_gd : List Cond := lw_tbl.filter goodWord
theorem lw_gd_of {w : Cond} (h : w ∈ lw_tbl) (g : goodWord w = true) : w ∈ lw_gd := List.mem_filter.mpr ⟨h, g⟩
theorem lw_gd_good {w : Cond} (h : w ∈ lw_gd) : (w.onTables && w.keeps) = true ∨ ∃ ty, w = .arrayClass ty := good_of_word (List.mem_filter.mp h).2
def cdW (μ : MI) : Cond := match mHh μ with
  | [] => .code (mNm μ) (mBs μ) (mMl μ) (mRt μ)
  | h :: t => .codeWith (mNm μ) (mBs μ) (mMl μ) (mRt μ) (h :: t)
def wsO (μ : MI) : List Cond := cdW μ :: lw_gd
def GM (μ : MI) : Prop := plainName (mNm μ).cls = true ∧ cdW μ ∈ lw_gd ∧ DK μ ∧ ((mNm μ).cls ≠ "java/lang/invoke/MethodHandle" ∧ (mNm μ).cls ≠ "java/lang/invoke/VarHandle") ∧ Cond.initialized (mNm μ).cls ∈ lw_gd
theorem gin_O {μ ν : MI} (h : cdW ν ∈ lw_gd) : GoodIn (wsO μ) (wsO ν) := by
  intro w hw
  rcases List.mem_cons.mp hw with e | e
  · subst e
    exact ⟨List.mem_cons_of_mem _ h, lw_gd_good h⟩
  · exact ⟨List.mem_cons_of_mem _ e, lw_gd_good e⟩
def rmO (μ : MI) (mc ms : Nat) : Room := { frames := mFr μ, cells := mc, slots := ms, locals := mLo μ }
/-- a launch's numbers: classes, slots, array classes; base; strings: object and row; script -/
abbrev KX : Type := (va_G × (Nat → ClassId)) × (Nat × (Nat → Nat) × (Nat → Nat) × Nat × Option Nat × Nat)
/-- the script: its length and its numbers -/
abbrev SC : Type := Nat × (Nat → Int32)
abbrev kD (κ : KX) : va_G := κ.1.1
abbrev kA (κ : KX) : Nat → ClassId := κ.1.2
abbrev kB (κ : KX) : Nat := κ.2.1
abbrev kSK (κ : KX) : Nat → Nat := κ.2.2.1
abbrev kSV (κ : KX) : Nat → Nat := κ.2.2.2.1
abbrev kSb (κ : KX) : Nat := κ.2.2.2.2.1
abbrev kZ (κ : KX) : Option Nat := κ.2.2.2.2.2.1
/-- from here on a place is free; below it only the class's 53 are -/
abbrev kU (κ : KX) : Nat := κ.2.2.2.2.2.2
def kF (κ : KX) : Nat → Prop := fun q => kB κ ≤ q ∧ (kU κ ≤ q ∨ q < kB κ + 53)
/-- strings 0 to 49, their rows 50 to 98, the formatter of the checks 99, the script 100 -/
def cvK (κ : KX) (i : Nat) : Value := if i < 50 then .ref (kSK κ i) else if i < 99 then .ref (kSV κ (i - 50)) else if i < 100 then (match kZ κ with | some t => .ref t | none => .null) else .ref (kSb κ)
def cv (κ : KX) : Value → Value
  | .ref i => .ref (kB κ + i)
  | .retAddr i => cvK κ i
  | .int x => .int x
  | .long x => .long x
  | .float x => .float x
  | .double x => .double x
  | .null => .null
theorem cv_cat (κ : KX) (v : Value) : (cv κ v).category = v.category := by
  cases v with
  | retAddr i =>
    show (cvK κ i).category = 1
    unfold cvK
    split
    · rfl
    · split
      · rfl
      · split
        · split <;> rfl
        · rfl
  | _ => rfl
def nfs (ci : Nat) : Nat := match vwCl[ci]? with
  | some r => r.2.2
  | none => 0
/-- an address, or null -/
def adr (κ : KX) : Value → Option Nat
  | .ref i => some (kB κ + i)
  | _ => none
/-- objects: below 50 by their class; 50 to 99: nothing is known of the place; from 100 on: rows of references, their length behind 100 -/
def conv (κ : KX) : AE → va_E
  | .inl a => .inl (kA κ a.1, a.2.1, .inl a.2.2)
  | .inr (.inl a) => .inl (kA κ 3, a.1, .inr (.inl a.2))
  | .inr (.inr o) => if o.1 < 50 then .inr (o.1, (List.range (nfs o.1)).map (fun k => cv κ (o.2 k))) else .inl (kA κ 4, o.1 - 100, .inr (.inr (.inr (.inr (fun j => adr κ (o.2 j))))))
def jk : AE → Bool
  | .inr (.inr o) => Nat.ble 50 o.1 && Nat.ble o.1 99
  | _ => false
def aup {α : Type} (G : Nat → α) (i : Nat) (e : α) : Nat → α := fun j => if j = i then e else G j
theorem aup_s {α : Type} (G : Nat → α) (i : Nat) (e : α) : aup G i e i = e := if_pos rfl
theorem aup_n {α : Type} (G : Nat → α) {i j : Nat} (e : α) (h : j ≠ i) : aup G i e j = G j := if_neg h
/-- the places of which something is known -/
def lvs (G : Nat → AE) (n : Nat) : List Nat := (List.range n).filter (fun i => !jk (G i))
def wsL (κ : KX) (G : Nat → AE) (n : Nat) : va_W := (lvs G n).map fun i => (kB κ + i, conv κ (G i))
theorem lvs_mem {G : Nat → AE} {n i : Nat} : i ∈ lvs G n ↔ i < n ∧ jk (G i) = false := by
  unfold lvs
  rw [List.mem_filter, List.mem_range]
  simp
theorem wsL_get {κ : KX} {G : Nat → AE} {n k : Nat} {q : Nat × va_E} (h : (wsL κ G n)[k]? = some q) : ∃ i, (lvs G n)[k]? = some i ∧ i < n ∧ jk (G i) = false ∧ q = (kB κ + i, conv κ (G i)) := by
  unfold wsL at h
  rw [List.getElem?_map] at h
  cases hi : (lvs G n)[k]? with
  | none => rw [hi] at h; cases h
  | some i =>
    rw [hi] at h
    have h1 := lvs_mem.mp (List.mem_of_getElem? hi)
    exact ⟨i, rfl, h1.1, h1.2, (Option.some.inj h).symm⟩
theorem wsL_pos (κ : KX) {G : Nat → AE} {n i : Nat} (h : i < n) (hj : jk (G i) = false) : ∃ k : Nat, (lvs G n)[k]? = some i ∧ (wsL κ G n)[k]? = some (kB κ + i, conv κ (G i)) := by
  obtain ⟨k, hk⟩ : ∃ k : Nat, (lvs G n)[k]? = some i := List.mem_iff_getElem?.mp (lvs_mem.mpr ⟨h, hj⟩)
  refine ⟨k, hk, ?_⟩
  unfold wsL
  rw [List.getElem?_map, hk]
  rfl
theorem lvs_nd (G : Nat → AE) (n : Nat) : (lvs G n).Nodup := List.Pairwise.filter _ List.nodup_range
theorem lvs_inj {G : Nat → AE} {n a b i : Nat} (ha : (lvs G n)[a]? = some i) (hb : (lvs G n)[b]? = some i) : a = b :=
  (List.getElem?_inj (List.getElem?_eq_some_iff.mp ha).1 (lvs_nd G n)).mp (ha.trans hb.symm)
theorem wsL_D (κ : KX) (G : Nat → AE) (n : Nat) (hF : ∀ i, i < n → kF κ (kB κ + i)) : va_D (kF κ) (wsL κ G n) := by
  refine ⟨fun a b p q ha hb e => ?_, fun k q hk => ?_⟩
  · obtain ⟨i, h1, -, -, rfl⟩ := wsL_get ha
    obtain ⟨j, g1, -, -, rfl⟩ := wsL_get hb
    have e2 : kB κ + i = kB κ + j := e
    have e3 : i = j := by omega
    subst e3
    exact lvs_inj h1 g1
  · obtain ⟨i, h1, h2, -, rfl⟩ := wsL_get hk
    exact hF i h2
def Rep (κ : KX) (S : AS) (H : Heap) : Prop := (∀ i, i < S.2.1 → jk (S.1 i) = false → va_at (kD κ) vwCl (kB κ + i, conv κ (S.1 i)) H) ∧ (S.2.2 = true → H.size = kB κ + S.2.1) ∧ (∀ i, i < S.2.1 → kF κ (kB κ + i))
theorem va1 {D : va_G} {cl : List vw_C} {q : Nat × va_E} {H : Heap} (h : va_at D cl q H) : va_P D cl [q] H := by
  intro k x hx
  match k, hx with
  | 0, hx => cases hx; exact h
  | k + 1, hx => cases hx
theorem Rep.kept {κ : KX} {S : AS} {H H1 : Heap} (hR : Rep κ S H) (hk : ∀ q, q < H.size → H1[q]? = H[q]?) : ∀ i, i < S.2.1 → jk (S.1 i) = false → va_at (kD κ) vwCl (kB κ + i, conv κ (S.1 i)) H1 :=
  fun i hi hj => (hR.1 i hi hj).kept (hk _ (hR.1 i hi hj).lt)
theorem Rep.P {κ : KX} {S : AS} {H : Heap} (hR : Rep κ S H) : va_P (kD κ) vwCl (wsL κ S.1 S.2.1) H := fun k q hk => by
  obtain ⟨i, -, h1, h2, rfl⟩ := wsL_get hk
  exact hR.1 i h1 h2
theorem setL {κ : KX} {S : AS} {H1 : Heap} {b pb : Nat} {e : AE} {x : va_E} (hpb : (lvs S.1 S.2.1)[pb]? = some b) (he : conv κ e = x) (hP : va_P (kD κ) vwCl ((wsL κ S.1 S.2.1).set pb (kB κ + b, x)) H1) : ∀ i, i < S.2.1 → jk (aup S.1 b e i) = false → va_at (kD κ) vwCl (kB κ + i, conv κ (aup S.1 b e i)) H1 := by
  intro i hi hji
  by_cases hib : i = b
  · subst hib
    rw [aup_s, he]
    have h9 : (wsL κ S.1 S.2.1)[pb]? = some (kB κ + i, conv κ (S.1 i)) := by
      unfold wsL
      rw [List.getElem?_map, hpb]
      rfl
    exact hP pb _ (List.getElem?_set_self (List.getElem?_eq_some_iff.mp h9).1)
  · rw [aup_n _ _ hib] at hji ⊢
    obtain ⟨k, hk, hk2⟩ := wsL_pos κ hi hji
    have hne : pb ≠ k := fun q => by
      subst q
      exact hib (Option.some.inj (hk.symm.trans hpb))
    exact hP k _ (by rw [List.getElem?_set_ne hne]; exact hk2)
/-- one place is written, or a new one is made -/
theorem Rep.put {κ : KX} {S : AS} {H H1 : Heap} {o : Nat} {e : AE} (hR : Rep κ S H) (hlt : o < S.2.1) (hz : H1.size = H.size) (hP : va_at (kD κ) vwCl (kB κ + o, conv κ e) H1) (oq : ∀ q, q ≠ kB κ + o → H1[q]? = H[q]?) : Rep κ (aup S.1 o e, S.2) H1 := by
  refine ⟨fun i hi hj => ?_, fun q => by rw [hz]; exact hR.2.1 q, hR.2.2⟩
  by_cases hio : i = o
  · subst hio
    show va_at _ _ (_, conv κ (aup S.1 i e i)) H1
    rw [aup_s]
    exact hP
  · show va_at _ _ (_, conv κ (aup S.1 o e i)) H1
    rw [aup_n _ _ hio]
    refine (hR.1 i hi ?_).kept (oq _ (by show kB κ + i ≠ kB κ + o; omega))
    rw [← hj]
    show _ = jk (aup S.1 o e i)
    rw [aup_n _ _ hio]
theorem Rep.push {κ : KX} {S : AS} {H H1 : Heap} {e : AE} (hR : Rep κ S H) (hU : kU κ ≤ H.size) (hex : S.2.2 = true) (hz : H1.size = H.size + 1) (hP : va_at (kD κ) vwCl (H.size, conv κ e) H1) (oq : ∀ q, q < H.size → H1[q]? = H[q]?) (b : Bool) : Rep κ (aup S.1 S.2.1 e, S.2.1 + 1, b) H1 := by
  have hz0 := hR.2.1 hex
  refine ⟨fun i hi hj => ?_, fun q => by show H1.size = kB κ + (S.2.1 + 1); omega, fun i hi => ?_⟩
  · by_cases hio : i = S.2.1
    · subst hio
      show va_at _ _ (_, conv κ (aup S.1 S.2.1 e S.2.1)) H1
      rw [aup_s, ← hz0]
      exact hP
    · have hi2 : i < S.2.1 + 1 := hi
      show va_at _ _ (_, conv κ (aup S.1 S.2.1 e i)) H1
      rw [aup_n _ _ hio]
      refine hR.kept oq i (by omega) ?_
      rw [← hj]
      show _ = jk (aup S.1 S.2.1 e i)
      rw [aup_n _ _ hio]
  · have hi2 : i < S.2.1 + 1 := hi
    by_cases hio : i = S.2.1
    · subst hio
      exact ⟨Nat.le_add_right _ _, Or.inl (by omega)⟩
    · exact hR.2.2 i (by omega)
def tysK (κ : KX) : List (ClassId × FieldType) := [(kA κ 0, .int), (kA κ 1, .byte), (kA κ 2, .boolean), (kA κ 3, .long), (kA κ 4, .array .int)]
/-- a string constant: class, entry, text's bytes -/
def SK (κ : KX) (i : Nat) (byt : List Int32) (U : State) : Prop :=
  va_O "java/lang/String" (kSK κ i) (kF κ) U U.heap ∧ va_OF "java/lang/String" "coder" "B" (.int 0) (kSK κ i) (kF κ) U U.heap ∧ va_OF "java/lang/String" "value" "[B" (.ref (kSV κ i)) (kSK κ i) (kF κ) U U.heap ∧ va_T .byte (kSV κ i) byt.length (fun j => .int (byt.getD j 0)) (kF κ) U U.heap
/-- the words that move by laws of their own -/
def lw_nest : List (String × Nat × MethodName × String) := [("EstateSettlement", 9, ⟨"EstateSettlement$Parser", "<init>", "()V"⟩, "EstateSettlement"), ("EstateSettlement$Parser", 11, ⟨"EstateSettlement$Input", "<init>", "()V"⟩, "EstateSettlement"), ("EstateSettlement$Parser", 20, ⟨"EstateSettlement$Estate", "<init>", "()V"⟩, "EstateSettlement"), ("EstateSettlement", 18, ⟨"EstateSettlement$Estate", "<init>", "()V"⟩, "EstateSettlement"), ("EstateSettlement", 32, ⟨"EstateSettlement$Settlement", "<init>", "()V"⟩, "EstateSettlement"), ("EstateSettlement$Settlement", 11, ⟨"EstateSettlement$Inventory", "<init>", "()V"⟩, "EstateSettlement"), ("EstateSettlement$Settlement", 20, ⟨"EstateSettlement$Lines", "<init>", "()V"⟩, "EstateSettlement"), ("EstateSettlement$Settlement", 27, ⟨"EstateSettlement$Portions", "<init>", "()V"⟩, "EstateSettlement"), ("EstateSettlement", 45, ⟨"EstateSettlement$Memory", "<init>", "()V"⟩, "EstateSettlement"), ("EstateSettlement$Inventory", 51, ⟨"EstateSettlement", "at", "([II)I"⟩, "EstateSettlement"), ("EstateSettlement$Inventory", 55, ⟨"EstateSettlement", "portion", "(III)I"⟩, "EstateSettlement"), ("EstateSettlement$Inventory", 70, ⟨"EstateSettlement", "sumOf", "([I)I"⟩, "EstateSettlement"), ("EstateSettlement$Inventory", 80, ⟨"EstateSettlement", "split", "(I[I[I)V"⟩, "EstateSettlement"), ("EstateSettlement$Lines", 42, ⟨"EstateSettlement", "at", "([II)I"⟩, "EstateSettlement"), ("EstateSettlement$Lines", 60, ⟨"EstateSettlement", "hasBit", "(II)Z"⟩, "EstateSettlement"), ("EstateSettlement$Lines", 64, ⟨"EstateSettlement", "leastCommonMultiple", "(II)I"⟩, "EstateSettlement"), ("EstateSettlement$Settlement", 128, ⟨"EstateSettlement", "portion", "(III)I"⟩, "EstateSettlement"), ("EstateSettlement$Portions", 69, ⟨"EstateSettlement", "sumOf", "([I)I"⟩, "EstateSettlement"), ("EstateSettlement$Portions", 62, ⟨"EstateSettlement", "portion", "(III)I"⟩, "EstateSettlement"), ("EstateSettlement$Portions", 54, ⟨"EstateSettlement", "split", "(I[I[I)V"⟩, "EstateSettlement"), ("EstateSettlementLaw", 51, ⟨"EstateSettlementLaw$Estate", "<init>", "()V"⟩, "EstateSettlementLaw"), ("EstateSettlement$State", 33, ⟨"EstateSettlement", "asInt", "(Z)I"⟩, "EstateSettlement"), ("EstateSettlement$Settlement", 100, ⟨"EstateSettlement", "at", "([II)I"⟩, "EstateSettlement"), ("EstateSettlementLaw", 225, ⟨"EstateSettlementLaw$Estate", "isEmpty", "(I)Z"⟩, "EstateSettlementLaw")]
def lw_cst : List (String × String) := [("java/lang/IllegalArgumentException", "java/lang/IllegalArgumentException"), ("java/lang/IndexOutOfBoundsException", "java/lang/IndexOutOfBoundsException"), ("java/lang/IllegalStateException", "java/lang/IllegalStateException")]
def lw_ncst : List (String × String) := []
def lw_dcl : List MethodName := [Bundle.initS "java/lang/RuntimeException", Bundle.initS "java/lang/Exception", Bundle.initS Bundle.tN]
def strJ : List (String × Nat × String × List Int32) := [("EstateSettlement", 77, "length", [108, 101, 110, 103, 116, 104]), ("EstateSettlement$Parser", 76, "person", [112, 101, 114, 115, 111, 110]), ("EstateSettlement$Parser", 138, "under", [117, 110, 100, 101, 114]), ("EstateSettlement$Parser", 146, "age", [97, 103, 101]), ("EstateSettlement$Parser", 163, "dead", [100, 101, 97, 100]), ("EstateSettlement$Parser", 168, "spouse", [115, 112, 111, 117, 115, 101]), ("EstateSettlement$Parser", 85, "asset", [97, 115, 115, 101, 116]), ("EstateSettlement$Parser", 173, "charge", [99, 104, 97, 114, 103, 101]), ("EstateSettlement$Parser", 90, "debt", [100, 101, 98, 116]), ("EstateSettlement$Parser", 95, "gift", [103, 105, 102, 116]), ("EstateSettlement$Parser", 100, "legacy", [108, 101, 103, 97, 99, 121]), ("EstateSettlement$Parser", 105, "share", [115, 104, 97, 114, 101]), ("EstateSettlement$Parser", 110, "life", [108, 105, 102, 101]), ("EstateSettlement$Parser", 115, "accrue", [97, 99, 99, 114, 117, 101]), ("EstateSettlement$Parser", 208, "line", [108, 105, 110, 101]), ("EstateSettlement$Parser", 210, "others", [111, 116, 104, 101, 114, 115]), ("EstateSettlement", 388, "what", [119, 104, 97, 116]), ("EstateSettlement", 382, "person", [112, 101, 114, 115, 111, 110]), ("EstateSettlement", 384, "asset", [97, 115, 115, 101, 116]), ("EstateSettlement", 194, "debt", [100, 101, 98, 116]), ("EstateSettlement", 210, "legacy", [108, 101, 103, 97, 99, 121]), ("EstateSettlement", 390, "out of range", [111, 117, 116, 32, 111, 102, 32, 114, 97, 110, 103, 101]), ("EstateSettlement", 344, "gifts", [103, 105, 102, 116, 115]), ("EstateSettlementLaw", 56, "person ", [112, 101, 114, 115, 111, 110, 32]), ("EstateSettlementLaw", 64, " under ", [32, 117, 110, 100, 101, 114, 32]), ("EstateSettlementLaw", 69, " age ", [32, 97, 103, 101, 32]), ("EstateSettlementLaw", 71, " spouse", [32, 115, 112, 111, 117, 115, 101]), ("EstateSettlementLaw", 77, " dead", [32, 100, 101, 97, 100]), ("EstateSettlementLaw", 83, "asset ", [97, 115, 115, 101, 116, 32]), ("EstateSettlementLaw", 85, " charge ", [32, 99, 104, 97, 114, 103, 101, 32]), ("EstateSettlementLaw", 87, "debt", [100, 101, 98, 116]), ("EstateSettlementLaw", 96, "gift", [103, 105, 102, 116]), ("EstateSettlementLaw", 101, "legacy", [108, 101, 103, 97, 99, 121]), ("EstateSettlementLaw", 112, "share ", [115, 104, 97, 114, 101, 32]), ("EstateSettlementLaw", 117, "life ", [108, 105, 102, 101, 32]), ("EstateSettlementLaw", 123, "accrue ", [97, 99, 99, 114, 117, 101, 32]), ("EstateSettlementLaw", 125, "line", [108, 105, 110, 101]), ("EstateSettlementLaw", 126, "others", [111, 116, 104, 101, 114, 115])]
/-- what holds at every method's start -/
def Gd (κ : KX) (sc : SC) (U : State) : Prop :=
  (va_K (kD κ) vwCl (tysK κ) U ∧ (kB κ ≤ U.heap.size ∧ kU κ ≤ U.heap.size)) ∧
  (∀ (i : Nat) (x : String × Nat × String × List Int32), strJ[i]? = some x → SK κ i x.2.2.2 U ∧ vk_R x.1 x.2.1 x.2.2.1 (kSK κ i) U) ∧
  (vx_Zq Bundle.tN "UNASSIGNED_STACK" Bundle.steD (kF κ) U U.heap ∧ vx_Zq Bundle.tN "SUPPRESSED_SENTINEL" Bundle.listD (kF κ) U U.heap) ∧
  (va_Z "java/lang/String" "COMPACT_STRINGS" "Z" (.int 1) (kF κ) U U.heap ∧ va_Z "jdk/internal/util/Preconditions" "SIOOBE_FORMATTER" "Ljava/util/function/BiFunction;" (cvK κ 99) (kF κ) U U.heap) ∧
  ((∀ x ∈ lw_nest, va_Nw (.methodLinkNest x.1 x.2.1 x.2.2.1 x.2.2.2) U) ∧ (∀ x ∈ lw_cst, va_Nw (.castable x.1 x.2) U) ∧ (∀ x ∈ lw_ncst, va_Nc x.1 x.2 U) ∧ (∀ x ∈ lw_dcl, va_Nw (.declares x) U)) ∧
  (va_X (kSb κ) sc.1 sc.2 U U.heap ∧ kSb κ < U.heap.size ∧ ¬ kF κ (kSb κ))
theorem SK.next {κ : KX} {i : Nat} {byt : List Int32} {s U : State} {H : Heap} {locs : List Loc} (h : SK κ i byt s) (hW : s.WarmedH U.vm) (hh : U.heap = H) (hS : va_S (kF κ) s.heap H locs) : SK κ i byt U := by
  obtain ⟨h1, h2, h3, h4⟩ := h
  subst hh
  exact ⟨va_O.moved hW.alike (h1.kept hS.2.1), va_OF.moved hW.alike (h2.kept hS.2.1), va_OF.moved hW.alike (h3.kept hS.2.1), va_T.moved hW.alike (h4.kept hS.2.1)⟩
theorem Gd.next {κ : KX} {sc : SC} {s U : State} {H : Heap} {locs : List Loc} (h : Gd κ sc s) (hW : s.WarmedH U.vm) (hh : U.heap = H) (hS : va_S (kF κ) s.heap H locs) : Gd κ sc U := by
  obtain ⟨⟨g1, g1b⟩, g2, ⟨g3, g4⟩, ⟨g5, g6⟩, ⟨g7, g8, g9, g9b⟩, ⟨g10, g11, g12⟩⟩ := h
  subst hh
  refine ⟨⟨va_K.moved hW.alike g1, Nat.le_trans g1b.1 hS.1, Nat.le_trans g1b.2 hS.1⟩, fun i x hx => ⟨(g2 i x hx).1.next hW rfl hS, vk_R.warm hW (g2 i x hx).2⟩, ⟨vx_Zq.moved hW.alike (g3.kept hS.2.1), vx_Zq.moved hW.alike (g4.kept hS.2.1)⟩, ⟨va_Z.moved hW.alike (g5.kept hS.2.1), va_Z.moved hW.alike (g6.kept hS.2.1)⟩, ⟨fun x hx => va_Nw.warmM hW (g7 x hx), fun x hx => va_Nw.warmC hW (g8 x hx), fun x hx => (g9 x hx).moved hW.alike, fun x hx => va_Nw.warmD hW (g9b x hx)⟩, ⟨?_, Nat.lt_of_lt_of_le g11 hS.1, g12⟩⟩
  exact va_X.moved hW.alike (g10.kept (hS.2.1 _ g11 g12))
theorem Gd.calling {κ : KX} {sc : SC} {U : State} {g : JFrame} {mk : MethodId} {a : Array Value} (h : Gd κ sc U) : Gd κ sc (U.calling g mk a) :=
  h.next (U := U.calling g mk a) (H := U.heap) (locs := []) (State.WarmedH.refl U) rfl va_S.rf
def exN : Nat → String
  | 0 => "java/lang/IndexOutOfBoundsException"
  | 1 => "java/lang/IllegalArgumentException"
  | _ => "java/lang/IllegalStateException"
def QO (κ : KX) (Q : Out → AS → Prop) : Array Value → State → Outcome → State → Prop := fun _ st o t => (∃ (r : Option Value) (S : AS), o = .returned (r.map (cv κ)) ∧ Q (.inl r) S ∧ Rep κ S t.heap) ∧ va_F (kF κ) st t
def XO (κ : KX) (Q : Out → AS → Prop) : String → State → State → Prop := fun E st t => (∃ (ec : Nat) (S : AS), exN ec = E ∧ ec < 3 ∧ Q (.inr ec) S ∧ Rep κ S t.heap) ∧ va_F (kF κ) st t
def cvs (κ : KX) (st : List Value) : List Value := st.map (cv κ)
def cvl (κ : KX) (lv : List (Nat × Value)) : List (Nat × Value) := lv.map fun q => (q.1, cv κ q.2)
/-- a frame of the method μ stands in the state s at whose start it was entered -/
def Cx (κ : KX) (sc : SC) (μ : MI) (p : Program) (s : State) (m : MethodId) (args : Array Value) (meth : Method) (c : Code) : Prop :=
  (p.tables.exec = Jvm.exec ∧ c.code = mBs μ ∧ meth.sig.returnType = mRt μ ∧ c.maxLocals = mMl μ ∧ s.vm.findClass (mNm μ).cls = some m.cls) ∧ (∀ w ∈ wsO μ, w.before args s = true) ∧ meth.locks = false ∧ c.exceptionTable.toList = tableOf (mHh μ) ∧ Gd κ sc s ∧ DK μ ∧ (mNm μ).name = meth.name
def Wp (sc : SC) (μ : MI) (mc ms k n : Nat) (pc : Nat) (lv : List (Nat × Value)) (st : List Value) (S : AS) (Q : Out → AS → Prop) : Prop :=
  ∀ (l : Launch) (κ : KX) (p : Program) (e : Env) (s : State) (m : MethodId) (args : Array Value) (below : List Frame) (meth : Method) (c : Code) (H : Heap) (locs : List Loc) (ls : Array Slot), l.stackTraces = false →
    Cx κ sc μ p s m args meth c → va_S (kF κ) s.heap H locs → Rep κ S H → lv_has ls (mMl μ) (cvl κ lv) →
    W p l e (rmO μ mc ms) s m args below meth c H locs k n (vx_MQ below (QO κ Q) (XO κ Q) args s mc ms (kF κ)) (F0 m pc ls (cvs κ st))
def Pc0 (κ : KX) (sc : SC) (as : List Value) (S : AS) : Array Value → State → Prop := va_Pc (cvs κ as) (fun U => Gd κ sc U ∧ Rep κ S U.heap)
def Cal (sc : SC) (μ : MI) (mc ms : Nat) (as : List Value) (S : AS) (Q : Out → AS → Prop) : Prop :=
  ∀ (l : Launch) (κ : KX), l.stackTraces = false → vx_Met l (mNm μ) (wsO μ) (rmO μ mc ms) (Pc0 κ sc as S) (QO κ Q) (XO κ Q) mc ms (kF κ)
theorem Pc0_blind (κ : KX) (sc : SC) (as : List Value) (S : AS) : FrameBlind (Pc0 κ sc as S) := by
  intro a U g mk h
  obtain ⟨h1, h2, h3⟩ := h
  exact ⟨h1, h2.calling, h3⟩
theorem cvl_args (κ : KX) : ∀ (as : List Value) (i : Nat), lv_args i (cvs κ as) = cvl κ (lv_args i as)
  | [], _ => rfl
  | v :: vs, i => by
    show (i, cv κ v) :: lv_args (if (cv κ v).category = 2 then i + 2 else i + 1) (cvs κ vs) = (i, cv κ v) :: cvl κ (lv_args (if v.category = 2 then i + 2 else i + 1) vs)
    rw [cv_cat, cvl_args κ vs]
theorem lg_len (κ : KX) (as : List Value) : (lg_sl (cvs κ as)).length = (lg_sl as).length := by
  induction as with
  | nil => rfl
  | cons v vs ih =>
    simp only [cvs, List.map_cons, lg_sl, List.flatMap_cons, List.length_append] at ih ⊢
    rw [ih]
    congr 1
    simp only [cv_cat]
    split <;> rfl
theorem Cal.of {sc : SC} {μ : MI} {mc ms : Nat} {as : List Value} {S : AS} {Q : Out → AS → Prop} (hg : GM μ) (hl : (lg_sl as).length ≤ mMl μ) (h : Wp sc μ mc ms 0 0 0 (lv_args 0 as) [] S Q) : Cal sc μ mc ms as S Q := by
  intro l κ hfl
  have key : ∀ (p : Program) (e : Env) (s : State) (m : MethodId) (args : Array Value) (below : List Frame) (meth : Method) (c : Code) (s₁ : State), BodyLoose p l (mNm μ) (headSpec (wsO μ) (rmO μ mc ms)) (mBs μ) (mMl μ) (mRt μ) e s m args below meth c s₁ → c.maxLocals = mMl μ → c.exceptionTable.toList = tableOf (mHh μ) → Pc0 κ sc as S args s →
      W p l e (headSpec (wsO μ) (rmO μ mc ms)).room s m args below meth c s.heap [] 0 0 (vx_MQ below (QO κ Q) (XO κ Q) args s mc ms (kF κ)) (entryFrame m args (mMl μ)) := by
    intro p e s m args below meth c s₁ B hml ht hP
    obtain ⟨rfl, hGd, hR⟩ := hP
    have hlv := lv_entry (cvs κ as) (n := mMl μ) (by rw [lg_len]; exact hl)
    rw [lg_entry_eq]
    rw [cvl_args] at hlv
    have hts := atoms_spec (ws := wsO μ) B.pre
    exact h l κ p e s m _ below meth c s.heap [] _ hfl ⟨⟨B.exec, B.bytes, B.returns, hml, findClass_of_methodNamed B.named⟩, hts, B.notSynchronized, ht, hGd, hg.2.2.1, (name_of_methodNamed B.named B.method).1.symm⟩ va_S.rf hR hlv
  cases hh : mHh μ with
  | nil =>
    have hw : wsO μ = Cond.code (mNm μ) (mBs μ) (mMl μ) (mRt μ) :: lw_gd := by
      unfold wsO cdW
      rw [hh]
    refine vx_ofW hg.1 hw ?_
    intro p e s m args below meth c s₁ B hml ht hP
    refine key p e s m args below meth c s₁ B hml ?_ hP
    rw [hh]
    cases hq : c.exceptionTable.toList with
    | nil => rfl
    | cons x t => exact (ht x (by rw [hq]; exact List.mem_cons_self)).elim
  | cons x t =>
    have hw : wsO μ = Cond.codeWith (mNm μ) (mBs μ) (mMl μ) (mRt μ) (x :: t) :: lw_gd := by
      unfold wsO cdW
      rw [hh]
    refine vx_ofWH hg.1 hw ?_
    intro p e s m args below meth c s₁ B hml hP
    refine key p e s m args below meth c s₁ B hml ?_ hP
    rw [hh]
    exact vx_table (x := mNm μ) B (atoms_spec (ws := wsO μ) B.pre _ (by rw [hw]; exact List.mem_cons_self))
theorem Wp.mono {sc : SC} {μ : MI} {mc ms k n pc : Nat} {lv : List (Nat × Value)} {st : List Value} {S : AS} {Q Q' : Out → AS → Prop} (h : Wp sc μ mc ms k n pc lv st S Q) (hq : ∀ o S', Q o S' → Q' o S') : Wp sc μ mc ms k n pc lv st S Q' := by
  intro l κ p e s m args below meth c H locs ls hfl hC hS hR hlv T hT X
  obtain ⟨t, a1, o, b1, b2, b3⟩ := h l κ p e s m args below meth c H locs ls hfl hC hS hR hlv T hT X
  refine ⟨t, a1, o, b1, b2, ?_⟩
  rcases b3 with ⟨⟨⟨r, S', e1, e2, e3⟩, hF⟩, hL⟩ | ⟨q, e1, E, ce, L, ⟨⟨ec, S', f1, f2, f3, f4⟩, hF⟩, hr⟩
  · exact Or.inl ⟨⟨⟨r, S', e1, hq _ _ e2, e3⟩, hF⟩, hL⟩
  · exact Or.inr ⟨q, e1, E, ce, L, ⟨⟨ec, S', f1, f2, hq _ _ f3, f4⟩, hF⟩, hr⟩
theorem Rep.congr {κ : KX} {S S' : AS} {H : Heap} (h : Rep κ S H) (h1 : S'.2 = S.2) (h2 : ∀ i, i < S.2.1 → S'.1 i = S.1 i) : Rep κ S' H := by
  obtain ⟨a, b, c⟩ := h
  refine ⟨fun i hi hj => ?_, ?_, ?_⟩
  · rw [h1] at hi
    rw [h2 i hi] at hj ⊢
    exact a i hi hj
  · rw [h1]
    exact b
  · rw [h1]
    exact c
theorem Wp.congr {sc : SC} {μ : MI} {mc ms k n pc : Nat} {lv : List (Nat × Value)} {st : List Value} {S S' : AS} {Q : Out → AS → Prop} (h1 : S'.2 = S.2) (h2 : ∀ i, i < S.2.1 → S'.1 i = S.1 i) (h : Wp sc μ mc ms k n pc lv st S' Q) : Wp sc μ mc ms k n pc lv st S Q :=
  fun l κ p e s m args below meth c H locs ls hfl hC hS hR hlv => h l κ p e s m args below meth c H locs ls hfl hC hS (hR.congr h1 h2) hlv
theorem Cal.mono {sc : SC} {μ : MI} {mc ms : Nat} {as : List Value} {S : AS} {Q Q' : Out → AS → Prop} (h : Cal sc μ mc ms as S Q) (hq : ∀ o S', Q o S' → Q' o S') : Cal sc μ mc ms as S Q' := by
  intro l κ hfl p e ha hc hk s m args below hf happ hP hK
  obtain ⟨n, o, h1, h2, h3, h4⟩ := h l κ hfl p e ha hc hk s m args below hf happ hP hK
  refine ⟨n, o, h1, h2, h3, ?_⟩
  rcases h4 with ⟨⟨⟨r, S', e1, e2, e3⟩, hF⟩, hL⟩ | ⟨q, e1, E, ce, L, ⟨⟨ec, S', f1, f2, f3, f4⟩, hF⟩, hr⟩
  · exact Or.inl ⟨⟨⟨r, S', e1, hq _ _ e2, e3⟩, hF⟩, hL⟩
  · exact Or.inr ⟨q, e1, E, ce, L, ⟨⟨ec, S', f1, f2, hq _ _ f3, f4⟩, hF⟩, hr⟩
end
section
theorem Cx.dk {κ : KX} {sc : SC} {μ : MI} {p : Program} {s : State} {m : MethodId} {args : Array Value} {meth : Method} {c : Code} (h : Cx κ sc μ p s m args meth c) {pc : Nat} {x : Instr × Nat} (hc : cf (mCd μ) pc = some x) : decode (mBs μ) pc = .ok x := h.2.2.2.2.2.1 pc x hc
theorem Cx.own {κ : KX} {sc : SC} {μ : MI} {p : Program} {s : State} {m : MethodId} {args : Array Value} {meth : Method} {c : Code} (h : Cx κ sc μ p s m args meth c) : s.vm.findClass (mNm μ).cls = some m.cls := h.1.2.2.2.2
theorem Cx.wd {κ : KX} {sc : SC} {μ : MI} {p : Program} {s : State} {m : MethodId} {args : Array Value} {meth : Method} {c : Code} (h : Cx κ sc μ p s m args meth c) {w : Cond} (hw : w ∈ lw_gd) : w.before args s = true := h.2.1 w (List.mem_cons_of_mem _ hw)
theorem Cx.gd {κ : KX} {sc : SC} {μ : MI} {p : Program} {s : State} {m : MethodId} {args : Array Value} {meth : Method} {c : Code} (h : Cx κ sc μ p s m args meth c) : Gd κ sc s := h.2.2.2.2.1
theorem Cx.kk {κ : KX} {sc : SC} {μ : MI} {p : Program} {s : State} {m : MethodId} {args : Array Value} {meth : Method} {c : Code} (h : Cx κ sc μ p s m args meth c) : va_K (kD κ) vwCl (tysK κ) s := h.gd.1.1
theorem Cx.kA {κ : KX} {sc : SC} {μ : MI} {p : Program} {s : State} {m : MethodId} {args : Array Value} {meth : Method} {c : Code} (h : Cx κ sc μ p s m args meth c) : ∀ q : Nat, s.heap.size ≤ q → kF κ q := fun _ hq => ⟨Nat.le_trans h.gd.1.2.1 hq, Or.inl (Nat.le_trans h.gd.1.2.2 hq)⟩
/-- a local -/
def lk : List (Nat × Value) → Nat → Option Value
  | [], _ => none
  | e :: t, i => if e.1 = i then some e.2 else lk t i
theorem lk_mem : ∀ (l : List (Nat × Value)) (i : Nat) (v : Value), lk l i = some v → (i, v) ∈ l
  | [], _, _, h => by cases h
  | e :: t, i, v, h => by
    unfold lk at h
    by_cases he : e.1 = i
    · rw [if_pos he] at h
      cases h
      subst he
      exact List.mem_cons_self
    · rw [if_neg he] at h
      exact List.mem_cons_of_mem _ (lk_mem t i v h)
theorem lk_at {κ : KX} {ls : Array Slot} {nL : Nat} {lv : List (Nat × Value)} {i : Nat} {v : Value} (h : lv_has ls nL (cvl κ lv)) (hl : lk lv i = some v) : ls[i]? = some (.val (cv κ v)) :=
  h.2.2 (i, cv κ v) (List.mem_map.mpr ⟨(i, v), lk_mem lv i v hl, rfl⟩)
def st1 (lv : List (Nat × Value)) (i : Nat) (v : Value) : List (Nat × Value) := (i, v) :: lv.filter (fun q => !(q.1 == i) && !(q.1 + 1 == i && q.2.category == 2))
def st2 (lv : List (Nat × Value)) (i : Nat) (v : Value) : List (Nat × Value) := (i, v) :: lv.filter (fun q => !(q.1 == i) && (!(q.1 == i + 1) && !(q.1 + 1 == i && q.2.category == 2)))
theorem st1_cv (κ : KX) (lv : List (Nat × Value)) (i : Nat) (v : Value) : (i, cv κ v) :: (cvl κ lv).filter (fun q => !(q.1 == i) && !(q.1 + 1 == i && q.2.category == 2)) = cvl κ (st1 lv i v) := by
  unfold st1 cvl
  rw [List.map_cons, List.filter_map]
  congr 2
  apply List.filter_congr
  intro q _
  simp [Function.comp, cv_cat]
theorem st2_cv (κ : KX) (lv : List (Nat × Value)) (i : Nat) (v : Value) : (i, cv κ v) :: (cvl κ lv).filter (fun q => !(q.1 == i) && (!(q.1 == i + 1) && !(q.1 + 1 == i && q.2.category == 2))) = cvl κ (st2 lv i v) := by
  unfold st2 cvl
  rw [List.map_cons, List.filter_map]
  congr 2
  apply List.filter_congr
  intro q _
  simp [Function.comp, cv_cat]
theorem cvs_sum (κ : KX) (st : List Value) : ((cvs κ st).map fun v => v.category).sum = (st.map fun v => v.category).sum := by
  congr 1
  unfold cvs
  rw [List.map_map]
  apply List.map_congr_left
  intro v _
  exact cv_cat κ v
theorem cvl_sub {κ : KX} {ls : Array Slot} {nL : Nat} {lv lv' : List (Nat × Value)} (h : lv_has ls nL (cvl κ lv)) (ks : List Nat) (hl : lv_pick lv ks = lv') : lv_has ls nL (cvl κ lv') := by
  refine lv_sub h ks ?_
  subst hl
  unfold lv_pick cvl
  rw [List.map_filterMap]
  congr 1
  funext i
  rw [List.getElem?_map]
theorem r_lv {sc : SC} {μ : MI} {mc ms k n pc : Nat} {lv : List (Nat × Value)} {st : List Value} {S : AS} {Q : Out → AS → Prop} {lv' : List (Nat × Value)} (ks : List Nat) (hl : lv_pick lv ks = lv') (kk : Wp sc μ mc ms k n pc lv' st S Q) : Wp sc μ mc ms k n pc lv st S Q := by
  intro l κ p e s m args below meth c H locs ls hfl hC hS hR hlv
  exact kk l κ p e s m args below meth c H locs ls hfl hC hS hR (cvl_sub hlv ks hl)
theorem r_top {sc : SC} {μ : MI} {mc ms k n pc : Nat} {lv : List (Nat × Value)} {st : List Value} {S : AS} {Q : Out → AS → Prop} {x y : Int32} (h : x = y) (kk : Wp sc μ mc ms k n pc lv (.int y :: st) S Q) : Wp sc μ mc ms k n pc lv (.int x :: st) S Q := h ▸ kk
theorem r_topL {sc : SC} {μ : MI} {mc ms k n pc : Nat} {lv : List (Nat × Value)} {st : List Value} {S : AS} {Q : Out → AS → Prop} {x y : Int64} (h : x = y) (kk : Wp sc μ mc ms k n pc lv (.long y :: st) S Q) : Wp sc μ mc ms k n pc lv (.long x :: st) S Q := h ▸ kk

theorem r_iconst {sc : SC} {μ : MI} {mc ms k n pc : Nat} {lv : List (Nat × Value)} {st : List Value} {S : AS} {Q : Out → AS → Prop} {z : Int} {v : Int32} (h : cf (mCd μ) pc = some (.iconst z, 1)) (hv : Int32.ofInt z = v) (kk : Wp sc μ mc ms k n (pc + 1) lv (.int v :: st) S Q) : Wp sc μ mc ms k n pc lv (st) S Q := by
  intro l κ p e s m args below meth c H locs ls hfl hC hS hR hlv
  exact lv_iconst hC.1.1 hC.1.2.1 (hC.dk h) hv (kk l κ p e s m args below meth c H locs _ hfl hC hS hR hlv)

theorem r_bipush {sc : SC} {μ : MI} {mc ms k n pc : Nat} {lv : List (Nat × Value)} {st : List Value} {S : AS} {Q : Out → AS → Prop} {z : Int} {v : Int32} (h : cf (mCd μ) pc = some (.bipush z, 2)) (hv : (Int8.ofInt z).toInt32 = v) (kk : Wp sc μ mc ms k n (pc + 2) lv (.int v :: st) S Q) : Wp sc μ mc ms k n pc lv (st) S Q := by
  intro l κ p e s m args below meth c H locs ls hfl hC hS hR hlv
  exact lv_bipush hC.1.1 hC.1.2.1 (hC.dk h) hv (kk l κ p e s m args below meth c H locs _ hfl hC hS hR hlv)

theorem r_sipush {sc : SC} {μ : MI} {mc ms k n pc : Nat} {lv : List (Nat × Value)} {st : List Value} {S : AS} {Q : Out → AS → Prop} {z : Int} {v : Int32} (h : cf (mCd μ) pc = some (.sipush z, 3)) (hv : (Int16.ofInt z).toInt32 = v) (kk : Wp sc μ mc ms k n (pc + 3) lv (.int v :: st) S Q) : Wp sc μ mc ms k n pc lv (st) S Q := by
  intro l κ p e s m args below meth c H locs ls hfl hC hS hR hlv
  exact lv_sipush hC.1.1 hC.1.2.1 (hC.dk h) hv (kk l κ p e s m args below meth c H locs _ hfl hC hS hR hlv)

theorem r_lconst {sc : SC} {μ : MI} {mc ms k n pc : Nat} {lv : List (Nat × Value)} {st : List Value} {S : AS} {Q : Out → AS → Prop} {z : Fin 2} {v : Int64} (h : cf (mCd μ) pc = some (.lconst z, 1)) (hv : Int64.ofNat (z : Nat) = v) (kk : Wp sc μ mc ms k n (pc + 1) lv (.long v :: st) S Q) : Wp sc μ mc ms k n pc lv (st) S Q := by
  intro l κ p e s m args below meth c H locs ls hfl hC hS hR hlv
  exact lv_lconst hC.1.1 hC.1.2.1 (hC.dk h) hv (kk l κ p e s m args below meth c H locs _ hfl hC hS hR hlv)

theorem r_ldc {sc : SC} {μ : MI} {mc ms k n pc : Nat} {lv : List (Nat × Value)} {st : List Value} {S : AS} {Q : Out → AS → Prop} {idx : Nat} {v : Int32} (h : cf (mCd μ) pc = some (.ldc idx, 2)) (hw : Cond.constant (mNm μ).cls idx v ∈ lw_gd) (kk : Wp sc μ mc ms k n (pc + 2) lv (.int v :: st) S Q) : Wp sc μ mc ms k n pc lv (st) S Q := by
  intro l κ p e s m args below meth c H locs ls hfl hC hS hR hlv
  exact lv_ldc hC.1.1 hC.1.2.1 hC.own (hC.wd hw) (hC.dk h) (kk l κ p e s m args below meth c H locs _ hfl hC hS hR hlv)

theorem r_ldcw {sc : SC} {μ : MI} {mc ms k n pc : Nat} {lv : List (Nat × Value)} {st : List Value} {S : AS} {Q : Out → AS → Prop} {idx : Nat} {v : Int32} (h : cf (mCd μ) pc = some (.ldc_w idx, 3)) (hw : Cond.constant (mNm μ).cls idx v ∈ lw_gd) (kk : Wp sc μ mc ms k n (pc + 3) lv (.int v :: st) S Q) : Wp sc μ mc ms k n pc lv (st) S Q := by
  intro l κ p e s m args below meth c H locs ls hfl hC hS hR hlv
  exact lv_ldcw hC.1.1 hC.1.2.1 hC.own (hC.wd hw) (hC.dk h) (kk l κ p e s m args below meth c H locs _ hfl hC hS hR hlv)

theorem r_ldc2 {sc : SC} {μ : MI} {mc ms k n pc : Nat} {lv : List (Nat × Value)} {st : List Value} {S : AS} {Q : Out → AS → Prop} {idx : Nat} {v : Int64} (h : cf (mCd μ) pc = some (.ldc2_w idx, 3)) (hw : Cond.constantLong (mNm μ).cls idx v ∈ lw_gd) (kk : Wp sc μ mc ms k n (pc + 3) lv (.long v :: st) S Q) : Wp sc μ mc ms k n pc lv (st) S Q := by
  intro l κ p e s m args below meth c H locs ls hfl hC hS hR hlv
  exact lv_ldc2 hC.1.1 hC.1.2.1 hC.own (hC.wd hw) (hC.dk h) (kk l κ p e s m args below meth c H locs _ hfl hC hS hR hlv)

theorem r_iload_n {sc : SC} {μ : MI} {mc ms k n pc : Nat} {lv : List (Nat × Value)} {st : List Value} {S : AS} {Q : Out → AS → Prop} {i : Fin 4} {x : Int32} (h : cf (mCd μ) pc = some (.iload_n i, 1)) (hl : lk lv (i : Nat) = some (.int x)) (kk : Wp sc μ mc ms k n (pc + 1) lv (.int x :: st) S Q) : Wp sc μ mc ms k n pc lv (st) S Q := by
  intro l κ p e s m args below meth c H locs ls hfl hC hS hR hlv
  exact lv_iload_n hC.1.1 hC.1.2.1 (hC.dk h) rfl (lk_at hlv hl) (kk l κ p e s m args below meth c H locs _ hfl hC hS hR hlv)

theorem r_iload {sc : SC} {μ : MI} {mc ms k n pc : Nat} {lv : List (Nat × Value)} {st : List Value} {S : AS} {Q : Out → AS → Prop} {i : Nat} {x : Int32} (h : cf (mCd μ) pc = some (.iload i, 2)) (hl : lk lv i = some (.int x)) (kk : Wp sc μ mc ms k n (pc + 2) lv (.int x :: st) S Q) : Wp sc μ mc ms k n pc lv (st) S Q := by
  intro l κ p e s m args below meth c H locs ls hfl hC hS hR hlv
  exact lv_iload hC.1.1 hC.1.2.1 (hC.dk h) (lk_at hlv hl) (kk l κ p e s m args below meth c H locs _ hfl hC hS hR hlv)

theorem r_lload_n {sc : SC} {μ : MI} {mc ms k n pc : Nat} {lv : List (Nat × Value)} {st : List Value} {S : AS} {Q : Out → AS → Prop} {i : Fin 4} {x : Int64} (h : cf (mCd μ) pc = some (.lload_n i, 1)) (hl : lk lv (i : Nat) = some (.long x)) (kk : Wp sc μ mc ms k n (pc + 1) lv (.long x :: st) S Q) : Wp sc μ mc ms k n pc lv (st) S Q := by
  intro l κ p e s m args below meth c H locs ls hfl hC hS hR hlv
  exact lv_lload_n hC.1.1 hC.1.2.1 (hC.dk h) rfl (lk_at hlv hl) (kk l κ p e s m args below meth c H locs _ hfl hC hS hR hlv)

theorem r_lload {sc : SC} {μ : MI} {mc ms k n pc : Nat} {lv : List (Nat × Value)} {st : List Value} {S : AS} {Q : Out → AS → Prop} {i : Nat} {x : Int64} (h : cf (mCd μ) pc = some (.lload i, 2)) (hl : lk lv i = some (.long x)) (kk : Wp sc μ mc ms k n (pc + 2) lv (.long x :: st) S Q) : Wp sc μ mc ms k n pc lv (st) S Q := by
  intro l κ p e s m args below meth c H locs ls hfl hC hS hR hlv
  exact lv_lload hC.1.1 hC.1.2.1 (hC.dk h) (lk_at hlv hl) (kk l κ p e s m args below meth c H locs _ hfl hC hS hR hlv)

theorem r_aload_n {sc : SC} {μ : MI} {mc ms k n pc : Nat} {lv : List (Nat × Value)} {st : List Value} {S : AS} {Q : Out → AS → Prop} {i : Fin 4} {x : Nat} (h : cf (mCd μ) pc = some (.aload_n i, 1)) (hl : lk lv (i : Nat) = some (.ref x)) (kk : Wp sc μ mc ms k n (pc + 1) lv (.ref x :: st) S Q) : Wp sc μ mc ms k n pc lv (st) S Q := by
  intro l κ p e s m args below meth c H locs ls hfl hC hS hR hlv
  exact lv_aload_n hC.1.1 hC.1.2.1 (hC.dk h) rfl (lk_at hlv hl) (kk l κ p e s m args below meth c H locs _ hfl hC hS hR hlv)

theorem r_aload {sc : SC} {μ : MI} {mc ms k n pc : Nat} {lv : List (Nat × Value)} {st : List Value} {S : AS} {Q : Out → AS → Prop} {i : Nat} {x : Nat} (h : cf (mCd μ) pc = some (.aload i, 2)) (hl : lk lv i = some (.ref x)) (kk : Wp sc μ mc ms k n (pc + 2) lv (.ref x :: st) S Q) : Wp sc μ mc ms k n pc lv (st) S Q := by
  intro l κ p e s m args below meth c H locs ls hfl hC hS hR hlv
  exact lv_aload hC.1.1 hC.1.2.1 (hC.dk h) (lk_at hlv hl) (kk l κ p e s m args below meth c H locs _ hfl hC hS hR hlv)

theorem cvK_ref (κ : KX) {x : Nat} (hx : x ≠ 99) : ∃ t, cv κ (.retAddr x) = .ref t := by
  show ∃ t, cvK κ x = .ref t
  unfold cvK
  split
  · exact ⟨_, rfl⟩
  · split
    · exact ⟨_, rfl⟩
    · rw [if_neg (by omega)]
      exact ⟨_, rfl⟩

theorem r_aload_nK {sc : SC} {μ : MI} {mc ms k n pc : Nat} {lv : List (Nat × Value)} {st : List Value} {S : AS} {Q : Out → AS → Prop} {i : Fin 4} {x : Nat} (h : cf (mCd μ) pc = some (.aload_n i, 1)) (hl : lk lv (i : Nat) = some (.retAddr x)) (hx : x ≠ 99) (kk : Wp sc μ mc ms k n (pc + 1) lv (.retAddr x :: st) S Q) : Wp sc μ mc ms k n pc lv st S Q := by
  intro l κ p e s m args below meth c H locs ls hfl hC hS hR hlv
  have h1 := lk_at hlv hl
  have h2 := kk l κ p e s m args below meth c H locs _ hfl hC hS hR hlv
  obtain ⟨t, ht⟩ := cvK_ref κ hx
  have h3 : cvs κ (.retAddr x :: st) = .ref t :: cvs κ st := by
    show cv κ (.retAddr x) :: cvs κ st = _
    rw [ht]
  rw [h3] at h2
  rw [ht] at h1
  exact lv_aload_n hC.1.1 hC.1.2.1 (hC.dk h) rfl h1 h2

theorem r_aloadK {sc : SC} {μ : MI} {mc ms k n pc : Nat} {lv : List (Nat × Value)} {st : List Value} {S : AS} {Q : Out → AS → Prop} {i : Nat} {x : Nat} (h : cf (mCd μ) pc = some (.aload i, 2)) (hl : lk lv i = some (.retAddr x)) (hx : x ≠ 99) (kk : Wp sc μ mc ms k n (pc + 2) lv (.retAddr x :: st) S Q) : Wp sc μ mc ms k n pc lv st S Q := by
  intro l κ p e s m args below meth c H locs ls hfl hC hS hR hlv
  have h1 := lk_at hlv hl
  have h2 := kk l κ p e s m args below meth c H locs _ hfl hC hS hR hlv
  obtain ⟨t, ht⟩ := cvK_ref κ hx
  have h3 : cvs κ (.retAddr x :: st) = .ref t :: cvs κ st := by
    show cv κ (.retAddr x) :: cvs κ st = _
    rw [ht]
  rw [h3] at h2
  rw [ht] at h1
  exact lv_aload hC.1.1 hC.1.2.1 (hC.dk h) h1 h2

theorem r_istore_n {sc : SC} {μ : MI} {mc ms k n pc : Nat} {lv : List (Nat × Value)} {st : List Value} {S : AS} {Q : Out → AS → Prop} {j : Fin 4} {i : Nat} {x : Int32} {lv' : List (Nat × Value)} (h : cf (mCd μ) pc = some (.istore_n j, 1)) (hi : (j : Nat) = i) (hn : i < mMl μ) (hl : st1 lv i (.int x) = lv') (kk : Wp sc μ mc ms k n (pc + 1) lv' st S Q) : Wp sc μ mc ms k n pc lv (.int x :: st) S Q := by
  intro l κ p e s m args below meth c H locs ls hfl hC hS hR hlv
  exact lv_istore_n (nL := mMl μ) (lv' := cvl κ lv') hC.1.1 hC.1.2.1 (hC.dk h) hi hlv hn (by subst hl; exact st1_cv κ lv i (.int x)) (fun ls' hlv => kk l κ p e s m args below meth c H locs ls' hfl hC hS hR hlv)

theorem r_istore {sc : SC} {μ : MI} {mc ms k n pc : Nat} {lv : List (Nat × Value)} {st : List Value} {S : AS} {Q : Out → AS → Prop} {i : Nat} {x : Int32} {lv' : List (Nat × Value)} (h : cf (mCd μ) pc = some (.istore i, 2)) (hn : i < mMl μ) (hl : st1 lv i (.int x) = lv') (kk : Wp sc μ mc ms k n (pc + 2) lv' st S Q) : Wp sc μ mc ms k n pc lv (.int x :: st) S Q := by
  intro l κ p e s m args below meth c H locs ls hfl hC hS hR hlv
  exact lv_istore (nL := mMl μ) (lv' := cvl κ lv') hC.1.1 hC.1.2.1 (hC.dk h) hlv hn (by subst hl; exact st1_cv κ lv i (.int x)) (fun ls' hlv => kk l κ p e s m args below meth c H locs ls' hfl hC hS hR hlv)

theorem r_lstore_n {sc : SC} {μ : MI} {mc ms k n pc : Nat} {lv : List (Nat × Value)} {st : List Value} {S : AS} {Q : Out → AS → Prop} {j : Fin 4} {i : Nat} {x : Int64} {lv' : List (Nat × Value)} (h : cf (mCd μ) pc = some (.lstore_n j, 1)) (hi : (j : Nat) = i) (hn : i + 1 < mMl μ) (hl : st2 lv i (.long x) = lv') (kk : Wp sc μ mc ms k n (pc + 1) lv' st S Q) : Wp sc μ mc ms k n pc lv (.long x :: st) S Q := by
  intro l κ p e s m args below meth c H locs ls hfl hC hS hR hlv
  exact lv_lstore_n (nL := mMl μ) (lv' := cvl κ lv') hC.1.1 hC.1.2.1 (hC.dk h) hi hlv hn (by subst hl; exact st2_cv κ lv i (.long x)) (fun ls' hlv => kk l κ p e s m args below meth c H locs ls' hfl hC hS hR hlv)

theorem r_lstore {sc : SC} {μ : MI} {mc ms k n pc : Nat} {lv : List (Nat × Value)} {st : List Value} {S : AS} {Q : Out → AS → Prop} {i : Nat} {x : Int64} {lv' : List (Nat × Value)} (h : cf (mCd μ) pc = some (.lstore i, 2)) (hn : i + 1 < mMl μ) (hl : st2 lv i (.long x) = lv') (kk : Wp sc μ mc ms k n (pc + 2) lv' st S Q) : Wp sc μ mc ms k n pc lv (.long x :: st) S Q := by
  intro l κ p e s m args below meth c H locs ls hfl hC hS hR hlv
  exact lv_lstore (nL := mMl μ) (lv' := cvl κ lv') hC.1.1 hC.1.2.1 (hC.dk h) hlv hn (by subst hl; exact st2_cv κ lv i (.long x)) (fun ls' hlv => kk l κ p e s m args below meth c H locs ls' hfl hC hS hR hlv)

theorem r_astore_n {sc : SC} {μ : MI} {mc ms k n pc : Nat} {lv : List (Nat × Value)} {st : List Value} {S : AS} {Q : Out → AS → Prop} {j : Fin 4} {i : Nat} {x : Nat} {lv' : List (Nat × Value)} (h : cf (mCd μ) pc = some (.astore_n j, 1)) (hi : (j : Nat) = i) (hn : i < mMl μ) (hl : st1 lv i (.ref x) = lv') (kk : Wp sc μ mc ms k n (pc + 1) lv' st S Q) : Wp sc μ mc ms k n pc lv (.ref x :: st) S Q := by
  intro l κ p e s m args below meth c H locs ls hfl hC hS hR hlv
  exact lv_astore_n (nL := mMl μ) (lv' := cvl κ lv') hC.1.1 hC.1.2.1 (hC.dk h) hi hlv hn (by subst hl; exact st1_cv κ lv i (.ref x)) (fun ls' hlv => kk l κ p e s m args below meth c H locs ls' hfl hC hS hR hlv)

theorem r_astore {sc : SC} {μ : MI} {mc ms k n pc : Nat} {lv : List (Nat × Value)} {st : List Value} {S : AS} {Q : Out → AS → Prop} {i : Nat} {x : Nat} {lv' : List (Nat × Value)} (h : cf (mCd μ) pc = some (.astore i, 2)) (hn : i < mMl μ) (hl : st1 lv i (.ref x) = lv') (kk : Wp sc μ mc ms k n (pc + 2) lv' st S Q) : Wp sc μ mc ms k n pc lv (.ref x :: st) S Q := by
  intro l κ p e s m args below meth c H locs ls hfl hC hS hR hlv
  exact lv_astore (nL := mMl μ) (lv' := cvl κ lv') hC.1.1 hC.1.2.1 (hC.dk h) hlv hn (by subst hl; exact st1_cv κ lv i (.ref x)) (fun ls' hlv => kk l κ p e s m args below meth c H locs ls' hfl hC hS hR hlv)

theorem r_iinc {sc : SC} {μ : MI} {mc ms k n pc : Nat} {lv : List (Nat × Value)} {st : List Value} {S : AS} {Q : Out → AS → Prop} {i : Nat} {z : Int} {x v : Int32} {lv' : List (Nat × Value)} (h : cf (mCd μ) pc = some (.iinc i z, 3)) (hx : lk lv i = some (.int x)) (hv : x + Int32.ofInt z = v) (hn : i < mMl μ) (hl : st1 lv i (.int v) = lv') (kk : Wp sc μ mc ms k n (pc + 3) lv' st S Q) : Wp sc μ mc ms k n pc lv st S Q := by
  intro l κ p e s m args below meth c H locs ls hfl hC hS hR hlv
  obtain ⟨j, hj⟩ := List.getElem?_of_mem (lk_mem lv i _ hx)
  exact lv_iinc (nL := mMl μ) (lv' := cvl κ lv') (k := j) (x := x) hC.1.1 hC.1.2.1 (hC.dk h) hlv (by unfold cvl; rw [List.getElem?_map, hj]; rfl) hv hn (by subst hl; exact st1_cv κ lv i (.int v)) (fun ls' hlv => kk l κ p e s m args below meth c H locs ls' hfl hC hS hR hlv)

theorem r_iadd {sc : SC} {μ : MI} {mc ms k n pc : Nat} {lv : List (Nat × Value)} {st : List Value} {S : AS} {Q : Out → AS → Prop} {x y : Int32} (h : cf (mCd μ) pc = some (.iadd, 1))  (kk : Wp sc μ mc ms k n (pc + 1) lv (.int (x + y) :: st) S Q) : Wp sc μ mc ms k n pc lv (.int y :: .int x :: st) S Q := by
  intro l κ p e s m args below meth c H locs ls hfl hC hS hR hlv
  exact lv_iadd hC.1.1 hC.1.2.1 (hC.dk h) (kk l κ p e s m args below meth c H locs _ hfl hC hS hR hlv)

theorem r_isub {sc : SC} {μ : MI} {mc ms k n pc : Nat} {lv : List (Nat × Value)} {st : List Value} {S : AS} {Q : Out → AS → Prop} {x y : Int32} (h : cf (mCd μ) pc = some (.isub, 1))  (kk : Wp sc μ mc ms k n (pc + 1) lv (.int (x - y) :: st) S Q) : Wp sc μ mc ms k n pc lv (.int y :: .int x :: st) S Q := by
  intro l κ p e s m args below meth c H locs ls hfl hC hS hR hlv
  exact lv_isub hC.1.1 hC.1.2.1 (hC.dk h) (kk l κ p e s m args below meth c H locs _ hfl hC hS hR hlv)

theorem r_imul {sc : SC} {μ : MI} {mc ms k n pc : Nat} {lv : List (Nat × Value)} {st : List Value} {S : AS} {Q : Out → AS → Prop} {x y : Int32} (h : cf (mCd μ) pc = some (.imul, 1))  (kk : Wp sc μ mc ms k n (pc + 1) lv (.int (x * y) :: st) S Q) : Wp sc μ mc ms k n pc lv (.int y :: .int x :: st) S Q := by
  intro l κ p e s m args below meth c H locs ls hfl hC hS hR hlv
  exact lv_imul hC.1.1 hC.1.2.1 (hC.dk h) (kk l κ p e s m args below meth c H locs _ hfl hC hS hR hlv)

theorem r_iand {sc : SC} {μ : MI} {mc ms k n pc : Nat} {lv : List (Nat × Value)} {st : List Value} {S : AS} {Q : Out → AS → Prop} {x y : Int32} (h : cf (mCd μ) pc = some (.iand, 1))  (kk : Wp sc μ mc ms k n (pc + 1) lv (.int (x &&& y) :: st) S Q) : Wp sc μ mc ms k n pc lv (.int y :: .int x :: st) S Q := by
  intro l κ p e s m args below meth c H locs ls hfl hC hS hR hlv
  exact lv_iand hC.1.1 hC.1.2.1 (hC.dk h) (kk l κ p e s m args below meth c H locs _ hfl hC hS hR hlv)

theorem r_ior {sc : SC} {μ : MI} {mc ms k n pc : Nat} {lv : List (Nat × Value)} {st : List Value} {S : AS} {Q : Out → AS → Prop} {x y : Int32} (h : cf (mCd μ) pc = some (.ior, 1))  (kk : Wp sc μ mc ms k n (pc + 1) lv (.int (x ||| y) :: st) S Q) : Wp sc μ mc ms k n pc lv (.int y :: .int x :: st) S Q := by
  intro l κ p e s m args below meth c H locs ls hfl hC hS hR hlv
  exact lv_ior hC.1.1 hC.1.2.1 (hC.dk h) (kk l κ p e s m args below meth c H locs _ hfl hC hS hR hlv)

theorem r_ixor {sc : SC} {μ : MI} {mc ms k n pc : Nat} {lv : List (Nat × Value)} {st : List Value} {S : AS} {Q : Out → AS → Prop} {x y : Int32} (h : cf (mCd μ) pc = some (.ixor, 1))  (kk : Wp sc μ mc ms k n (pc + 1) lv (.int (x ^^^ y) :: st) S Q) : Wp sc μ mc ms k n pc lv (.int y :: .int x :: st) S Q := by
  intro l κ p e s m args below meth c H locs ls hfl hC hS hR hlv
  exact lv_ixor hC.1.1 hC.1.2.1 (hC.dk h) (kk l κ p e s m args below meth c H locs _ hfl hC hS hR hlv)

theorem r_ishl {sc : SC} {μ : MI} {mc ms k n pc : Nat} {lv : List (Nat × Value)} {st : List Value} {S : AS} {Q : Out → AS → Prop} {x y : Int32} (h : cf (mCd μ) pc = some (.ishl, 1))  (kk : Wp sc μ mc ms k n (pc + 1) lv (.int (x <<< (y &&& 31)) :: st) S Q) : Wp sc μ mc ms k n pc lv (.int y :: .int x :: st) S Q := by
  intro l κ p e s m args below meth c H locs ls hfl hC hS hR hlv
  exact lv_ishl hC.1.1 hC.1.2.1 (hC.dk h) (kk l κ p e s m args below meth c H locs _ hfl hC hS hR hlv)

theorem r_ishr {sc : SC} {μ : MI} {mc ms k n pc : Nat} {lv : List (Nat × Value)} {st : List Value} {S : AS} {Q : Out → AS → Prop} {x y : Int32} (h : cf (mCd μ) pc = some (.ishr, 1))  (kk : Wp sc μ mc ms k n (pc + 1) lv (.int (x >>> (y &&& 31)) :: st) S Q) : Wp sc μ mc ms k n pc lv (.int y :: .int x :: st) S Q := by
  intro l κ p e s m args below meth c H locs ls hfl hC hS hR hlv
  exact lv_ishr hC.1.1 hC.1.2.1 (hC.dk h) (kk l κ p e s m args below meth c H locs _ hfl hC hS hR hlv)

theorem r_idiv {sc : SC} {μ : MI} {mc ms k n pc : Nat} {lv : List (Nat × Value)} {st : List Value} {S : AS} {Q : Out → AS → Prop} {x y : Int32} (h : cf (mCd μ) pc = some (.idiv, 1)) (hne : ¬ y = 0) (kk : Wp sc μ mc ms k n (pc + 1) lv (.int (x / y) :: st) S Q) : Wp sc μ mc ms k n pc lv (.int y :: .int x :: st) S Q := by
  intro l κ p e s m args below meth c H locs ls hfl hC hS hR hlv
  exact lv_idiv hC.1.1 hC.1.2.1 (hC.dk h) hne (kk l κ p e s m args below meth c H locs _ hfl hC hS hR hlv)

theorem r_irem {sc : SC} {μ : MI} {mc ms k n pc : Nat} {lv : List (Nat × Value)} {st : List Value} {S : AS} {Q : Out → AS → Prop} {x y : Int32} (h : cf (mCd μ) pc = some (.irem, 1)) (hne : ¬ y = 0) (kk : Wp sc μ mc ms k n (pc + 1) lv (.int (x - x / y * y) :: st) S Q) : Wp sc μ mc ms k n pc lv (.int y :: .int x :: st) S Q := by
  intro l κ p e s m args below meth c H locs ls hfl hC hS hR hlv
  exact lv_irem hC.1.1 hC.1.2.1 (hC.dk h) hne (kk l κ p e s m args below meth c H locs _ hfl hC hS hR hlv)

theorem r_ladd {sc : SC} {μ : MI} {mc ms k n pc : Nat} {lv : List (Nat × Value)} {st : List Value} {S : AS} {Q : Out → AS → Prop} {x y : Int64} (h : cf (mCd μ) pc = some (.ladd, 1))  (kk : Wp sc μ mc ms k n (pc + 1) lv (.long (x + y) :: st) S Q) : Wp sc μ mc ms k n pc lv (.long y :: .long x :: st) S Q := by
  intro l κ p e s m args below meth c H locs ls hfl hC hS hR hlv
  exact lv_ladd hC.1.1 hC.1.2.1 (hC.dk h) (kk l κ p e s m args below meth c H locs _ hfl hC hS hR hlv)

theorem r_lsub {sc : SC} {μ : MI} {mc ms k n pc : Nat} {lv : List (Nat × Value)} {st : List Value} {S : AS} {Q : Out → AS → Prop} {x y : Int64} (h : cf (mCd μ) pc = some (.lsub, 1))  (kk : Wp sc μ mc ms k n (pc + 1) lv (.long (x - y) :: st) S Q) : Wp sc μ mc ms k n pc lv (.long y :: .long x :: st) S Q := by
  intro l κ p e s m args below meth c H locs ls hfl hC hS hR hlv
  exact lv_lsub hC.1.1 hC.1.2.1 (hC.dk h) (kk l κ p e s m args below meth c H locs _ hfl hC hS hR hlv)

theorem r_lmul {sc : SC} {μ : MI} {mc ms k n pc : Nat} {lv : List (Nat × Value)} {st : List Value} {S : AS} {Q : Out → AS → Prop} {x y : Int64} (h : cf (mCd μ) pc = some (.lmul, 1))  (kk : Wp sc μ mc ms k n (pc + 1) lv (.long (x * y) :: st) S Q) : Wp sc μ mc ms k n pc lv (.long y :: .long x :: st) S Q := by
  intro l κ p e s m args below meth c H locs ls hfl hC hS hR hlv
  exact lv_lmul hC.1.1 hC.1.2.1 (hC.dk h) (kk l κ p e s m args below meth c H locs _ hfl hC hS hR hlv)

theorem r_land {sc : SC} {μ : MI} {mc ms k n pc : Nat} {lv : List (Nat × Value)} {st : List Value} {S : AS} {Q : Out → AS → Prop} {x y : Int64} (h : cf (mCd μ) pc = some (.land, 1))  (kk : Wp sc μ mc ms k n (pc + 1) lv (.long (x &&& y) :: st) S Q) : Wp sc μ mc ms k n pc lv (.long y :: .long x :: st) S Q := by
  intro l κ p e s m args below meth c H locs ls hfl hC hS hR hlv
  exact lv_land hC.1.1 hC.1.2.1 (hC.dk h) (kk l κ p e s m args below meth c H locs _ hfl hC hS hR hlv)

theorem r_lor {sc : SC} {μ : MI} {mc ms k n pc : Nat} {lv : List (Nat × Value)} {st : List Value} {S : AS} {Q : Out → AS → Prop} {x y : Int64} (h : cf (mCd μ) pc = some (.lor, 1))  (kk : Wp sc μ mc ms k n (pc + 1) lv (.long (x ||| y) :: st) S Q) : Wp sc μ mc ms k n pc lv (.long y :: .long x :: st) S Q := by
  intro l κ p e s m args below meth c H locs ls hfl hC hS hR hlv
  exact lv_lor hC.1.1 hC.1.2.1 (hC.dk h) (kk l κ p e s m args below meth c H locs _ hfl hC hS hR hlv)

theorem r_ldiv {sc : SC} {μ : MI} {mc ms k n pc : Nat} {lv : List (Nat × Value)} {st : List Value} {S : AS} {Q : Out → AS → Prop} {x y : Int64} (h : cf (mCd μ) pc = some (.ldiv, 1)) (hne : ¬ y = 0) (kk : Wp sc μ mc ms k n (pc + 1) lv (.long (x / y) :: st) S Q) : Wp sc μ mc ms k n pc lv (.long y :: .long x :: st) S Q := by
  intro l κ p e s m args below meth c H locs ls hfl hC hS hR hlv
  exact lv_ldiv hC.1.1 hC.1.2.1 (hC.dk h) hne (kk l κ p e s m args below meth c H locs _ hfl hC hS hR hlv)

theorem r_lrem {sc : SC} {μ : MI} {mc ms k n pc : Nat} {lv : List (Nat × Value)} {st : List Value} {S : AS} {Q : Out → AS → Prop} {x y : Int64} (h : cf (mCd μ) pc = some (.lrem, 1)) (hne : ¬ y = 0) (kk : Wp sc μ mc ms k n (pc + 1) lv (.long (x - x / y * y) :: st) S Q) : Wp sc μ mc ms k n pc lv (.long y :: .long x :: st) S Q := by
  intro l κ p e s m args below meth c H locs ls hfl hC hS hR hlv
  exact lv_lrem hC.1.1 hC.1.2.1 (hC.dk h) hne (kk l κ p e s m args below meth c H locs _ hfl hC hS hR hlv)

theorem r_lshl {sc : SC} {μ : MI} {mc ms k n pc : Nat} {lv : List (Nat × Value)} {st : List Value} {S : AS} {Q : Out → AS → Prop} {x v : Int64} {y : Int32} (h : cf (mCd μ) pc = some (.lshl, 1)) (hv : x <<< (y.toInt64 &&& 63) = v) (kk : Wp sc μ mc ms k n (pc + 1) lv (.long v :: st) S Q) : Wp sc μ mc ms k n pc lv (.int y :: .long x :: st) S Q := by
  intro l κ p e s m args below meth c H locs ls hfl hC hS hR hlv
  exact lv_lshl hC.1.1 hC.1.2.1 (hC.dk h) hv (kk l κ p e s m args below meth c H locs _ hfl hC hS hR hlv)

theorem r_i2l {sc : SC} {μ : MI} {mc ms k n pc : Nat} {lv : List (Nat × Value)} {st : List Value} {S : AS} {Q : Out → AS → Prop} {x : Int32} {v : Int64} (h : cf (mCd μ) pc = some (.i2l, 1)) (hv : x.toInt64 = v) (kk : Wp sc μ mc ms k n (pc + 1) lv (.long v :: st) S Q) : Wp sc μ mc ms k n pc lv (.int x :: st) S Q := by
  intro l κ p e s m args below meth c H locs ls hfl hC hS hR hlv
  exact lv_i2l hC.1.1 hC.1.2.1 (hC.dk h) hv (kk l κ p e s m args below meth c H locs _ hfl hC hS hR hlv)

theorem r_l2i {sc : SC} {μ : MI} {mc ms k n pc : Nat} {lv : List (Nat × Value)} {st : List Value} {S : AS} {Q : Out → AS → Prop} {x : Int64} {v : Int32} (h : cf (mCd μ) pc = some (.l2i, 1)) (hv : x.toInt32 = v) (kk : Wp sc μ mc ms k n (pc + 1) lv (.int v :: st) S Q) : Wp sc μ mc ms k n pc lv (.long x :: st) S Q := by
  intro l κ p e s m args below meth c H locs ls hfl hC hS hR hlv
  exact lv_l2i hC.1.1 hC.1.2.1 (hC.dk h) hv (kk l κ p e s m args below meth c H locs _ hfl hC hS hR hlv)

theorem r_i2b {sc : SC} {μ : MI} {mc ms k n pc : Nat} {lv : List (Nat × Value)} {st : List Value} {S : AS} {Q : Out → AS → Prop} {x v : Int32} (h : cf (mCd μ) pc = some (.i2b, 1)) (hv : x.toInt8.toInt32 = v) (kk : Wp sc μ mc ms k n (pc + 1) lv (.int v :: st) S Q) : Wp sc μ mc ms k n pc lv (.int x :: st) S Q := by
  intro l κ p e s m args below meth c H locs ls hfl hC hS hR hlv
  exact lv_i2b hC.1.1 hC.1.2.1 (hC.dk h) hv (kk l κ p e s m args below meth c H locs _ hfl hC hS hR hlv)

theorem r_lcmp {sc : SC} {μ : MI} {mc ms k n pc : Nat} {lv : List (Nat × Value)} {st : List Value} {S : AS} {Q : Out → AS → Prop} {x y : Int64} (h : cf (mCd μ) pc = some (.lcmp, 1)) (kk : Wp sc μ mc ms k n (pc + 1) lv (.int (lg_cmp x y) :: st) S Q) : Wp sc μ mc ms k n pc lv (.long y :: .long x :: st) S Q := by
  intro l κ p e s m args below meth c H locs ls hfl hC hS hR hlv
  exact W.lcmp hC.1.1 hC.1.2.1 (hC.dk h) (kk l κ p e s m args below meth c H locs _ hfl hC hS hR hlv)

theorem r_dup {sc : SC} {μ : MI} {mc ms k n pc : Nat} {lv : List (Nat × Value)} {st : List Value} {S : AS} {Q : Out → AS → Prop} {v : Value} (h : cf (mCd μ) pc = some (.dup, 1)) (hv : v.category = 1) (kk : Wp sc μ mc ms k n (pc + 1) lv (v :: v :: st) S Q) : Wp sc μ mc ms k n pc lv (v :: st) S Q := by
  intro l κ p e s m args below meth c H locs ls hfl hC hS hR hlv
  exact lv_dup hC.1.1 hC.1.2.1 (hC.dk h) (by rw [cv_cat]; exact hv) (kk l κ p e s m args below meth c H locs _ hfl hC hS hR hlv)

theorem r_dup2 {sc : SC} {μ : MI} {mc ms k n pc : Nat} {lv : List (Nat × Value)} {st : List Value} {S : AS} {Q : Out → AS → Prop} {v u : Value} (h : cf (mCd μ) pc = some (.dup2, 1)) (hv : v.category = 1) (hu : u.category = 1) (kk : Wp sc μ mc ms k n (pc + 1) lv (v :: u :: v :: u :: st) S Q) : Wp sc μ mc ms k n pc lv (v :: u :: st) S Q := by
  intro l κ p e s m args below meth c H locs ls hfl hC hS hR hlv
  exact lv_dup2_11 hC.1.1 hC.1.2.1 (hC.dk h) (by rw [cv_cat]; exact hv) (by rw [cv_cat]; exact hu) (kk l κ p e s m args below meth c H locs _ hfl hC hS hR hlv)

theorem r_dup2L {sc : SC} {μ : MI} {mc ms k n pc : Nat} {lv : List (Nat × Value)} {st : List Value} {S : AS} {Q : Out → AS → Prop} {v : Value} (h : cf (mCd μ) pc = some (.dup2, 1)) (hv : v.category = 2) (kk : Wp sc μ mc ms k n (pc + 1) lv (v :: v :: st) S Q) : Wp sc μ mc ms k n pc lv (v :: st) S Q := by
  intro l κ p e s m args below meth c H locs ls hfl hC hS hR hlv
  exact lv_dup2_2 hC.1.1 hC.1.2.1 (hC.dk h) (by rw [cv_cat]; exact hv) (kk l κ p e s m args below meth c H locs _ hfl hC hS hR hlv)

theorem r_pop {sc : SC} {μ : MI} {mc ms k n pc : Nat} {lv : List (Nat × Value)} {st : List Value} {S : AS} {Q : Out → AS → Prop} {v : Value} (h : cf (mCd μ) pc = some (.pop, 1)) (hv : v.category = 1) (kk : Wp sc μ mc ms k n (pc + 1) lv (st) S Q) : Wp sc μ mc ms k n pc lv (v :: st) S Q := by
  intro l κ p e s m args below meth c H locs ls hfl hC hS hR hlv
  exact lv_pop hC.1.1 hC.1.2.1 (hC.dk h) (by rw [cv_cat]; exact hv) (kk l κ p e s m args below meth c H locs _ hfl hC hS hR hlv)

theorem r_i2c {sc : SC} {μ : MI} {mc ms k n pc : Nat} {lv : List (Nat × Value)} {st : List Value} {S : AS} {Q : Out → AS → Prop} {x v : Int32} (h : cf (mCd μ) pc = some (.i2c, 1)) (hv : (x.toUInt32 % 65536).toInt32 = v) (kk : Wp sc μ mc ms k n (pc + 1) lv (.int v :: st) S Q) : Wp sc μ mc ms k n pc lv (.int x :: st) S Q := by
  intro l κ p e s m args below meth c H locs ls hfl hC hS hR hlv
  exact lv_i2c hC.1.1 hC.1.2.1 (hC.dk h) hv (kk l κ p e s m args below meth c H locs _ hfl hC hS hR hlv)

theorem r_if_eq {sc : SC} {μ : MI} {mc ms k n pc : Nat} {lv : List (Nat × Value)} {st : List Value} {S : AS} {Q : Out → AS → Prop} {x : Int32} {off : Int} {tgt : Nat} (h : cf (mCd μ) pc = some (.ifCond .eq off, 3)) (ht : (pc : Int) + off = (tgt : Int)) (kt : x = 0 → Wp sc μ mc ms k n tgt lv st S Q) (kf : ¬ x = 0 → Wp sc μ mc ms k n (pc + 3) lv st S Q) : Wp sc μ mc ms k n pc lv (.int x :: st) S Q := by
  intro l κ p e s m args below meth c H locs ls hfl hC hS hR hlv
  exact lv_if_eq hC.1.1 hC.1.2.1 (hC.dk h) ht (fun q => kt q l κ p e s m args below meth c H locs ls hfl hC hS hR hlv) (fun q => kf q l κ p e s m args below meth c H locs ls hfl hC hS hR hlv)

theorem r_if_ne {sc : SC} {μ : MI} {mc ms k n pc : Nat} {lv : List (Nat × Value)} {st : List Value} {S : AS} {Q : Out → AS → Prop} {x : Int32} {off : Int} {tgt : Nat} (h : cf (mCd μ) pc = some (.ifCond .ne off, 3)) (ht : (pc : Int) + off = (tgt : Int)) (kt : ¬ x = 0 → Wp sc μ mc ms k n tgt lv st S Q) (kf : x = 0 → Wp sc μ mc ms k n (pc + 3) lv st S Q) : Wp sc μ mc ms k n pc lv (.int x :: st) S Q := by
  intro l κ p e s m args below meth c H locs ls hfl hC hS hR hlv
  exact lv_if_ne hC.1.1 hC.1.2.1 (hC.dk h) ht (fun q => kt q l κ p e s m args below meth c H locs ls hfl hC hS hR hlv) (fun q => kf q l κ p e s m args below meth c H locs ls hfl hC hS hR hlv)

theorem r_if_lt {sc : SC} {μ : MI} {mc ms k n pc : Nat} {lv : List (Nat × Value)} {st : List Value} {S : AS} {Q : Out → AS → Prop} {x : Int32} {off : Int} {tgt : Nat} (h : cf (mCd μ) pc = some (.ifCond .lt off, 3)) (ht : (pc : Int) + off = (tgt : Int)) (kt : x < 0 → Wp sc μ mc ms k n tgt lv st S Q) (kf : ¬ x < 0 → Wp sc μ mc ms k n (pc + 3) lv st S Q) : Wp sc μ mc ms k n pc lv (.int x :: st) S Q := by
  intro l κ p e s m args below meth c H locs ls hfl hC hS hR hlv
  exact lv_if_lt hC.1.1 hC.1.2.1 (hC.dk h) ht (fun q => kt q l κ p e s m args below meth c H locs ls hfl hC hS hR hlv) (fun q => kf q l κ p e s m args below meth c H locs ls hfl hC hS hR hlv)

theorem r_if_ge {sc : SC} {μ : MI} {mc ms k n pc : Nat} {lv : List (Nat × Value)} {st : List Value} {S : AS} {Q : Out → AS → Prop} {x : Int32} {off : Int} {tgt : Nat} (h : cf (mCd μ) pc = some (.ifCond .ge off, 3)) (ht : (pc : Int) + off = (tgt : Int)) (kt : 0 ≤ x → Wp sc μ mc ms k n tgt lv st S Q) (kf : ¬ 0 ≤ x → Wp sc μ mc ms k n (pc + 3) lv st S Q) : Wp sc μ mc ms k n pc lv (.int x :: st) S Q := by
  intro l κ p e s m args below meth c H locs ls hfl hC hS hR hlv
  exact lv_if_ge hC.1.1 hC.1.2.1 (hC.dk h) ht (fun q => kt q l κ p e s m args below meth c H locs ls hfl hC hS hR hlv) (fun q => kf q l κ p e s m args below meth c H locs ls hfl hC hS hR hlv)

theorem r_if_gt {sc : SC} {μ : MI} {mc ms k n pc : Nat} {lv : List (Nat × Value)} {st : List Value} {S : AS} {Q : Out → AS → Prop} {x : Int32} {off : Int} {tgt : Nat} (h : cf (mCd μ) pc = some (.ifCond .gt off, 3)) (ht : (pc : Int) + off = (tgt : Int)) (kt : 0 < x → Wp sc μ mc ms k n tgt lv st S Q) (kf : ¬ 0 < x → Wp sc μ mc ms k n (pc + 3) lv st S Q) : Wp sc μ mc ms k n pc lv (.int x :: st) S Q := by
  intro l κ p e s m args below meth c H locs ls hfl hC hS hR hlv
  exact lv_if_gt hC.1.1 hC.1.2.1 (hC.dk h) ht (fun q => kt q l κ p e s m args below meth c H locs ls hfl hC hS hR hlv) (fun q => kf q l κ p e s m args below meth c H locs ls hfl hC hS hR hlv)

theorem r_if_le {sc : SC} {μ : MI} {mc ms k n pc : Nat} {lv : List (Nat × Value)} {st : List Value} {S : AS} {Q : Out → AS → Prop} {x : Int32} {off : Int} {tgt : Nat} (h : cf (mCd μ) pc = some (.ifCond .le off, 3)) (ht : (pc : Int) + off = (tgt : Int)) (kt : x ≤ 0 → Wp sc μ mc ms k n tgt lv st S Q) (kf : ¬ x ≤ 0 → Wp sc μ mc ms k n (pc + 3) lv st S Q) : Wp sc μ mc ms k n pc lv (.int x :: st) S Q := by
  intro l κ p e s m args below meth c H locs ls hfl hC hS hR hlv
  exact lv_if_le hC.1.1 hC.1.2.1 (hC.dk h) ht (fun q => kt q l κ p e s m args below meth c H locs ls hfl hC hS hR hlv) (fun q => kf q l κ p e s m args below meth c H locs ls hfl hC hS hR hlv)

theorem r_icmp_eq {sc : SC} {μ : MI} {mc ms k n pc : Nat} {lv : List (Nat × Value)} {st : List Value} {S : AS} {Q : Out → AS → Prop} {x y : Int32} {off : Int} {tgt : Nat} (h : cf (mCd μ) pc = some (.if_icmp .eq off, 3)) (ht : (pc : Int) + off = (tgt : Int)) (kt : x = y → Wp sc μ mc ms k n tgt lv st S Q) (kf : ¬ x = y → Wp sc μ mc ms k n (pc + 3) lv st S Q) : Wp sc μ mc ms k n pc lv (.int y :: .int x :: st) S Q := by
  intro l κ p e s m args below meth c H locs ls hfl hC hS hR hlv
  exact lv_icmp_eq hC.1.1 hC.1.2.1 (hC.dk h) ht (fun q => kt q l κ p e s m args below meth c H locs ls hfl hC hS hR hlv) (fun q => kf q l κ p e s m args below meth c H locs ls hfl hC hS hR hlv)

theorem r_icmp_ne {sc : SC} {μ : MI} {mc ms k n pc : Nat} {lv : List (Nat × Value)} {st : List Value} {S : AS} {Q : Out → AS → Prop} {x y : Int32} {off : Int} {tgt : Nat} (h : cf (mCd μ) pc = some (.if_icmp .ne off, 3)) (ht : (pc : Int) + off = (tgt : Int)) (kt : ¬ x = y → Wp sc μ mc ms k n tgt lv st S Q) (kf : x = y → Wp sc μ mc ms k n (pc + 3) lv st S Q) : Wp sc μ mc ms k n pc lv (.int y :: .int x :: st) S Q := by
  intro l κ p e s m args below meth c H locs ls hfl hC hS hR hlv
  exact lv_icmp_ne hC.1.1 hC.1.2.1 (hC.dk h) ht (fun q => kt q l κ p e s m args below meth c H locs ls hfl hC hS hR hlv) (fun q => kf q l κ p e s m args below meth c H locs ls hfl hC hS hR hlv)

theorem r_icmp_lt {sc : SC} {μ : MI} {mc ms k n pc : Nat} {lv : List (Nat × Value)} {st : List Value} {S : AS} {Q : Out → AS → Prop} {x y : Int32} {off : Int} {tgt : Nat} (h : cf (mCd μ) pc = some (.if_icmp .lt off, 3)) (ht : (pc : Int) + off = (tgt : Int)) (kt : x < y → Wp sc μ mc ms k n tgt lv st S Q) (kf : ¬ x < y → Wp sc μ mc ms k n (pc + 3) lv st S Q) : Wp sc μ mc ms k n pc lv (.int y :: .int x :: st) S Q := by
  intro l κ p e s m args below meth c H locs ls hfl hC hS hR hlv
  exact lv_icmp_lt hC.1.1 hC.1.2.1 (hC.dk h) ht (fun q => kt q l κ p e s m args below meth c H locs ls hfl hC hS hR hlv) (fun q => kf q l κ p e s m args below meth c H locs ls hfl hC hS hR hlv)

theorem r_icmp_ge {sc : SC} {μ : MI} {mc ms k n pc : Nat} {lv : List (Nat × Value)} {st : List Value} {S : AS} {Q : Out → AS → Prop} {x y : Int32} {off : Int} {tgt : Nat} (h : cf (mCd μ) pc = some (.if_icmp .ge off, 3)) (ht : (pc : Int) + off = (tgt : Int)) (kt : y ≤ x → Wp sc μ mc ms k n tgt lv st S Q) (kf : ¬ y ≤ x → Wp sc μ mc ms k n (pc + 3) lv st S Q) : Wp sc μ mc ms k n pc lv (.int y :: .int x :: st) S Q := by
  intro l κ p e s m args below meth c H locs ls hfl hC hS hR hlv
  exact lv_icmp_ge hC.1.1 hC.1.2.1 (hC.dk h) ht (fun q => kt q l κ p e s m args below meth c H locs ls hfl hC hS hR hlv) (fun q => kf q l κ p e s m args below meth c H locs ls hfl hC hS hR hlv)

theorem r_icmp_gt {sc : SC} {μ : MI} {mc ms k n pc : Nat} {lv : List (Nat × Value)} {st : List Value} {S : AS} {Q : Out → AS → Prop} {x y : Int32} {off : Int} {tgt : Nat} (h : cf (mCd μ) pc = some (.if_icmp .gt off, 3)) (ht : (pc : Int) + off = (tgt : Int)) (kt : y < x → Wp sc μ mc ms k n tgt lv st S Q) (kf : ¬ y < x → Wp sc μ mc ms k n (pc + 3) lv st S Q) : Wp sc μ mc ms k n pc lv (.int y :: .int x :: st) S Q := by
  intro l κ p e s m args below meth c H locs ls hfl hC hS hR hlv
  exact lv_icmp_gt hC.1.1 hC.1.2.1 (hC.dk h) ht (fun q => kt q l κ p e s m args below meth c H locs ls hfl hC hS hR hlv) (fun q => kf q l κ p e s m args below meth c H locs ls hfl hC hS hR hlv)

theorem r_icmp_le {sc : SC} {μ : MI} {mc ms k n pc : Nat} {lv : List (Nat × Value)} {st : List Value} {S : AS} {Q : Out → AS → Prop} {x y : Int32} {off : Int} {tgt : Nat} (h : cf (mCd μ) pc = some (.if_icmp .le off, 3)) (ht : (pc : Int) + off = (tgt : Int)) (kt : x ≤ y → Wp sc μ mc ms k n tgt lv st S Q) (kf : ¬ x ≤ y → Wp sc μ mc ms k n (pc + 3) lv st S Q) : Wp sc μ mc ms k n pc lv (.int y :: .int x :: st) S Q := by
  intro l κ p e s m args below meth c H locs ls hfl hC hS hR hlv
  exact lv_icmp_le hC.1.1 hC.1.2.1 (hC.dk h) ht (fun q => kt q l κ p e s m args below meth c H locs ls hfl hC hS hR hlv) (fun q => kf q l κ p e s m args below meth c H locs ls hfl hC hS hR hlv)

theorem r_goto {sc : SC} {μ : MI} {mc ms k n pc : Nat} {lv : List (Nat × Value)} {st : List Value} {S : AS} {Q : Out → AS → Prop} {off : Int} {tgt : Nat} (h : cf (mCd μ) pc = some (.goto off, 3)) (ht : (pc : Int) + off = (tgt : Int)) (kk : Wp sc μ mc ms k n tgt lv st S Q) : Wp sc μ mc ms k n pc lv st S Q := by
  intro l κ p e s m args below meth c H locs ls hfl hC hS hR hlv
  exact lv_goto hC.1.1 hC.1.2.1 (hC.dk h) ht (kk l κ p e s m args below meth c H locs _ hfl hC hS hR hlv)
theorem r_tblOut {sc : SC} {μ : MI} {mc ms k n pc : Nat} {lv : List (Nat × Value)} {st : List Value} {S : AS} {Q : Out → AS → Prop} {d lo hi : Int} {offs : Array Int} {len tgt : Nat} {x : Int32} (h : cf (mCd μ) pc = some (.tableswitch d lo hi offs, len)) (hx : x.toInt < lo ∨ hi < x.toInt) (ht : (pc : Int) + d = (tgt : Int)) (kk : Wp sc μ mc ms k n tgt lv st S Q) : Wp sc μ mc ms k n pc lv (.int x :: st) S Q := by
  intro l κ p e s m args below meth c H locs ls hfl hC hS hR hlv
  exact lv_tableOut hC.1.1 hC.1.2.1 (hC.dk h) hx ht (kk l κ p e s m args below meth c H locs _ hfl hC hS hR hlv)
theorem r_tblIn {sc : SC} {μ : MI} {mc ms k n pc : Nat} {lv : List (Nat × Value)} {st : List Value} {S : AS} {Q : Out → AS → Prop} {d lo hi : Int} {offs : Array Int} {len tgt : Nat} {x : Int32} {off : Int} (h : cf (mCd μ) pc = some (.tableswitch d lo hi offs, len)) (h1 : ¬ x.toInt < lo) (h2 : ¬ hi < x.toInt) (ho : offs[(x.toInt - lo).toNat]? = some off) (ht : (pc : Int) + off = (tgt : Int)) (kk : Wp sc μ mc ms k n tgt lv st S Q) : Wp sc μ mc ms k n pc lv (.int x :: st) S Q := by
  intro l κ p e s m args below meth c H locs ls hfl hC hS hR hlv
  exact lv_tableIn hC.1.1 hC.1.2.1 (hC.dk h) h1 h2 ho ht (kk l κ p e s m args below meth c H locs _ hfl hC hS hR hlv)
theorem r_lookup {sc : SC} {μ : MI} {mc ms k n pc : Nat} {lv : List (Nat × Value)} {st : List Value} {S : AS} {Q : Out → AS → Prop} {d off : Int} {ps : Array (Int × Int)} {len tgt : Nat} {x : Int32} (h : cf (mCd μ) pc = some (.lookupswitch d ps, len)) (hp : (ps.toList.zip (ps.toList.drop 1)).all (fun (a, next) => a.1 < next.1) = true) (ho : Op.lookupswitch.offset ps.toList d x.toInt = off) (ht : (pc : Int) + off = (tgt : Int)) (kk : Wp sc μ mc ms k n tgt lv st S Q) : Wp sc μ mc ms k n pc lv (.int x :: st) S Q := by
  intro l κ p e s m args below meth c H locs ls hfl hC hS hR hlv
  exact lv_lookup hC.1.1 hC.1.2.1 (hC.dk h) hp ho ht (kk l κ p e s m args below meth c H locs _ hfl hC hS hR hlv)
end
section
/-- a class of the tables -/
def CI (ci : Nat) (C : String) (T : u_T) (N : Nat) (ty : Nat → FieldType) : Prop := vwCl[ci]? = some (C, T, N) ∧ (∀ w ∈ u_ws C T N, w ∈ lw_gd) ∧ (∀ k, k < N → parseFieldDescriptor (T k).2.2.1 = some (ty k)) ∧ (∀ a, a < N → ∀ b, b < N → a ≠ b → (T a).2.1 ≠ (T b).2.1)
/-- a field's entry of the pool: class's number, field's number, final or not, type -/
def FL (own : String) (idx ci kf : Nat) (fin : Bool) (t : FieldType) : Prop := ∃ (C : String) (T : u_T) (N : Nat) (ty : Nat → FieldType), CI ci C T N ty ∧ kf < N ∧ Cond.fieldLink own idx (T kf).1 (T kf).2.1 (T kf).2.2.1 ∈ lw_gd ∧ (T kf).2.2.2 = fin ∧ ty kf = t
theorem FL.of {own : String} {idx ci kf : Nat} {fin : Bool} {t : FieldType} {C : String} {T : u_T} {N : Nat} {ty : Nat → FieldType} (h1 : CI ci C T N ty) (h2 : kf < N) (h3 : Cond.fieldLink own idx (T kf).1 (T kf).2.1 (T kf).2.2.1 ∈ lw_gd) (h4 : (T kf).2.2.2 = fin) (h5 : ty kf = t) : FL own idx ci kf fin t := ⟨C, T, N, ty, h1, h2, h3, h4, h5⟩
theorem nfs_of {ci : Nat} {C : String} {T : u_T} {N : Nat} (h : vwCl[ci]? = some (C, T, N)) : nfs ci = N := by
  unfold nfs
  rw [h]
theorem vw_lt {ci : Nat} {r : vw_C} (h : vwCl[ci]? = some r) : ci < 50 := Nat.lt_of_lt_of_le (List.getElem?_eq_some_iff.mp h).1 (by decide)
theorem jk_obj {ci : Nat} (V : Nat → Value) (h : ci < 50) : jk (.inr (.inr (ci, V))) = false := by
  show (Nat.ble 50 ci && Nat.ble ci 99) = false
  rw [show Nat.ble 50 ci = false from Bool.eq_false_iff.mpr fun q => absurd (Nat.le_of_ble_eq_true q) (by omega)]
  rfl
theorem conv_obj (κ : KX) {ci : Nat} (V : Nat → Value) (h : ci < 50) : conv κ (.inr (.inr (ci, V))) = .inr (ci, (List.range (nfs ci)).map (fun k => cv κ (V k))) := if_pos h
theorem Rep.at {κ : KX} {S : AS} {H : Heap} (hR : Rep κ S H) {o ci : Nat} {V : Nat → Value} {r : vw_C} (hc : vwCl[ci]? = some r) (hlt : o < S.2.1) (ho : S.1 o = .inr (.inr (ci, V))) : va_P (kD κ) vwCl [(kB κ + o, .inr (ci, (List.range (nfs ci)).map (fun k => cv κ (V k))))] H := by
  have h := hR.1 o hlt (by rw [ho]; exact jk_obj V (vw_lt hc))
  rw [ho, conv_obj κ V (vw_lt hc)] at h
  exact va1 h
theorem r_getf {sc : SC} {μ : MI} {mc ms k n pc : Nat} {lv : List (Nat × Value)} {st : List Value} {S : AS} {Q : Out → AS → Prop} {idx o ci kf : Nat} {fin : Bool} {t : FieldType} {V : Nat → Value} {v : Value} (h : cf (mCd μ) pc = some (.getfield idx, 3)) (hf : FL (mNm μ).cls idx ci kf fin t) (hlt : o < S.2.1) (ho : S.1 o = .inr (.inr (ci, V))) (hv : V kf = v) (kk : Wp sc μ mc ms k n (pc + 3) lv (v :: st) S Q) : Wp sc μ mc ms k n pc lv (.ref o :: st) S Q := by
  intro l κ p e s m args below meth c H locs ls hfl hC hS hR hlv
  obtain ⟨C, T, N, ty, ⟨hc, hin, hty, hnm⟩, hk, hl, hfn, ht⟩ := hf
  refine va_get (D := kD κ) (cl := vwCl) (ws := [(kB κ + o, .inr (ci, (List.range (nfs ci)).map (fun k => cv κ (V k))))]) (tys := tysK κ) (C := C) (T := T) (N := N) (ref := (T kf).1) (v := cv κ v) hC.1.1 hC.1.2.1 hC.2.1 (fun w hw => List.mem_cons_of_mem _ (hin w hw)) hC.own hC.kk (hR.at hc hlt ho) 0 rfl hc kf hk (hC.wd hl) (fun _ q => q) ?_ (hC.dk h) (kk l κ p e s m args below meth c H locs ls hfl hC hS hR hlv)
  rw [List.getElem?_map, nfs_of hc, List.getElem?_range hk, ← hv]
  rfl
theorem map_set (κ : KX) (V : Nat → Value) (N kf : Nat) (v : Value) : ((List.range N).map (fun k => cv κ (V k))).set kf (cv κ v) = (List.range N).map (fun k => cv κ (aup V kf v k)) := by
  apply List.ext_getElem?
  intro j
  by_cases hj : j < N
  · by_cases hjk : j = kf
    · subst hjk
      rw [List.getElem?_set_self (by simpa using hj), List.getElem?_map, List.getElem?_range hj]
      simp [aup]
    · rw [List.getElem?_set_ne (Ne.symm hjk), List.getElem?_map, List.getElem?_map, List.getElem?_range hj]
      simp [aup, hjk]
  · rw [List.getElem?_eq_none (by simp; omega), List.getElem?_eq_none (by simp; omega)]
theorem fits_ref (κ : KX) (t : FieldType) (o : Nat) (ht : (∃ C, t = .object C) ∨ ∃ u, t = .array u) : narrow t (cv κ (.ref o)) = cv κ (.ref o) ∧ fits t (cv κ (.ref o)) = true := by
  rcases ht with ⟨C, rfl⟩ | ⟨u, rfl⟩ <;> exact ⟨rfl, rfl⟩
def okv (t : FieldType) (v : Value) : Prop := ∀ κ : KX, narrow t (cv κ v) = cv κ v ∧ fits t (cv κ v) = true
theorem okv_i (x : Int32) : okv .int (.int x) := fun _ => ⟨rfl, rfl⟩
theorem okv_l (x : Int64) : okv .long (.long x) := fun _ => ⟨rfl, rfl⟩
theorem okv_o (C : String) (o : Nat) : okv (.object C) (.ref o) := fun _ => ⟨rfl, rfl⟩
theorem okv_a (u : FieldType) (o : Nat) : okv (.array u) (.ref o) := fun _ => ⟨rfl, rfl⟩
theorem okv_z {x : Int32} (h : x = 0 ∨ x = 1) : okv .boolean (.int x) := by
  intro κ
  rcases h with rfl | rfl <;> exact ⟨rfl, rfl⟩
theorem Rep.obj {κ : KX} {S : AS} {H H1 : Heap} {o ci kf N : Nat} {V : Nat → Value} {v : Value} {C : String} {T : u_T} {cell : Cell} {s : State} (hR : Rep κ S H) (hlt : o < S.2.1) (ho : S.1 o = .inr (.inr (ci, V))) (hc : vwCl[ci]? = some (C, T, N)) (hk : kf < N)
    (q2 : cell.cls = (kD κ).1 ci) (q3 : cell.vm = .none) (q4 : ∀ j, j < N → cell.slots[(kD κ).2 ci j]? = some (vp_V ((List.range (nfs ci)).map (fun k => cv κ (V k))) j)) (hap : ∀ a b, a < N → b < N → a ≠ b → (kD κ).2 ci a ≠ (kD κ).2 ci b)
    (e1 : H1[kB κ + o]? = some (cell.setSlot ((kD κ).2 ci kf) (cv κ v))) (e2 : H1.size = H.size) (e3 : ∀ q, q ≠ kB κ + o → H1[q]? = H[q]?) : Rep κ (aup S.1 o (.inr (.inr (ci, aup V kf v))), S.2) H1 := by
  refine hR.put hlt e2 ?_ e3
  rw [conv_obj κ _ (vw_lt hc)]
  refine ⟨_, hc, ?_⟩
  have hl : kf < ((List.range (nfs ci)).map (fun k => cv κ (V k))).length := by rw [List.length_map, List.length_range, nfs_of hc]; exact hk
  refine t_OB.to (V := updV (vp_V ((List.range (nfs ci)).map (fun k => cv κ (V k)))) kf (cv κ v)) ⟨_, e1, q2, q3, t_set q4 hap hk (cv κ v)⟩ (fun j _ => ?_)
  rw [vp_updV_set hl, map_set]
theorem r_putf {sc : SC} {μ : MI} {mc ms k n pc : Nat} {lv : List (Nat × Value)} {st : List Value} {S : AS} {Q : Out → AS → Prop} {idx o ci kf : Nat} {t : FieldType} {V : Nat → Value} {v : Value} (h : cf (mCd μ) pc = some (.putfield idx, 3)) (hf : FL (mNm μ).cls idx ci kf false t) (hv : okv t v) (hlt : o < S.2.1) (ho : S.1 o = .inr (.inr (ci, V))) (kk : Wp sc μ mc ms k n (pc + 3) lv st (aup S.1 o (.inr (.inr (ci, aup V kf v))), S.2) Q) : Wp sc μ mc ms k n pc lv (v :: .ref o :: st) S Q := by
  intro l κ p e s m args below meth c H locs ls hfl hC hS hR hlv
  obtain ⟨C, T, N, ty, ⟨hc, hin, hty, hnm⟩, hk, hl, hfn, ht⟩ := hf
  have hin' : ∀ w ∈ u_ws C T N, w ∈ wsO μ := fun w hw => List.mem_cons_of_mem _ (hin w hw)
  have hap := va_apart (own := (mNm μ).cls) hC.2.1 hin' ty hty hnm hC.kk hc
  obtain ⟨r, h1, cell, q1, q2, q3, q4⟩ := hR.at hc hlt ho 0 _ rfl
  have hr : r = (C, T, N) := Option.some.inj (h1.symm.trans hc)
  subst hr
  obtain ⟨hS9, hfc, kC, hkC, hkind⟩ := hC.kk.1 ci _ hc
  obtain ⟨cf9, kf9, fi, f, hi, hsl⟩ := hS9 kf hk
  have hlay := hC.2.1 _ (hin' _ (u_in_lay hk))
  unfold u_lay at hlay
  rw [if_neg (by rw [hfn]; decide)] at hlay
  have hst := (u_facts hfc hkC (u_lays hC.2.1 hin' hk) hi).1
  have hty2 := hty kf hk
  rw [ht] at hty2
  have h6 := u_store (v := cv κ v) hfc hkC hkind hlay hi hty2 (hv κ).1 (hv κ).2
  refine W.putK hC.1.1 hC.1.2.1 (f := f) ⟨hC.own, hC.wd hl, ⟨_, _, _, hi⟩, hst⟩ (by rw [q2]; exact h6) q1 q3 (by rw [hsl]; exact k2_hasslot (q4 kf hk)) rfl rfl (hC.dk h) fun H' e1 e2 e3 => ?_
  rw [hsl] at e1 ⊢
  exact kk l κ p e s m args below meth c H' _ ls hfl hC (hS.put e2 e3 (hR.2.2 o hlt)) (Rep.obj (s := s) hR hlt ho hc hk q2 q3 q4 hap e1 e2 e3) hlv
theorem r_putF {sc : SC} {μ : MI} {mc ms k n pc : Nat} {lv : List (Nat × Value)} {st : List Value} {S : AS} {Q : Out → AS → Prop} {idx o ci kf : Nat} {t : FieldType} {V : Nat → Value} {v : Value} (h : cf (mCd μ) pc = some (.putfield idx, 3)) (hf : FL (mNm μ).cls idx ci kf true t) (hdecl : ∀ r : vw_C, vwCl[ci]? = some r → (r.2.1 kf).1 = (mNm μ).cls) (hni : (mNm μ).name = "<init>") (hv : okv t v) (hlt : o < S.2.1) (ho : S.1 o = .inr (.inr (ci, V))) (kk : Wp sc μ mc ms k n (pc + 3) lv st (aup S.1 o (.inr (.inr (ci, aup V kf v))), S.2) Q) : Wp sc μ mc ms k n pc lv (v :: .ref o :: st) S Q := by
  intro l κ p e s m args below meth c H locs ls hfl hC hS hR hlv
  obtain ⟨C, T, N, ty, ⟨hc, hin, hty, hnm⟩, hk, hl, hfn, ht⟩ := hf
  have hin' : ∀ w ∈ u_ws C T N, w ∈ wsO μ := fun w hw => List.mem_cons_of_mem _ (hin w hw)
  have hap := va_apart (own := (mNm μ).cls) hC.2.1 hin' ty hty hnm hC.kk hc
  obtain ⟨r, h1, cell, q1, q2, q3, q4⟩ := hR.at hc hlt ho 0 _ rfl
  have hr : r = (C, T, N) := Option.some.inj (h1.symm.trans hc)
  subst hr
  obtain ⟨hS9, hfc, kC, hkC, hkind⟩ := hC.kk.1 ci _ hc
  obtain ⟨cf9, kf9, fi, f, hi, hsl⟩ := hS9 kf hk
  have hlay := hC.2.1 _ (hin' _ (u_in_lay hk))
  unfold u_lay at hlay
  rw [if_pos hfn] at hlay
  have hst := (u_facts hfc hkC (u_lays hC.2.1 hin' hk) hi).1
  have hcf : m.cls = cf9 := by
    obtain ⟨_, _, c', _, _, _, -, -, hf', -, -, -, hown2, -⟩ := Cond.laysFinal_spec hlay
    have e1 : c' = cf9 := by have := hi.symm.trans hf'; simp at this; exact this.1.symm
    rw [hdecl _ hc] at hown2
    rw [← e1]; exact Option.some.inj (hC.own.symm.trans hown2)
  have hty2 := hty kf hk
  rw [ht] at hty2
  have h6 := u_fits (v := cv κ v) hfc hkC hkind (Or.inr hlay) hi hty2 (hv κ).1 (hv κ).2
  refine W.putFinK hC.1.1 hC.1.2.1 hC.own (hC.wd hl) hi hst hcf (by rw [← hC.2.2.2.2.2.2]; exact hni) (by rw [q2]; exact h6) q1 q3 (by rw [hsl]; exact k2_hasslot (q4 kf hk)) rfl rfl (hC.dk h) fun H' e1 e2 e3 => ?_
  rw [hsl] at e1 ⊢
  exact kk l κ p e s m args below meth c H' _ ls hfl hC (hS.put e2 e3 (hR.2.2 o hlt)) (Rep.obj (s := s) hR hlt ho hc hk q2 q3 q4 hap e1 e2 e3) hlv
theorem Rep.arr {κ : KX} {S : AS} {H : Heap} (hR : Rep κ S H) {o t nn : Nat} {f : Nat → Int32} (hlt : o < S.2.1) (ho : S.1 o = .inl (t, nn, f)) : va_P (kD κ) vwCl [(kB κ + o, .inl (kA κ t, nn, .inl f))] H := by
  have h := hR.1 o hlt (by rw [ho]; rfl)
  rw [ho] at h
  exact va1 h
theorem Rep.arrL {κ : KX} {S : AS} {H : Heap} (hR : Rep κ S H) {o nn : Nat} {f : Nat → Int64} (hlt : o < S.2.1) (ho : S.1 o = .inr (.inl (nn, f))) : va_P (kD κ) vwCl [(kB κ + o, .inl (kA κ 3, nn, .inr (.inl f)))] H := by
  have h := hR.1 o hlt (by rw [ho]; rfl)
  rw [ho] at h
  exact va1 h
theorem adr_rf (κ : KX) {v : Value} (h : v = .null ∨ ∃ o, v = .ref o) : va_rf (adr κ v) = cv κ v := by
  rcases h with rfl | ⟨o, rfl⟩ <;> rfl
theorem Rep.arrQ {κ : KX} {S : AS} {H : Heap} (hR : Rep κ S H) {o nn : Nat} {V : Nat → Value} (hlt : o < S.2.1) (ho : S.1 o = .inr (.inr (100 + nn, V))) : va_P (kD κ) vwCl [(kB κ + o, .inl (kA κ 4, nn, .inr (.inr (.inr (.inr (fun j => adr κ (V j)))))))] H := by
  have h := hR.1 o hlt (by
    rw [ho]
    show (Nat.ble 50 (100 + nn) && Nat.ble (100 + nn) 99) = false
    rw [show Nat.ble (100 + nn) 99 = false from Bool.eq_false_iff.mpr fun q => absurd (Nat.le_of_ble_eq_true q) (by omega), Bool.and_false])
  rw [ho] at h
  have e : conv κ (.inr (.inr (100 + nn, V))) = .inl (kA κ 4, nn, .inr (.inr (.inr (.inr (fun j => adr κ (V j)))))) := by
    show (if 100 + nn < 50 then _ else _) = _
    rw [if_neg (by omega), show 100 + nn - 100 = nn by omega]
  rw [e] at h
  exact va1 h
theorem vin {j nn : Nat} (hj : j < nn) (hn : nn < 2147483648) : vp_in (nI j) nn := vp_in_nI hj hn
theorem r_iald {sc : SC} {μ : MI} {mc ms k n pc : Nat} {lv : List (Nat × Value)} {st : List Value} {S : AS} {Q : Out → AS → Prop} {o j nn : Nat} {f : Nat → Int32} (h : cf (mCd μ) pc = some (.iaload, 1)) (hlt : o < S.2.1) (ho : S.1 o = .inl (0, nn, f)) (hj : j < nn) (hn : nn < 2147483648) (kk : Wp sc μ mc ms k n (pc + 1) lv (.int (f j) :: st) S Q) : Wp sc μ mc ms k n pc lv (.int (nI j) :: .ref o :: st) S Q := by
  intro l κ p e s m args below meth c H locs ls hfl hC hS hR hlv
  refine va_iald (ws := [(kB κ + o, .inl (kA κ 0, nn, .inl f))]) (cl := vwCl) (D := kD κ) (tys := tysK κ) hC.1.1 hC.1.2.1 hC.kk (hR.arr hlt ho) 0 0 rfl rfl (vin hj hn) (hC.dk h) ?_
  rw [nI_clamp (Nat.lt_trans hj hn)]
  exact kk l κ p e s m args below meth c H locs ls hfl hC hS hR hlv

theorem r_bald {sc : SC} {μ : MI} {mc ms k n pc : Nat} {lv : List (Nat × Value)} {st : List Value} {S : AS} {Q : Out → AS → Prop} {o j nn : Nat} {f : Nat → Int32} (h : cf (mCd μ) pc = some (.baload, 1)) (hlt : o < S.2.1) (ho : S.1 o = .inl (1, nn, f)) (hj : j < nn) (hn : nn < 2147483648) (kk : Wp sc μ mc ms k n (pc + 1) lv (.int (f j) :: st) S Q) : Wp sc μ mc ms k n pc lv (.int (nI j) :: .ref o :: st) S Q := by
  intro l κ p e s m args below meth c H locs ls hfl hC hS hR hlv
  refine va_bald (ws := [(kB κ + o, .inl (kA κ 1, nn, .inl f))]) (cl := vwCl) (D := kD κ) (tys := tysK κ) hC.1.1 hC.1.2.1 hC.kk (hR.arr hlt ho) 0 1 rfl rfl (vin hj hn) (hC.dk h) ?_
  rw [nI_clamp (Nat.lt_trans hj hn)]
  exact kk l κ p e s m args below meth c H locs ls hfl hC hS hR hlv

theorem r_zald {sc : SC} {μ : MI} {mc ms k n pc : Nat} {lv : List (Nat × Value)} {st : List Value} {S : AS} {Q : Out → AS → Prop} {o j nn : Nat} {f : Nat → Int32} (h : cf (mCd μ) pc = some (.baload, 1)) (hlt : o < S.2.1) (ho : S.1 o = .inl (2, nn, f)) (hj : j < nn) (hn : nn < 2147483648) (kk : Wp sc μ mc ms k n (pc + 1) lv (.int (f j) :: st) S Q) : Wp sc μ mc ms k n pc lv (.int (nI j) :: .ref o :: st) S Q := by
  intro l κ p e s m args below meth c H locs ls hfl hC hS hR hlv
  refine va_zald (ws := [(kB κ + o, .inl (kA κ 2, nn, .inl f))]) (cl := vwCl) (D := kD κ) (tys := tysK κ) hC.1.1 hC.1.2.1 hC.kk (hR.arr hlt ho) 0 2 rfl rfl (vin hj hn) (hC.dk h) ?_
  rw [nI_clamp (Nat.lt_trans hj hn)]
  exact kk l κ p e s m args below meth c H locs ls hfl hC hS hR hlv

theorem r_lald {sc : SC} {μ : MI} {mc ms k n pc : Nat} {lv : List (Nat × Value)} {st : List Value} {S : AS} {Q : Out → AS → Prop} {o j nn : Nat} {f : Nat → Int64} (h : cf (mCd μ) pc = some (.laload, 1)) (hlt : o < S.2.1) (ho : S.1 o = .inr (.inl (nn, f))) (hj : j < nn) (hn : nn < 2147483648) (kk : Wp sc μ mc ms k n (pc + 1) lv (.long (f j) :: st) S Q) : Wp sc μ mc ms k n pc lv (.int (nI j) :: .ref o :: st) S Q := by
  intro l κ p e s m args below meth c H locs ls hfl hC hS hR hlv
  refine va_lald (ws := [(kB κ + o, .inl (kA κ 3, nn, .inr (.inl f)))]) (cl := vwCl) (D := kD κ) (tys := tysK κ) hC.1.1 hC.1.2.1 hC.kk (hR.arrL hlt ho) 0 3 rfl rfl (vin hj hn) (hC.dk h) ?_
  rw [nI_clamp (Nat.lt_trans hj hn)]
  exact kk l κ p e s m args below meth c H locs ls hfl hC hS hR hlv
theorem r_alen {sc : SC} {μ : MI} {mc ms k n pc : Nat} {lv : List (Nat × Value)} {st : List Value} {S : AS} {Q : Out → AS → Prop} {o t nn : Nat} {f : Nat → Int32} (h : cf (mCd μ) pc = some (.arraylength, 1)) (hlt : o < S.2.1) (ho : S.1 o = .inl (t, nn, f)) (ht : t < 3) (kk : Wp sc μ mc ms k n (pc + 1) lv (.int (nI nn) :: st) S Q) : Wp sc μ mc ms k n pc lv (.ref o :: st) S Q := by
  intro l κ p e s m args below meth c H locs ls hfl hC hS hR hlv
  have ht9 : ∃ ty, (tysK κ)[t]? = some (kA κ t, ty) := by
    rcases (show t = 0 ∨ t = 1 ∨ t = 2 by omega) with rfl | rfl | rfl <;> exact ⟨_, rfl⟩
  obtain ⟨ty, ht9⟩ := ht9
  exact va_alen (ws := [(kB κ + o, .inl (kA κ t, nn, .inl f))]) (cl := vwCl) (D := kD κ) (tys := tysK κ) hC.1.1 hC.1.2.1 hC.kk (hR.arr hlt ho) 0 t rfl ht9 rfl (hC.dk h) (kk l κ p e s m args below meth c H locs ls hfl hC hS hR hlv)
theorem r_iast {sc : SC} {μ : MI} {mc ms k n pc : Nat} {lv : List (Nat × Value)} {st : List Value} {S : AS} {Q : Out → AS → Prop} {o j nn : Nat} {f : Nat → Int32} {x : Int32} (h : cf (mCd μ) pc = some (.iastore, 1)) (hlt : o < S.2.1) (ho : S.1 o = .inl (0, nn, f)) (hj : j < nn) (hn : nn < 2147483648) (kk : Wp sc μ mc ms k n (pc + 1) lv st (aup S.1 o (.inl (0, nn, aup f j (x))), S.2) Q) : Wp sc μ mc ms k n pc lv (.int x :: .int (nI j) :: .ref o :: st) S Q := by
  intro l κ p e9 s m args below meth c H locs ls hfl hC hS hR hlv
  refine W.iast (cell := vp_cell (kA κ 0) (nn, .inl f)) (a := kB κ + o) hC.1.1 hC.1.2.1 (hR.arr hlt ho 0 _ rfl) ((hC.kk.2 0 _ rfl).1 nn (fun j => .int (f j))) (fun q => by cases q) (by show ¬ (nI j < 0 ∨ (arrV _ _ _).slots.size ≤ _); rw [arrV_size]; exact vin hj hn) rfl rfl (hC.dk h) fun H1 e z oq => ?_
  rw [nI_clamp (Nat.lt_trans hj hn)] at e ⊢
  refine kk l κ p e9 s m args below meth c H1 _ ls hfl hC (hS.put z oq (hR.2.2 o hlt)) ?_ hlv
  refine hR.put hlt z ?_ oq
  show H1[kB κ + o]? = some (vp_cell _ _)
  rw [e]
  rw [vp_cell_i, vp_cell_i, arrV_store]
  congr 2
  funext q
  by_cases hq : q = j
  · subst hq
    simp [updV, aup]
  · simp [updV, aup, hq]

theorem r_bast {sc : SC} {μ : MI} {mc ms k n pc : Nat} {lv : List (Nat × Value)} {st : List Value} {S : AS} {Q : Out → AS → Prop} {o j nn : Nat} {f : Nat → Int32} {x : Int32} (h : cf (mCd μ) pc = some (.bastore, 1)) (hlt : o < S.2.1) (ho : S.1 o = .inl (1, nn, f)) (hj : j < nn) (hn : nn < 2147483648) (kk : Wp sc μ mc ms k n (pc + 1) lv st (aup S.1 o (.inl (1, nn, aup f j (vp_nar .byte x))), S.2) Q) : Wp sc μ mc ms k n pc lv (.int x :: .int (nI j) :: .ref o :: st) S Q := by
  intro l κ p e9 s m args below meth c H locs ls hfl hC hS hR hlv
  refine W.bast (cell := vp_cell (kA κ 1) (nn, .inl f)) (a := kB κ + o) hC.1.1 hC.1.2.1 (hR.arr hlt ho 0 _ rfl) ((hC.kk.2 1 _ rfl).1 nn (fun j => .int (f j))) (fun q => by cases q) (by show ¬ (nI j < 0 ∨ (arrV _ _ _).slots.size ≤ _); rw [arrV_size]; exact vin hj hn) rfl rfl (hC.dk h) fun H1 e z oq => ?_
  rw [nI_clamp (Nat.lt_trans hj hn)] at e ⊢
  refine kk l κ p e9 s m args below meth c H1 _ ls hfl hC (hS.put z oq (hR.2.2 o hlt)) ?_ hlv
  refine hR.put hlt z ?_ oq
  show H1[kB κ + o]? = some (vp_cell _ _)
  rw [e]
  rw [vp_cell_i, vp_cell_i, arrV_store]
  congr 2
  funext q
  by_cases hq : q = j
  · subst hq
    simp [updV, aup, vp_nar, narrow]
  · simp [updV, aup, hq]

theorem r_zast {sc : SC} {μ : MI} {mc ms k n pc : Nat} {lv : List (Nat × Value)} {st : List Value} {S : AS} {Q : Out → AS → Prop} {o j nn : Nat} {f : Nat → Int32} {x : Int32} (h : cf (mCd μ) pc = some (.bastore, 1)) (hlt : o < S.2.1) (ho : S.1 o = .inl (2, nn, f)) (hj : j < nn) (hn : nn < 2147483648) (kk : Wp sc μ mc ms k n (pc + 1) lv st (aup S.1 o (.inl (2, nn, aup f j (vp_nar .boolean x))), S.2) Q) : Wp sc μ mc ms k n pc lv (.int x :: .int (nI j) :: .ref o :: st) S Q := by
  intro l κ p e9 s m args below meth c H locs ls hfl hC hS hR hlv
  refine W.zast (cell := vp_cell (kA κ 2) (nn, .inl f)) (a := kB κ + o) hC.1.1 hC.1.2.1 (hR.arr hlt ho 0 _ rfl) ((hC.kk.2 2 _ rfl).1 nn (fun j => .int (f j))) (fun q => by cases q) (by show ¬ (nI j < 0 ∨ (arrV _ _ _).slots.size ≤ _); rw [arrV_size]; exact vin hj hn) rfl rfl (hC.dk h) fun H1 e z oq => ?_
  rw [nI_clamp (Nat.lt_trans hj hn)] at e ⊢
  refine kk l κ p e9 s m args below meth c H1 _ ls hfl hC (hS.put z oq (hR.2.2 o hlt)) ?_ hlv
  refine hR.put hlt z ?_ oq
  show H1[kB κ + o]? = some (vp_cell _ _)
  rw [e]
  rw [vp_cell_i, vp_cell_i, arrV_store]
  congr 2
  funext q
  by_cases hq : q = j
  · subst hq
    simp [updV, aup, vp_nar, narrow]
  · simp [updV, aup, hq]

theorem r_last {sc : SC} {μ : MI} {mc ms k n pc : Nat} {lv : List (Nat × Value)} {st : List Value} {S : AS} {Q : Out → AS → Prop} {o j nn : Nat} {f : Nat → Int64} {x : Int64} (h : cf (mCd μ) pc = some (.lastore, 1)) (hlt : o < S.2.1) (ho : S.1 o = .inr (.inl (nn, f))) (hj : j < nn) (hn : nn < 2147483648) (kk : Wp sc μ mc ms k n (pc + 1) lv st (aup S.1 o (.inr (.inl (nn, aup f j x))), S.2) Q) : Wp sc μ mc ms k n pc lv (.long x :: .int (nI j) :: .ref o :: st) S Q := by
  intro l κ p e9 s m args below meth c H locs ls hfl hC hS hR hlv
  refine W.last (cell := vp_cell (kA κ 3) (nn, .inr (.inl f))) (a := kB κ + o) hC.1.1 hC.1.2.1 (hR.arrL hlt ho 0 _ rfl) ((hC.kk.2 3 _ rfl).1 nn (fun j => .long (f j))) (fun q => by cases q) (by show ¬ (nI j < 0 ∨ (arrV _ _ _).slots.size ≤ _); rw [arrV_size]; exact vin hj hn) rfl rfl (hC.dk h) fun H1 e z oq => ?_
  rw [nI_clamp (Nat.lt_trans hj hn)] at e ⊢
  refine kk l κ p e9 s m args below meth c H1 _ ls hfl hC (hS.put z oq (hR.2.2 o hlt)) ?_ hlv
  refine hR.put hlt z ?_ oq
  show H1[kB κ + o]? = some (vp_cell _ _)
  rw [e]
  rw [vp_cell_l, vp_cell_l, arrV_store]
  congr 2
  funext q
  by_cases hq : q = j
  · subst hq
    simp [updV, aup]
  · simp [updV, aup, hq]

theorem r_newa0 {sc : SC} {μ : MI} {mc ms k n pc : Nat} {lv : List (Nat × Value)} {st : List Value} {S : AS} {Q : Out → AS → Prop} {nn : Nat} (h : cf (mCd μ) pc = some (.newarray .int, 2)) (hw : Cond.arrayClass .int ∈ lw_gd) (hn : nn < 65536) (hex : S.2.2 = true) (hk : k + 1 ≤ mc) (hs : n + nn ≤ ms) (kk : Wp sc μ mc ms (k + 1) (n + nn) (pc + 2) lv (.ref S.2.1 :: st) (aup S.1 S.2.1 (.inl (0, nn, fun _ => 0)), S.2.1 + 1, true) Q) : Wp sc μ mc ms k n pc lv (.int (nI nn) :: st) S Q := by
  intro l κ p e s m args below meth c H locs ls hfl hC hS hR hlv
  refine va_newaK (atype := .int) (N := nn) hC.1.1 hC.1.2.1 (hC.wd hw) rfl (hC.dk h) rfl (nI_pos (by omega)) (nI_clamp (by omega)) (by show nn * _ ≤ _; simp only [newarray.typeOf, componentBytes]; omega) hk hs rfl fun H1 cA e1 z1 o1 hAr hNm => ?_
  have hca : cA = kA κ 0 := by
    have h9 : s.vm.findClass ("[" ++ ((.int : FieldType)).toString) = some (kA κ 0) := (hC.kk.2 0 _ rfl).2
    exact Option.some.inj (hNm.symm.trans h9)
  subst hca
  have hz : H.size = kB κ + S.2.1 := hR.2.1 hex
  have h9 := fun hq => kk l κ p e s m args below meth c H1 locs ls hfl hC ⟨Nat.le_trans hS.1 (by omega), fun x h1 h2 => (o1 x (Nat.lt_of_lt_of_le h1 hS.1)).trans (hS.2.1 x h1 h2), hS.2.2⟩ (hR.push (Nat.le_trans hC.gd.1.2.2 hS.1) hex z1 hq o1 true) hlv
  rw [hz]
  refine h9 ?_
  exact e1

theorem r_newa1 {sc : SC} {μ : MI} {mc ms k n pc : Nat} {lv : List (Nat × Value)} {st : List Value} {S : AS} {Q : Out → AS → Prop} {nn : Nat} (h : cf (mCd μ) pc = some (.newarray .byte, 2)) (hw : Cond.arrayClass .byte ∈ lw_gd) (hn : nn < 65536) (hex : S.2.2 = true) (hk : k + 1 ≤ mc) (hs : n + nn ≤ ms) (kk : Wp sc μ mc ms (k + 1) (n + nn) (pc + 2) lv (.ref S.2.1 :: st) (aup S.1 S.2.1 (.inl (1, nn, fun _ => 0)), S.2.1 + 1, true) Q) : Wp sc μ mc ms k n pc lv (.int (nI nn) :: st) S Q := by
  intro l κ p e s m args below meth c H locs ls hfl hC hS hR hlv
  refine va_newaK (atype := .byte) (N := nn) hC.1.1 hC.1.2.1 (hC.wd hw) rfl (hC.dk h) rfl (nI_pos (by omega)) (nI_clamp (by omega)) (by show nn * _ ≤ _; simp only [newarray.typeOf, componentBytes]; omega) hk hs rfl fun H1 cA e1 z1 o1 hAr hNm => ?_
  have hca : cA = kA κ 1 := by
    have h9 : s.vm.findClass ("[" ++ ((.byte : FieldType)).toString) = some (kA κ 1) := (hC.kk.2 1 _ rfl).2
    exact Option.some.inj (hNm.symm.trans h9)
  subst hca
  have hz : H.size = kB κ + S.2.1 := hR.2.1 hex
  have h9 := fun hq => kk l κ p e s m args below meth c H1 locs ls hfl hC ⟨Nat.le_trans hS.1 (by omega), fun x h1 h2 => (o1 x (Nat.lt_of_lt_of_le h1 hS.1)).trans (hS.2.1 x h1 h2), hS.2.2⟩ (hR.push (Nat.le_trans hC.gd.1.2.2 hS.1) hex z1 hq o1 true) hlv
  rw [hz]
  refine h9 ?_
  exact e1

theorem r_newa2 {sc : SC} {μ : MI} {mc ms k n pc : Nat} {lv : List (Nat × Value)} {st : List Value} {S : AS} {Q : Out → AS → Prop} {nn : Nat} (h : cf (mCd μ) pc = some (.newarray .boolean, 2)) (hw : Cond.arrayClass .boolean ∈ lw_gd) (hn : nn < 65536) (hex : S.2.2 = true) (hk : k + 1 ≤ mc) (hs : n + nn ≤ ms) (kk : Wp sc μ mc ms (k + 1) (n + nn) (pc + 2) lv (.ref S.2.1 :: st) (aup S.1 S.2.1 (.inl (2, nn, fun _ => 0)), S.2.1 + 1, true) Q) : Wp sc μ mc ms k n pc lv (.int (nI nn) :: st) S Q := by
  intro l κ p e s m args below meth c H locs ls hfl hC hS hR hlv
  refine va_newaK (atype := .boolean) (N := nn) hC.1.1 hC.1.2.1 (hC.wd hw) rfl (hC.dk h) rfl (nI_pos (by omega)) (nI_clamp (by omega)) (by show nn * _ ≤ _; simp only [newarray.typeOf, componentBytes]; omega) hk hs rfl fun H1 cA e1 z1 o1 hAr hNm => ?_
  have hca : cA = kA κ 2 := by
    have h9 : s.vm.findClass ("[" ++ ((.boolean : FieldType)).toString) = some (kA κ 2) := (hC.kk.2 2 _ rfl).2
    exact Option.some.inj (hNm.symm.trans h9)
  subst hca
  have hz : H.size = kB κ + S.2.1 := hR.2.1 hex
  have h9 := fun hq => kk l κ p e s m args below meth c H1 locs ls hfl hC ⟨Nat.le_trans hS.1 (by omega), fun x h1 h2 => (o1 x (Nat.lt_of_lt_of_le h1 hS.1)).trans (hS.2.1 x h1 h2), hS.2.2⟩ (hR.push (Nat.le_trans hC.gd.1.2.2 hS.1) hex z1 hq o1 true) hlv
  rw [hz]
  refine h9 ?_
  exact e1

theorem r_newa3 {sc : SC} {μ : MI} {mc ms k n pc : Nat} {lv : List (Nat × Value)} {st : List Value} {S : AS} {Q : Out → AS → Prop} {nn : Nat} (h : cf (mCd μ) pc = some (.newarray .long, 2)) (hw : Cond.arrayClass .long ∈ lw_gd) (hn : nn < 65536) (hex : S.2.2 = true) (hk : k + 1 ≤ mc) (hs : n + nn ≤ ms) (kk : Wp sc μ mc ms (k + 1) (n + nn) (pc + 2) lv (.ref S.2.1 :: st) (aup S.1 S.2.1 (.inr (.inl (nn, fun _ => 0))), S.2.1 + 1, true) Q) : Wp sc μ mc ms k n pc lv (.int (nI nn) :: st) S Q := by
  intro l κ p e s m args below meth c H locs ls hfl hC hS hR hlv
  refine va_newaK (atype := .long) (N := nn) hC.1.1 hC.1.2.1 (hC.wd hw) rfl (hC.dk h) rfl (nI_pos (by omega)) (nI_clamp (by omega)) (by show nn * _ ≤ _; simp only [newarray.typeOf, componentBytes]; omega) hk hs rfl fun H1 cA e1 z1 o1 hAr hNm => ?_
  have hca : cA = kA κ 3 := by
    have h9 : s.vm.findClass ("[" ++ ((.long : FieldType)).toString) = some (kA κ 3) := (hC.kk.2 3 _ rfl).2
    exact Option.some.inj (hNm.symm.trans h9)
  subst hca
  have hz : H.size = kB κ + S.2.1 := hR.2.1 hex
  have h9 := fun hq => kk l κ p e s m args below meth c H1 locs ls hfl hC ⟨Nat.le_trans hS.1 (by omega), fun x h1 h2 => (o1 x (Nat.lt_of_lt_of_le h1 hS.1)).trans (hS.2.1 x h1 h2), hS.2.2⟩ (hR.push (Nat.le_trans hC.gd.1.2.2 hS.1) hex z1 hq o1 true) hlv
  rw [hz]
  refine h9 ?_
  exact e1

theorem r_new {sc : SC} {μ : MI} {mc ms k n pc : Nat} {lv : List (Nat × Value)} {st : List Value} {S : AS} {Q : Out → AS → Prop} {idx ci N : Nat} {C : String} {T : u_T} {ty : Nat → FieldType} {V : Nat → Value} (h : cf (mCd μ) pc = some (.new idx, 3)) (hci : CI ci C T N ty) (hw1 : Cond.classLink (mNm μ).cls idx C ∈ lw_gd) (hw2 : Cond.instantiable C N ∈ lw_gd) (hw3 : Cond.initialized C ∈ lw_gd) (hV : ∀ (κ : KX) (j : Nat), j < N → defaultValue (ty j) = cv κ (V j)) (hex : S.2.2 = true) (hk : k + 1 ≤ mc) (hs : n + N ≤ ms) (kk : Wp sc μ mc ms (k + 1) (n + N) (pc + 3) lv (.ref S.2.1 :: st) (aup S.1 S.2.1 (.inr (.inr (ci, V))), S.2.1 + 1, true) Q) : Wp sc μ mc ms k n pc lv st S Q := by
  intro l κ p e s m args below meth c H locs ls hfl hC hS hR hlv
  obtain ⟨hc, hin, hty, hnm⟩ := hci
  have hin' : ∀ w ∈ u_ws C T N, w ∈ wsO μ := fun w hw => List.mem_cons_of_mem _ (hin w hw)
  have hKn := hC.kk.1 ci _ hc
  refine W.newcK hC.1.1 hC.1.2.1 hC.own (hC.wd hw1) (hC.wd hw2) (hC.wd hw3) rfl (hC.dk h) hk hs hKn.2.1 rfl fun H1 kC hkC e1 z1 o1 => ?_
  have hz : H.size = kB κ + S.2.1 := hR.2.1 hex
  have h9 := fun hq => kk l κ p e s m args below meth c H1 locs ls hfl hC ⟨Nat.le_trans hS.1 (by omega), fun x h1 h2 => (o1 x (Nat.lt_of_lt_of_le h1 hS.1)).trans (hS.2.1 x h1 h2), hS.2.2⟩ (hR.push (Nat.le_trans hC.gd.1.2.2 hS.1) hex z1 hq o1 true) hlv
  rw [hz]
  refine h9 ?_
  rw [conv_obj κ _ (vw_lt hc)]
  refine ⟨_, hc, (u_born ty hC.2.1 hin' hKn hkC e1 hty).to (fun j hj => ?_)⟩
  rw [hV κ j hj]
  unfold vp_V
  rw [List.getD_eq_getElem?_getD, List.getElem?_map, nfs_of hc, List.getElem?_range hj]
  rfl

theorem cv_scr (κ : KX) {x : Nat} (hx : 100 ≤ x) : cv κ (.retAddr x) = .ref (kSb κ) := by
  show cvK κ x = _
  unfold cvK
  rw [if_neg (by omega), if_neg (by omega), if_neg (by omega)]
theorem cv_str (κ : KX) {x : Nat} (hx : x < 50) : cv κ (.retAddr x) = .ref (kSK κ x) := by
  show cvK κ x = _
  unfold cvK
  rw [if_pos hx]
theorem cv_stv (κ : KX) {x : Nat} (hx : x < 49) : cv κ (.retAddr (50 + x)) = .ref (kSV κ x) := by
  show cvK κ (50 + x) = _
  unfold cvK
  rw [if_neg (by omega), if_pos (by omega), Nat.add_sub_cancel_left]
/-- the script -/
theorem r_slen {sc : SC} {μ : MI} {mc ms k n pc : Nat} {lv : List (Nat × Value)} {st : List Value} {S : AS} {Q : Out → AS → Prop} {x : Nat} (h : cf (mCd μ) pc = some (.arraylength, 1)) (hx : 100 ≤ x) (kk : Wp sc μ mc ms k n (pc + 1) lv (.int (nI sc.1) :: st) S Q) : Wp sc μ mc ms k n pc lv (.retAddr x :: st) S Q := by
  intro l κ p e s m args below meth c H locs ls hfl hC hS hR hlv
  show W p l e (rmO μ mc ms) s m args below meth c H locs k n _ (F0 m pc ls (cv κ (.retAddr x) :: cvs κ st))
  rw [cv_scr κ hx]
  exact va_slen (A := kF κ) hC.1.1 hC.1.2.1 hC.gd.2.2.2.2.2.1 hC.gd.2.2.2.2.2.2.1 hC.gd.2.2.2.2.2.2.2 hS (hC.dk h) (kk l κ p e s m args below meth c H locs ls hfl hC hS hR hlv)
theorem r_sld {sc : SC} {μ : MI} {mc ms k n pc : Nat} {lv : List (Nat × Value)} {st : List Value} {S : AS} {Q : Out → AS → Prop} {x j : Nat} (h : cf (mCd μ) pc = some (.iaload, 1)) (hx : 100 ≤ x) (hj : j < sc.1) (hn : sc.1 < 2147483648) (kk : Wp sc μ mc ms k n (pc + 1) lv (.int (sc.2 j) :: st) S Q) : Wp sc μ mc ms k n pc lv (.int (nI j) :: .retAddr x :: st) S Q := by
  intro l κ p e s m args below meth c H locs ls hfl hC hS hR hlv
  show W p l e (rmO μ mc ms) s m args below meth c H locs k n _ (F0 m pc ls (.int (nI j) :: cv κ (.retAddr x) :: cvs κ st))
  rw [cv_scr κ hx]
  refine va_sld (A := kF κ) hC.1.1 hC.1.2.1 hC.gd.2.2.2.2.2.1 hC.gd.2.2.2.2.2.2.1 hC.gd.2.2.2.2.2.2.2 hS (vin hj hn) (hC.dk h) ?_
  rw [nI_clamp (Nat.lt_trans hj hn)]
  exact kk l κ p e s m args below meth c H locs ls hfl hC hS hR hlv
end
section
theorem run_go {sc : SC} {μ : MI} {mc ms k n mc1 ms1 pc : Nat} {st0 rest : List Value} {S : AS} {Q1 : Out → AS → Prop} {l : Launch} {κ : KX} {p : Program} {e : Env} {s : State} {m : MethodId} {args a : Array Value} {below : List Frame} {meth : Method} {c : Code} {H : Heap} {locs : List Loc} {ls : Array Slot} {G : State → Prop}
    (hr : vx_Run p l e (rmO μ mc ms) s m args below meth c H locs k n mc1 ms1 (F0 m pc ls st0) rest (QO κ Q1 a) (XO κ Q1) (kF κ)) (hS : va_S (kF κ) s.heap H locs)
    (kx : ∀ (ec : Nat) (ce : Cell) (q9 : Addr) (S' : AS) (H1 : Heap) (locs1 : List Loc), Q1 (.inr ec) S' → ec < 3 → Rep κ S' H1 → va_S (kF κ) s.heap H1 locs1 → H1[q9]? = some ce → ce.vm = .none → s.vm.findClass (exN ec) = some ce.cls → vx_W p l e (rmO μ mc ms) s m args below meth c H1 locs1 (k + mc1) (n + ms1) G (F0 m pc ls rest) q9)
    (kk : ∀ (r : Option Value) (S' : AS) (H1 : Heap) (locs1 : List Loc), Q1 (.inl r) S' → Rep κ S' H1 → va_S (kF κ) s.heap H1 locs1 → W p l e (rmO μ mc ms) s m args below meth c H1 locs1 (k + mc1) (n + ms1) G (F0 m (pc + 3) ls ((r.map (cv κ)).toList ++ rest))) : W p l e (rmO μ mc ms) s m args below meth c H locs k n G (F0 m pc ls st0) := by
  intro T hT X
  rcases hr T hT X with ⟨v, st₀, t, T', L, h0, X', hL, e1, e2, ⟨⟨r, S', hv, hq, hR'⟩, hF⟩, st⟩ | ⟨q, st₀, t, T', L, E, ce, h0, X', hL, e1, e2, ⟨⟨ec, S', hE, h3, hq, hR'⟩, hF⟩, hce, hcv, hcl, st⟩
  · cases hv
    obtain ⟨k1, k2, k3⟩ := vx_keep h0 e1 hS (fun _ _ h => h) (fun _ h => h) hL hF
    obtain ⟨t2, a1, b1⟩ := kk r S' T'.heap (locs ++ L) hq (by rw [e1]; exact hR') k3 T' rfl X'
    exact ⟨t2, st t2 a1, b1⟩
  · subst hE
    obtain ⟨k1, k2, k3⟩ := vx_keep h0 e1 hS (fun _ _ h => h) (fun _ h => h) hL hF
    obtain ⟨t2, a1, b1⟩ := kx ec ce q S' T'.heap (locs ++ L) hq h3 (by rw [e1]; exact hR') k3 (by rw [e1]; exact hce) hcv hcl T' rfl X'
    exact ⟨t2, st.trans a1, b1⟩
/-- an instance method's entry of the pool -/
def LV (own : String) (idx : Nat) (ν : MI) (na : Nat) : Prop := Cond.methodLink own idx (mNm ν) ∈ lw_gd ∧ Cond.instanceMethod (mNm ν) ∈ lw_gd ∧ Cond.selects (mNm ν).cls (mNm ν) (mNm ν) ∈ lw_gd ∧ (parseMethodDescriptor (mNm ν).desc).map (fun d => d.parameters.length) = some na ∧ GM ν ∧ mHh ν = []
/-- a static method's -/
def LS9 (own : String) (idx : Nat) (ν : MI) (na : Nat) : Prop := Cond.methodLink own idx (mNm ν) ∈ lw_gd ∧ Cond.static (mNm ν) ∈ lw_gd ∧ (parseMethodDescriptor (mNm ν).desc).map (fun d => d.parameters.length) = some na ∧ GM ν ∧ mHh ν = []
def LSN (own : String) (idx : Nat) (ν : MI) (na : Nat) : Prop := (∃ host : String, (own, idx, mNm ν, host) ∈ lw_nest) ∧ Cond.static (mNm ν) ∈ lw_gd ∧ (parseMethodDescriptor (mNm ν).desc).map (fun d => d.parameters.length) = some na ∧ GM ν ∧ mHh ν = []
def LI (own : String) (idx : Nat) (ν : MI) (na : Nat) : Prop := Cond.methodLink own idx (mNm ν) ∈ lw_gd ∧ Cond.instanceMethod (mNm ν) ∈ lw_gd ∧ (mNm ν).name = "<init>" ∧ (parseMethodDescriptor (mNm ν).desc).map (fun d => d.parameters.length) = some na ∧ GM ν ∧ mHh ν = [] ∧ mRt ν = none
def LIN (own : String) (idx : Nat) (ν : MI) (na : Nat) : Prop := (∃ host : String, (own, idx, mNm ν, host) ∈ lw_nest) ∧ Cond.instanceMethod (mNm ν) ∈ lw_gd ∧ (mNm ν).name = "<init>" ∧ (parseMethodDescriptor (mNm ν).desc).map (fun d => d.parameters.length) = some na ∧ GM ν ∧ mHh ν = [] ∧ mRt ν = none
def LSW (own : String) (idx : Nat) (ν : MI) (na : Nat) : Prop := Cond.methodLink own idx (mNm ν) ∈ lw_gd ∧ Cond.static (mNm ν) ∈ lw_gd ∧ (parseMethodDescriptor (mNm ν).desc).map (fun d => d.parameters.length) = some na ∧ GM ν ∧ ∃ x t, mHh ν = x :: t
theorem wsO_eq {ν : MI} (h : mHh ν = []) : wsO ν = Cond.code (mNm ν) (mBs ν) (mMl ν) (mRt ν) :: lw_gd := by
  unfold wsO cdW
  rw [h]
theorem wsO_eqW {ν : MI} {x : Nat × Nat × Nat × Nat} {t : List (Nat × Nat × Nat × Nat)} (h : mHh ν = x :: t) : wsO ν = Cond.codeWith (mNm ν) (mBs ν) (mMl ν) (mRt ν) (x :: t) :: lw_gd := by
  unfold wsO cdW
  rw [h]
theorem gin_app {μ : MI} {a b : List Cond} (ha : ∀ w ∈ a, w ∈ lw_gd) (hb : GoodIn (wsO μ) b) : GoodIn (wsO μ) (a ++ b) := by
  intro w hw
  rcases List.mem_append.mp hw with h | h
  · exact ⟨List.mem_cons_of_mem _ (ha w h), lw_gd_good (ha w h)⟩
  · exact hb w h
/-- room for a call -/
def rmB (μ ν : MI) (rest : List Value) : Bool := Nat.ble (mFr ν + 1) (mFr μ) && (Nat.ble (8 + (mMl ν + 11) + mLo ν) (mLo μ) && Nat.ble ((rest.map fun v => v.category).sum) 8)
theorem rmB_sp {μ ν : MI} {rest : List Value} (h : rmB μ ν rest = true) : mFr ν + 1 ≤ mFr μ ∧ 8 + (mMl ν + 11) + mLo ν ≤ mLo μ ∧ (rest.map fun v => v.category).sum ≤ 8 := by
  unfold rmB at h
  rw [Bool.and_eq_true, Bool.and_eq_true] at h
  exact ⟨Nat.le_of_ble_eq_true h.1, Nat.le_of_ble_eq_true h.2.1, Nat.le_of_ble_eq_true h.2.2⟩
theorem rm8 {κ : KX} {m : MethodId} {pc : Nat} {ls : Array Slot} {st rest : List Value} (h : (rest.map fun v => v.category).sum ≤ 8) : 2 * (F0 m pc ls st).monitorRoom + ((cvs κ rest).map fun v => v.category).sum ≤ 8 := by
  rw [cvs_sum]
  exact lv_room (m := m) (pc := pc) (ls := ls) (rest := st) h
theorem cvs_app (κ : KX) (a b : List Value) : cvs κ (a ++ b) = cvs κ a ++ cvs κ b := List.map_append
theorem cvs_rev (κ : KX) (a : List Value) : cvs κ a.reverse = (cvs κ a).reverse := List.map_reverse
/-- the receiver -/
theorem recv_at {κ : KX} {sc : SC} {s : State} {S : AS} {H : Heap} {o ci : Nat} {V : Nat → Value} {r : vw_C} (hG : Gd κ sc s) (hR : Rep κ S H) (hlt : o < S.2.1) (ho : S.1 o = .inr (.inr (ci, V))) (hc : vwCl[ci]? = some r) : ∃ cell : Cell, H[kB κ + o]? = some cell ∧ cell.vm.isStatics = false ∧ s.vm.findClass r.1 = some cell.cls :=
  va_recv (q0 := 0) hG.1.1 (hR.at hc hlt ho) hc rfl
theorem pre_at {κ : KX} {sc : SC} {s : State} {S : AS} {H : Heap} {locs : List Loc} {as : List Value} (hG : Gd κ sc s) (hS : va_S (kF κ) s.heap H locs) (hR : Rep κ S H) : ∀ U : State, U.heap = H → s.WarmedH U.vm → Pc0 κ sc as S (cvs κ as).toArray U :=
  fun U hU hW => ⟨rfl, hG.next hW hU hS, by rw [hU]; exact hR⟩
theorem r_vir {sc : SC} {μ ν : MI} {mc ms k n mc1 ms1 pc : Nat} {lv : List (Nat × Value)} {st : List Value} {S : AS} {Q Q1 : Out → AS → Prop} {idx o ci : Nat} {V : Nat → Value} {r : vw_C} (as rest : List Value) (h : cf (mCd μ) pc = some (.invokevirtual idx, 3)) (hL : LV (mNm μ).cls idx ν as.length) (hlt : o < S.2.1) (ho : S.1 o = .inr (.inr (ci, V))) (hc9 : vwCl[ci]? = some r) (hc : r.1 = (mNm ν).cls) (hcal : Cal sc ν mc1 ms1 (.ref o :: as) S Q1) (hst : st = as.reverse ++ .ref o :: rest) (hrm : rmB μ ν rest = true) (hmc : k + mc1 ≤ mc) (hms : n + ms1 ≤ ms) (hh : mHh μ = [])
    (kx : ∀ ec S', Q1 (.inr ec) S' → Q (.inr ec) S') (kk : ∀ r S', Q1 (.inl r) S' → Wp sc μ mc ms (k + mc1) (n + ms1) (pc + 3) lv (r.toList ++ rest) S' Q) : Wp sc μ mc ms k n pc lv st S Q := by
  intro l κ p e s m args below meth c H locs ls hfl hC hS hR hlv
  obtain ⟨w1, w2, w3, hd, hg, hhν⟩ := hL
  obtain ⟨m1, m2, m3⟩ := rmB_sp hrm
  have hgi : GoodIn (wsO μ) (wsV (mNm μ).cls idx (mNm ν).cls (mNm ν) (wsO ν)) := by
    unfold wsV
    refine gin_app ?_ (gin_O hg.2.1)
    intro w hw
    simp only [List.mem_cons, List.not_mem_nil, or_false] at hw
    rcases hw with rfl | rfl | rfl | rfl
    · exact w1
    · exact w2
    · exact w3
    · exact hg.2.2.2.2
  subst hst
  obtain ⟨cellB, b1, b2, b3⟩ := recv_at hC.gd hR hlt ho hc9
  rw [hc] at b3
  have hrun := vx_runV (R := rmO μ mc ms) (e := e) (meth := meth) (below := below) (rest := cvs κ rest) (g := F0 m pc ls (cvs κ (as.reverse ++ .ref o :: rest))) (locs := locs) (cells := k) (slots := n) (H := H) (As := cvs κ as) (b := kB κ + o) ⟨hC.1.1, hC.1.2.1, hC.1.2.2.2.1, hC.own, hC.2.1⟩ (hcal l κ hfl) (cwV (R := rmO μ mc ms) (rm := rmO ν mc1 ms1) as.length hC.2.1 hgi (wsO_eq hhν) rfl rfl ⟨rfl, hg.2.2.2.1.1, hg.2.2.2.1.2, hd⟩ ⟨m1, m2⟩) ⟨Pc0_blind κ sc _ S, ⟨cellB, b1, b2, b3⟩, pre_at (as := .ref o :: as) hC.gd hS hR⟩ rfl (by simp [cvs]) hlv.1 (by show cvs κ (as.reverse ++ .ref o :: rest) = _; rw [cvs_app, cvs_rev]; rfl) (rm8 m3) (hC.dk h) ⟨hmc, hms⟩
  refine run_go (sc := sc) (S := S) hrun hS (fun ec ce q9 S' H1 locs1 hq h3 hR1 hS1 hce hv hcl => ?_) (fun r S' H1 locs1 hq hR1 hS1 => ?_)
  · refine vx_out (by rw [hC.2.2.2.1, hh]; intro x hx; cases hx) hC.2.2.1 hce hv hcl (fun t ht hal => ⟨⟨ec, S', rfl, h3, kx ec S' hq, by rw [ht]; exact hR1⟩, hS1.F ht⟩) hS1.2.2 hmc hms
  · have h9 := kk r S' hq l κ p e s m args below meth c H1 locs1 ls hfl hC hS1 hR1 hlv
    rw [cvs_app] at h9
    cases r <;> exact h9
theorem r_sta {sc : SC} {μ ν : MI} {mc ms k n mc1 ms1 pc : Nat} {lv : List (Nat × Value)} {st : List Value} {S : AS} {Q Q1 : Out → AS → Prop} {idx : Nat} (as rest : List Value) (h : cf (mCd μ) pc = some (.invokestatic idx, 3)) (hL : LS9 (mNm μ).cls idx ν as.length) (hcal : Cal sc ν mc1 ms1 as S Q1) (hst : st = as.reverse ++ rest) (hrm : rmB μ ν rest = true) (hmc : k + mc1 ≤ mc) (hms : n + ms1 ≤ ms) (hh : mHh μ = [])
    (kx : ∀ ec S', Q1 (.inr ec) S' → Q (.inr ec) S') (kk : ∀ r S', Q1 (.inl r) S' → Wp sc μ mc ms (k + mc1) (n + ms1) (pc + 3) lv (r.toList ++ rest) S' Q) : Wp sc μ mc ms k n pc lv st S Q := by
  intro l κ p e s m args below meth c H locs ls hfl hC hS hR hlv
  obtain ⟨w1, w2, hd, hg, hhν⟩ := hL
  obtain ⟨m1, m2, m3⟩ := rmB_sp hrm
  have hcb := callB_of (R := rmO μ mc ms) (rm := rmO ν mc1 ms1) as.length hC.2.1 (gin_O hg.2.1) (wsO_eq hhν) rfl rfl (hC.wd hg.2.2.2.2) (hC.wd w1) ⟨hg.2.2.2.1.1, hg.2.2.2.1.2, hd⟩ ⟨m1, m2⟩
  subst hst
  have hrun := vx_runS (e := e) (meth := meth) (below := below) (rest := cvs κ rest) (g := F0 m pc ls (cvs κ (as.reverse ++ rest))) (locs := locs) (cells := k) (slots := n) (H := H) (As := cvs κ as) ⟨hC.1.1, hC.1.2.1, hC.1.2.2.2.1, hC.own, hC.2.1⟩ (hcal l κ hfl) ⟨hcb, hC.wd w2⟩ ⟨Pc0_blind κ sc _ S, pre_at hC.gd hS hR⟩ rfl (by simp [cvs]) hlv.1 (by show cvs κ (as.reverse ++ rest) = _; rw [cvs_app, cvs_rev]) (rm8 m3) (hC.dk h) ⟨hmc, hms⟩
  refine run_go (sc := sc) (S := S) hrun hS (fun ec ce q9 S' H1 locs1 hq h3 hR1 hS1 hce hv hcl => ?_) (fun r S' H1 locs1 hq hR1 hS1 => ?_)
  · refine vx_out (by rw [hC.2.2.2.1, hh]; intro x hx; cases hx) hC.2.2.1 hce hv hcl (fun t ht hal => ⟨⟨ec, S', rfl, h3, kx ec S' hq, by rw [ht]; exact hR1⟩, hS1.F ht⟩) hS1.2.2 hmc hms
  · have h9 := kk r S' hq l κ p e s m args below meth c H1 locs1 ls hfl hC hS1 hR1 hlv
    rw [cvs_app] at h9
    cases r <;> exact h9
theorem Cal.met {sc : SC} {ν : MI} {mc ms : Nat} {as : List Value} {S : AS} {Q : Out → AS → Prop} (h : Cal sc ν mc ms as S Q) (hno : ∀ ec S', ¬ Q (.inr ec) S') (l : Launch) (κ : KX) (hfl : l.stackTraces = false) : Met l (mNm ν) (wsO ν) (rmO ν mc ms) (Pc0 κ sc as S) (QO κ Q) mc ms (kF κ) := by
  intro p e ha hc hk s m args below hf happ hP hK
  obtain ⟨n, o, h1, h2, h3, h4⟩ := h l κ hfl p e ha hc hk s m args below hf happ hP hK
  refine ⟨n, o, h1, h2, h3, ?_⟩
  rcases h4 with h4 | ⟨q, e1, E, ce, L, ⟨⟨ec, S', f1, f2, f3, f4⟩, hF⟩, hr⟩
  · exact h4
  · exact (hno ec S' f3).elim
theorem run_goM {sc : SC} {μ : MI} {mc ms k n mc1 ms1 pc : Nat} {st0 rest : List Value} {S : AS} {Q1 : Out → AS → Prop} {l : Launch} {κ : KX} {p : Program} {e : Env} {s : State} {m : MethodId} {args a : Array Value} {below : List Frame} {meth : Method} {c : Code} {H : Heap} {locs : List Loc} {ls : Array Slot} {G : State → Prop}
    (hr : va_Run p l e (rmO μ mc ms) s m args below meth c H locs k n mc1 ms1 (F0 m pc ls st0) rest (QO κ Q1 a) (kF κ)) (hS : va_S (kF κ) s.heap H locs)
    (kk : ∀ (r : Option Value) (S' : AS) (H1 : Heap) (locs1 : List Loc), Q1 (.inl r) S' → Rep κ S' H1 → va_S (kF κ) s.heap H1 locs1 → W p l e (rmO μ mc ms) s m args below meth c H1 locs1 (k + mc1) (n + ms1) G (F0 m (pc + 3) ls ((r.map (cv κ)).toList ++ rest))) : W p l e (rmO μ mc ms) s m args below meth c H locs k n G (F0 m pc ls st0) := by
  intro T hT X
  obtain ⟨v, st₀, t, T', L, h0, X', hL, e1, e2, ⟨⟨r, S', hv, hq, hR'⟩, hF⟩, st⟩ := hr T hT X
  cases hv
  obtain ⟨k1, k2, k3⟩ := vx_keep h0 e1 hS (fun _ _ h => h) (fun _ h => h) hL hF
  obtain ⟨t2, a1, b1⟩ := kk r S' T'.heap (locs ++ L) hq (by rw [e1]; exact hR') k3 T' rfl X'
  exact ⟨t2, st t2 a1, b1⟩
theorem r_staN {sc : SC} {μ ν : MI} {mc ms k n mc1 ms1 pc : Nat} {lv : List (Nat × Value)} {st : List Value} {S : AS} {Q Q1 : Out → AS → Prop} {idx : Nat} (as rest : List Value) (h : cf (mCd μ) pc = some (.invokestatic idx, 3)) (hL : LSN (mNm μ).cls idx ν as.length) (hcal : Cal sc ν mc1 ms1 as S Q1) (hno : ∀ ec S', ¬ Q1 (.inr ec) S') (hst : st = as.reverse ++ rest) (hrm : rmB μ ν rest = true) (hmc : k + mc1 ≤ mc) (hms : n + ms1 ≤ ms)
    (kk : ∀ r S', Q1 (.inl r) S' → Wp sc μ mc ms (k + mc1) (n + ms1) (pc + 3) lv (r.toList ++ rest) S' Q) : Wp sc μ mc ms k n pc lv st S Q := by
  intro l κ p e s m args below meth c H locs ls hfl hC hS hR hlv
  obtain ⟨⟨host, w1⟩, w2, hd, hg, hhν⟩ := hL
  obtain ⟨m1, m2, m3⟩ := rmB_sp hrm
  have hcb := va_cnB (R := rmO μ mc ms) (rm := rmO ν mc1 ms1) as.length hC.2.1 (gin_O hg.2.1) (wsO_eq hhν) rfl rfl (hC.gd.2.2.2.2.1.1 _ w1) (hC.wd hg.2.2.2.2) ⟨hg.2.2.2.1.1, hg.2.2.2.1.2, hd⟩ ⟨m1, m2⟩
  subst hst
  have hrun := va_runSN (e := e) (meth := meth) (below := below) (rest := cvs κ rest) (g := F0 m pc ls (cvs κ (as.reverse ++ rest))) (locs := locs) (cells := k) (slots := n) (H := H) (As := cvs κ as) ⟨hC.1.1, hC.1.2.1, hC.1.2.2.2.1, hC.own, hC.2.1⟩ (hcal.met hno l κ hfl) ⟨hcb, hC.wd w2, trivial⟩ ⟨Pc0_blind κ sc _ S, pre_at hC.gd hS hR⟩ rfl (by simp [cvs]) hlv.1 (by show cvs κ (as.reverse ++ rest) = _; rw [cvs_app, cvs_rev]) (rm8 m3) (hC.dk h) ⟨hmc, hms⟩
  refine run_goM (sc := sc) (S := S) hrun hS (fun r S' H1 locs1 hq hR1 hS1 => ?_)
  have h9 := kk r S' hq l κ p e s m args below meth c H1 locs1 ls hfl hC hS1 hR1 hlv
  rw [cvs_app] at h9
  cases r <;> exact h9
theorem r_ini {sc : SC} {μ ν : MI} {mc ms k n mc1 ms1 pc : Nat} {lv : List (Nat × Value)} {st : List Value} {S : AS} {Q Q1 : Out → AS → Prop} {idx o : Nat} (as rest : List Value) (h : cf (mCd μ) pc = some (.invokespecial idx, 3)) (hL : LI (mNm μ).cls idx ν as.length) (hcal : Cal sc ν mc1 ms1 (.ref o :: as) S Q1) (hno : ∀ ec S', ¬ Q1 (.inr ec) S') (hst : st = as.reverse ++ .ref o :: rest) (hrm : rmB μ ν rest = true) (hmc : k + mc1 ≤ mc) (hms : n + ms1 ≤ ms)
    (kk : ∀ r S', Q1 (.inl r) S' → Wp sc μ mc ms (k + mc1) (n + ms1) (pc + 3) lv (r.toList ++ rest) S' Q) : Wp sc μ mc ms k n pc lv st S Q := by
  intro l κ p e s m args below meth c H locs ls hfl hC hS hR hlv
  obtain ⟨w1, w2, hnm, hd, hg, hhν, hrt⟩ := hL
  obtain ⟨m1, m2, m3⟩ := rmB_sp hrm
  have hwn : wsO ν = Cond.code (mNm ν) (mBs ν) (mMl ν) none :: lw_gd := by rw [wsO_eq hhν, hrt]
  have hcw := cwI (R := rmO μ mc ms) (rm := rmO ν mc1 ms1) as.length hC.2.1 (gin_O hg.2.1) hwn rfl rfl (hC.wd hg.2.2.2.2) (hC.wd w1) (hC.wd w2) hnm ⟨hg.2.2.2.1.1, hg.2.2.2.1.2, hd⟩ ⟨m1, m2⟩
  subst hst
  have hrun := va_runI (e := e) (meth := meth) (below := below) (rest := cvs κ rest) (g := F0 m pc ls (cvs κ (as.reverse ++ .ref o :: rest))) (locs := locs) (cells := k) (slots := n) (H := H) (As := cvs κ as) (b := kB κ + o) ⟨hC.1.1, hC.1.2.1, hC.1.2.2.2.1, hC.own, hC.2.1⟩ (hcal.met hno l κ hfl) hcw ⟨Pc0_blind κ sc _ S, pre_at (as := .ref o :: as) hC.gd hS hR⟩ rfl (by simp [cvs]) hlv.1 (by show cvs κ (as.reverse ++ .ref o :: rest) = _; rw [cvs_app, cvs_rev]; rfl) (rm8 m3) (hC.dk h) ⟨hmc, hms⟩
  refine run_goM (sc := sc) (S := S) hrun hS (fun r S' H1 locs1 hq hR1 hS1 => ?_)
  have h9 := kk r S' hq l κ p e s m args below meth c H1 locs1 ls hfl hC hS1 hR1 hlv
  rw [cvs_app] at h9
  cases r <;> exact h9
theorem r_iniN {sc : SC} {μ ν : MI} {mc ms k n mc1 ms1 pc : Nat} {lv : List (Nat × Value)} {st : List Value} {S : AS} {Q Q1 : Out → AS → Prop} {idx o : Nat} (as rest : List Value) (h : cf (mCd μ) pc = some (.invokespecial idx, 3)) (hL : LIN (mNm μ).cls idx ν as.length) (hcal : Cal sc ν mc1 ms1 (.ref o :: as) S Q1) (hno : ∀ ec S', ¬ Q1 (.inr ec) S') (hst : st = as.reverse ++ .ref o :: rest) (hrm : rmB μ ν rest = true) (hmc : k + mc1 ≤ mc) (hms : n + ms1 ≤ ms)
    (kk : ∀ r S', Q1 (.inl r) S' → Wp sc μ mc ms (k + mc1) (n + ms1) (pc + 3) lv (r.toList ++ rest) S' Q) : Wp sc μ mc ms k n pc lv st S Q := by
  intro l κ p e s m args below meth c H locs ls hfl hC hS hR hlv
  obtain ⟨⟨host, w1⟩, w2, hnm, hd, hg, hhν, hrt⟩ := hL
  obtain ⟨m1, m2, m3⟩ := rmB_sp hrm
  have hwn : wsO ν = Cond.code (mNm ν) (mBs ν) (mMl ν) none :: lw_gd := by rw [wsO_eq hhν, hrt]
  have hcb := va_cnB (R := rmO μ mc ms) (rm := rmO ν mc1 ms1) as.length hC.2.1 (gin_O hg.2.1) hwn rfl rfl (hC.gd.2.2.2.2.1.1 _ w1) (hC.wd hg.2.2.2.2) ⟨hg.2.2.2.1.1, hg.2.2.2.1.2, hd⟩ ⟨m1, m2⟩
  subst hst
  have hrun := va_runIN (e := e) (meth := meth) (below := below) (rest := cvs κ rest) (g := F0 m pc ls (cvs κ (as.reverse ++ .ref o :: rest))) (locs := locs) (cells := k) (slots := n) (H := H) (As := cvs κ as) (b := kB κ + o) ⟨hC.1.1, hC.1.2.1, hC.1.2.2.2.1, hC.own, hC.2.1⟩ (hcal.met hno l κ hfl) ⟨hcb, hnm, hC.wd w2⟩ ⟨Pc0_blind κ sc _ S, pre_at (as := .ref o :: as) hC.gd hS hR⟩ rfl (by simp [cvs]) hlv.1 (by show cvs κ (as.reverse ++ .ref o :: rest) = _; rw [cvs_app, cvs_rev]; rfl) (rm8 m3) (hC.dk h) ⟨hmc, hms⟩
  refine run_goM (sc := sc) (S := S) hrun hS (fun r S' H1 locs1 hq hR1 hS1 => ?_)
  have h9 := kk r S' hq l κ p e s m args below meth c H1 locs1 ls hfl hC hS1 hR1 hlv
  rw [cvs_app] at h9
  cases r <;> exact h9
/-- Object's constructor -/
theorem r_obj {sc : SC} {μ : MI} {mc ms k n pc : Nat} {lv : List (Nat × Value)} {st : List Value} {S : AS} {Q : Out → AS → Prop} {idx o : Nat} (h : cf (mCd μ) pc = some (.invokespecial idx, 3)) (hw : Cond.methodLink (mNm μ).cls idx objectInit ∈ lw_gd) (hw2 : Cond.instanceMethod objectInit ∈ lw_gd) (hw3 : Cond.code objectInit ⟨#[0xb1]⟩ 1 none ∈ lw_gd) (hfr : Nat.ble 1 (mFr μ) = true) (hlo : Nat.ble ((st.map fun v => v.category).sum + 12) (mLo μ) = true) (kk : Wp sc μ mc ms k n (pc + 3) lv st S Q) : Wp sc μ mc ms k n pc lv (.ref o :: st) S Q := by
  intro l κ p e s m args below meth c H locs ls hfl hC hS hR hlv
  refine W.objInit (a := kB κ + o) (rest := cvs κ st) hC.1.1 hC.1.2.1 hC.own (hC.wd hw) (hC.wd hw2) (hC.wd hw3) rfl (by rw [hC.1.2.2.2.1]; exact hlv.1) rfl (hC.dk h) (Nat.le_of_ble_eq_true hfr) ?_ (kk l κ p e s m args below meth c H locs ls hfl hC hS hR hlv)
  rw [cvs_sum]
  have := Nat.le_of_ble_eq_true hlo
  show 2 * 0 + _ + 12 ≤ mLo μ
  omega
theorem r_ret {sc : SC} {μ : MI} {mc ms k n pc : Nat} {lv : List (Nat × Value)} {S : AS} {Q : Out → AS → Prop} {x : Int32} {t : FieldType} (h : cf (mCd μ) pc = some (.ireturn, 1)) (hrt : mRt μ = some t) (hn : narrow t (.int x) = .int x) (hk : k ≤ mc) (hs : n ≤ ms) (hq : Q (.inl (some (.int x))) S) : Wp sc μ mc ms k n pc lv [.int x] S Q := by
  intro l κ p e s m args below meth c H locs ls hfl hC hS hR hlv
  refine W.widen hk hs (vx_ret ?_)
  exact W.zret (ty := t) hC.1.1 hC.1.2.1 (hC.1.2.2.1.trans hrt) hn (fun t ht hW => ⟨⟨some (.int x), S, rfl, hq, by rw [ht]; exact hR⟩, hS.F ht⟩) hS.2.2 (hC.dk h) hC.2.2.1
theorem r_lret {sc : SC} {μ : MI} {mc ms k n pc : Nat} {lv : List (Nat × Value)} {S : AS} {Q : Out → AS → Prop} {x : Int64} (h : cf (mCd μ) pc = some (.lreturn, 1)) (hrt : mRt μ = some .long) (hk : k ≤ mc) (hs : n ≤ ms) (hq : Q (.inl (some (.long x))) S) : Wp sc μ mc ms k n pc lv [.long x] S Q := by
  intro l κ p e s m args below meth c H locs ls hfl hC hS hR hlv
  refine W.widen hk hs (vx_ret ?_)
  exact W.lret hC.1.1 hC.1.2.1 (hC.1.2.2.1.trans hrt) (fun t ht hW => ⟨⟨some (.long x), S, rfl, hq, by rw [ht]; exact hR⟩, hS.F ht⟩) hS.2.2 (hC.dk h) hC.2.2.1
theorem r_vret {sc : SC} {μ : MI} {mc ms k n pc : Nat} {lv : List (Nat × Value)} {S : AS} {Q : Out → AS → Prop} (h : cf (mCd μ) pc = some (.return_, 1)) (hrt : mRt μ = none) (hk : k ≤ mc) (hs : n ≤ ms) (hq : Q (.inl none) S) : Wp sc μ mc ms k n pc lv [] S Q := by
  intro l κ p e s m args below meth c H locs ls hfl hC hS hR hlv
  refine W.widen hk hs (vx_ret ?_)
  exact W.vret hC.1.1 hC.1.2.1 (hC.1.2.2.1.trans hrt) (fun t ht hW => ⟨⟨none, S, rfl, hq, by rw [ht]; exact hR⟩, hS.F ht⟩) hS.2.2 (hC.dk h) hC.2.2.1
theorem r_mmin {sc : SC} {μ : MI} {mc ms k n pc : Nat} {lv : List (Nat × Value)} {st : List Value} {S : AS} {Q : Out → AS → Prop} {x y : Int32} {idx : Nat} (h : cf (mCd μ) pc = some (.invokestatic idx, 3)) (hw : Cond.methodLink (mNm μ).cls idx Lib.Math.min.name ∈ lw_gd) (hw2 : Cond.static Lib.Math.min.name ∈ lw_gd) (hw3 : Cond.initialized "java/lang/Math" ∈ lw_gd) (hw4 : Cond.code Lib.Math.min.name Lib.Math.min.code 2 (some .int) ∈ lw_gd) (hfr : Nat.ble 1 (mFr μ) = true) (hlo : Nat.ble ((st.map fun v => v.category).sum + 13) (mLo μ) = true) (hk : k ≤ mc) (hs : n ≤ ms) (kk : Wp sc μ mc ms k n (pc + 3) lv (.int (if y < x then y else x) :: st) S Q) : Wp sc μ mc ms k n pc lv (.int y :: .int x :: st) S Q := by
  intro l κ p e s m args below meth c H locs ls hfl hC hS hR hlv
  refine va_mmin hC.1.1 hC.1.2.1 (by rw [hC.1.2.2.2.1]; exact hlv.1.symm) hC.own (hC.wd hw) (hC.wd hw2) (hC.wd hw3) (hC.wd hw4) (Nat.le_of_ble_eq_true hfr) ?_ hk hs (hC.dk h) (kk l κ p e s m args below meth c H locs ls hfl hC hS hR hlv)
  show ((cvs κ st).map fun v => v.category).sum + 13 ≤ mLo μ
  rw [cvs_sum]
  exact Nat.le_of_ble_eq_true hlo
theorem r_mmax {sc : SC} {μ : MI} {mc ms k n pc : Nat} {lv : List (Nat × Value)} {st : List Value} {S : AS} {Q : Out → AS → Prop} {x y : Int32} {idx : Nat} (h : cf (mCd μ) pc = some (.invokestatic idx, 3)) (hw : Cond.methodLink (mNm μ).cls idx Lib.Math.max.name ∈ lw_gd) (hw2 : Cond.static Lib.Math.max.name ∈ lw_gd) (hw3 : Cond.initialized "java/lang/Math" ∈ lw_gd) (hw4 : Cond.code Lib.Math.max.name Lib.Math.max.code 2 (some .int) ∈ lw_gd) (hfr : Nat.ble 1 (mFr μ) = true) (hlo : Nat.ble ((st.map fun v => v.category).sum + 13) (mLo μ) = true) (hk : k ≤ mc) (hs : n ≤ ms) (kk : Wp sc μ mc ms k n (pc + 3) lv (.int (if x < y then y else x) :: st) S Q) : Wp sc μ mc ms k n pc lv (.int y :: .int x :: st) S Q := by
  intro l κ p e s m args below meth c H locs ls hfl hC hS hR hlv
  refine va_mmax hC.1.1 hC.1.2.1 (by rw [hC.1.2.2.2.1]; exact hlv.1.symm) hC.own (hC.wd hw) (hC.wd hw2) (hC.wd hw3) (hC.wd hw4) (Nat.le_of_ble_eq_true hfr) ?_ hk hs (hC.dk h) (kk l κ p e s m args below meth c H locs ls hfl hC hS hR hlv)
  show ((cvs κ st).map fun v => v.category).sum + 13 ≤ mLo μ
  rw [cvs_sum]
  exact Nat.le_of_ble_eq_true hlo
theorem str_lt {i : Nat} {x : String × Nat × String × List Int32} (h : strJ[i]? = some x) : i < 38 := (List.getElem?_eq_some_iff.mp h).1
theorem r_ldcS {sc : SC} {μ : MI} {mc ms k n pc : Nat} {lv : List (Nat × Value)} {st : List Value} {S : AS} {Q : Out → AS → Prop} {idx i : Nat} {tx : String} {bs : List Int32} (h : cf (mCd μ) pc = some (.ldc idx, 2)) (hs : strJ[i]? = some ((mNm μ).cls, idx, tx, bs)) (kk : Wp sc μ mc ms k n (pc + 2) lv (.retAddr i :: st) S Q) : Wp sc μ mc ms k n pc lv st S Q := by
  intro l κ p e s m args below meth c H locs ls hfl hC hS hR hlv
  have hi := str_lt hs
  refine va_ldcS (q := kSK κ i) hC.1.1 hC.1.2.1 hC.own (hC.gd.2.1 i _ hs).2 (hC.dk h) ?_
  rw [← cv_str κ (Nat.lt_trans hi (by decide))]
  exact kk l κ p e s m args below meth c H locs ls hfl hC hS hR hlv
theorem r_getsC {sc : SC} {μ : MI} {mc ms k n pc : Nat} {lv : List (Nat × Value)} {st : List Value} {S : AS} {Q : Out → AS → Prop} {idx : Nat} (h : cf (mCd μ) pc = some (.getstatic idx, 3)) (hw : Cond.fieldLink (mNm μ).cls idx "java/lang/String" "COMPACT_STRINGS" "Z" ∈ lw_gd) (kk : Wp sc μ mc ms k n (pc + 3) lv (.int 1 :: st) S Q) : Wp sc μ mc ms k n pc lv st S Q := by
  intro l κ p e s m args below meth c H locs ls hfl hC hS hR hlv
  exact va_gets (A := kF κ) hC.1.1 hC.1.2.1 hC.gd.2.2.2.1.1 hS hC.own (hC.wd hw) (fun _ q => q) (hC.dk h) (kk l κ p e s m args below meth c H locs ls hfl hC hS hR hlv)
theorem r_getsF {sc : SC} {μ : MI} {mc ms k n pc : Nat} {lv : List (Nat × Value)} {st : List Value} {S : AS} {Q : Out → AS → Prop} {idx : Nat} (h : cf (mCd μ) pc = some (.getstatic idx, 3)) (hw : Cond.fieldLink (mNm μ).cls idx "jdk/internal/util/Preconditions" "SIOOBE_FORMATTER" "Ljava/util/function/BiFunction;" ∈ lw_gd) (kk : Wp sc μ mc ms k n (pc + 3) lv (.retAddr 99 :: st) S Q) : Wp sc μ mc ms k n pc lv st S Q := by
  intro l κ p e s m args below meth c H locs ls hfl hC hS hR hlv
  exact va_gets (A := kF κ) hC.1.1 hC.1.2.1 hC.gd.2.2.2.1.2 hS hC.own (hC.wd hw) (fun _ q => q) (hC.dk h) (kk l κ p e s m args below meth c H locs ls hfl hC hS hR hlv)
theorem r_getC {sc : SC} {μ : MI} {mc ms k n pc : Nat} {lv : List (Nat × Value)} {st : List Value} {S : AS} {Q : Out → AS → Prop} {idx i : Nat} {x : String × Nat × String × List Int32} (h : cf (mCd μ) pc = some (.getfield idx, 3)) (hs : strJ[i]? = some x) (hw : Cond.fieldLink (mNm μ).cls idx "java/lang/String" "coder" "B" ∈ lw_gd) (kk : Wp sc μ mc ms k n (pc + 3) lv (.int 0 :: st) S Q) : Wp sc μ mc ms k n pc lv (.retAddr i :: st) S Q := by
  intro l κ p e s m args below meth c H locs ls hfl hC hS hR hlv
  have hi := str_lt hs
  show W p l e (rmO μ mc ms) s m args below meth c H locs k n _ (F0 m pc ls (cv κ (.retAddr i) :: cvs κ st))
  rw [cv_str κ (Nat.lt_trans hi (by decide))]
  exact vk_getf (A := kF κ) hC.1.1 hC.1.2.1 (hC.gd.2.1 i _ hs).1.2.1 hS hC.own (hC.wd hw) (fun _ q => q) (hC.dk h) (kk l κ p e s m args below meth c H locs ls hfl hC hS hR hlv)
theorem r_getV {sc : SC} {μ : MI} {mc ms k n pc : Nat} {lv : List (Nat × Value)} {st : List Value} {S : AS} {Q : Out → AS → Prop} {idx i : Nat} {x : String × Nat × String × List Int32} (h : cf (mCd μ) pc = some (.getfield idx, 3)) (hs : strJ[i]? = some x) (hw : Cond.fieldLink (mNm μ).cls idx "java/lang/String" "value" "[B" ∈ lw_gd) (kk : Wp sc μ mc ms k n (pc + 3) lv (.retAddr (50 + i) :: st) S Q) : Wp sc μ mc ms k n pc lv (.retAddr i :: st) S Q := by
  intro l κ p e s m args below meth c H locs ls hfl hC hS hR hlv
  have hi := str_lt hs
  have h9 := kk l κ p e s m args below meth c H locs ls hfl hC hS hR hlv
  show W p l e (rmO μ mc ms) s m args below meth c H locs k n _ (F0 m pc ls (cv κ (.retAddr i) :: cvs κ st))
  rw [cv_str κ (Nat.lt_trans hi (by decide))]
  refine vk_getf (A := kF κ) hC.1.1 hC.1.2.1 (hC.gd.2.1 i _ hs).1.2.2.1 hS hC.own (hC.wd hw) (fun _ q => q) (hC.dk h) ?_
  rw [← cv_stv κ (Nat.lt_trans hi (by decide))]
  exact h9
theorem r_alenK {sc : SC} {μ : MI} {mc ms k n pc : Nat} {lv : List (Nat × Value)} {st : List Value} {S : AS} {Q : Out → AS → Prop} {i : Nat} {x : String × Nat × String × List Int32} (h : cf (mCd μ) pc = some (.arraylength, 1)) (hs : strJ[i]? = some x) (kk : Wp sc μ mc ms k n (pc + 1) lv (.int (nI x.2.2.2.length) :: st) S Q) : Wp sc μ mc ms k n pc lv (.retAddr (50 + i) :: st) S Q := by
  intro l κ p e s m args below meth c H locs ls hfl hC hS hR hlv
  have hi := str_lt hs
  show W p l e (rmO μ mc ms) s m args below meth c H locs k n _ (F0 m pc ls (cv κ (.retAddr (50 + i)) :: cvs κ st))
  rw [cv_stv κ (Nat.lt_trans hi (by decide))]
  exact va_tlen (A := kF κ) hC.1.1 hC.1.2.1 (hC.gd.2.1 i _ hs).1.2.2.2 hS rfl (hC.dk h) (kk l κ p e s m args below meth c H locs ls hfl hC hS hR hlv)
theorem r_baldK {sc : SC} {μ : MI} {mc ms k n pc : Nat} {lv : List (Nat × Value)} {st : List Value} {S : AS} {Q : Out → AS → Prop} {i j : Nat} {x : String × Nat × String × List Int32} (h : cf (mCd μ) pc = some (.baload, 1)) (hs : strJ[i]? = some x) (hj : j < x.2.2.2.length) (hn : x.2.2.2.length < 2147483648) (kk : Wp sc μ mc ms k n (pc + 1) lv (.int (x.2.2.2.getD j 0) :: st) S Q) : Wp sc μ mc ms k n pc lv (.int (nI j) :: .retAddr (50 + i) :: st) S Q := by
  intro l κ p e s m args below meth c H locs ls hfl hC hS hR hlv
  have hi := str_lt hs
  show W p l e (rmO μ mc ms) s m args below meth c H locs k n _ (F0 m pc ls (.int (nI j) :: cv κ (.retAddr (50 + i)) :: cvs κ st))
  rw [cv_stv κ (Nat.lt_trans hi (by decide))]
  exact va_tb (A := kF κ) hC.1.1 hC.1.2.1 (hC.gd.2.1 i _ hs).1.2.2.2 hS (vin hj hn) (by rw [nI_clamp (Nat.lt_trans hj hn)]; rfl) (hC.dk h) (kk l κ p e s m args below meth c H locs ls hfl hC hS hR hlv)
theorem r_virK {sc : SC} {μ ν : MI} {mc ms k n mc1 ms1 pc : Nat} {lv : List (Nat × Value)} {st : List Value} {S : AS} {Q Q1 : Out → AS → Prop} {idx i : Nat} {x : String × Nat × String × List Int32} (as rest : List Value) (h : cf (mCd μ) pc = some (.invokevirtual idx, 3)) (hL : LV (mNm μ).cls idx ν as.length) (hs : strJ[i]? = some x) (hc : "java/lang/String" = (mNm ν).cls) (hcal : Cal sc ν mc1 ms1 (.retAddr i :: as) S Q1) (hno : ∀ ec S', ¬ Q1 (.inr ec) S') (hst : st = as.reverse ++ .retAddr i :: rest) (hrm : rmB μ ν rest = true) (hmc : k + mc1 ≤ mc) (hms : n + ms1 ≤ ms)
    (kk : ∀ r S', Q1 (.inl r) S' → Wp sc μ mc ms (k + mc1) (n + ms1) (pc + 3) lv (r.toList ++ rest) S' Q) : Wp sc μ mc ms k n pc lv st S Q := by
  intro l κ p e s m args below meth c H locs ls hfl hC hS hR hlv
  obtain ⟨w1, w2, w3, hd, hg, hhν⟩ := hL
  obtain ⟨m1, m2, m3⟩ := rmB_sp hrm
  have hi := str_lt hs
  have hcvi := cv_str κ (Nat.lt_trans hi (by decide : 38 < 50))
  have hgi : GoodIn (wsO μ) (wsV (mNm μ).cls idx (mNm ν).cls (mNm ν) (wsO ν)) := by
    unfold wsV
    refine gin_app ?_ (gin_O hg.2.1)
    intro w hw
    simp only [List.mem_cons, List.not_mem_nil, or_false] at hw
    rcases hw with rfl | rfl | rfl | rfl
    · exact w1
    · exact w2
    · exact w3
    · exact hg.2.2.2.2
  subst hst
  obtain ⟨cellB, b1, b2, b3, -⟩ := (hC.gd.2.1 i _ hs).1.1.kept hS.2.1
  rw [hc] at b3
  have hpre := pre_at (as := .retAddr i :: as) hC.gd hS hR
  have hstk : cvs κ (as.reverse ++ .retAddr i :: rest) = (cvs κ as).reverse ++ .ref (kSK κ i) :: cvs κ rest := by
    rw [cvs_app, cvs_rev]
    show _ ++ cv κ (.retAddr i) :: cvs κ rest = _
    rw [hcvi]
  have hpre' : ∀ U : State, U.heap = H → s.WarmedH U.vm → Pc0 κ sc (.retAddr i :: as) S (Value.ref (kSK κ i) :: cvs κ as).toArray U := by
    intro U hU hW
    rw [← hcvi]
    exact hpre U hU hW
  have hrun := va_runV (R := rmO μ mc ms) (e := e) (meth := meth) (below := below) (rest := cvs κ rest) (g := F0 m pc ls (cvs κ (as.reverse ++ .retAddr i :: rest))) (locs := locs) (cells := k) (slots := n) (H := H) (As := cvs κ as) (b := kSK κ i) ⟨hC.1.1, hC.1.2.1, hC.1.2.2.2.1, hC.own, hC.2.1⟩ (hcal.met hno l κ hfl) (cwV (R := rmO μ mc ms) (rm := rmO ν mc1 ms1) as.length hC.2.1 hgi (wsO_eq hhν) rfl rfl ⟨rfl, hg.2.2.2.1.1, hg.2.2.2.1.2, hd⟩ ⟨m1, m2⟩) ⟨Pc0_blind κ sc _ S, ⟨cellB, b1, b2, b3⟩, hpre'⟩ rfl (by simp [cvs]) hlv.1 hstk (rm8 m3) (hC.dk h) ⟨hmc, hms⟩
  refine run_goM (sc := sc) (S := S) hrun hS (fun r S' H1 locs1 hq hR1 hS1 => ?_)
  have h9 := kk r S' hq l κ p e s m args below meth c H1 locs1 ls hfl hC hS1 hR1 hlv
  rw [cvs_app] at h9
  cases r <;> exact h9
/-- a call of a static method with handlers -/
theorem r_staW {sc : SC} {μ ν : MI} {mc ms k n mc1 ms1 pc : Nat} {lv : List (Nat × Value)} {st : List Value} {S : AS} {Q Q1 : Out → AS → Prop} {idx : Nat} (as rest : List Value) (h : cf (mCd μ) pc = some (.invokestatic idx, 3)) (hL : LSW (mNm μ).cls idx ν as.length) (hcal : Cal sc ν mc1 ms1 as S Q1) (hno : ∀ ec S', ¬ Q1 (.inr ec) S') (hst : st = as.reverse ++ rest) (hrm : rmB μ ν rest = true) (hmc : k + mc1 ≤ mc) (hms : n + ms1 ≤ ms)
    (kk : ∀ r S', Q1 (.inl r) S' → Wp sc μ mc ms (k + mc1) (n + ms1) (pc + 3) lv (r.toList ++ rest) S' Q) : Wp sc μ mc ms k n pc lv st S Q := by
  intro l κ p e s m args below meth c H locs ls hfl hC hS hR hlv
  obtain ⟨w1, w2, hd, hg, x, t, hhν⟩ := hL
  obtain ⟨m1, m2, m3⟩ := rmB_sp hrm
  have hgi : GoodIn (wsO μ) (va_wsS (mNm μ).cls idx (mNm ν) (wsO ν)) := by
    unfold va_wsS
    refine gin_app ?_ (gin_O hg.2.1)
    intro w hw
    simp only [List.mem_cons, List.not_mem_nil, or_false] at hw
    rcases hw with rfl | rfl | rfl
    · exact w1
    · exact w2
    · exact hg.2.2.2.2
  subst hst
  have hrun := vx_runSW (R := rmO μ mc ms) (e := e) (meth := meth) (below := below) (rest := cvs κ rest) (g := F0 m pc ls (cvs κ (as.reverse ++ rest))) (locs := locs) (cells := k) (slots := n) (H := H) (As := cvs κ as) ⟨hC.1.1, hC.1.2.1, hC.1.2.2.2.1, hC.own, hC.2.1⟩ (hcal.met hno l κ hfl) (vx_cwSW (R := rmO μ mc ms) (rm := rmO ν mc1 ms1) as.length hC.2.1 hgi (wsO_eqW hhν) rfl rfl ⟨hg.2.2.2.1.1, hg.2.2.2.1.2, hd⟩ ⟨m1, m2⟩) ⟨Pc0_blind κ sc _ S, pre_at hC.gd hS hR⟩ rfl (by simp [cvs]) hlv.1 (by show cvs κ (as.reverse ++ rest) = _; rw [cvs_app, cvs_rev]) (rm8 m3) (hC.dk h) ⟨hmc, hms⟩
  refine run_goM (sc := sc) (S := S) hrun hS (fun r S' H1 locs1 hq hR1 hS1 => ?_)
  have h9 := kk r S' hq l κ p e s m args below meth c H1 locs1 ls hfl hC hS1 hR1 hlv
  rw [cvs_app] at h9
  cases r <;> exact h9
end
section
abbrev supN : List String := ["java/lang/RuntimeException", "java/lang/Exception"]
/-- the words of a throw of ec in the class own -/
def TH (own : String) (ik ic ec : Nat) : Prop := Cond.classLink own ik (exN ec) ∈ lw_gd ∧ Cond.methodLink own ic (Bundle.initS (exN ec)) ∈ lw_gd
theorem atS_split (own : String) (ic : Nat) (X : String) (nm : List String) : ∀ w ∈ vx_atS own ic X nm, w = Cond.methodLink own ic (Bundle.initS X) ∨ w ∈ vx_atS "" 0 X nm := by
  intro w hw
  unfold vx_atS at hw ⊢
  obtain ⟨h1, h2⟩ := List.mem_filter.mp hw
  unfold Bundle.ownAtoms at h1
  rw [List.mem_append] at h1
  rcases h1 with h1 | h1
  · refine Or.inr (List.mem_filter.mpr ⟨?_, h2⟩)
    unfold Bundle.ownAtoms
    exact List.mem_append_left _ h1
  · rcases List.mem_cons.mp h1 with e | h1
    · exact Or.inl e
    · refine Or.inr (List.mem_filter.mpr ⟨?_, h2⟩)
      unfold Bundle.ownAtoms
      exact List.mem_append_right _ (List.mem_cons_of_mem _ h1)
set_option maxRecDepth 100000 in
theorem atS_ok : ∀ ec, ec < 3 → ∀ w ∈ vx_atS "" 0 (exN ec) supN, w = Cond.methodLink "" 0 (Bundle.initS (exN ec)) ∨ (w ∈ lw_tbl ∧ goodWord w = true) ∨ w = Cond.castable (exN ec) (exN ec) ∨ w ∈ lw_dcl.map Cond.declares := by decide +kernel
theorem ex_cst : ∀ ec, ec < 3 → (exN ec, exN ec) ∈ lw_cst := by decide
theorem ex_ini : ∀ ec, ec < 3 → Cond.initialized (exN ec) ∈ lw_tbl := by decide +kernel
theorem ex_fit : ∀ ec, ec < 3 → Bundle.fit (exN ec) = true := by decide +kernel
theorem sup_fit : ∀ n ∈ supN, Bundle.fit n = true := by decide +kernel
theorem th_no : ∀ ec, ec < 3 → Cond.methodLink "" 0 (Bundle.initS (exN ec)) ∉ Bundle.throwableAtoms ++ Bundle.throwableSAtoms ++ Bundle.chainSAtoms (exN ec) supN := by decide +kernel
theorem th_all {own : String} {ik ic ec : Nat} (h : TH own ik ic ec) (he : ec < 3) {args : Array Value} {s : State} (hw : ∀ w ∈ lw_gd, w.before args s = true) (hc : va_Nw (.castable (exN ec) (exN ec)) s) (hd : ∀ x ∈ lw_dcl, va_Nw (.declares x) s) : ∀ w ∈ vx_atS own ic (exN ec) supN, w.before args s = true ∧ vx_ot w = true := by
  have g : ∀ w ∈ lw_gd, w.before args s = true ∧ vx_ot w = true := fun w h9 => ⟨hw w h9, by unfold vx_ot; rw [(List.mem_filter.mp h9).2, Bool.or_true]⟩
  intro w hw1
  rcases atS_split _ _ _ _ w hw1 with rfl | hw2
  · exact g _ h.2
  · rcases atS_ok ec he w hw2 with e | ⟨h1, h2⟩ | e | e
    · unfold vx_atS at hw1
      have h7 := (List.mem_filter.mp hw1).1
      unfold Bundle.ownAtoms at h7
      rw [List.mem_append] at h7
      rw [e] at h7
      rcases h7 with h7 | h7
      · exact (th_no ec he h7).elim
      · rcases List.mem_cons.mp h7 with e2 | h7
        · rw [e, e2]
          exact g _ h.2
        · simp only [List.mem_cons, List.not_mem_nil, or_false, reduceCtorEq, false_or] at h7
    · exact g _ (lw_gd_of h1 h2)
    · rw [e]
      exact ⟨va_Nw.use rfl hc, rfl⟩
    · obtain ⟨y, hy, rfl⟩ := List.mem_map.mp e
      exact ⟨va_Nw.use rfl (hd y hy), rfl⟩
theorem r_throw {sc : SC} {μ : MI} {mc ms k n pc : Nat} {lv : List (Nat × Value)} {st : List Value} {S : AS} {Q : Out → AS → Prop} {ik is ic i ec : Nat} {tx : String} {bs : List Int32} (d0 : cf (mCd μ) pc = some (.new ik, 3)) (d3 : cf (mCd μ) (pc + 3) = some (.dup, 1)) (d4 : cf (mCd μ) (pc + 4) = some (.ldc is, 2)) (d6 : cf (mCd μ) (pc + 6) = some (.invokespecial ic, 3)) (d9 : cf (mCd μ) (pc + 9) = some (.athrow, 1))
    (he : ec < 3) (hT : TH (mNm μ).cls ik ic ec) (hs : strJ[i]? = some ((mNm μ).cls, is, tx, bs)) (hh : mHh μ = []) (hfr : Nat.ble 6 (mFr μ) = true) (hlo : Nat.ble ((st.map fun v => v.category).sum + 82) (mLo μ) = true) (hk : k + 1 ≤ mc) (hn : n + 6 ≤ ms) (hq : Q (.inr ec) (S.1, S.2.1, false)) : Wp sc μ mc ms k n pc lv st S Q := by
  intro l κ p e s m args below meth c H locs ls hfl hC hS hR hlv
  have hcs : va_Nw (.castable (exN ec) (exN ec)) s := hC.gd.2.2.2.2.1.2.1 _ (ex_cst ec he)
  have hall := th_all hT he (fun w hw => hC.wd hw) hcs hC.gd.2.2.2.2.1.2.2.2
  have hini : Cond.initialized (exN ec) ∈ lw_gd := lw_gd_of (ex_ini ec he) rfl
  refine vx_throwS (names := supN) (cls := exN ec) (sa := kSK κ i) (text := tx) hC.1.1 hC.1.2.1 hfl hC.own (ex_fit ec he) sup_fit (hC.wd hT.1) (hC.wd hini) (hC.gd.2.1 i _ hs).2 (fun w hw => (hall w hw).1) ?_ hC.gd.2.2.1.1 hC.gd.2.2.1.2 hS (hlv.1.trans hC.1.2.2.2.1.symm) (hC.dk d0) (hC.dk d3) (hC.dk d4) (hC.dk d6) (hC.dk d9) (by rw [hC.2.2.2.1, hh]; intro x hx; cases hx) (Nat.le_of_ble_eq_true hfr) ?_ hk hn hC.2.2.1 ?_ hS.2.2 hk hn
  · intro w hw
    rcases List.mem_cons.mp hw with rfl | hw
    · rfl
    · rcases List.mem_cons.mp hw with rfl | hw
      · rfl
      · exact (hall w hw).2
  · show ((cvs κ st).map fun v => v.category).sum + 82 ≤ mLo μ
    rw [cvs_sum]
    exact Nat.le_of_ble_eq_true hlo
  · intro t hal hz hkp
    refine ⟨⟨ec, (S.1, S.2.1, false), rfl, he, hq, ⟨hR.kept hkp, (fun q => by cases q), hR.2.2⟩⟩, ⟨Nat.le_trans hS.1 hz, fun q h1 h2 => (hkp q (Nat.lt_of_lt_of_le h1 hS.1)).trans (hS.2.1 q h1 h2)⟩⟩
theorem r_throwW {sc : SC} {μ : MI} {mc ms k n pc : Nat} {lv : List (Nat × Value)} {st : List Value} {S : AS} {Q : Out → AS → Prop} {ik is ic i ec : Nat} {tx : String} {bs : List Int32} (d0 : cf (mCd μ) pc = some (.new ik, 3)) (d3 : cf (mCd μ) (pc + 3) = some (.dup, 1)) (d4 : cf (mCd μ) (pc + 4) = some (.ldc_w is, 3)) (d6 : cf (mCd μ) (pc + 7) = some (.invokespecial ic, 3)) (d9 : cf (mCd μ) (pc + 10) = some (.athrow, 1))
    (he : ec < 3) (hT : TH (mNm μ).cls ik ic ec) (hs : strJ[i]? = some ((mNm μ).cls, is, tx, bs)) (hh : mHh μ = []) (hfr : Nat.ble 6 (mFr μ) = true) (hlo : Nat.ble ((st.map fun v => v.category).sum + 82) (mLo μ) = true) (hk : k + 1 ≤ mc) (hn : n + 6 ≤ ms) (hq : Q (.inr ec) (S.1, S.2.1, false)) : Wp sc μ mc ms k n pc lv st S Q := by
  intro l κ p e s m args below meth c H locs ls hfl hC hS hR hlv
  have hcs : va_Nw (.castable (exN ec) (exN ec)) s := hC.gd.2.2.2.2.1.2.1 _ (ex_cst ec he)
  have hall := th_all hT he (fun w hw => hC.wd hw) hcs hC.gd.2.2.2.2.1.2.2.2
  have hini : Cond.initialized (exN ec) ∈ lw_gd := lw_gd_of (ex_ini ec he) rfl
  refine vx_throwSW (names := supN) (cls := exN ec) (sa := kSK κ i) (text := tx) hC.1.1 hC.1.2.1 hfl hC.own (ex_fit ec he) sup_fit (hC.wd hT.1) (hC.wd hini) (hC.gd.2.1 i _ hs).2 (fun w hw => (hall w hw).1) ?_ hC.gd.2.2.1.1 hC.gd.2.2.1.2 hS (hlv.1.trans hC.1.2.2.2.1.symm) (hC.dk d0) (hC.dk d3) (hC.dk d4) (hC.dk d6) (hC.dk d9) (by rw [hC.2.2.2.1, hh]; intro x hx; cases hx) (Nat.le_of_ble_eq_true hfr) ?_ hk hn hC.2.2.1 ?_ hS.2.2 hk hn
  · intro w hw
    rcases List.mem_cons.mp hw with rfl | hw
    · rfl
    · rcases List.mem_cons.mp hw with rfl | hw
      · rfl
      · exact (hall w hw).2
  · show ((cvs κ st).map fun v => v.category).sum + 82 ≤ mLo μ
    rw [cvs_sum]
    exact Nat.le_of_ble_eq_true hlo
  · intro t hal hz hkp
    refine ⟨⟨ec, (S.1, S.2.1, false), rfl, he, hq, ⟨hR.kept hkp, (fun q => by cases q), hR.2.2⟩⟩, ⟨Nat.le_trans hS.1 hz, fun q h1 h2 => (hkp q (Nat.lt_of_lt_of_le h1 hS.1)).trans (hS.2.1 q h1 h2)⟩⟩
/-- System.arraycopy -/
theorem r_cpyi {sc : SC} {μ : MI} {mc ms k n pc : Nat} {lv : List (Nat × Value)} {st : List Value} {S : AS} {Q : Out → AS → Prop} {idx a b sp dp w na nb : Nat} {f g : Nat → Int32} (h : cf (mCd μ) pc = some (.invokestatic idx, 3)) (hw : Cond.methodLink (mNm μ).cls idx arraycopyName ∈ lw_gd) (hw2 : Cond.native arraycopyName ∈ lw_gd) (hw3 : Cond.static arraycopyName ∈ lw_gd) (hw4 : Cond.initialized "java/lang/System" ∈ lw_gd) (ha : a < S.2.1) (hb : b < S.2.1) (hga : S.1 a = .inl (0, na, f)) (hgb : S.1 b = .inl (0, nb, g)) (h1 : sp + w ≤ na) (h2 : dp + w ≤ nb) (hna : na < 2147483648) (hnb : nb < 2147483648) (hfr : Nat.ble 1 (mFr μ) = true) (hlo : Nat.ble ((st.map fun v => v.category).sum + 40) (mLo μ) = true)
    (kk : Wp sc μ mc ms k n (pc + 3) lv st (aup S.1 b (.inl (0, nb, va_cpy f g sp dp w)), S.2.1, false) Q) : Wp sc μ mc ms k n pc lv (.int (nI w) :: .int (nI dp) :: .ref b :: .int (nI sp) :: .ref a :: st) S Q := by
  intro l κ p e s m args below meth c H locs ls hfl hC hS hR hlv
  obtain ⟨pa, -, ga⟩ := wsL_pos κ ha (by rw [hga]; rfl : jk (S.1 a) = false)
  obtain ⟨pb, hpb, gb⟩ := wsL_pos κ hb (by rw [hgb]; rfl : jk (S.1 b) = false)
  rw [hga] at ga
  rw [hgb] at gb
  refine va_copyi (D := kD κ) (cl := vwCl) (tys := tysK κ) (ws := wsL κ S.1 S.2.1) (ty := .int) hC.1.1 hC.1.2.1 (by rw [hC.1.2.2.2.1]; exact hlv.1.symm) hC.own (hC.wd hw) (hC.wd hw2) (hC.wd hw3) (hC.wd hw4) hC.kk hR.P (wsL_D κ S.1 S.2.1 hR.2.2) hS pa pb 0 0 ga gb rfl rfl rfl (nI_pos (by omega)) (nI_pos (by omega)) (nI_pos (by omega)) (by rw [nI_clamp (by omega), nI_clamp (by omega)]; exact h1) (by rw [nI_clamp (by omega), nI_clamp (by omega)]; exact h2) (fun _ _ => rfl) (Nat.le_of_ble_eq_true hfr) ?_ (hC.dk h) (fun H1 locs1 hP hD hS1 => ?_)
  · have e9 : nativeFrameWords "java/lang/System" "arraycopy" 5 + 11 ≤ 40 := by decide
    have e8 := Nat.le_of_ble_eq_true hlo
    show ((cvs κ st).map fun v => v.category).sum + _ ≤ mLo μ
    rw [cvs_sum]
    omega
  · rw [nI_clamp (by omega), nI_clamp (by omega), nI_clamp (by omega)] at hP
    refine kk l κ p e s m args below meth c H1 locs1 ls hfl hC hS1 ⟨?_, (fun q => by cases q), hR.2.2⟩ hlv
    exact setL hpb rfl hP
theorem r_cpyl {sc : SC} {μ : MI} {mc ms k n pc : Nat} {lv : List (Nat × Value)} {st : List Value} {S : AS} {Q : Out → AS → Prop} {idx a b sp dp w na nb : Nat} {f g : Nat → Int64} (h : cf (mCd μ) pc = some (.invokestatic idx, 3)) (hw : Cond.methodLink (mNm μ).cls idx arraycopyName ∈ lw_gd) (hw2 : Cond.native arraycopyName ∈ lw_gd) (hw3 : Cond.static arraycopyName ∈ lw_gd) (hw4 : Cond.initialized "java/lang/System" ∈ lw_gd) (ha : a < S.2.1) (hb : b < S.2.1) (hga : S.1 a = .inr (.inl (na, f))) (hgb : S.1 b = .inr (.inl (nb, g))) (h1 : sp + w ≤ na) (h2 : dp + w ≤ nb) (hna : na < 2147483648) (hnb : nb < 2147483648) (hfr : Nat.ble 1 (mFr μ) = true) (hlo : Nat.ble ((st.map fun v => v.category).sum + 40) (mLo μ) = true)
    (kk : Wp sc μ mc ms k n (pc + 3) lv st (aup S.1 b (.inr (.inl (nb, va_cpy f g sp dp w))), S.2.1, false) Q) : Wp sc μ mc ms k n pc lv (.int (nI w) :: .int (nI dp) :: .ref b :: .int (nI sp) :: .ref a :: st) S Q := by
  intro l κ p e s m args below meth c H locs ls hfl hC hS hR hlv
  obtain ⟨pa, -, ga⟩ := wsL_pos κ ha (by rw [hga]; rfl : jk (S.1 a) = false)
  obtain ⟨pb, hpb, gb⟩ := wsL_pos κ hb (by rw [hgb]; rfl : jk (S.1 b) = false)
  rw [hga] at ga
  rw [hgb] at gb
  refine va_copyl (D := kD κ) (cl := vwCl) (tys := tysK κ) (ws := wsL κ S.1 S.2.1) (ty := .long) hC.1.1 hC.1.2.1 (by rw [hC.1.2.2.2.1]; exact hlv.1.symm) hC.own (hC.wd hw) (hC.wd hw2) (hC.wd hw3) (hC.wd hw4) hC.kk hR.P (wsL_D κ S.1 S.2.1 hR.2.2) hS pa pb 3 3 ga gb rfl rfl rfl (nI_pos (by omega)) (nI_pos (by omega)) (nI_pos (by omega)) (by rw [nI_clamp (by omega), nI_clamp (by omega)]; exact h1) (by rw [nI_clamp (by omega), nI_clamp (by omega)]; exact h2) (fun _ _ => rfl) (Nat.le_of_ble_eq_true hfr) ?_ (hC.dk h) (fun H1 locs1 hP hD hS1 => ?_)
  · have e9 : nativeFrameWords "java/lang/System" "arraycopy" 5 + 11 ≤ 40 := by decide
    have e8 := Nat.le_of_ble_eq_true hlo
    show ((cvs κ st).map fun v => v.category).sum + _ ≤ mLo μ
    rw [cvs_sum]
    omega
  · rw [nI_clamp (by omega), nI_clamp (by omega), nI_clamp (by omega)] at hP
    refine kk l κ p e s m args below meth c H1 locs1 ls hfl hC hS1 ⟨?_, (fun q => by cases q), hR.2.2⟩ hlv
    exact setL hpb rfl hP
end
section
theorem cwX0_0 : u_lay RX0 TX0 0 ∈ lw_gd := lw_gd_of (List.mem_of_getElem? (i := 155) (by decide +kernel)) (by decide +kernel)
theorem cwX0_1 : u_lay RX0 TX0 1 ∈ lw_gd := lw_gd_of (List.mem_of_getElem? (i := 157) (by decide +kernel)) (by decide +kernel)
theorem cwX0_2 : u_lay RX0 TX0 2 ∈ lw_gd := lw_gd_of (List.mem_of_getElem? (i := 159) (by decide +kernel)) (by decide +kernel)
theorem cwX0_3 : u_lay RX0 TX0 3 ∈ lw_gd := lw_gd_of (List.mem_of_getElem? (i := 161) (by decide +kernel)) (by decide +kernel)
theorem cwX0_4 : u_lay RX0 TX0 4 ∈ lw_gd := lw_gd_of (List.mem_of_getElem? (i := 163) (by decide +kernel)) (by decide +kernel)
theorem cwX0_5 : u_lay RX0 TX0 5 ∈ lw_gd := lw_gd_of (List.mem_of_getElem? (i := 165) (by decide +kernel)) (by decide +kernel)
theorem cwX0_6 : u_lay RX0 TX0 6 ∈ lw_gd := lw_gd_of (List.mem_of_getElem? (i := 167) (by decide +kernel)) (by decide +kernel)
theorem cwX0_7 : u_lay RX0 TX0 7 ∈ lw_gd := lw_gd_of (List.mem_of_getElem? (i := 169) (by decide +kernel)) (by decide +kernel)
theorem cwX0_8 : u_lay RX0 TX0 8 ∈ lw_gd := lw_gd_of (List.mem_of_getElem? (i := 171) (by decide +kernel)) (by decide +kernel)
theorem cwX0_9 : u_lay RX0 TX0 9 ∈ lw_gd := lw_gd_of (List.mem_of_getElem? (i := 173) (by decide +kernel)) (by decide +kernel)
theorem cwX0_10 : u_lay RX0 TX0 10 ∈ lw_gd := lw_gd_of (List.mem_of_getElem? (i := 175) (by decide +kernel)) (by decide +kernel)
theorem cwX0_11 : u_lay RX0 TX0 11 ∈ lw_gd := lw_gd_of (List.mem_of_getElem? (i := 177) (by decide +kernel)) (by decide +kernel)
theorem ciX0 : CI 0 RX0 TX0 12 tyX0 := by
  refine ⟨rfl, ?_, tyX0_ok, nmX0⟩
  intro w hw
  unfold u_ws at hw
  obtain ⟨k, hk, rfl⟩ := List.mem_map.mp hw
  have hk := List.mem_range.mp hk
  match k, hk with
  | 0, _ => exact cwX0_0
  | 1, _ => exact cwX0_1
  | 2, _ => exact cwX0_2
  | 3, _ => exact cwX0_3
  | 4, _ => exact cwX0_4
  | 5, _ => exact cwX0_5
  | 6, _ => exact cwX0_6
  | 7, _ => exact cwX0_7
  | 8, _ => exact cwX0_8
  | 9, _ => exact cwX0_9
  | 10, _ => exact cwX0_10
  | 11, _ => exact cwX0_11
  | k + 12, h => exact absurd h (by omega)
theorem cwX1_0 : u_lay RX1 TX1 0 ∈ lw_gd := lw_gd_of (List.mem_of_getElem? (i := 92) (by decide +kernel)) (by decide +kernel)
theorem cwX1_1 : u_lay RX1 TX1 1 ∈ lw_gd := lw_gd_of (List.mem_of_getElem? (i := 94) (by decide +kernel)) (by decide +kernel)
theorem cwX1_2 : u_lay RX1 TX1 2 ∈ lw_gd := lw_gd_of (List.mem_of_getElem? (i := 96) (by decide +kernel)) (by decide +kernel)
theorem cwX1_3 : u_lay RX1 TX1 3 ∈ lw_gd := lw_gd_of (List.mem_of_getElem? (i := 98) (by decide +kernel)) (by decide +kernel)
theorem cwX1_4 : u_lay RX1 TX1 4 ∈ lw_gd := lw_gd_of (List.mem_of_getElem? (i := 100) (by decide +kernel)) (by decide +kernel)
theorem cwX1_5 : u_lay RX1 TX1 5 ∈ lw_gd := lw_gd_of (List.mem_of_getElem? (i := 102) (by decide +kernel)) (by decide +kernel)
theorem ciX1 : CI 1 RX1 TX1 6 tyX1 := by
  refine ⟨rfl, ?_, tyX1_ok, nmX1⟩
  intro w hw
  unfold u_ws at hw
  obtain ⟨k, hk, rfl⟩ := List.mem_map.mp hw
  have hk := List.mem_range.mp hk
  match k, hk with
  | 0, _ => exact cwX1_0
  | 1, _ => exact cwX1_1
  | 2, _ => exact cwX1_2
  | 3, _ => exact cwX1_3
  | 4, _ => exact cwX1_4
  | 5, _ => exact cwX1_5
  | k + 6, h => exact absurd h (by omega)
theorem cwX2_0 : u_lay RX2 TX2 0 ∈ lw_gd := lw_gd_of (List.mem_of_getElem? (i := 261) (by decide +kernel)) (by decide +kernel)
theorem cwX2_1 : u_lay RX2 TX2 1 ∈ lw_gd := lw_gd_of (List.mem_of_getElem? (i := 263) (by decide +kernel)) (by decide +kernel)
theorem cwX2_2 : u_lay RX2 TX2 2 ∈ lw_gd := lw_gd_of (List.mem_of_getElem? (i := 265) (by decide +kernel)) (by decide +kernel)
theorem cwX2_3 : u_lay RX2 TX2 3 ∈ lw_gd := lw_gd_of (List.mem_of_getElem? (i := 267) (by decide +kernel)) (by decide +kernel)
theorem cwX2_4 : u_lay RX2 TX2 4 ∈ lw_gd := lw_gd_of (List.mem_of_getElem? (i := 269) (by decide +kernel)) (by decide +kernel)
theorem cwX2_5 : u_lay RX2 TX2 5 ∈ lw_gd := lw_gd_of (List.mem_of_getElem? (i := 271) (by decide +kernel)) (by decide +kernel)
theorem cwX2_6 : u_lay RX2 TX2 6 ∈ lw_gd := lw_gd_of (List.mem_of_getElem? (i := 273) (by decide +kernel)) (by decide +kernel)
theorem cwX2_7 : u_lay RX2 TX2 7 ∈ lw_gd := lw_gd_of (List.mem_of_getElem? (i := 275) (by decide +kernel)) (by decide +kernel)
theorem cwX2_8 : u_lay RX2 TX2 8 ∈ lw_gd := lw_gd_of (List.mem_of_getElem? (i := 277) (by decide +kernel)) (by decide +kernel)
theorem ciX2 : CI 2 RX2 TX2 9 tyX2 := by
  refine ⟨rfl, ?_, tyX2_ok, nmX2⟩
  intro w hw
  unfold u_ws at hw
  obtain ⟨k, hk, rfl⟩ := List.mem_map.mp hw
  have hk := List.mem_range.mp hk
  match k, hk with
  | 0, _ => exact cwX2_0
  | 1, _ => exact cwX2_1
  | 2, _ => exact cwX2_2
  | 3, _ => exact cwX2_3
  | 4, _ => exact cwX2_4
  | 5, _ => exact cwX2_5
  | 6, _ => exact cwX2_6
  | 7, _ => exact cwX2_7
  | 8, _ => exact cwX2_8
  | k + 9, h => exact absurd h (by omega)
theorem cwX3_0 : u_lay RX3 TX3 0 ∈ lw_gd := lw_gd_of (List.mem_of_getElem? (i := 297) (by decide +kernel)) (by decide +kernel)
theorem cwX3_1 : u_lay RX3 TX3 1 ∈ lw_gd := lw_gd_of (List.mem_of_getElem? (i := 299) (by decide +kernel)) (by decide +kernel)
theorem cwX3_2 : u_lay RX3 TX3 2 ∈ lw_gd := lw_gd_of (List.mem_of_getElem? (i := 301) (by decide +kernel)) (by decide +kernel)
theorem cwX3_3 : u_lay RX3 TX3 3 ∈ lw_gd := lw_gd_of (List.mem_of_getElem? (i := 303) (by decide +kernel)) (by decide +kernel)
theorem cwX3_4 : u_lay RX3 TX3 4 ∈ lw_gd := lw_gd_of (List.mem_of_getElem? (i := 305) (by decide +kernel)) (by decide +kernel)
theorem ciX3 : CI 3 RX3 TX3 5 tyX3 := by
  refine ⟨rfl, ?_, tyX3_ok, nmX3⟩
  intro w hw
  unfold u_ws at hw
  obtain ⟨k, hk, rfl⟩ := List.mem_map.mp hw
  have hk := List.mem_range.mp hk
  match k, hk with
  | 0, _ => exact cwX3_0
  | 1, _ => exact cwX3_1
  | 2, _ => exact cwX3_2
  | 3, _ => exact cwX3_3
  | 4, _ => exact cwX3_4
  | k + 5, h => exact absurd h (by omega)
theorem cwX4_0 : u_lay RX4 TX4 0 ∈ lw_gd := lw_gd_of (List.mem_of_getElem? (i := 379) (by decide +kernel)) (by decide +kernel)
theorem cwX4_1 : u_lay RX4 TX4 1 ∈ lw_gd := lw_gd_of (List.mem_of_getElem? (i := 381) (by decide +kernel)) (by decide +kernel)
theorem cwX4_2 : u_lay RX4 TX4 2 ∈ lw_gd := lw_gd_of (List.mem_of_getElem? (i := 383) (by decide +kernel)) (by decide +kernel)
theorem cwX4_3 : u_lay RX4 TX4 3 ∈ lw_gd := lw_gd_of (List.mem_of_getElem? (i := 385) (by decide +kernel)) (by decide +kernel)
theorem ciX4 : CI 4 RX4 TX4 4 tyX4 := by
  refine ⟨rfl, ?_, tyX4_ok, nmX4⟩
  intro w hw
  unfold u_ws at hw
  obtain ⟨k, hk, rfl⟩ := List.mem_map.mp hw
  have hk := List.mem_range.mp hk
  match k, hk with
  | 0, _ => exact cwX4_0
  | 1, _ => exact cwX4_1
  | 2, _ => exact cwX4_2
  | 3, _ => exact cwX4_3
  | k + 4, h => exact absurd h (by omega)
theorem cwX5_0 : u_lay RX5 TX5 0 ∈ lw_gd := lw_gd_of (List.mem_of_getElem? (i := 206) (by decide +kernel)) (by decide +kernel)
theorem cwX5_1 : u_lay RX5 TX5 1 ∈ lw_gd := lw_gd_of (List.mem_of_getElem? (i := 208) (by decide +kernel)) (by decide +kernel)
theorem cwX5_2 : u_lay RX5 TX5 2 ∈ lw_gd := lw_gd_of (List.mem_of_getElem? (i := 210) (by decide +kernel)) (by decide +kernel)
theorem cwX5_3 : u_lay RX5 TX5 3 ∈ lw_gd := lw_gd_of (List.mem_of_getElem? (i := 212) (by decide +kernel)) (by decide +kernel)
theorem cwX5_4 : u_lay RX5 TX5 4 ∈ lw_gd := lw_gd_of (List.mem_of_getElem? (i := 214) (by decide +kernel)) (by decide +kernel)
theorem cwX5_5 : u_lay RX5 TX5 5 ∈ lw_gd := lw_gd_of (List.mem_of_getElem? (i := 216) (by decide +kernel)) (by decide +kernel)
theorem cwX5_6 : u_lay RX5 TX5 6 ∈ lw_gd := lw_gd_of (List.mem_of_getElem? (i := 218) (by decide +kernel)) (by decide +kernel)
theorem cwX5_7 : u_lay RX5 TX5 7 ∈ lw_gd := lw_gd_of (List.mem_of_getElem? (i := 220) (by decide +kernel)) (by decide +kernel)
theorem cwX5_8 : u_lay RX5 TX5 8 ∈ lw_gd := lw_gd_of (List.mem_of_getElem? (i := 222) (by decide +kernel)) (by decide +kernel)
theorem cwX5_9 : u_lay RX5 TX5 9 ∈ lw_gd := lw_gd_of (List.mem_of_getElem? (i := 224) (by decide +kernel)) (by decide +kernel)
theorem ciX5 : CI 5 RX5 TX5 10 tyX5 := by
  refine ⟨rfl, ?_, tyX5_ok, nmX5⟩
  intro w hw
  unfold u_ws at hw
  obtain ⟨k, hk, rfl⟩ := List.mem_map.mp hw
  have hk := List.mem_range.mp hk
  match k, hk with
  | 0, _ => exact cwX5_0
  | 1, _ => exact cwX5_1
  | 2, _ => exact cwX5_2
  | 3, _ => exact cwX5_3
  | 4, _ => exact cwX5_4
  | 5, _ => exact cwX5_5
  | 6, _ => exact cwX5_6
  | 7, _ => exact cwX5_7
  | 8, _ => exact cwX5_8
  | 9, _ => exact cwX5_9
  | k + 10, h => exact absurd h (by omega)
theorem cwX6_0 : u_lay RX6 TX6 0 ∈ lw_gd := lw_gd_of (List.mem_of_getElem? (i := 323) (by decide +kernel)) (by decide +kernel)
theorem cwX6_1 : u_lay RX6 TX6 1 ∈ lw_gd := lw_gd_of (List.mem_of_getElem? (i := 325) (by decide +kernel)) (by decide +kernel)
theorem cwX6_2 : u_lay RX6 TX6 2 ∈ lw_gd := lw_gd_of (List.mem_of_getElem? (i := 327) (by decide +kernel)) (by decide +kernel)
theorem cwX6_3 : u_lay RX6 TX6 3 ∈ lw_gd := lw_gd_of (List.mem_of_getElem? (i := 329) (by decide +kernel)) (by decide +kernel)
theorem cwX6_4 : u_lay RX6 TX6 4 ∈ lw_gd := lw_gd_of (List.mem_of_getElem? (i := 331) (by decide +kernel)) (by decide +kernel)
theorem cwX6_5 : u_lay RX6 TX6 5 ∈ lw_gd := lw_gd_of (List.mem_of_getElem? (i := 333) (by decide +kernel)) (by decide +kernel)
theorem ciX6 : CI 6 RX6 TX6 6 tyX6 := by
  refine ⟨rfl, ?_, tyX6_ok, nmX6⟩
  intro w hw
  unfold u_ws at hw
  obtain ⟨k, hk, rfl⟩ := List.mem_map.mp hw
  have hk := List.mem_range.mp hk
  match k, hk with
  | 0, _ => exact cwX6_0
  | 1, _ => exact cwX6_1
  | 2, _ => exact cwX6_2
  | 3, _ => exact cwX6_3
  | 4, _ => exact cwX6_4
  | 5, _ => exact cwX6_5
  | k + 6, h => exact absurd h (by omega)
theorem cwX7_0 : u_lay RX7 TX7 0 ∈ lw_gd := lw_gd_of (List.mem_of_getElem? (i := 352) (by decide +kernel)) (by decide +kernel)
theorem cwX7_1 : u_lay RX7 TX7 1 ∈ lw_gd := lw_gd_of (List.mem_of_getElem? (i := 354) (by decide +kernel)) (by decide +kernel)
theorem cwX7_2 : u_lay RX7 TX7 2 ∈ lw_gd := lw_gd_of (List.mem_of_getElem? (i := 356) (by decide +kernel)) (by decide +kernel)
theorem cwX7_3 : u_lay RX7 TX7 3 ∈ lw_gd := lw_gd_of (List.mem_of_getElem? (i := 358) (by decide +kernel)) (by decide +kernel)
theorem cwX7_4 : u_lay RX7 TX7 4 ∈ lw_gd := lw_gd_of (List.mem_of_getElem? (i := 360) (by decide +kernel)) (by decide +kernel)
theorem cwX7_5 : u_lay RX7 TX7 5 ∈ lw_gd := lw_gd_of (List.mem_of_getElem? (i := 362) (by decide +kernel)) (by decide +kernel)
theorem cwX7_6 : u_lay RX7 TX7 6 ∈ lw_gd := lw_gd_of (List.mem_of_getElem? (i := 364) (by decide +kernel)) (by decide +kernel)
theorem cwX7_7 : u_lay RX7 TX7 7 ∈ lw_gd := lw_gd_of (List.mem_of_getElem? (i := 366) (by decide +kernel)) (by decide +kernel)
theorem ciX7 : CI 7 RX7 TX7 8 tyX7 := by
  refine ⟨rfl, ?_, tyX7_ok, nmX7⟩
  intro w hw
  unfold u_ws at hw
  obtain ⟨k, hk, rfl⟩ := List.mem_map.mp hw
  have hk := List.mem_range.mp hk
  match k, hk with
  | 0, _ => exact cwX7_0
  | 1, _ => exact cwX7_1
  | 2, _ => exact cwX7_2
  | 3, _ => exact cwX7_3
  | 4, _ => exact cwX7_4
  | 5, _ => exact cwX7_5
  | 6, _ => exact cwX7_6
  | 7, _ => exact cwX7_7
  | k + 8, h => exact absurd h (by omega)
theorem cwX8_0 : u_lay RX8 TX8 0 ∈ lw_gd := lw_gd_of (List.mem_of_getElem? (i := 189) (by decide +kernel)) (by decide +kernel)
theorem ciX8 : CI 8 RX8 TX8 1 tyX8 := by
  refine ⟨rfl, ?_, tyX8_ok, nmX8⟩
  intro w hw
  unfold u_ws at hw
  obtain ⟨k, hk, rfl⟩ := List.mem_map.mp hw
  have hk := List.mem_range.mp hk
  match k, hk with
  | 0, _ => exact cwX8_0
  | k + 1, h => exact absurd h (by omega)
theorem cwX9_0 : u_lay RX9 TX9 0 ∈ lw_gd := lw_gd_of (List.mem_of_getElem? (i := 550) (by decide +kernel)) (by decide +kernel)
theorem cwX9_1 : u_lay RX9 TX9 1 ∈ lw_gd := lw_gd_of (List.mem_of_getElem? (i := 552) (by decide +kernel)) (by decide +kernel)
theorem cwX9_2 : u_lay RX9 TX9 2 ∈ lw_gd := lw_gd_of (List.mem_of_getElem? (i := 554) (by decide +kernel)) (by decide +kernel)
theorem cwX9_3 : u_lay RX9 TX9 3 ∈ lw_gd := lw_gd_of (List.mem_of_getElem? (i := 556) (by decide +kernel)) (by decide +kernel)
theorem cwX9_4 : u_lay RX9 TX9 4 ∈ lw_gd := lw_gd_of (List.mem_of_getElem? (i := 558) (by decide +kernel)) (by decide +kernel)
theorem cwX9_5 : u_lay RX9 TX9 5 ∈ lw_gd := lw_gd_of (List.mem_of_getElem? (i := 560) (by decide +kernel)) (by decide +kernel)
theorem cwX9_6 : u_lay RX9 TX9 6 ∈ lw_gd := lw_gd_of (List.mem_of_getElem? (i := 562) (by decide +kernel)) (by decide +kernel)
theorem cwX9_7 : u_lay RX9 TX9 7 ∈ lw_gd := lw_gd_of (List.mem_of_getElem? (i := 564) (by decide +kernel)) (by decide +kernel)
theorem ciX9 : CI 9 RX9 TX9 8 tyX9 := by
  refine ⟨rfl, ?_, tyX9_ok, nmX9⟩
  intro w hw
  unfold u_ws at hw
  obtain ⟨k, hk, rfl⟩ := List.mem_map.mp hw
  have hk := List.mem_range.mp hk
  match k, hk with
  | 0, _ => exact cwX9_0
  | 1, _ => exact cwX9_1
  | 2, _ => exact cwX9_2
  | 3, _ => exact cwX9_3
  | 4, _ => exact cwX9_4
  | 5, _ => exact cwX9_5
  | 6, _ => exact cwX9_6
  | 7, _ => exact cwX9_7
  | k + 8, h => exact absurd h (by omega)
theorem cwX10_0 : u_lay RX10 TX10 0 ∈ lw_gd := lw_gd_of (List.mem_of_getElem? (i := 674) (by decide +kernel)) (by decide +kernel)
theorem cwX10_1 : u_lay RX10 TX10 1 ∈ lw_gd := lw_gd_of (List.mem_of_getElem? (i := 676) (by decide +kernel)) (by decide +kernel)
theorem cwX10_2 : u_lay RX10 TX10 2 ∈ lw_gd := lw_gd_of (List.mem_of_getElem? (i := 678) (by decide +kernel)) (by decide +kernel)
theorem cwX10_3 : u_lay RX10 TX10 3 ∈ lw_gd := lw_gd_of (List.mem_of_getElem? (i := 680) (by decide +kernel)) (by decide +kernel)
theorem cwX10_4 : u_lay RX10 TX10 4 ∈ lw_gd := lw_gd_of (List.mem_of_getElem? (i := 682) (by decide +kernel)) (by decide +kernel)
theorem cwX10_5 : u_lay RX10 TX10 5 ∈ lw_gd := lw_gd_of (List.mem_of_getElem? (i := 684) (by decide +kernel)) (by decide +kernel)
theorem cwX10_6 : u_lay RX10 TX10 6 ∈ lw_gd := lw_gd_of (List.mem_of_getElem? (i := 686) (by decide +kernel)) (by decide +kernel)
theorem cwX10_7 : u_lay RX10 TX10 7 ∈ lw_gd := lw_gd_of (List.mem_of_getElem? (i := 688) (by decide +kernel)) (by decide +kernel)
theorem cwX10_8 : u_lay RX10 TX10 8 ∈ lw_gd := lw_gd_of (List.mem_of_getElem? (i := 690) (by decide +kernel)) (by decide +kernel)
theorem cwX10_9 : u_lay RX10 TX10 9 ∈ lw_gd := lw_gd_of (List.mem_of_getElem? (i := 692) (by decide +kernel)) (by decide +kernel)
theorem cwX10_10 : u_lay RX10 TX10 10 ∈ lw_gd := lw_gd_of (List.mem_of_getElem? (i := 694) (by decide +kernel)) (by decide +kernel)
theorem cwX10_11 : u_lay RX10 TX10 11 ∈ lw_gd := lw_gd_of (List.mem_of_getElem? (i := 696) (by decide +kernel)) (by decide +kernel)
theorem cwX10_12 : u_lay RX10 TX10 12 ∈ lw_gd := lw_gd_of (List.mem_of_getElem? (i := 698) (by decide +kernel)) (by decide +kernel)
theorem cwX10_13 : u_lay RX10 TX10 13 ∈ lw_gd := lw_gd_of (List.mem_of_getElem? (i := 700) (by decide +kernel)) (by decide +kernel)
theorem cwX10_14 : u_lay RX10 TX10 14 ∈ lw_gd := lw_gd_of (List.mem_of_getElem? (i := 702) (by decide +kernel)) (by decide +kernel)
theorem cwX10_15 : u_lay RX10 TX10 15 ∈ lw_gd := lw_gd_of (List.mem_of_getElem? (i := 704) (by decide +kernel)) (by decide +kernel)
theorem cwX10_16 : u_lay RX10 TX10 16 ∈ lw_gd := lw_gd_of (List.mem_of_getElem? (i := 706) (by decide +kernel)) (by decide +kernel)
theorem cwX10_17 : u_lay RX10 TX10 17 ∈ lw_gd := lw_gd_of (List.mem_of_getElem? (i := 708) (by decide +kernel)) (by decide +kernel)
theorem cwX10_18 : u_lay RX10 TX10 18 ∈ lw_gd := lw_gd_of (List.mem_of_getElem? (i := 710) (by decide +kernel)) (by decide +kernel)
theorem cwX10_19 : u_lay RX10 TX10 19 ∈ lw_gd := lw_gd_of (List.mem_of_getElem? (i := 712) (by decide +kernel)) (by decide +kernel)
theorem cwX10_20 : u_lay RX10 TX10 20 ∈ lw_gd := lw_gd_of (List.mem_of_getElem? (i := 714) (by decide +kernel)) (by decide +kernel)
theorem cwX10_21 : u_lay RX10 TX10 21 ∈ lw_gd := lw_gd_of (List.mem_of_getElem? (i := 716) (by decide +kernel)) (by decide +kernel)
theorem cwX10_22 : u_lay RX10 TX10 22 ∈ lw_gd := lw_gd_of (List.mem_of_getElem? (i := 718) (by decide +kernel)) (by decide +kernel)
theorem cwX10_23 : u_lay RX10 TX10 23 ∈ lw_gd := lw_gd_of (List.mem_of_getElem? (i := 720) (by decide +kernel)) (by decide +kernel)
theorem cwX10_24 : u_lay RX10 TX10 24 ∈ lw_gd := lw_gd_of (List.mem_of_getElem? (i := 722) (by decide +kernel)) (by decide +kernel)
theorem cwX10_25 : u_lay RX10 TX10 25 ∈ lw_gd := lw_gd_of (List.mem_of_getElem? (i := 724) (by decide +kernel)) (by decide +kernel)
theorem cwX10_26 : u_lay RX10 TX10 26 ∈ lw_gd := lw_gd_of (List.mem_of_getElem? (i := 726) (by decide +kernel)) (by decide +kernel)
theorem cwX10_27 : u_lay RX10 TX10 27 ∈ lw_gd := lw_gd_of (List.mem_of_getElem? (i := 728) (by decide +kernel)) (by decide +kernel)
theorem cwX10_28 : u_lay RX10 TX10 28 ∈ lw_gd := lw_gd_of (List.mem_of_getElem? (i := 730) (by decide +kernel)) (by decide +kernel)
theorem cwX10_29 : u_lay RX10 TX10 29 ∈ lw_gd := lw_gd_of (List.mem_of_getElem? (i := 732) (by decide +kernel)) (by decide +kernel)
theorem cwX10_30 : u_lay RX10 TX10 30 ∈ lw_gd := lw_gd_of (List.mem_of_getElem? (i := 734) (by decide +kernel)) (by decide +kernel)
theorem ciX10 : CI 10 RX10 TX10 31 tyX10 := by
  refine ⟨rfl, ?_, tyX10_ok, nmX10⟩
  intro w hw
  unfold u_ws at hw
  obtain ⟨k, hk, rfl⟩ := List.mem_map.mp hw
  have hk := List.mem_range.mp hk
  match k, hk with
  | 0, _ => exact cwX10_0
  | 1, _ => exact cwX10_1
  | 2, _ => exact cwX10_2
  | 3, _ => exact cwX10_3
  | 4, _ => exact cwX10_4
  | 5, _ => exact cwX10_5
  | 6, _ => exact cwX10_6
  | 7, _ => exact cwX10_7
  | 8, _ => exact cwX10_8
  | 9, _ => exact cwX10_9
  | 10, _ => exact cwX10_10
  | 11, _ => exact cwX10_11
  | 12, _ => exact cwX10_12
  | 13, _ => exact cwX10_13
  | 14, _ => exact cwX10_14
  | 15, _ => exact cwX10_15
  | 16, _ => exact cwX10_16
  | 17, _ => exact cwX10_17
  | 18, _ => exact cwX10_18
  | 19, _ => exact cwX10_19
  | 20, _ => exact cwX10_20
  | 21, _ => exact cwX10_21
  | 22, _ => exact cwX10_22
  | 23, _ => exact cwX10_23
  | 24, _ => exact cwX10_24
  | 25, _ => exact cwX10_25
  | 26, _ => exact cwX10_26
  | 27, _ => exact cwX10_27
  | 28, _ => exact cwX10_28
  | 29, _ => exact cwX10_29
  | 30, _ => exact cwX10_30
  | k + 31, h => exact absurd h (by omega)
theorem cwJ0_0 : u_lay RJ0 TJ0 0 ∈ lw_gd := lw_gd_of (List.mem_of_getElem? (i := 1013) (by decide +kernel)) (by decide +kernel)
theorem cwJ0_1 : u_lay RJ0 TJ0 1 ∈ lw_gd := lw_gd_of (List.mem_of_getElem? (i := 1015) (by decide +kernel)) (by decide +kernel)
theorem cwJ0_2 : u_lay RJ0 TJ0 2 ∈ lw_gd := lw_gd_of (List.mem_of_getElem? (i := 1017) (by decide +kernel)) (by decide +kernel)
theorem cwJ0_3 : u_lay RJ0 TJ0 3 ∈ lw_gd := lw_gd_of (List.mem_of_getElem? (i := 1019) (by decide +kernel)) (by decide +kernel)
theorem ciJ0 : CI 11 RJ0 TJ0 4 tyJ0 := by
  refine ⟨rfl, ?_, tyJ0_ok, nmJ0⟩
  intro w hw
  unfold u_ws at hw
  obtain ⟨k, hk, rfl⟩ := List.mem_map.mp hw
  have hk := List.mem_range.mp hk
  match k, hk with
  | 0, _ => exact cwJ0_0
  | 1, _ => exact cwJ0_1
  | 2, _ => exact cwJ0_2
  | 3, _ => exact cwJ0_3
  | k + 4, h => exact absurd h (by omega)
theorem cwJ4_0 : u_lay RJ4 TJ4 0 ∈ lw_gd := lw_gd_of (List.mem_of_getElem? (i := 592) (by decide +kernel)) (by decide +kernel)
theorem cwJ4_1 : u_lay RJ4 TJ4 1 ∈ lw_gd := lw_gd_of (List.mem_of_getElem? (i := 594) (by decide +kernel)) (by decide +kernel)
theorem cwJ4_2 : u_lay RJ4 TJ4 2 ∈ lw_gd := lw_gd_of (List.mem_of_getElem? (i := 596) (by decide +kernel)) (by decide +kernel)
theorem cwJ4_3 : u_lay RJ4 TJ4 3 ∈ lw_gd := lw_gd_of (List.mem_of_getElem? (i := 598) (by decide +kernel)) (by decide +kernel)
theorem ciJ4 : CI 12 RJ4 TJ4 4 tyJ4 := by
  refine ⟨rfl, ?_, tyJ4_ok, nmJ4⟩
  intro w hw
  unfold u_ws at hw
  obtain ⟨k, hk, rfl⟩ := List.mem_map.mp hw
  have hk := List.mem_range.mp hk
  match k, hk with
  | 0, _ => exact cwJ4_0
  | 1, _ => exact cwJ4_1
  | 2, _ => exact cwJ4_2
  | 3, _ => exact cwJ4_3
  | k + 4, h => exact absurd h (by omega)
def mX0_init : MI := (yX0_init, cX0_init, 1, none, 1, 24, [], [(0, .aload_n 0, 1), (1, .invokespecial 3, 3), (4, .aload_n 0, 1), (5, .iconst 0, 1), (6, .putfield 9, 3), (9, .aload_n 0, 1), (10, .bipush 12, 2), (12, .newarray .long, 2), (14, .putfield 15, 3), (17, .aload_n 0, 1), (18, .bipush 12, 2), (20, .newarray .int, 2), (22, .putfield 19, 3), (25, .aload_n 0, 1), (26, .iconst (-1), 1), (27, .putfield 23, 3), (30, .aload_n 0, 1), (31, .iconst 0, 1), (32, .putfield 26, 3), (35, .aload_n 0, 1), (36, .bipush 8, 2), (38, .newarray .int, 2), (40, .putfield 29, 3), (43, .aload_n 0, 1), (44, .iconst 0, 1), (45, .putfield 32, 3), (48, .aload_n 0, 1), (49, .bipush 8, 2), (51, .newarray .int, 2), (53, .putfield 35, 3), (56, .aload_n 0, 1), (57, .bipush 8, 2), (59, .newarray .int, 2), (61, .putfield 38, 3), (64, .aload_n 0, 1), (65, .iconst 4, 1), (66, .putfield 41, 3), (69, .aload_n 0, 1), (70, .iconst 1, 1), (71, .putfield 44, 3), (74, .aload_n 0, 1), (75, .iconst 0, 1), (76, .putfield 47, 3), (79, .return_, 1)])
theorem gmX0_init : GM mX0_init := ⟨by decide +kernel, lw_gd_of (List.mem_of_getElem? (i := 110) (by decide +kernel)) rfl, dk_of (by decide +kernel), ⟨by decide +kernel, by decide +kernel⟩, lw_gd_of (List.mem_of_getElem? (i := 38) (by decide +kernel)) rfl⟩
def mX0_clear : MI := (yX0_clear, cX0_clear, 1, none, 0, 0, [], [(0, .aload_n 0, 1), (1, .iconst 0, 1), (2, .putfield 9, 3), (5, .aload_n 0, 1), (6, .iconst (-1), 1), (7, .putfield 23, 3), (10, .aload_n 0, 1), (11, .iconst 0, 1), (12, .putfield 26, 3), (15, .aload_n 0, 1), (16, .iconst 0, 1), (17, .putfield 32, 3), (20, .aload_n 0, 1), (21, .iconst 4, 1), (22, .putfield 41, 3), (25, .aload_n 0, 1), (26, .iconst 1, 1), (27, .putfield 44, 3), (30, .aload_n 0, 1), (31, .iconst 0, 1), (32, .putfield 47, 3), (35, .return_, 1)])
theorem gmX0_clear : GM mX0_clear := ⟨by decide +kernel, lw_gd_of (List.mem_of_getElem? (i := 1132) (by decide +kernel)) rfl, dk_of (by decide +kernel), ⟨by decide +kernel, by decide +kernel⟩, lw_gd_of (List.mem_of_getElem? (i := 38) (by decide +kernel)) rfl⟩
def mX0_copy : MI := (yX0_copy, cX0_copy, 2, none, 1, 60, [], [(0, .aload_n 0, 1), (1, .aload_n 1, 1), (2, .getfield 9, 3), (5, .putfield 9, 3), (8, .aload_n 1, 1), (9, .getfield 15, 3), (12, .iconst 0, 1), (13, .aload_n 0, 1), (14, .getfield 15, 3), (17, .iconst 0, 1), (18, .bipush 12, 2), (20, .invokestatic 50, 3), (23, .aload_n 1, 1), (24, .getfield 19, 3), (27, .iconst 0, 1), (28, .aload_n 0, 1), (29, .getfield 19, 3), (32, .iconst 0, 1), (33, .bipush 12, 2), (35, .invokestatic 50, 3), (38, .aload_n 0, 1), (39, .aload_n 1, 1), (40, .getfield 23, 3), (43, .putfield 23, 3), (46, .aload_n 0, 1), (47, .aload_n 1, 1), (48, .getfield 26, 3), (51, .putfield 26, 3), (54, .aload_n 1, 1), (55, .getfield 29, 3), (58, .iconst 0, 1), (59, .aload_n 0, 1), (60, .getfield 29, 3), (63, .iconst 0, 1), (64, .bipush 8, 2), (66, .invokestatic 50, 3), (69, .aload_n 0, 1), (70, .aload_n 1, 1), (71, .getfield 32, 3), (74, .putfield 32, 3), (77, .aload_n 1, 1), (78, .getfield 35, 3), (81, .iconst 0, 1), (82, .aload_n 0, 1), (83, .getfield 35, 3), (86, .iconst 0, 1), (87, .bipush 8, 2), (89, .invokestatic 50, 3), (92, .aload_n 1, 1), (93, .getfield 38, 3), (96, .iconst 0, 1), (97, .aload_n 0, 1), (98, .getfield 38, 3), (101, .iconst 0, 1), (102, .bipush 8, 2), (104, .invokestatic 50, 3), (107, .aload_n 0, 1), (108, .aload_n 1, 1), (109, .getfield 41, 3), (112, .putfield 41, 3), (115, .aload_n 0, 1), (116, .aload_n 1, 1), (117, .getfield 44, 3), (120, .putfield 44, 3), (123, .aload_n 0, 1), (124, .aload_n 1, 1), (125, .getfield 47, 3), (128, .putfield 47, 3), (131, .return_, 1)])
theorem gmX0_copy : GM mX0_copy := ⟨by decide +kernel, lw_gd_of (List.mem_of_getElem? (i := 1298) (by decide +kernel)) rfl, dk_of (by decide +kernel), ⟨by decide +kernel, by decide +kernel⟩, lw_gd_of (List.mem_of_getElem? (i := 38) (by decide +kernel)) rfl⟩
def mX0_personNamed : MI := (yX0_personNamed, cX0_personNamed, 4, (some .int), 0, 0, [], [(0, .iconst 0, 1), (1, .istore_n 3, 1), (2, .iload_n 3, 1), (3, .aload_n 0, 1), (4, .getfield 9, 3), (7, .if_icmp .ge 28, 3), (10, .iload_n 3, 1), (11, .bipush 12, 2), (13, .if_icmp .ge 22, 3), (16, .aload_n 0, 1), (17, .getfield 15, 3), (20, .iload_n 3, 1), (21, .laload, 1), (22, .lload_n 1, 1), (23, .lcmp, 1), (24, .ifCond .ne 5, 3), (27, .iload_n 3, 1), (28, .ireturn, 1), (29, .iinc 3 1, 3), (32, .goto (-30), 3), (35, .iconst (-1), 1), (36, .ireturn, 1)])
theorem gmX0_personNamed : GM mX0_personNamed := ⟨by decide +kernel, lw_gd_of (List.mem_of_getElem? (i := 1181) (by decide +kernel)) rfl, dk_of (by decide +kernel), ⟨by decide +kernel, by decide +kernel⟩, lw_gd_of (List.mem_of_getElem? (i := 38) (by decide +kernel)) rfl⟩
def mX0_childrenOf : MI := (yX0_childrenOf, cX0_childrenOf, 4, (some .int), 0, 0, [], [(0, .iconst 0, 1), (1, .istore_n 2, 1), (2, .iconst 0, 1), (3, .istore_n 3, 1), (4, .iload_n 3, 1), (5, .aload_n 0, 1), (6, .getfield 9, 3), (9, .if_icmp .ge 28, 3), (12, .iload_n 3, 1), (13, .bipush 12, 2), (15, .if_icmp .ge 22, 3), (18, .aload_n 0, 1), (19, .getfield 19, 3), (22, .iload_n 3, 1), (23, .iaload, 1), (24, .iload_n 1, 1), (25, .if_icmp .ne 6, 3), (28, .iinc 2 1, 3), (31, .iinc 3 1, 3), (34, .goto (-30), 3), (37, .iload_n 2, 1), (38, .ireturn, 1)])
theorem gmX0_childrenOf : GM mX0_childrenOf := ⟨by decide +kernel, lw_gd_of (List.mem_of_getElem? (i := 1428) (by decide +kernel)) rfl, dk_of (by decide +kernel), ⟨by decide +kernel, by decide +kernel⟩, lw_gd_of (List.mem_of_getElem? (i := 38) (by decide +kernel)) rfl⟩
def mX0_putPerson : MI := (yX0_putPerson, cX0_putPerson, 4, none, 0, 0, [], [(0, .aload_n 0, 1), (1, .getfield 9, 3), (4, .ifCond .lt 42, 3), (7, .aload_n 0, 1), (8, .getfield 9, 3), (11, .bipush 12, 2), (13, .if_icmp .ge 33, 3), (16, .aload_n 0, 1), (17, .getfield 15, 3), (20, .aload_n 0, 1), (21, .getfield 9, 3), (24, .lload_n 1, 1), (25, .lastore, 1), (26, .aload_n 0, 1), (27, .getfield 19, 3), (30, .aload_n 0, 1), (31, .getfield 9, 3), (34, .iload_n 3, 1), (35, .iastore, 1), (36, .aload_n 0, 1), (37, .dup, 1), (38, .getfield 9, 3), (41, .iconst 1, 1), (42, .iadd, 1), (43, .putfield 9, 3), (46, .return_, 1)])
theorem gmX0_putPerson : GM mX0_putPerson := ⟨by decide +kernel, lw_gd_of (List.mem_of_getElem? (i := 1199) (by decide +kernel)) rfl, dk_of (by decide +kernel), ⟨by decide +kernel, by decide +kernel⟩, lw_gd_of (List.mem_of_getElem? (i := 38) (by decide +kernel)) rfl⟩
def mX0_putAsset : MI := (yX0_putAsset, cX0_putAsset, 2, none, 0, 0, [], [(0, .aload_n 0, 1), (1, .getfield 26, 3), (4, .ifCond .lt 32, 3), (7, .aload_n 0, 1), (8, .getfield 26, 3), (11, .bipush 8, 2), (13, .if_icmp .ge 23, 3), (16, .aload_n 0, 1), (17, .getfield 29, 3), (20, .aload_n 0, 1), (21, .getfield 26, 3), (24, .iload_n 1, 1), (25, .iastore, 1), (26, .aload_n 0, 1), (27, .dup, 1), (28, .getfield 26, 3), (31, .iconst 1, 1), (32, .iadd, 1), (33, .putfield 26, 3), (36, .return_, 1)])
theorem gmX0_putAsset : GM mX0_putAsset := ⟨by decide +kernel, lw_gd_of (List.mem_of_getElem? (i := 1232) (by decide +kernel)) rfl, dk_of (by decide +kernel), ⟨by decide +kernel, by decide +kernel⟩, lw_gd_of (List.mem_of_getElem? (i := 38) (by decide +kernel)) rfl⟩
def mX0_putLegacy : MI := (yX0_putLegacy, cX0_putLegacy, 3, none, 0, 0, [], [(0, .aload_n 0, 1), (1, .getfield 32, 3), (4, .ifCond .lt 42, 3), (7, .aload_n 0, 1), (8, .getfield 32, 3), (11, .bipush 8, 2), (13, .if_icmp .ge 33, 3), (16, .aload_n 0, 1), (17, .getfield 35, 3), (20, .aload_n 0, 1), (21, .getfield 32, 3), (24, .iload_n 1, 1), (25, .iastore, 1), (26, .aload_n 0, 1), (27, .getfield 38, 3), (30, .aload_n 0, 1), (31, .getfield 32, 3), (34, .iload_n 2, 1), (35, .iastore, 1), (36, .aload_n 0, 1), (37, .dup, 1), (38, .getfield 32, 3), (41, .iconst 1, 1), (42, .iadd, 1), (43, .putfield 32, 3), (46, .return_, 1)])
theorem gmX0_putLegacy : GM mX0_putLegacy := ⟨by decide +kernel, lw_gd_of (List.mem_of_getElem? (i := 1262) (by decide +kernel)) rfl, dk_of (by decide +kernel), ⟨by decide +kernel, by decide +kernel⟩, lw_gd_of (List.mem_of_getElem? (i := 38) (by decide +kernel)) rfl⟩
def mX1_init : MI := (yX1_init, cX1_init, 1, none, 1, 24, [], [(0, .aload_n 0, 1), (1, .invokespecial 3, 3), (4, .aload_n 0, 1), (5, .sipush 700, 3), (8, .newarray .byte, 2), (10, .putfield 9, 3), (13, .aload_n 0, 1), (14, .iconst 0, 1), (15, .putfield 15, 3), (18, .aload_n 0, 1), (19, .iconst 0, 1), (20, .putfield 19, 3), (23, .aload_n 0, 1), (24, .iconst 0, 1), (25, .putfield 22, 3), (28, .aload_n 0, 1), (29, .iconst 0, 1), (30, .putfield 25, 3), (33, .aload_n 0, 1), (34, .iconst 0, 1), (35, .putfield 28, 3), (38, .return_, 1)])
theorem gmX1_init : GM mX1_init := ⟨by decide +kernel, lw_gd_of (List.mem_of_getElem? (i := 81) (by decide +kernel)) rfl, dk_of (by decide +kernel), ⟨by decide +kernel, by decide +kernel⟩, lw_gd_of (List.mem_of_getElem? (i := 37) (by decide +kernel)) rfl⟩
def mX1_hasRoom : MI := (yX1_hasRoom, cX1_hasRoom, 1, (some .boolean), 0, 0, [], [(0, .aload_n 0, 1), (1, .getfield 15, 3), (4, .bipush 20, 2), (6, .iadd, 1), (7, .sipush 700, 3), (10, .if_icmp .gt 7, 3), (13, .iconst 1, 1), (14, .goto 4, 3), (17, .iconst 0, 1), (18, .ireturn, 1)])
theorem gmX1_hasRoom : GM mX1_hasRoom := ⟨by decide +kernel, lw_gd_of (List.mem_of_getElem? (i := 1048) (by decide +kernel)) rfl, dk_of (by decide +kernel), ⟨by decide +kernel, by decide +kernel⟩, lw_gd_of (List.mem_of_getElem? (i := 37) (by decide +kernel)) rfl⟩
def mX1_add : MI := (yX1_add, cX1_add, 3, none, 0, 0, [], [(0, .bipush 24, 2), (2, .istore_n 2, 1), (3, .iload_n 2, 1), (4, .ifCond .lt 51, 3), (7, .aload_n 0, 1), (8, .getfield 15, 3), (11, .ifCond .lt 38, 3), (14, .aload_n 0, 1), (15, .getfield 15, 3), (18, .aload_n 0, 1), (19, .getfield 9, 3), (22, .arraylength, 1), (23, .if_icmp .ge 26, 3), (26, .aload_n 0, 1), (27, .getfield 9, 3), (30, .aload_n 0, 1), (31, .getfield 15, 3), (34, .iload_n 1, 1), (35, .iload_n 2, 1), (36, .ishr, 1), (37, .i2b, 1), (38, .bastore, 1), (39, .aload_n 0, 1), (40, .dup, 1), (41, .getfield 15, 3), (44, .iconst 1, 1), (45, .iadd, 1), (46, .putfield 15, 3), (49, .iinc 2 (-8), 3), (52, .goto (-49), 3), (55, .return_, 1)])
theorem gmX1_add : GM mX1_add := ⟨by decide +kernel, lw_gd_of (List.mem_of_getElem? (i := 1052) (by decide +kernel)) rfl, dk_of (by decide +kernel), ⟨by decide +kernel, by decide +kernel⟩, lw_gd_of (List.mem_of_getElem? (i := 37) (by decide +kernel)) rfl⟩
def mX1_clear : MI := (yX1_clear, cX1_clear, 1, none, 0, 0, [], [(0, .aload_n 0, 1), (1, .iconst 0, 1), (2, .putfield 15, 3), (5, .return_, 1)])
theorem gmX1_clear : GM mX1_clear := ⟨by decide +kernel, lw_gd_of (List.mem_of_getElem? (i := 1294) (by decide +kernel)) rfl, dk_of (by decide +kernel), ⟨by decide +kernel, by decide +kernel⟩, lw_gd_of (List.mem_of_getElem? (i := 37) (by decide +kernel)) rfl⟩
def mX1_open : MI := (yX1_open, cX1_open, 2, none, 2, 42, [], [(0, .aload_n 0, 1), (1, .iload_n 1, 1), (2, .putfield 19, 3), (5, .aload_n 0, 1), (6, .iconst 0, 1), (7, .putfield 28, 3), (10, .aload_n 0, 1), (11, .invokevirtual 31, 3), (14, .return_, 1)])
theorem gmX1_open : GM mX1_open := ⟨by decide +kernel, lw_gd_of (List.mem_of_getElem? (i := 1140) (by decide +kernel)) rfl, dk_of (by decide +kernel), ⟨by decide +kernel, by decide +kernel⟩, lw_gd_of (List.mem_of_getElem? (i := 37) (by decide +kernel)) rfl⟩
def mX1_advance : MI := (yX1_advance, cX1_advance, 1, none, 1, 22, [], [(0, .aload_n 0, 1), (1, .aload_n 0, 1), (2, .getfield 28, 3), (5, .putfield 25, 3), (8, .aload_n 0, 1), (9, .getfield 25, 3), (12, .aload_n 0, 1), (13, .getfield 19, 3), (16, .if_icmp .ge 28, 3), (19, .aload_n 0, 1), (20, .aload_n 0, 1), (21, .getfield 25, 3), (24, .invokevirtual 34, 3), (27, .iconst 4, 1), (28, .if_icmp .ne 16, 3), (31, .aload_n 0, 1), (32, .dup, 1), (33, .getfield 25, 3), (36, .iconst 1, 1), (37, .iadd, 1), (38, .putfield 25, 3), (41, .goto (-33), 3), (44, .aload_n 0, 1), (45, .aload_n 0, 1), (46, .aload_n 0, 1), (47, .getfield 25, 3), (50, .invokevirtual 34, 3), (53, .putfield 22, 3), (56, .aload_n 0, 1), (57, .aload_n 0, 1), (58, .getfield 25, 3), (61, .iconst 1, 1), (62, .iadd, 1), (63, .putfield 28, 3), (66, .aload_n 0, 1), (67, .getfield 22, 3), (70, .iconst 1, 1), (71, .if_icmp .eq 11, 3), (74, .aload_n 0, 1), (75, .getfield 22, 3), (78, .iconst 2, 1), (79, .if_icmp .ne 74, 3), (82, .aload_n 0, 1), (83, .getfield 28, 3), (86, .aload_n 0, 1), (87, .getfield 19, 3), (90, .if_icmp .ge 31, 3), (93, .aload_n 0, 1), (94, .aload_n 0, 1), (95, .getfield 28, 3), (98, .invokevirtual 34, 3), (101, .aload_n 0, 1), (102, .getfield 22, 3), (105, .if_icmp .ne 16, 3), (108, .aload_n 0, 1), (109, .dup, 1), (110, .getfield 28, 3), (113, .iconst 1, 1), (114, .iadd, 1), (115, .putfield 28, 3), (118, .goto (-36), 3), (121, .aload_n 0, 1), (122, .getfield 28, 3), (125, .aload_n 0, 1), (126, .getfield 25, 3), (129, .isub, 1), (130, .aload_n 0, 1), (131, .getfield 22, 3), (134, .iconst 1, 1), (135, .if_icmp .ne 8, 3), (138, .bipush 8, 2), (140, .goto 5, 3), (143, .bipush 7, 2), (145, .if_icmp .le 8, 3), (148, .aload_n 0, 1), (149, .iconst 5, 1), (150, .putfield 22, 3), (153, .return_, 1)])
theorem gmX1_advance : GM mX1_advance := ⟨by decide +kernel, lw_gd_of (List.mem_of_getElem? (i := 1144) (by decide +kernel)) rfl, dk_of (by decide +kernel), ⟨by decide +kernel, by decide +kernel⟩, lw_gd_of (List.mem_of_getElem? (i := 37) (by decide +kernel)) rfl⟩
def mX1_isWord : MI := (yX1_isWord, cX1_isWord, 3, (some .boolean), 4, 85, [], [(0, .aload_n 0, 1), (1, .getfield 22, 3), (4, .iconst 1, 1), (5, .if_icmp .ne 19, 3), (8, .aload_n 0, 1), (9, .getfield 28, 3), (12, .aload_n 0, 1), (13, .getfield 25, 3), (16, .isub, 1), (17, .aload_n 1, 1), (18, .invokevirtual 38, 3), (21, .if_icmp .eq 5, 3), (24, .iconst 0, 1), (25, .ireturn, 1), (26, .iconst 0, 1), (27, .istore_n 2, 1), (28, .iload_n 2, 1), (29, .aload_n 1, 1), (30, .invokevirtual 38, 3), (33, .if_icmp .ge 29, 3), (36, .aload_n 0, 1), (37, .aload_n 0, 1), (38, .getfield 25, 3), (41, .iload_n 2, 1), (42, .iadd, 1), (43, .invokevirtual 43, 3), (46, .aload_n 1, 1), (47, .iload_n 2, 1), (48, .invokevirtual 46, 3), (51, .if_icmp .eq 5, 3), (54, .iconst 0, 1), (55, .ireturn, 1), (56, .iinc 2 1, 3), (59, .goto (-31), 3), (62, .iconst 1, 1), (63, .ireturn, 1)])
theorem gmX1_isWord : GM mX1_isWord := ⟨by decide +kernel, lw_gd_of (List.mem_of_getElem? (i := 1157) (by decide +kernel)) rfl, dk_of (by decide +kernel), ⟨by decide +kernel, by decide +kernel⟩, lw_gd_of (List.mem_of_getElem? (i := 37) (by decide +kernel)) rfl⟩
def mX1_word : MI := (yX1_word, cX1_word, 4, (some .long), 1, 21, [], [(0, .lconst 0, 1), (1, .lstore_n 1, 1), (2, .aload_n 0, 1), (3, .getfield 25, 3), (6, .istore_n 3, 1), (7, .iload_n 3, 1), (8, .aload_n 0, 1), (9, .getfield 28, 3), (12, .if_icmp .ge 27, 3), (15, .lload_n 1, 1), (16, .ldc2_w 50, 3), (19, .lmul, 1), (20, .aload_n 0, 1), (21, .iload_n 3, 1), (22, .invokevirtual 43, 3), (25, .bipush 97, 2), (27, .isub, 1), (28, .iconst 1, 1), (29, .iadd, 1), (30, .i2l, 1), (31, .ladd, 1), (32, .lstore_n 1, 1), (33, .iinc 3 1, 3), (36, .goto (-29), 3), (39, .lload_n 1, 1), (40, .lreturn, 1)])
theorem gmX1_word : GM mX1_word := ⟨by decide +kernel, lw_gd_of (List.mem_of_getElem? (i := 1176) (by decide +kernel)) rfl, dk_of (by decide +kernel), ⟨by decide +kernel, by decide +kernel⟩, lw_gd_of (List.mem_of_getElem? (i := 37) (by decide +kernel)) rfl⟩
def mX1_number : MI := (yX1_number, cX1_number, 3, (some .int), 1, 21, [], [(0, .iconst 0, 1), (1, .istore_n 1, 1), (2, .aload_n 0, 1), (3, .getfield 25, 3), (6, .istore_n 2, 1), (7, .iload_n 2, 1), (8, .aload_n 0, 1), (9, .getfield 28, 3), (12, .if_icmp .ge 23, 3), (15, .iload_n 1, 1), (16, .bipush 10, 2), (18, .imul, 1), (19, .aload_n 0, 1), (20, .iload_n 2, 1), (21, .invokevirtual 43, 3), (24, .bipush 48, 2), (26, .isub, 1), (27, .iadd, 1), (28, .istore_n 1, 1), (29, .iinc 2 1, 3), (32, .goto (-25), 3), (35, .iload_n 1, 1), (36, .ireturn, 1)])
theorem gmX1_number : GM mX1_number := ⟨by decide +kernel, lw_gd_of (List.mem_of_getElem? (i := 1195) (by decide +kernel)) rfl, dk_of (by decide +kernel), ⟨by decide +kernel, by decide +kernel⟩, lw_gd_of (List.mem_of_getElem? (i := 37) (by decide +kernel)) rfl⟩
def mX1_byteAt : MI := (yX1_byteAt, cX1_byteAt, 2, (some .int), 0, 0, [], [(0, .iload_n 1, 1), (1, .ifCond .lt 21, 3), (4, .iload_n 1, 1), (5, .aload_n 0, 1), (6, .getfield 9, 3), (9, .arraylength, 1), (10, .if_icmp .ge 12, 3), (13, .aload_n 0, 1), (14, .getfield 9, 3), (17, .iload_n 1, 1), (18, .baload, 1), (19, .goto 4, 3), (22, .iconst 0, 1), (23, .ireturn, 1)])
theorem gmX1_byteAt : GM mX1_byteAt := ⟨by decide +kernel, lw_gd_of (List.mem_of_getElem? (i := 1162) (by decide +kernel)) rfl, dk_of (by decide +kernel), ⟨by decide +kernel, by decide +kernel⟩, lw_gd_of (List.mem_of_getElem? (i := 37) (by decide +kernel)) rfl⟩
def mX1_kindAt : MI := (yX1_kindAt, cX1_kindAt, 3, (some .int), 0, 0, [], [(0, .iload_n 1, 1), (1, .ifCond .lt 20, 3), (4, .iload_n 1, 1), (5, .aload_n 0, 1), (6, .getfield 19, 3), (9, .if_icmp .ge 12, 3), (12, .iload_n 1, 1), (13, .aload_n 0, 1), (14, .getfield 9, 3), (17, .arraylength, 1), (18, .if_icmp .lt 5, 3), (21, .iconst 0, 1), (22, .ireturn, 1), (23, .aload_n 0, 1), (24, .getfield 9, 3), (27, .iload_n 1, 1), (28, .baload, 1), (29, .istore_n 2, 1), (30, .iload_n 2, 1), (31, .bipush 97, 2), (33, .if_icmp .lt 11, 3), (36, .iload_n 2, 1), (37, .bipush 122, 2), (39, .if_icmp .gt 5, 3), (42, .iconst 1, 1), (43, .ireturn, 1), (44, .iload_n 2, 1), (45, .bipush 48, 2), (47, .if_icmp .lt 11, 3), (50, .iload_n 2, 1), (51, .bipush 57, 2), (53, .if_icmp .gt 5, 3), (56, .iconst 2, 1), (57, .ireturn, 1), (58, .iload_n 2, 1), (59, .bipush 32, 2), (61, .if_icmp .eq 9, 3), (64, .iload_n 2, 1), (65, .bipush 10, 2), (67, .if_icmp .ne 5, 3), (70, .iconst 4, 1), (71, .ireturn, 1), (72, .iload_n 2, 1), (73, .bipush 59, 2), (75, .if_icmp .ne 7, 3), (78, .iconst 3, 1), (79, .goto 4, 3), (82, .iconst 5, 1), (83, .ireturn, 1)])
theorem gmX1_kindAt : GM mX1_kindAt := ⟨by decide +kernel, lw_gd_of (List.mem_of_getElem? (i := 1148) (by decide +kernel)) rfl, dk_of (by decide +kernel), ⟨by decide +kernel, by decide +kernel⟩, lw_gd_of (List.mem_of_getElem? (i := 37) (by decide +kernel)) rfl⟩
def mX2_init : MI := (yX2_init, cX2_init, 1, none, 1, 24, [], [(0, .aload_n 0, 1), (1, .invokespecial 3, 3), (4, .aload_n 0, 1), (5, .iconst 0, 1), (6, .putfield 9, 3), (9, .aload_n 0, 1), (10, .iconst 0, 1), (11, .putfield 15, 3), (14, .aload_n 0, 1), (15, .iconst 0, 1), (16, .putfield 18, 3), (19, .aload_n 0, 1), (20, .iconst 0, 1), (21, .putfield 21, 3), (24, .aload_n 0, 1), (25, .iconst 0, 1), (26, .putfield 24, 3), (29, .aload_n 0, 1), (30, .bipush 8, 2), (32, .newarray .int, 2), (34, .putfield 27, 3), (37, .aload_n 0, 1), (38, .bipush 8, 2), (40, .newarray .int, 2), (42, .putfield 31, 3), (45, .aload_n 0, 1), (46, .bipush 8, 2), (48, .newarray .int, 2), (50, .putfield 34, 3), (53, .aload_n 0, 1), (54, .bipush 8, 2), (56, .newarray .int, 2), (58, .putfield 37, 3), (61, .return_, 1)])
theorem gmX2_init : GM mX2_init := ⟨by decide +kernel, lw_gd_of (List.mem_of_getElem? (i := 241) (by decide +kernel)) rfl, dk_of (by decide +kernel), ⟨by decide +kernel, by decide +kernel⟩, lw_gd_of (List.mem_of_getElem? (i := 41) (by decide +kernel)) rfl⟩
def mX2_netValue : MI := (yX2_netValue, cX2_netValue, 4, (some .int), 2, 46, [], [(0, .aload_n 1, 1), (1, .iload_n 2, 1), (2, .invokevirtual 40, 3), (5, .istore_n 3, 1), (6, .iload_n 3, 1), (7, .iload_n 3, 1), (8, .aload_n 0, 1), (9, .getfield 46, 3), (12, .iload_n 2, 1), (13, .invokestatic 51, 3), (16, .bipush 100, 2), (18, .invokestatic 55, 3), (21, .isub, 1), (22, .ireturn, 1)])
theorem gmX2_netValue : GM mX2_netValue := ⟨by decide +kernel, lw_gd_of (List.mem_of_getElem? (i := 398) (by decide +kernel)) rfl, dk_of (by decide +kernel), ⟨by decide +kernel, by decide +kernel⟩, lw_gd_of (List.mem_of_getElem? (i := 41) (by decide +kernel)) rfl⟩
def mX2_addUpAssets : MI := (yX2_addUpAssets, cX2_addUpAssets, 4, none, 3, 69, [], [(0, .aload_n 0, 1), (1, .iconst 0, 1), (2, .putfield 9, 3), (5, .iconst 0, 1), (6, .istore_n 3, 1), (7, .iload_n 3, 1), (8, .aload_n 1, 1), (9, .getfield 59, 3), (12, .if_icmp .ge 24, 3), (15, .aload_n 0, 1), (16, .dup, 1), (17, .getfield 9, 3), (20, .aload_n 1, 1), (21, .aload_n 2, 1), (22, .iload_n 3, 1), (23, .invokestatic 62, 3), (26, .iadd, 1), (27, .putfield 9, 3), (30, .iinc 3 1, 3), (33, .goto (-26), 3), (36, .return_, 1)])
theorem gmX2_addUpAssets : GM mX2_addUpAssets := ⟨by decide +kernel, lw_gd_of (List.mem_of_getElem? (i := 395) (by decide +kernel)) rfl, dk_of (by decide +kernel), ⟨by decide +kernel, by decide +kernel⟩, lw_gd_of (List.mem_of_getElem? (i := 41) (by decide +kernel)) rfl⟩
def mX2_payDebts : MI := (yX2_payDebts, cX2_payDebts, 6, none, 3, 70, [], [(0, .iconst 0, 1), (1, .istore_n 2, 1), (2, .iload_n 2, 1), (3, .bipush 8, 2), (5, .if_icmp .ge 16, 3), (8, .aload_n 0, 1), (9, .getfield 27, 3), (12, .iload_n 2, 1), (13, .iconst 0, 1), (14, .iastore, 1), (15, .iinc 2 1, 3), (18, .goto (-16), 3), (21, .aload_n 0, 1), (22, .iconst 0, 1), (23, .putfield 15, 3), (26, .aload_n 0, 1), (27, .iconst 0, 1), (28, .putfield 18, 3), (31, .iconst 1, 1), (32, .istore_n 2, 1), (33, .iload_n 2, 1), (34, .iconst 5, 1), (35, .if_icmp .gt 108, 3), (38, .aload_n 0, 1), (39, .aload_n 1, 1), (40, .iload_n 2, 1), (41, .invokevirtual 66, 3), (44, .aload_n 0, 1), (45, .getfield 34, 3), (48, .invokestatic 70, 3), (51, .istore_n 3, 1), (52, .aload_n 0, 1), (53, .getfield 9, 3), (56, .aload_n 0, 1), (57, .getfield 15, 3), (60, .isub, 1), (61, .iload_n 3, 1), (62, .invokestatic 74, 3), (65, .istore 4, 2), (67, .iload 4, 2), (69, .aload_n 0, 1), (70, .getfield 34, 3), (73, .aload_n 0, 1), (74, .getfield 37, 3), (77, .invokestatic 80, 3), (80, .iconst 0, 1), (81, .istore 5, 2), (83, .iload 5, 2), (85, .bipush 8, 2), (87, .if_icmp .ge 26, 3), (90, .aload_n 0, 1), (91, .getfield 27, 3), (94, .iload 5, 2), (96, .dup2, 1), (97, .iaload, 1), (98, .aload_n 0, 1), (99, .getfield 37, 3), (102, .iload 5, 2), (104, .iaload, 1), (105, .iadd, 1), (106, .iastore, 1), (107, .iinc 5 1, 3), (110, .goto (-27), 3), (113, .aload_n 0, 1), (114, .dup, 1), (115, .getfield 15, 3), (118, .iload 4, 2), (120, .iadd, 1), (121, .putfield 15, 3), (124, .aload_n 0, 1), (125, .dup, 1), (126, .getfield 18, 3), (129, .iload_n 3, 1), (130, .iload 4, 2), (132, .isub, 1), (133, .iadd, 1), (134, .putfield 18, 3), (137, .iinc 2 1, 3), (140, .goto (-107), 3), (143, .return_, 1)])
theorem gmX2_payDebts : GM mX2_payDebts := ⟨by decide +kernel, lw_gd_of (List.mem_of_getElem? (i := 416) (by decide +kernel)) rfl, dk_of (by decide +kernel), ⟨by decide +kernel, by decide +kernel⟩, lw_gd_of (List.mem_of_getElem? (i := 41) (by decide +kernel)) rfl⟩
def mX2_claimDebts : MI := (yX2_claimDebts, cX2_claimDebts, 5, none, 2, 46, [], [(0, .iconst 0, 1), (1, .istore_n 3, 1), (2, .iload_n 3, 1), (3, .bipush 8, 2), (5, .if_icmp .ge 53, 3), (8, .iload_n 3, 1), (9, .aload_n 1, 1), (10, .invokevirtual 84, 3), (13, .if_icmp .ge 16, 3), (16, .aload_n 1, 1), (17, .iload_n 3, 1), (18, .invokevirtual 88, 3), (21, .iload_n 2, 1), (22, .if_icmp .ne 7, 3), (25, .iconst 1, 1), (26, .goto 4, 3), (29, .iconst 0, 1), (30, .istore 4, 2), (32, .aload_n 0, 1), (33, .getfield 34, 3), (36, .iload_n 3, 1), (37, .iload 4, 2), (39, .ifCond .eq 11, 3), (42, .aload_n 1, 1), (43, .iload_n 3, 1), (44, .invokevirtual 91, 3), (47, .goto 4, 3), (50, .iconst 0, 1), (51, .iastore, 1), (52, .iinc 3 1, 3), (55, .goto (-53), 3), (58, .return_, 1)])
theorem gmX2_claimDebts : GM mX2_claimDebts := ⟨by decide +kernel, lw_gd_of (List.mem_of_getElem? (i := 420) (by decide +kernel)) rfl, dk_of (by decide +kernel), ⟨by decide +kernel, by decide +kernel⟩, lw_gd_of (List.mem_of_getElem? (i := 41) (by decide +kernel)) rfl⟩
def mX2_payLegacies : MI := (yX2_payLegacies, cX2_payLegacies, 5, none, 2, 60, [], [(0, .iconst 0, 1), (1, .istore_n 3, 1), (2, .iload_n 3, 1), (3, .bipush 8, 2), (5, .if_icmp .ge 62, 3), (8, .iload_n 3, 1), (9, .aload_n 1, 1), (10, .getfield 94, 3), (13, .if_icmp .ge 22, 3), (16, .aload_n 2, 1), (17, .aload_n 1, 1), (18, .getfield 97, 3), (21, .iload_n 3, 1), (22, .invokestatic 51, 3), (25, .invokevirtual 100, 3), (28, .ifCond .eq 7, 3), (31, .iconst 1, 1), (32, .goto 4, 3), (35, .iconst 0, 1), (36, .istore 4, 2), (38, .aload_n 0, 1), (39, .getfield 34, 3), (42, .iload_n 3, 1), (43, .iload 4, 2), (45, .ifCond .eq 14, 3), (48, .aload_n 1, 1), (49, .getfield 104, 3), (52, .iload_n 3, 1), (53, .invokestatic 51, 3), (56, .goto 4, 3), (59, .iconst 0, 1), (60, .iastore, 1), (61, .iinc 3 1, 3), (64, .goto (-62), 3), (67, .aload_n 0, 1), (68, .aload_n 0, 1), (69, .getfield 9, 3), (72, .aload_n 0, 1), (73, .getfield 15, 3), (76, .isub, 1), (77, .aload_n 0, 1), (78, .getfield 34, 3), (81, .invokestatic 70, 3), (84, .invokestatic 74, 3), (87, .putfield 21, 3), (90, .aload_n 0, 1), (91, .getfield 21, 3), (94, .aload_n 0, 1), (95, .getfield 34, 3), (98, .aload_n 0, 1), (99, .getfield 31, 3), (102, .invokestatic 80, 3), (105, .aload_n 0, 1), (106, .aload_n 0, 1), (107, .getfield 9, 3), (110, .aload_n 0, 1), (111, .getfield 15, 3), (114, .isub, 1), (115, .aload_n 0, 1), (116, .getfield 21, 3), (119, .isub, 1), (120, .putfield 24, 3), (123, .return_, 1)])
theorem gmX2_payLegacies : GM mX2_payLegacies := ⟨by decide +kernel, lw_gd_of (List.mem_of_getElem? (i := 447) (by decide +kernel)) rfl, dk_of (by decide +kernel), ⟨by decide +kernel, by decide +kernel⟩, lw_gd_of (List.mem_of_getElem? (i := 41) (by decide +kernel)) rfl⟩
def mX3_init : MI := (yX3_init, cX3_init, 1, none, 1, 24, [], [(0, .aload_n 0, 1), (1, .invokespecial 3, 3), (4, .aload_n 0, 1), (5, .iconst 0, 1), (6, .putfield 9, 3), (9, .aload_n 0, 1), (10, .iconst 0, 1), (11, .putfield 15, 3), (14, .aload_n 0, 1), (15, .bipush 13, 2), (17, .newarray .int, 2), (19, .putfield 18, 3), (22, .aload_n 0, 1), (23, .bipush 12, 2), (25, .newarray .int, 2), (27, .putfield 22, 3), (30, .aload_n 0, 1), (31, .bipush 12, 2), (33, .newarray .int, 2), (35, .putfield 25, 3), (38, .return_, 1)])
theorem gmX3_init : GM mX3_init := ⟨by decide +kernel, lw_gd_of (List.mem_of_getElem? (i := 284) (by decide +kernel)) rfl, dk_of (by decide +kernel), ⟨by decide +kernel, by decide +kernel⟩, lw_gd_of (List.mem_of_getElem? (i := 42) (by decide +kernel)) rfl⟩
def mX3_findOpenLines : MI := (yX3_findOpenLines, cX3_findOpenLines, 5, none, 2, 46, [], [(0, .aload_n 0, 1), (1, .iconst 0, 1), (2, .putfield 15, 3), (5, .iconst 0, 1), (6, .istore_n 3, 1), (7, .iload_n 3, 1), (8, .aload_n 0, 1), (9, .getfield 18, 3), (12, .arraylength, 1), (13, .if_icmp .ge 16, 3), (16, .aload_n 0, 1), (17, .getfield 18, 3), (20, .iload_n 3, 1), (21, .iconst 0, 1), (22, .iastore, 1), (23, .iinc 3 1, 3), (26, .goto (-19), 3), (29, .aload_n 1, 1), (30, .getfield 28, 3), (33, .iconst 1, 1), (34, .isub, 1), (35, .istore_n 3, 1), (36, .iload_n 3, 1), (37, .ifCond .lt 82, 3), (40, .aload_n 2, 1), (41, .iload_n 3, 1), (42, .invokevirtual 33, 3), (45, .ifCond .ne 24, 3), (48, .aload_n 2, 1), (49, .iload_n 3, 1), (50, .invokevirtual 39, 3), (53, .ifCond .eq 20, 3), (56, .aload_n 0, 1), (57, .getfield 18, 3), (60, .iload_n 3, 1), (61, .iconst 1, 1), (62, .iadd, 1), (63, .invokestatic 42, 3), (66, .ifCond .le 7, 3), (69, .iconst 1, 1), (70, .goto 4, 3), (73, .iconst 0, 1), (74, .istore 4, 2), (76, .iload 4, 2), (78, .ifCond .eq 35, 3), (81, .iload_n 3, 1), (82, .aload_n 1, 1), (83, .getfield 46, 3), (86, .if_icmp .eq 27, 3), (89, .aload_n 0, 1), (90, .dup, 1), (91, .getfield 15, 3), (94, .iconst 1, 1), (95, .iload_n 3, 1), (96, .ishl, 1), (97, .ior, 1), (98, .putfield 15, 3), (101, .aload_n 0, 1), (102, .aload_n 1, 1), (103, .getfield 49, 3), (106, .iload_n 3, 1), (107, .invokestatic 42, 3), (110, .invokevirtual 52, 3), (113, .iinc 3 (-1), 3), (116, .goto (-80), 3), (119, .return_, 1)])
theorem gmX3_findOpenLines : GM mX3_findOpenLines := ⟨by decide +kernel, lw_gd_of (List.mem_of_getElem? (i := 455) (by decide +kernel)) rfl, dk_of (by decide +kernel), ⟨by decide +kernel, by decide +kernel⟩, lw_gd_of (List.mem_of_getElem? (i := 42) (by decide +kernel)) rfl⟩
def mX3_countLine : MI := (yX3_countLine, cX3_countLine, 3, none, 0, 0, [], [(0, .iload_n 1, 1), (1, .iconst 1, 1), (2, .iadd, 1), (3, .istore_n 2, 1), (4, .iload_n 2, 1), (5, .ifCond .lt 22, 3), (8, .iload_n 2, 1), (9, .aload_n 0, 1), (10, .getfield 18, 3), (13, .arraylength, 1), (14, .if_icmp .ge 13, 3), (17, .aload_n 0, 1), (18, .getfield 18, 3), (21, .iload_n 2, 1), (22, .dup2, 1), (23, .iaload, 1), (24, .iconst 1, 1), (25, .iadd, 1), (26, .iastore, 1), (27, .return_, 1)])
theorem gmX3_countLine : GM mX3_countLine := ⟨by decide +kernel, lw_gd_of (List.mem_of_getElem? (i := 465) (by decide +kernel)) rfl, dk_of (by decide +kernel), ⟨by decide +kernel, by decide +kernel⟩, lw_gd_of (List.mem_of_getElem? (i := 42) (by decide +kernel)) rfl⟩
def mX3_findHeirs : MI := (yX3_findHeirs, cX3_findHeirs, 5, none, 3, 68, [], [(0, .aload_n 0, 1), (1, .iconst 0, 1), (2, .putfield 9, 3), (5, .iconst 0, 1), (6, .istore_n 3, 1), (7, .iload_n 3, 1), (8, .bipush 12, 2), (10, .if_icmp .ge 96, 3), (13, .aload_n 0, 1), (14, .getfield 22, 3), (17, .iload_n 3, 1), (18, .iconst 0, 1), (19, .iastore, 1), (20, .iload_n 3, 1), (21, .aload_n 1, 1), (22, .getfield 28, 3), (25, .if_icmp .ge 75, 3), (28, .iload_n 3, 1), (29, .aload_n 1, 1), (30, .getfield 46, 3), (33, .if_icmp .eq 67, 3), (36, .aload_n 1, 1), (37, .getfield 49, 3), (40, .iload_n 3, 1), (41, .invokestatic 42, 3), (44, .istore 4, 2), (46, .aload_n 0, 1), (47, .getfield 22, 3), (50, .iload_n 3, 1), (51, .aload_n 0, 1), (52, .aload_n 2, 1), (53, .iload 4, 2), (55, .invokevirtual 56, 3), (58, .aload_n 0, 1), (59, .getfield 18, 3), (62, .iload 4, 2), (64, .iconst 1, 1), (65, .iadd, 1), (66, .invokestatic 42, 3), (69, .imul, 1), (70, .iastore, 1), (71, .aload_n 0, 1), (72, .getfield 22, 3), (75, .iload_n 3, 1), (76, .iaload, 1), (77, .ifCond .le 23, 3), (80, .aload_n 2, 1), (81, .iload_n 3, 1), (82, .invokevirtual 33, 3), (85, .ifCond .eq 15, 3), (88, .aload_n 0, 1), (89, .dup, 1), (90, .getfield 9, 3), (93, .iconst 1, 1), (94, .iload_n 3, 1), (95, .ishl, 1), (96, .ior, 1), (97, .putfield 9, 3), (100, .iinc 3 1, 3), (103, .goto (-96), 3), (106, .return_, 1)])
theorem gmX3_findHeirs : GM mX3_findHeirs := ⟨by decide +kernel, lw_gd_of (List.mem_of_getElem? (i := 469) (by decide +kernel)) rfl, dk_of (by decide +kernel), ⟨by decide +kernel, by decide +kernel⟩, lw_gd_of (List.mem_of_getElem? (i := 42) (by decide +kernel)) rfl⟩
def mX3_divisorBelow : MI := (yX3_divisorBelow, cX3_divisorBelow, 3, (some .int), 2, 46, [], [(0, .iload_n 2, 1), (1, .iconst (-1), 1), (2, .if_icmp .ne 5, 3), (5, .iconst 1, 1), (6, .ireturn, 1), (7, .aload_n 1, 1), (8, .iload_n 2, 1), (9, .invokevirtual 39, 3), (12, .ifCond .eq 14, 3), (15, .aload_n 0, 1), (16, .getfield 22, 3), (19, .iload_n 2, 1), (20, .invokestatic 42, 3), (23, .goto 4, 3), (26, .iconst 0, 1), (27, .ireturn, 1)])
theorem gmX3_divisorBelow : GM mX3_divisorBelow := ⟨by decide +kernel, lw_gd_of (List.mem_of_getElem? (i := 473) (by decide +kernel)) rfl, dk_of (by decide +kernel), ⟨by decide +kernel, by decide +kernel⟩, lw_gd_of (List.mem_of_getElem? (i := 42) (by decide +kernel)) rfl⟩
def mX3_findWeights : MI := (yX3_findWeights, cX3_findWeights, 4, none, 2, 47, [], [(0, .iconst 1, 1), (1, .istore_n 1, 1), (2, .iconst 0, 1), (3, .istore_n 2, 1), (4, .iload_n 2, 1), (5, .bipush 12, 2), (7, .if_icmp .ge 31, 3), (10, .aload_n 0, 1), (11, .getfield 9, 3), (14, .iload_n 2, 1), (15, .invokestatic 60, 3), (18, .ifCond .eq 14, 3), (21, .iload_n 1, 1), (22, .aload_n 0, 1), (23, .getfield 22, 3), (26, .iload_n 2, 1), (27, .iaload, 1), (28, .invokestatic 64, 3), (31, .istore_n 1, 1), (32, .iinc 2 1, 3), (35, .goto (-31), 3), (38, .iconst 0, 1), (39, .istore_n 2, 1), (40, .iload_n 2, 1), (41, .bipush 12, 2), (43, .if_icmp .ge 57, 3), (46, .aload_n 0, 1), (47, .getfield 9, 3), (50, .iload_n 2, 1), (51, .invokestatic 60, 3), (54, .ifCond .eq 16, 3), (57, .aload_n 0, 1), (58, .getfield 22, 3), (61, .iload_n 2, 1), (62, .iaload, 1), (63, .ifCond .le 7, 3), (66, .iconst 1, 1), (67, .goto 4, 3), (70, .iconst 0, 1), (71, .istore_n 3, 1), (72, .aload_n 0, 1), (73, .getfield 25, 3), (76, .iload_n 2, 1), (77, .iload_n 3, 1), (78, .ifCond .eq 14, 3), (81, .iload_n 1, 1), (82, .aload_n 0, 1), (83, .getfield 22, 3), (86, .iload_n 2, 1), (87, .iaload, 1), (88, .idiv, 1), (89, .goto 4, 3), (92, .iconst 0, 1), (93, .iastore, 1), (94, .iinc 2 1, 3), (97, .goto (-57), 3), (100, .return_, 1)])
theorem gmX3_findWeights : GM mX3_findWeights := ⟨by decide +kernel, lw_gd_of (List.mem_of_getElem? (i := 477) (by decide +kernel)) rfl, dk_of (by decide +kernel), ⟨by decide +kernel, by decide +kernel⟩, lw_gd_of (List.mem_of_getElem? (i := 42) (by decide +kernel)) rfl⟩
def mX4_init : MI := (yX4_init, cX4_init, 1, none, 1, 24, [], [(0, .aload_n 0, 1), (1, .invokespecial 3, 3), (4, .aload_n 0, 1), (5, .sipush 790, 3), (8, .newarray .int, 2), (10, .putfield 11, 3), (13, .aload_n 0, 1), (14, .sipush 158, 3), (17, .newarray .int, 2), (19, .putfield 17, 3), (22, .aload_n 0, 1), (23, .iconst 0, 1), (24, .putfield 20, 3), (27, .aload_n 0, 1), (28, .iconst 0, 1), (29, .putfield 24, 3), (32, .return_, 1)])
theorem gmX4_init : GM mX4_init := ⟨by decide +kernel, lw_gd_of (List.mem_of_getElem? (i := 373) (by decide +kernel)) rfl, dk_of (by decide +kernel), ⟨by decide +kernel, by decide +kernel⟩, lw_gd_of (List.mem_of_getElem? (i := 44) (by decide +kernel)) rfl⟩
def mX4_clearUndo : MI := (yX4_clearUndo, cX4_clearUndo, 1, none, 0, 0, [], [(0, .aload_n 0, 1), (1, .iconst 0, 1), (2, .putfield 20, 3), (5, .return_, 1)])
theorem gmX4_clearUndo : GM mX4_clearUndo := ⟨by decide +kernel, lw_gd_of (List.mem_of_getElem? (i := 1308) (by decide +kernel)) rfl, dk_of (by decide +kernel), ⟨by decide +kernel, by decide +kernel⟩, lw_gd_of (List.mem_of_getElem? (i := 44) (by decide +kernel)) rfl⟩
def mX4_clearSlots : MI := (yX4_clearSlots, cX4_clearSlots, 1, none, 0, 0, [], [(0, .aload_n 0, 1), (1, .iconst 0, 1), (2, .putfield 24, 3), (5, .return_, 1)])
theorem gmX4_clearSlots : GM mX4_clearSlots := ⟨by decide +kernel, lw_gd_of (List.mem_of_getElem? (i := 1312) (by decide +kernel)) rfl, dk_of (by decide +kernel), ⟨by decide +kernel, by decide +kernel⟩, lw_gd_of (List.mem_of_getElem? (i := 44) (by decide +kernel)) rfl⟩
def mX4_remember : MI := (yX4_remember, cX4_remember, 2, none, 2, 82, [], [(0, .aload_n 0, 1), (1, .getfield 20, 3), (4, .bipush 10, 2), (6, .if_icmp .lt 26, 3), (9, .aload_n 0, 1), (10, .getfield 11, 3), (13, .bipush 79, 2), (15, .aload_n 0, 1), (16, .getfield 11, 3), (19, .iconst 0, 1), (20, .sipush 711, 3), (23, .invokestatic 27, 3), (26, .aload_n 0, 1), (27, .bipush 9, 2), (29, .putfield 20, 3), (32, .aload_n 1, 1), (33, .aload_n 0, 1), (34, .getfield 11, 3), (37, .aload_n 0, 1), (38, .getfield 20, 3), (41, .invokevirtual 33, 3), (44, .aload_n 0, 1), (45, .dup, 1), (46, .getfield 20, 3), (49, .iconst 1, 1), (50, .iadd, 1), (51, .putfield 20, 3), (54, .return_, 1)])
theorem gmX4_remember : GM mX4_remember := ⟨by decide +kernel, lw_gd_of (List.mem_of_getElem? (i := 1489) (by decide +kernel)) rfl, dk_of (by decide +kernel), ⟨by decide +kernel, by decide +kernel⟩, lw_gd_of (List.mem_of_getElem? (i := 44) (by decide +kernel)) rfl⟩
def mX5_init : MI := (yX5_init, cX5_init, 1, none, 2, 44, [], [(0, .aload_n 0, 1), (1, .invokespecial 3, 3), (4, .aload_n 0, 1), (5, .new 9, 3), (8, .dup, 1), (9, .invokespecial 11, 3), (12, .putfield 12, 3), (15, .aload_n 0, 1), (16, .new 18, 3), (19, .dup, 1), (20, .invokespecial 20, 3), (23, .putfield 21, 3), (26, .aload_n 0, 1), (27, .new 25, 3), (30, .dup, 1), (31, .invokespecial 27, 3), (34, .putfield 28, 3), (37, .aload_n 0, 1), (38, .iconst (-1), 1), (39, .putfield 32, 3), (42, .aload_n 0, 1), (43, .iconst 0, 1), (44, .putfield 36, 3), (47, .aload_n 0, 1), (48, .iconst 0, 1), (49, .putfield 39, 3), (52, .aload_n 0, 1), (53, .iconst 0, 1), (54, .putfield 43, 3), (57, .aload_n 0, 1), (58, .iconst 0, 1), (59, .putfield 46, 3), (62, .aload_n 0, 1), (63, .iconst 0, 1), (64, .putfield 49, 3), (67, .aload_n 0, 1), (68, .iconst (-1), 1), (69, .putfield 52, 3), (72, .return_, 1)])
theorem gmX5_init : GM mX5_init := ⟨by decide +kernel, lw_gd_of (List.mem_of_getElem? (i := 75) (by decide +kernel)) rfl, dk_of (by decide +kernel), ⟨by decide +kernel, by decide +kernel⟩, lw_gd_of (List.mem_of_getElem? (i := 36) (by decide +kernel)) rfl⟩
def mX5_read : MI := (yX5_read, cX5_read, 4, (some .int), 8, 174, [], [(0, .aload_n 0, 1), (1, .getfield 21, 3), (4, .invokevirtual 55, 3), (7, .aload_n 0, 1), (8, .getfield 28, 3), (11, .invokevirtual 58, 3), (14, .aload_n 0, 1), (15, .iconst 0, 1), (16, .putfield 36, 3), (19, .aload_n 0, 1), (20, .iconst (-1), 1), (21, .putfield 32, 3), (24, .aload_n 0, 1), (25, .iconst 0, 1), (26, .putfield 39, 3), (29, .aload_n 0, 1), (30, .iconst 0, 1), (31, .putfield 43, 3), (34, .aload_n 0, 1), (35, .iconst 0, 1), (36, .putfield 46, 3), (39, .aload_n 0, 1), (40, .getfield 12, 3), (43, .iload_n 1, 1), (44, .invokevirtual 59, 3), (47, .iconst 1, 1), (48, .istore_n 2, 1), (49, .iconst 0, 1), (50, .istore_n 3, 1), (51, .iload_n 3, 1), (52, .sipush 700, 3), (55, .if_icmp .ge 43, 3), (58, .iload_n 2, 1), (59, .ifCond .eq 39, 3), (62, .aload_n 0, 1), (63, .getfield 12, 3), (66, .getfield 63, 3), (69, .ifCond .eq 29, 3), (72, .aload_n 0, 1), (73, .invokevirtual 66, 3), (76, .ifCond .eq 14, 3), (79, .aload_n 0, 1), (80, .invokevirtual 70, 3), (83, .ifCond .eq 7, 3), (86, .iconst 1, 1), (87, .goto 4, 3), (90, .iconst 0, 1), (91, .istore_n 2, 1), (92, .iinc 3 1, 3), (95, .goto (-44), 3), (98, .aload_n 0, 1), (99, .getfield 36, 3), (102, .ireturn, 1)])
theorem gmX5_read : GM mX5_read := ⟨by decide +kernel, lw_gd_of (List.mem_of_getElem? (i := 1128) (by decide +kernel)) rfl, dk_of (by decide +kernel), ⟨by decide +kernel, by decide +kernel⟩, lw_gd_of (List.mem_of_getElem? (i := 36) (by decide +kernel)) rfl⟩
def mX5_fail : MI := (yX5_fail, cX5_fail, 2, (some .boolean), 0, 0, [], [(0, .aload_n 0, 1), (1, .iload_n 1, 1), (2, .putfield 36, 3), (5, .aload_n 0, 1), (6, .aload_n 0, 1), (7, .getfield 12, 3), (10, .getfield 73, 3), (13, .putfield 32, 3), (16, .iconst 0, 1), (17, .ireturn, 1)])
theorem gmX5_fail : GM mX5_fail := ⟨by decide +kernel, lw_gd_of (List.mem_of_getElem? (i := 1171) (by decide +kernel)) rfl, dk_of (by decide +kernel), ⟨by decide +kernel, by decide +kernel⟩, lw_gd_of (List.mem_of_getElem? (i := 36) (by decide +kernel)) rfl⟩
def mX5_readStatement : MI := (yX5_readStatement, cX5_readStatement, 1, (some .boolean), 7, 154, [], [(0, .aload_n 0, 1), (1, .getfield 12, 3), (4, .ldc 76, 2), (6, .invokevirtual 78, 3), (9, .ifCond .eq 8, 3), (12, .aload_n 0, 1), (13, .invokevirtual 82, 3), (16, .ireturn, 1), (17, .aload_n 0, 1), (18, .getfield 12, 3), (21, .ldc 85, 2), (23, .invokevirtual 78, 3), (26, .ifCond .eq 8, 3), (29, .aload_n 0, 1), (30, .invokevirtual 87, 3), (33, .ireturn, 1), (34, .aload_n 0, 1), (35, .getfield 12, 3), (38, .ldc 90, 2), (40, .invokevirtual 78, 3), (43, .ifCond .eq 8, 3), (46, .aload_n 0, 1), (47, .invokevirtual 92, 3), (50, .ireturn, 1), (51, .aload_n 0, 1), (52, .getfield 12, 3), (55, .ldc 95, 2), (57, .invokevirtual 78, 3), (60, .ifCond .eq 8, 3), (63, .aload_n 0, 1), (64, .invokevirtual 97, 3), (67, .ireturn, 1), (68, .aload_n 0, 1), (69, .getfield 12, 3), (72, .ldc 100, 2), (74, .invokevirtual 78, 3), (77, .ifCond .eq 8, 3), (80, .aload_n 0, 1), (81, .invokevirtual 102, 3), (84, .ireturn, 1), (85, .aload_n 0, 1), (86, .getfield 12, 3), (89, .ldc 105, 2), (91, .invokevirtual 78, 3), (94, .ifCond .eq 8, 3), (97, .aload_n 0, 1), (98, .invokevirtual 107, 3), (101, .ireturn, 1), (102, .aload_n 0, 1), (103, .getfield 12, 3), (106, .ldc 110, 2), (108, .invokevirtual 78, 3), (111, .ifCond .eq 8, 3), (114, .aload_n 0, 1), (115, .invokevirtual 112, 3), (118, .ireturn, 1), (119, .aload_n 0, 1), (120, .getfield 12, 3), (123, .ldc 115, 2), (125, .invokevirtual 78, 3), (128, .ifCond .eq 8, 3), (131, .aload_n 0, 1), (132, .invokevirtual 117, 3), (135, .ireturn, 1), (136, .aload_n 0, 1), (137, .iconst 1, 1), (138, .invokevirtual 120, 3), (141, .ireturn, 1)])
theorem gmX5_readStatement : GM mX5_readStatement := ⟨by decide +kernel, lw_gd_of (List.mem_of_getElem? (i := 1152) (by decide +kernel)) rfl, dk_of (by decide +kernel), ⟨by decide +kernel, by decide +kernel⟩, lw_gd_of (List.mem_of_getElem? (i := 36) (by decide +kernel)) rfl⟩
def mX5_readSemicolon : MI := (yX5_readSemicolon, cX5_readSemicolon, 1, (some .boolean), 2, 42, [], [(0, .aload_n 0, 1), (1, .getfield 12, 3), (4, .getfield 63, 3), (7, .iconst 3, 1), (8, .if_icmp .eq 9, 3), (11, .aload_n 0, 1), (12, .iconst 1, 1), (13, .invokevirtual 120, 3), (16, .ireturn, 1), (17, .aload_n 0, 1), (18, .getfield 12, 3), (21, .invokevirtual 124, 3), (24, .iconst 1, 1), (25, .ireturn, 1)])
theorem gmX5_readSemicolon : GM mX5_readSemicolon := ⟨by decide +kernel, lw_gd_of (List.mem_of_getElem? (i := 1290) (by decide +kernel)) rfl, dk_of (by decide +kernel), ⟨by decide +kernel, by decide +kernel⟩, lw_gd_of (List.mem_of_getElem? (i := 36) (by decide +kernel)) rfl⟩
def mX5_readPerson : MI := (yX5_readPerson, cX5_readPerson, 6, (some .boolean), 6, 129, [], [(0, .aload_n 0, 1), (1, .getfield 21, 3), (4, .getfield 127, 3), (7, .bipush 12, 2), (9, .if_icmp .lt 9, 3), (12, .aload_n 0, 1), (13, .iconst 5, 1), (14, .invokevirtual 120, 3), (17, .ireturn, 1), (18, .aload_n 0, 1), (19, .getfield 12, 3), (22, .invokevirtual 124, 3), (25, .aload_n 0, 1), (26, .getfield 12, 3), (29, .getfield 63, 3), (32, .iconst 1, 1), (33, .if_icmp .eq 9, 3), (36, .aload_n 0, 1), (37, .iconst 1, 1), (38, .invokevirtual 120, 3), (41, .ireturn, 1), (42, .aload_n 0, 1), (43, .getfield 12, 3), (46, .invokevirtual 130, 3), (49, .lstore_n 1, 1), (50, .aload_n 0, 1), (51, .getfield 21, 3), (54, .lload_n 1, 1), (55, .invokevirtual 134, 3), (58, .iconst (-1), 1), (59, .if_icmp .eq 9, 3), (62, .aload_n 0, 1), (63, .iconst 2, 1), (64, .invokevirtual 120, 3), (67, .ireturn, 1), (68, .aload_n 0, 1), (69, .getfield 12, 3), (72, .invokevirtual 124, 3), (75, .iconst (-1), 1), (76, .istore_n 3, 1), (77, .aload_n 0, 1), (78, .getfield 12, 3), (81, .ldc 138, 2), (83, .invokevirtual 78, 3), (86, .ifCond .eq 31, 3), (89, .aload_n 0, 1), (90, .getfield 12, 3), (93, .invokevirtual 124, 3), (96, .aload_n 0, 1), (97, .aload_n 0, 1), (98, .getfield 21, 3), (101, .getfield 140, 3), (104, .invokevirtual 143, 3), (107, .ifCond .ne 5, 3), (110, .iconst 0, 1), (111, .ireturn, 1), (112, .aload_n 0, 1), (113, .getfield 52, 3), (116, .istore_n 3, 1), (117, .bipush 50, 2), (119, .istore 4, 2), (121, .aload_n 0, 1), (122, .getfield 12, 3), (125, .ldc 146, 2), (127, .invokevirtual 78, 3), (130, .ifCond .eq 28, 3), (133, .aload_n 0, 1), (134, .getfield 12, 3), (137, .invokevirtual 124, 3), (140, .aload_n 0, 1), (141, .iconst 0, 1), (142, .bipush 120, 2), (144, .invokevirtual 148, 3), (147, .ifCond .ne 5, 3), (150, .iconst 0, 1), (151, .ireturn, 1), (152, .aload_n 0, 1), (153, .getfield 49, 3), (156, .istore 4, 2), (158, .aload_n 0, 1), (159, .getfield 21, 3), (162, .getfield 127, 3), (165, .istore 5, 2), (167, .aload_n 0, 1), (168, .getfield 21, 3), (171, .lload_n 1, 1), (172, .iload_n 3, 1), (173, .invokevirtual 152, 3), (176, .aload_n 0, 1), (177, .getfield 28, 3), (180, .iload 5, 2), (182, .iload 4, 2), (184, .invokevirtual 156, 3), (187, .aload_n 0, 1), (188, .iload 5, 2), (190, .iload_n 3, 1), (191, .invokevirtual 160, 3), (194, .ireturn, 1)])
theorem gmX5_readPerson : GM mX5_readPerson := ⟨by decide +kernel, lw_gd_of (List.mem_of_getElem? (i := 1167) (by decide +kernel)) rfl, dk_of (by decide +kernel), ⟨by decide +kernel, by decide +kernel⟩, lw_gd_of (List.mem_of_getElem? (i := 36) (by decide +kernel)) rfl⟩
def mX5_readStanding : MI := (yX5_readStanding, cX5_readStanding, 3, (some .boolean), 5, 107, [], [(0, .aload_n 0, 1), (1, .getfield 12, 3), (4, .ldc 163, 2), (6, .invokevirtual 78, 3), (9, .ifCond .eq 21, 3), (12, .aload_n 0, 1), (13, .getfield 28, 3), (16, .iload_n 1, 1), (17, .invokevirtual 165, 3), (20, .aload_n 0, 1), (21, .getfield 12, 3), (24, .invokevirtual 124, 3), (27, .goto 52, 3), (30, .aload_n 0, 1), (31, .getfield 12, 3), (34, .ldc 168, 2), (36, .invokevirtual 78, 3), (39, .ifCond .eq 40, 3), (42, .iload_n 2, 1), (43, .iconst (-1), 1), (44, .if_icmp .ne 35, 3), (47, .aload_n 0, 1), (48, .getfield 21, 3), (51, .getfield 140, 3), (54, .iconst (-1), 1), (55, .if_icmp .eq 9, 3), (58, .aload_n 0, 1), (59, .iconst 2, 1), (60, .invokevirtual 120, 3), (63, .ireturn, 1), (64, .aload_n 0, 1), (65, .getfield 21, 3), (68, .iload_n 1, 1), (69, .putfield 140, 3), (72, .aload_n 0, 1), (73, .getfield 12, 3), (76, .invokevirtual 124, 3), (79, .iconst 1, 1), (80, .ireturn, 1)])
theorem gmX5_readStanding : GM mX5_readStanding := ⟨by decide +kernel, lw_gd_of (List.mem_of_getElem? (i := 1211) (by decide +kernel)) rfl, dk_of (by decide +kernel), ⟨by decide +kernel, by decide +kernel⟩, lw_gd_of (List.mem_of_getElem? (i := 36) (by decide +kernel)) rfl⟩
def mX5_readAsset : MI := (yX5_readAsset, cX5_readAsset, 3, (some .boolean), 5, 107, [], [(0, .aload_n 0, 1), (1, .getfield 21, 3), (4, .getfield 169, 3), (7, .bipush 8, 2), (9, .if_icmp .lt 9, 3), (12, .aload_n 0, 1), (13, .iconst 5, 1), (14, .invokevirtual 120, 3), (17, .ireturn, 1), (18, .aload_n 0, 1), (19, .getfield 12, 3), (22, .invokevirtual 124, 3), (25, .aload_n 0, 1), (26, .iconst 0, 1), (27, .ldc 172, 2), (29, .invokevirtual 148, 3), (32, .ifCond .ne 5, 3), (35, .iconst 0, 1), (36, .ireturn, 1), (37, .aload_n 0, 1), (38, .getfield 49, 3), (41, .istore_n 1, 1), (42, .iconst 0, 1), (43, .istore_n 2, 1), (44, .aload_n 0, 1), (45, .getfield 12, 3), (48, .ldc 173, 2), (50, .invokevirtual 78, 3), (53, .ifCond .eq 27, 3), (56, .aload_n 0, 1), (57, .getfield 12, 3), (60, .invokevirtual 124, 3), (63, .aload_n 0, 1), (64, .iconst 0, 1), (65, .bipush 100, 2), (67, .invokevirtual 148, 3), (70, .ifCond .ne 5, 3), (73, .iconst 0, 1), (74, .ireturn, 1), (75, .aload_n 0, 1), (76, .getfield 49, 3), (79, .istore_n 2, 1), (80, .aload_n 0, 1), (81, .getfield 28, 3), (84, .aload_n 0, 1), (85, .getfield 21, 3), (88, .getfield 169, 3), (91, .iload_n 1, 1), (92, .invokevirtual 175, 3), (95, .aload_n 0, 1), (96, .getfield 21, 3), (99, .iload_n 2, 1), (100, .invokevirtual 178, 3), (103, .iconst 1, 1), (104, .ireturn, 1)])
theorem gmX5_readAsset : GM mX5_readAsset := ⟨by decide +kernel, lw_gd_of (List.mem_of_getElem? (i := 1222) (by decide +kernel)) rfl, dk_of (by decide +kernel), ⟨by decide +kernel, by decide +kernel⟩, lw_gd_of (List.mem_of_getElem? (i := 36) (by decide +kernel)) rfl⟩
def mX5_readDebt : MI := (yX5_readDebt, cX5_readDebt, 2, (some .boolean), 3, 66, [], [(0, .aload_n 0, 1), (1, .getfield 28, 3), (4, .invokevirtual 181, 3), (7, .bipush 8, 2), (9, .if_icmp .lt 9, 3), (12, .aload_n 0, 1), (13, .iconst 5, 1), (14, .invokevirtual 120, 3), (17, .ireturn, 1), (18, .aload_n 0, 1), (19, .getfield 12, 3), (22, .invokevirtual 124, 3), (25, .aload_n 0, 1), (26, .iconst 1, 1), (27, .iconst 5, 1), (28, .invokevirtual 148, 3), (31, .ifCond .ne 5, 3), (34, .iconst 0, 1), (35, .ireturn, 1), (36, .aload_n 0, 1), (37, .getfield 49, 3), (40, .istore_n 1, 1), (41, .aload_n 0, 1), (42, .iconst 0, 1), (43, .ldc 172, 2), (45, .invokevirtual 148, 3), (48, .ifCond .ne 5, 3), (51, .iconst 0, 1), (52, .ireturn, 1), (53, .aload_n 0, 1), (54, .getfield 28, 3), (57, .iload_n 1, 1), (58, .aload_n 0, 1), (59, .getfield 49, 3), (62, .invokevirtual 185, 3), (65, .iconst 1, 1), (66, .ireturn, 1)])
theorem gmX5_readDebt : GM mX5_readDebt := ⟨by decide +kernel, lw_gd_of (List.mem_of_getElem? (i := 1237) (by decide +kernel)) rfl, dk_of (by decide +kernel), ⟨by decide +kernel, by decide +kernel⟩, lw_gd_of (List.mem_of_getElem? (i := 36) (by decide +kernel)) rfl⟩
def mX5_readGift : MI := (yX5_readGift, cX5_readGift, 1, (some .boolean), 3, 66, [], [(0, .aload_n 0, 1), (1, .getfield 28, 3), (4, .invokevirtual 188, 3), (7, .bipush 8, 2), (9, .if_icmp .lt 9, 3), (12, .aload_n 0, 1), (13, .iconst 5, 1), (14, .invokevirtual 120, 3), (17, .ireturn, 1), (18, .aload_n 0, 1), (19, .getfield 12, 3), (22, .invokevirtual 124, 3), (25, .aload_n 0, 1), (26, .iconst (-1), 1), (27, .invokevirtual 143, 3), (30, .ifCond .eq 13, 3), (33, .aload_n 0, 1), (34, .iconst 0, 1), (35, .ldc 172, 2), (37, .invokevirtual 148, 3), (40, .ifCond .ne 5, 3), (43, .iconst 0, 1), (44, .ireturn, 1), (45, .aload_n 0, 1), (46, .getfield 28, 3), (49, .aload_n 0, 1), (50, .getfield 52, 3), (53, .aload_n 0, 1), (54, .getfield 49, 3), (57, .invokevirtual 191, 3), (60, .iconst 1, 1), (61, .ireturn, 1)])
theorem gmX5_readGift : GM mX5_readGift := ⟨by decide +kernel, lw_gd_of (List.mem_of_getElem? (i := 1248) (by decide +kernel)) rfl, dk_of (by decide +kernel), ⟨by decide +kernel, by decide +kernel⟩, lw_gd_of (List.mem_of_getElem? (i := 36) (by decide +kernel)) rfl⟩
def mX5_readLegacy : MI := (yX5_readLegacy, cX5_readLegacy, 1, (some .boolean), 3, 66, [], [(0, .aload_n 0, 1), (1, .getfield 21, 3), (4, .getfield 194, 3), (7, .bipush 8, 2), (9, .if_icmp .lt 9, 3), (12, .aload_n 0, 1), (13, .iconst 5, 1), (14, .invokevirtual 120, 3), (17, .ireturn, 1), (18, .aload_n 0, 1), (19, .getfield 12, 3), (22, .invokevirtual 124, 3), (25, .aload_n 0, 1), (26, .iconst (-1), 1), (27, .invokevirtual 143, 3), (30, .ifCond .eq 13, 3), (33, .aload_n 0, 1), (34, .iconst 0, 1), (35, .ldc 172, 2), (37, .invokevirtual 148, 3), (40, .ifCond .ne 5, 3), (43, .iconst 0, 1), (44, .ireturn, 1), (45, .aload_n 0, 1), (46, .getfield 21, 3), (49, .aload_n 0, 1), (50, .getfield 52, 3), (53, .aload_n 0, 1), (54, .getfield 49, 3), (57, .invokevirtual 197, 3), (60, .iconst 1, 1), (61, .ireturn, 1)])
theorem gmX5_readLegacy : GM mX5_readLegacy := ⟨by decide +kernel, lw_gd_of (List.mem_of_getElem? (i := 1258) (by decide +kernel)) rfl, dk_of (by decide +kernel), ⟨by decide +kernel, by decide +kernel⟩, lw_gd_of (List.mem_of_getElem? (i := 36) (by decide +kernel)) rfl⟩
def mX5_readShare : MI := (yX5_readShare, cX5_readShare, 1, (some .boolean), 3, 66, [], [(0, .aload_n 0, 1), (1, .getfield 39, 3), (4, .ifCond .eq 9, 3), (7, .aload_n 0, 1), (8, .iconst 2, 1), (9, .invokevirtual 120, 3), (12, .ireturn, 1), (13, .aload_n 0, 1), (14, .iconst 1, 1), (15, .putfield 39, 3), (18, .aload_n 0, 1), (19, .getfield 12, 3), (22, .invokevirtual 124, 3), (25, .aload_n 0, 1), (26, .iconst 1, 1), (27, .bipush 99, 2), (29, .invokevirtual 148, 3), (32, .ifCond .ne 5, 3), (35, .iconst 0, 1), (36, .ireturn, 1), (37, .aload_n 0, 1), (38, .getfield 21, 3), (41, .aload_n 0, 1), (42, .getfield 49, 3), (45, .putfield 200, 3), (48, .aload_n 0, 1), (49, .iconst 0, 1), (50, .aload_n 0, 1), (51, .getfield 21, 3), (54, .getfield 200, 3), (57, .invokevirtual 148, 3), (60, .ifCond .ne 5, 3), (63, .iconst 0, 1), (64, .ireturn, 1), (65, .aload_n 0, 1), (66, .getfield 21, 3), (69, .aload_n 0, 1), (70, .getfield 49, 3), (73, .putfield 203, 3), (76, .iconst 1, 1), (77, .ireturn, 1)])
theorem gmX5_readShare : GM mX5_readShare := ⟨by decide +kernel, lw_gd_of (List.mem_of_getElem? (i := 1267) (by decide +kernel)) rfl, dk_of (by decide +kernel), ⟨by decide +kernel, by decide +kernel⟩, lw_gd_of (List.mem_of_getElem? (i := 36) (by decide +kernel)) rfl⟩
def mX5_readLife : MI := (yX5_readLife, cX5_readLife, 1, (some .boolean), 3, 66, [], [(0, .aload_n 0, 1), (1, .getfield 43, 3), (4, .ifCond .eq 9, 3), (7, .aload_n 0, 1), (8, .iconst 2, 1), (9, .invokevirtual 120, 3), (12, .ireturn, 1), (13, .aload_n 0, 1), (14, .iconst 1, 1), (15, .putfield 43, 3), (18, .aload_n 0, 1), (19, .getfield 12, 3), (22, .invokevirtual 124, 3), (25, .aload_n 0, 1), (26, .iconst 0, 1), (27, .bipush 100, 2), (29, .invokevirtual 148, 3), (32, .ifCond .ne 5, 3), (35, .iconst 0, 1), (36, .ireturn, 1), (37, .aload_n 0, 1), (38, .getfield 21, 3), (41, .aload_n 0, 1), (42, .getfield 49, 3), (45, .putfield 206, 3), (48, .iconst 1, 1), (49, .ireturn, 1)])
theorem gmX5_readLife : GM mX5_readLife := ⟨by decide +kernel, lw_gd_of (List.mem_of_getElem? (i := 1272) (by decide +kernel)) rfl, dk_of (by decide +kernel), ⟨by decide +kernel, by decide +kernel⟩, lw_gd_of (List.mem_of_getElem? (i := 36) (by decide +kernel)) rfl⟩
def mX5_readAccrue : MI := (yX5_readAccrue, cX5_readAccrue, 2, (some .boolean), 5, 107, [], [(0, .aload_n 0, 1), (1, .getfield 46, 3), (4, .ifCond .eq 9, 3), (7, .aload_n 0, 1), (8, .iconst 2, 1), (9, .invokevirtual 120, 3), (12, .ireturn, 1), (13, .aload_n 0, 1), (14, .iconst 1, 1), (15, .putfield 46, 3), (18, .aload_n 0, 1), (19, .getfield 12, 3), (22, .invokevirtual 124, 3), (25, .aload_n 0, 1), (26, .getfield 12, 3), (29, .ldc 208, 2), (31, .invokevirtual 78, 3), (34, .istore_n 1, 1), (35, .iload_n 1, 1), (36, .ifCond .ne 21, 3), (39, .aload_n 0, 1), (40, .getfield 12, 3), (43, .ldc 210, 2), (45, .invokevirtual 78, 3), (48, .ifCond .ne 9, 3), (51, .aload_n 0, 1), (52, .iconst 1, 1), (53, .invokevirtual 120, 3), (56, .ireturn, 1), (57, .aload_n 0, 1), (58, .getfield 28, 3), (61, .iload_n 1, 1), (62, .invokevirtual 212, 3), (65, .aload_n 0, 1), (66, .getfield 12, 3), (69, .invokevirtual 124, 3), (72, .iconst 1, 1), (73, .ireturn, 1)])
theorem gmX5_readAccrue : GM mX5_readAccrue := ⟨by decide +kernel, lw_gd_of (List.mem_of_getElem? (i := 1277) (by decide +kernel)) rfl, dk_of (by decide +kernel), ⟨by decide +kernel, by decide +kernel⟩, lw_gd_of (List.mem_of_getElem? (i := 36) (by decide +kernel)) rfl⟩
def mX5_readNumber : MI := (yX5_readNumber, cX5_readNumber, 4, (some .boolean), 2, 43, [], [(0, .aload_n 0, 1), (1, .getfield 12, 3), (4, .getfield 63, 3), (7, .iconst 2, 1), (8, .if_icmp .eq 9, 3), (11, .aload_n 0, 1), (12, .iconst 1, 1), (13, .invokevirtual 120, 3), (16, .ireturn, 1), (17, .aload_n 0, 1), (18, .getfield 12, 3), (21, .invokevirtual 216, 3), (24, .istore_n 3, 1), (25, .iload_n 3, 1), (26, .iload_n 1, 1), (27, .if_icmp .lt 8, 3), (30, .iload_n 3, 1), (31, .iload_n 2, 1), (32, .if_icmp .le 9, 3), (35, .aload_n 0, 1), (36, .iconst 3, 1), (37, .invokevirtual 120, 3), (40, .ireturn, 1), (41, .aload_n 0, 1), (42, .iload_n 3, 1), (43, .putfield 49, 3), (46, .aload_n 0, 1), (47, .getfield 12, 3), (50, .invokevirtual 124, 3), (53, .iconst 1, 1), (54, .ireturn, 1)])
theorem gmX5_readNumber : GM mX5_readNumber := ⟨by decide +kernel, lw_gd_of (List.mem_of_getElem? (i := 1191) (by decide +kernel)) rfl, dk_of (by decide +kernel), ⟨by decide +kernel, by decide +kernel⟩, lw_gd_of (List.mem_of_getElem? (i := 36) (by decide +kernel)) rfl⟩
def mX5_readKnownPerson : MI := (yX5_readKnownPerson, cX5_readKnownPerson, 3, (some .boolean), 2, 44, [], [(0, .aload_n 0, 1), (1, .getfield 12, 3), (4, .getfield 63, 3), (7, .iconst 1, 1), (8, .if_icmp .eq 9, 3), (11, .aload_n 0, 1), (12, .iconst 1, 1), (13, .invokevirtual 120, 3), (16, .ireturn, 1), (17, .aload_n 0, 1), (18, .getfield 21, 3), (21, .aload_n 0, 1), (22, .getfield 12, 3), (25, .invokevirtual 130, 3), (28, .invokevirtual 134, 3), (31, .istore_n 2, 1), (32, .iload_n 2, 1), (33, .iconst (-1), 1), (34, .if_icmp .eq 8, 3), (37, .iload_n 2, 1), (38, .iload_n 1, 1), (39, .if_icmp .ne 9, 3), (42, .aload_n 0, 1), (43, .iconst 4, 1), (44, .invokevirtual 120, 3), (47, .ireturn, 1), (48, .aload_n 0, 1), (49, .iload_n 2, 1), (50, .putfield 52, 3), (53, .aload_n 0, 1), (54, .getfield 12, 3), (57, .invokevirtual 124, 3), (60, .iconst 1, 1), (61, .ireturn, 1)])
theorem gmX5_readKnownPerson : GM mX5_readKnownPerson := ⟨by decide +kernel, lw_gd_of (List.mem_of_getElem? (i := 1186) (by decide +kernel)) rfl, dk_of (by decide +kernel), ⟨by decide +kernel, by decide +kernel⟩, lw_gd_of (List.mem_of_getElem? (i := 36) (by decide +kernel)) rfl⟩
def mX6_init : MI := (yX6_init, cX6_init, 1, none, 1, 24, [], [(0, .aload_n 0, 1), (1, .invokespecial 3, 3), (4, .aload_n 0, 1), (5, .iconst 0, 1), (6, .putfield 9, 3), (9, .aload_n 0, 1), (10, .iconst 0, 1), (11, .putfield 15, 3), (14, .aload_n 0, 1), (15, .iconst 0, 1), (16, .putfield 18, 3), (19, .aload_n 0, 1), (20, .bipush 12, 2), (22, .newarray .int, 2), (24, .putfield 21, 3), (27, .aload_n 0, 1), (28, .bipush 12, 2), (30, .newarray .int, 2), (32, .putfield 25, 3), (35, .aload_n 0, 1), (36, .bipush 12, 2), (38, .newarray .int, 2), (40, .putfield 28, 3), (43, .return_, 1)])
theorem gmX6_init : GM mX6_init := ⟨by decide +kernel, lw_gd_of (List.mem_of_getElem? (i := 312) (by decide +kernel)) rfl, dk_of (by decide +kernel), ⟨by decide +kernel, by decide +kernel⟩, lw_gd_of (List.mem_of_getElem? (i := 43) (by decide +kernel)) rfl⟩
def mX6_bring : MI := (yX6_bring, cX6_bring, 3, none, 2, 48, [], [(0, .iconst 0, 1), (1, .istore_n 2, 1), (2, .iload_n 2, 1), (3, .bipush 12, 2), (5, .if_icmp .ge 20, 3), (8, .aload_n 0, 1), (9, .getfield 21, 3), (12, .iload_n 2, 1), (13, .aload_n 1, 1), (14, .iload_n 2, 1), (15, .invokevirtual 31, 3), (18, .iastore, 1), (19, .iinc 2 1, 3), (22, .goto (-20), 3), (25, .return_, 1)])
theorem gmX6_bring : GM mX6_bring := ⟨by decide +kernel, lw_gd_of (List.mem_of_getElem? (i := 507) (by decide +kernel)) rfl, dk_of (by decide +kernel), ⟨by decide +kernel, by decide +kernel⟩, lw_gd_of (List.mem_of_getElem? (i := 43) (by decide +kernel)) rfl⟩
def mX6_bringFurther : MI := (yX6_bringFurther, cX6_bringFurther, 3, none, 0, 0, [], [(0, .iload_n 1, 1), (1, .ifCond .lt 19, 3), (4, .iload_n 1, 1), (5, .bipush 12, 2), (7, .if_icmp .ge 13, 3), (10, .aload_n 0, 1), (11, .getfield 21, 3), (14, .iload_n 1, 1), (15, .dup2, 1), (16, .iaload, 1), (17, .iload_n 2, 1), (18, .iadd, 1), (19, .iastore, 1), (20, .return_, 1)])
theorem gmX6_bringFurther : GM mX6_bringFurther := ⟨by decide +kernel, lw_gd_of (List.mem_of_getElem? (i := 1469) (by decide +kernel)) rfl, dk_of (by decide +kernel), ⟨by decide +kernel, by decide +kernel⟩, lw_gd_of (List.mem_of_getElem? (i := 43) (by decide +kernel)) rfl⟩
def mX6_divide : MI := (yX6_divide, cX6_divide, 5, none, 3, 66, [], [(0, .aload_n 0, 1), (1, .iconst 0, 1), (2, .putfield 9, 3), (5, .aload_n 2, 1), (6, .getfield 37, 3), (9, .iconst 0, 1), (10, .aload_n 0, 1), (11, .getfield 25, 3), (14, .iconst 0, 1), (15, .bipush 12, 2), (17, .invokestatic 40, 3), (20, .aload_n 0, 1), (21, .iload_n 1, 1), (22, .invokevirtual 46, 3), (25, .aload_n 0, 1), (26, .invokevirtual 50, 3), (29, .istore_n 3, 1), (30, .iconst 0, 1), (31, .istore 4, 2), (33, .iload 4, 2), (35, .bipush 12, 2), (37, .if_icmp .ge 48, 3), (40, .iload_n 3, 1), (41, .ifCond .lt 44, 3), (44, .iload_n 3, 1), (45, .bipush 12, 2), (47, .if_icmp .ge 38, 3), (50, .aload_n 0, 1), (51, .dup, 1), (52, .getfield 9, 3), (55, .iconst 1, 1), (56, .iload_n 3, 1), (57, .ishl, 1), (58, .ior, 1), (59, .putfield 9, 3), (62, .aload_n 0, 1), (63, .getfield 25, 3), (66, .iload_n 3, 1), (67, .iconst 0, 1), (68, .iastore, 1), (69, .aload_n 0, 1), (70, .iload_n 1, 1), (71, .invokevirtual 46, 3), (74, .aload_n 0, 1), (75, .invokevirtual 50, 3), (78, .istore_n 3, 1), (79, .iinc 4 1, 3), (82, .goto (-49), 3), (85, .aload_n 0, 1), (86, .getfield 15, 3), (89, .aload_n 0, 1), (90, .getfield 25, 3), (93, .aload_n 0, 1), (94, .getfield 28, 3), (97, .invokestatic 54, 3), (100, .return_, 1)])
theorem gmX6_divide : GM mX6_divide := ⟨by decide +kernel, lw_gd_of (List.mem_of_getElem? (i := 519) (by decide +kernel)) rfl, dk_of (by decide +kernel), ⟨by decide +kernel, by decide +kernel⟩, lw_gd_of (List.mem_of_getElem? (i := 43) (by decide +kernel)) rfl⟩
def mX6_due : MI := (yX6_due, cX6_due, 2, (some .int), 1, 22, [], [(0, .aload_n 0, 1), (1, .iload_n 1, 1), (2, .invokevirtual 58, 3), (5, .ifCond .eq 23, 3), (8, .aload_n 0, 1), (9, .getfield 15, 3), (12, .aload_n 0, 1), (13, .getfield 25, 3), (16, .iload_n 1, 1), (17, .iaload, 1), (18, .aload_n 0, 1), (19, .getfield 18, 3), (22, .invokestatic 62, 3), (25, .goto 4, 3), (28, .iconst 0, 1), (29, .ireturn, 1)])
theorem gmX6_due : GM mX6_due := ⟨by decide +kernel, lw_gd_of (List.mem_of_getElem? (i := 539) (by decide +kernel)) rfl, dk_of (by decide +kernel), ⟨by decide +kernel, by decide +kernel⟩, lw_gd_of (List.mem_of_getElem? (i := 43) (by decide +kernel)) rfl⟩
def mX6_cent : MI := (yX6_cent, cX6_cent, 2, (some .int), 2, 43, [], [(0, .aload_n 0, 1), (1, .iload_n 1, 1), (2, .invokevirtual 58, 3), (5, .ifCond .eq 18, 3), (8, .aload_n 0, 1), (9, .getfield 28, 3), (12, .iload_n 1, 1), (13, .iaload, 1), (14, .aload_n 0, 1), (15, .iload_n 1, 1), (16, .invokevirtual 66, 3), (19, .isub, 1), (20, .goto 4, 3), (23, .iconst 0, 1), (24, .ireturn, 1)])
theorem gmX6_cent : GM mX6_cent := ⟨by decide +kernel, lw_gd_of (List.mem_of_getElem? (i := 1439) (by decide +kernel)) rfl, dk_of (by decide +kernel), ⟨by decide +kernel, by decide +kernel⟩, lw_gd_of (List.mem_of_getElem? (i := 43) (by decide +kernel)) rfl⟩
def mX6_fromFund : MI := (yX6_fromFund, cX6_fromFund, 2, (some .int), 1, 21, [], [(0, .aload_n 0, 1), (1, .iload_n 1, 1), (2, .invokevirtual 58, 3), (5, .ifCond .eq 19, 3), (8, .aload_n 0, 1), (9, .getfield 28, 3), (12, .iload_n 1, 1), (13, .iaload, 1), (14, .aload_n 0, 1), (15, .getfield 21, 3), (18, .iload_n 1, 1), (19, .iaload, 1), (20, .isub, 1), (21, .goto 4, 3), (24, .iconst 0, 1), (25, .ireturn, 1)])
theorem gmX6_fromFund : GM mX6_fromFund := ⟨by decide +kernel, lw_gd_of (List.mem_of_getElem? (i := 1367) (by decide +kernel)) rfl, dk_of (by decide +kernel), ⟨by decide +kernel, by decide +kernel⟩, lw_gd_of (List.mem_of_getElem? (i := 43) (by decide +kernel)) rfl⟩
def mX6_isInAccount : MI := (yX6_isInAccount, cX6_isInAccount, 2, (some .boolean), 0, 0, [], [(0, .iload_n 1, 1), (1, .ifCond .lt 22, 3), (4, .iload_n 1, 1), (5, .bipush 12, 2), (7, .if_icmp .ge 16, 3), (10, .aload_n 0, 1), (11, .getfield 25, 3), (14, .iload_n 1, 1), (15, .iaload, 1), (16, .ifCond .le 7, 3), (19, .iconst 1, 1), (20, .goto 4, 3), (23, .iconst 0, 1), (24, .ireturn, 1)])
theorem gmX6_isInAccount : GM mX6_isInAccount := ⟨by decide +kernel, lw_gd_of (List.mem_of_getElem? (i := 531) (by decide +kernel)) rfl, dk_of (by decide +kernel), ⟨by decide +kernel, by decide +kernel⟩, lw_gd_of (List.mem_of_getElem? (i := 43) (by decide +kernel)) rfl⟩
def mX6_reckon : MI := (yX6_reckon, cX6_reckon, 3, none, 1, 22, [], [(0, .aload_n 0, 1), (1, .iload_n 1, 1), (2, .putfield 15, 3), (5, .aload_n 0, 1), (6, .aload_n 0, 1), (7, .getfield 25, 3), (10, .invokestatic 69, 3), (13, .putfield 18, 3), (16, .iconst 0, 1), (17, .istore_n 2, 1), (18, .iload_n 2, 1), (19, .bipush 12, 2), (21, .if_icmp .ge 32, 3), (24, .aload_n 0, 1), (25, .iload_n 2, 1), (26, .invokevirtual 58, 3), (29, .ifCond .eq 18, 3), (32, .aload_n 0, 1), (33, .dup, 1), (34, .getfield 15, 3), (37, .aload_n 0, 1), (38, .getfield 21, 3), (41, .iload_n 2, 1), (42, .iaload, 1), (43, .iadd, 1), (44, .putfield 15, 3), (47, .iinc 2 1, 3), (50, .goto (-32), 3), (53, .return_, 1)])
theorem gmX6_reckon : GM mX6_reckon := ⟨by decide +kernel, lw_gd_of (List.mem_of_getElem? (i := 526) (by decide +kernel)) rfl, dk_of (by decide +kernel), ⟨by decide +kernel, by decide +kernel⟩, lw_gd_of (List.mem_of_getElem? (i := 43) (by decide +kernel)) rfl⟩
def mX6_findOverpaid : MI := (yX6_findOverpaid, cX6_findOverpaid, 4, (some .int), 2, 43, [], [(0, .iconst (-1), 1), (1, .istore_n 1, 1), (2, .iconst 0, 1), (3, .istore_n 2, 1), (4, .iconst 0, 1), (5, .istore_n 3, 1), (6, .iload_n 3, 1), (7, .bipush 12, 2), (9, .if_icmp .ge 48, 3), (12, .aload_n 0, 1), (13, .iload_n 3, 1), (14, .invokevirtual 58, 3), (17, .ifCond .eq 34, 3), (20, .aload_n 0, 1), (21, .getfield 21, 3), (24, .iload_n 3, 1), (25, .iaload, 1), (26, .aload_n 0, 1), (27, .iload_n 3, 1), (28, .invokevirtual 66, 3), (31, .isub, 1), (32, .iload_n 2, 1), (33, .if_icmp .le 18, 3), (36, .iload_n 3, 1), (37, .istore_n 1, 1), (38, .aload_n 0, 1), (39, .getfield 21, 3), (42, .iload_n 3, 1), (43, .iaload, 1), (44, .aload_n 0, 1), (45, .iload_n 3, 1), (46, .invokevirtual 66, 3), (49, .isub, 1), (50, .istore_n 2, 1), (51, .iinc 3 1, 3), (54, .goto (-48), 3), (57, .iload_n 1, 1), (58, .ireturn, 1)])
theorem gmX6_findOverpaid : GM mX6_findOverpaid := ⟨by decide +kernel, lw_gd_of (List.mem_of_getElem? (i := 535) (by decide +kernel)) rfl, dk_of (by decide +kernel), ⟨by decide +kernel, by decide +kernel⟩, lw_gd_of (List.mem_of_getElem? (i := 43) (by decide +kernel)) rfl⟩
def mX7_init : MI := (yX7_init, cX7_init, 1, none, 2, 44, [], [(0, .aload_n 0, 1), (1, .invokespecial 3, 3), (4, .aload_n 0, 1), (5, .new 9, 3), (8, .dup, 1), (9, .invokespecial 11, 3), (12, .putfield 12, 3), (15, .aload_n 0, 1), (16, .new 18, 3), (19, .dup, 1), (20, .invokespecial 20, 3), (23, .putfield 21, 3), (26, .aload_n 0, 1), (27, .new 25, 3), (30, .dup, 1), (31, .invokespecial 27, 3), (34, .putfield 28, 3), (37, .aload_n 0, 1), (38, .iconst 0, 1), (39, .putfield 32, 3), (42, .aload_n 0, 1), (43, .iconst 0, 1), (44, .putfield 36, 3), (47, .aload_n 0, 1), (48, .iconst 0, 1), (49, .putfield 39, 3), (52, .aload_n 0, 1), (53, .iconst 0, 1), (54, .putfield 42, 3), (57, .aload_n 0, 1), (58, .iconst 0, 1), (59, .putfield 45, 3), (62, .return_, 1)])
theorem gmX7_init : GM mX7_init := ⟨by decide +kernel, lw_gd_of (List.mem_of_getElem? (i := 235) (by decide +kernel)) rfl, dk_of (by decide +kernel), ⟨by decide +kernel, by decide +kernel⟩, lw_gd_of (List.mem_of_getElem? (i := 40) (by decide +kernel)) rfl⟩
def mX7_lifeFactor : MI := (yX7_lifeFactor, cX7_lifeFactor, 1, (some .int), 1, 60, [], [(0, .bipush 10, 2), (2, .bipush 90, 2), (4, .bipush 100, 2), (6, .iload_n 0, 1), (7, .bipush 10, 2), (9, .idiv, 1), (10, .bipush 10, 2), (12, .imul, 1), (13, .isub, 1), (14, .invokestatic 48, 3), (17, .invokestatic 54, 3), (20, .ireturn, 1)])
theorem gmX7_lifeFactor : GM mX7_lifeFactor := ⟨by decide +kernel, lw_gd_of (List.mem_of_getElem? (i := 499) (by decide +kernel)) rfl, dk_of (by decide +kernel), ⟨by decide +kernel, by decide +kernel⟩, lw_gd_of (List.mem_of_getElem? (i := 40) (by decide +kernel)) rfl⟩
def mX7_settle : MI := (yX7_settle, cX7_settle, 3, none, 4, 104, [], [(0, .aload_n 0, 1), (1, .getfield 12, 3), (4, .aload_n 1, 1), (5, .aload_n 2, 1), (6, .invokevirtual 57, 3), (9, .aload_n 0, 1), (10, .getfield 12, 3), (13, .aload_n 2, 1), (14, .invokevirtual 61, 3), (17, .aload_n 0, 1), (18, .getfield 12, 3), (21, .aload_n 1, 1), (22, .aload_n 2, 1), (23, .invokevirtual 65, 3), (26, .aload_n 0, 1), (27, .getfield 21, 3), (30, .aload_n 1, 1), (31, .aload_n 2, 1), (32, .invokevirtual 68, 3), (35, .aload_n 0, 1), (36, .getfield 21, 3), (39, .aload_n 1, 1), (40, .aload_n 2, 1), (41, .invokevirtual 71, 3), (44, .aload_n 0, 1), (45, .getfield 21, 3), (48, .invokevirtual 74, 3), (51, .aload_n 0, 1), (52, .aload_n 1, 1), (53, .aload_n 2, 1), (54, .invokevirtual 77, 3), (57, .aload_n 0, 1), (58, .getfield 28, 3), (61, .aload_n 2, 1), (62, .invokevirtual 80, 3), (65, .aload_n 0, 1), (66, .getfield 28, 3), (69, .aload_n 0, 1), (70, .getfield 42, 3), (73, .aload_n 0, 1), (74, .getfield 21, 3), (77, .invokevirtual 83, 3), (80, .return_, 1)])
theorem gmX7_settle : GM mX7_settle := ⟨by decide +kernel, lw_gd_of (List.mem_of_getElem? (i := 391) (by decide +kernel)) rfl, dk_of (by decide +kernel), ⟨by decide +kernel, by decide +kernel⟩, lw_gd_of (List.mem_of_getElem? (i := 40) (by decide +kernel)) rfl⟩
def mX7_givenTo : MI := (yX7_givenTo, cX7_givenTo, 5, (some .int), 2, 42, [], [(0, .aload_n 0, 1), (1, .getfield 28, 3), (4, .iload_n 2, 1), (5, .invokevirtual 87, 3), (8, .istore_n 3, 1), (9, .iconst 0, 1), (10, .istore 4, 2), (12, .iload 4, 2), (14, .aload_n 1, 1), (15, .getfield 91, 3), (18, .if_icmp .ge 37, 3), (21, .aload_n 1, 1), (22, .getfield 96, 3), (25, .iload 4, 2), (27, .invokestatic 100, 3), (30, .iload_n 2, 1), (31, .if_icmp .ne 18, 3), (34, .iload_n 3, 1), (35, .aload_n 0, 1), (36, .getfield 12, 3), (39, .getfield 104, 3), (42, .iload 4, 2), (44, .invokestatic 100, 3), (47, .iadd, 1), (48, .istore_n 3, 1), (49, .iinc 4 1, 3), (52, .goto (-40), 3), (55, .iload_n 2, 1), (56, .aload_n 1, 1), (57, .getfield 107, 3), (60, .if_icmp .ne 17, 3), (63, .iload_n 3, 1), (64, .aload_n 0, 1), (65, .getfield 32, 3), (68, .iadd, 1), (69, .aload_n 0, 1), (70, .getfield 39, 3), (73, .iadd, 1), (74, .goto 4, 3), (77, .iload_n 3, 1), (78, .ireturn, 1)])
theorem gmX7_givenTo : GM mX7_givenTo := ⟨by decide +kernel, lw_gd_of (List.mem_of_getElem? (i := 1363) (by decide +kernel)) rfl, dk_of (by decide +kernel), ⟨by decide +kernel, by decide +kernel⟩, lw_gd_of (List.mem_of_getElem? (i := 40) (by decide +kernel)) rfl⟩
def mX7_divideResidue : MI := (yX7_divideResidue, cX7_divideResidue, 5, none, 2, 80, [], [(0, .aload_n 1, 1), (1, .getfield 107, 3), (4, .iconst (-1), 1), (5, .if_icmp .eq 18, 3), (8, .aload_n 2, 1), (9, .aload_n 1, 1), (10, .getfield 107, 3), (13, .invokevirtual 110, 3), (16, .ifCond .eq 7, 3), (19, .iconst 1, 1), (20, .goto 4, 3), (23, .iconst 0, 1), (24, .istore_n 3, 1), (25, .aload_n 0, 1), (26, .getfield 12, 3), (29, .getfield 116, 3), (32, .istore 4, 2), (34, .aload_n 0, 1), (35, .iconst 0, 1), (36, .putfield 32, 3), (39, .aload_n 0, 1), (40, .iconst 0, 1), (41, .putfield 36, 3), (44, .aload_n 0, 1), (45, .iconst 0, 1), (46, .putfield 39, 3), (49, .aload_n 0, 1), (50, .iconst 0, 1), (51, .putfield 42, 3), (54, .aload_n 0, 1), (55, .iconst 0, 1), (56, .putfield 45, 3), (59, .aload_n 0, 1), (60, .getfield 21, 3), (63, .getfield 119, 3), (66, .ifCond .ne 29, 3), (69, .aload_n 0, 1), (70, .iload_n 3, 1), (71, .ifCond .eq 8, 3), (74, .iload 4, 2), (76, .goto 4, 3), (79, .iconst 0, 1), (80, .putfield 32, 3), (83, .aload_n 0, 1), (84, .iload 4, 2), (86, .aload_n 0, 1), (87, .getfield 32, 3), (90, .isub, 1), (91, .putfield 45, 3), (94, .return_, 1), (95, .iload_n 3, 1), (96, .ifCond .eq 64, 3), (99, .aload_n 0, 1), (100, .iload 4, 2), (102, .aload_n 1, 1), (103, .getfield 122, 3), (106, .aload_n 1, 1), (107, .getfield 125, 3), (110, .invokestatic 128, 3), (113, .putfield 32, 3), (116, .aload_n 0, 1), (117, .iload 4, 2), (119, .aload_n 0, 1), (120, .getfield 32, 3), (123, .isub, 1), (124, .aload_n 1, 1), (125, .getfield 132, 3), (128, .bipush 100, 2), (130, .invokestatic 128, 3), (133, .putfield 36, 3), (136, .aload_n 0, 1), (137, .aload_n 0, 1), (138, .getfield 36, 3), (141, .aload_n 2, 1), (142, .aload_n 1, 1), (143, .getfield 107, 3), (146, .invokevirtual 135, 3), (149, .invokestatic 138, 3), (152, .bipush 100, 2), (154, .invokestatic 128, 3), (157, .putfield 39, 3), (160, .aload_n 0, 1), (161, .iload 4, 2), (163, .aload_n 0, 1), (164, .getfield 32, 3), (167, .isub, 1), (168, .aload_n 0, 1), (169, .getfield 39, 3), (172, .isub, 1), (173, .putfield 42, 3), (176, .return_, 1)])
theorem gmX7_divideResidue : GM mX7_divideResidue := ⟨by decide +kernel, lw_gd_of (List.mem_of_getElem? (i := 490) (by decide +kernel)) rfl, dk_of (by decide +kernel), ⟨by decide +kernel, by decide +kernel⟩, lw_gd_of (List.mem_of_getElem? (i := 40) (by decide +kernel)) rfl⟩
def mX8_init : MI := (yX8_init, cX8_init, 1, none, 1, 24, [], [(0, .aload_n 0, 1), (1, .invokespecial 5, 3), (4, .aload_n 0, 1), (5, .bipush 79, 2), (7, .newarray .int, 2), (9, .putfield 11, 3), (12, .aload_n 0, 1), (13, .getfield 11, 3), (16, .bipush 78, 2), (18, .iconst 1, 1), (19, .iastore, 1), (20, .return_, 1)])
theorem gmX8_init : GM mX8_init := ⟨by decide +kernel, lw_gd_of (List.mem_of_getElem? (i := 186) (by decide +kernel)) rfl, dk_of (by decide +kernel), ⟨by decide +kernel, by decide +kernel⟩, lw_gd_of (List.mem_of_getElem? (i := 39) (by decide +kernel)) rfl⟩
def mX8_clear : MI := (yX8_clear, cX8_clear, 2, none, 0, 0, [], [(0, .iconst 0, 1), (1, .istore_n 1, 1), (2, .iload_n 1, 1), (3, .aload_n 0, 1), (4, .getfield 11, 3), (7, .arraylength, 1), (8, .if_icmp .ge 16, 3), (11, .aload_n 0, 1), (12, .getfield 11, 3), (15, .iload_n 1, 1), (16, .iconst 0, 1), (17, .iastore, 1), (18, .iinc 1 1, 3), (21, .goto (-19), 3), (24, .aload_n 0, 1), (25, .getfield 11, 3), (28, .bipush 78, 2), (30, .iconst 1, 1), (31, .iastore, 1), (32, .return_, 1)])
theorem gmX8_clear : GM mX8_clear := ⟨by decide +kernel, lw_gd_of (List.mem_of_getElem? (i := 1136) (by decide +kernel)) rfl, dk_of (by decide +kernel), ⟨by decide +kernel, by decide +kernel⟩, lw_gd_of (List.mem_of_getElem? (i := 39) (by decide +kernel)) rfl⟩
def mX8_copy : MI := (yX8_copy, cX8_copy, 2, none, 1, 60, [], [(0, .aload_n 1, 1), (1, .getfield 11, 3), (4, .iconst 0, 1), (5, .aload_n 0, 1), (6, .getfield 11, 3), (9, .iconst 0, 1), (10, .bipush 79, 2), (12, .invokestatic 15, 3), (15, .return_, 1)])
theorem gmX8_copy : GM mX8_copy := ⟨by decide +kernel, lw_gd_of (List.mem_of_getElem? (i := 1303) (by decide +kernel)) rfl, dk_of (by decide +kernel), ⟨by decide +kernel, by decide +kernel⟩, lw_gd_of (List.mem_of_getElem? (i := 39) (by decide +kernel)) rfl⟩
def mX8_writeTo : MI := (yX8_writeTo, cX8_writeTo, 3, none, 1, 60, [], [(0, .iload_n 2, 1), (1, .ifCond .lt 27, 3), (4, .iload_n 2, 1), (5, .aload_n 1, 1), (6, .arraylength, 1), (7, .bipush 79, 2), (9, .idiv, 1), (10, .if_icmp .ge 18, 3), (13, .aload_n 0, 1), (14, .getfield 11, 3), (17, .iconst 0, 1), (18, .aload_n 1, 1), (19, .iload_n 2, 1), (20, .bipush 79, 2), (22, .imul, 1), (23, .bipush 79, 2), (25, .invokestatic 15, 3), (28, .return_, 1)])
theorem gmX8_writeTo : GM mX8_writeTo := ⟨by decide +kernel, lw_gd_of (List.mem_of_getElem? (i := 1494) (by decide +kernel)) rfl, dk_of (by decide +kernel), ⟨by decide +kernel, by decide +kernel⟩, lw_gd_of (List.mem_of_getElem? (i := 39) (by decide +kernel)) rfl⟩
def mX8_age : MI := (yX8_age, cX8_age, 2, (some .int), 1, 25, [], [(0, .aload_n 0, 1), (1, .iconst 0, 1), (2, .iload_n 1, 1), (3, .bipush 12, 2), (5, .invokevirtual 21, 3), (8, .ireturn, 1)])
theorem gmX8_age : GM mX8_age := ⟨by decide +kernel, lw_gd_of (List.mem_of_getElem? (i := 496) (by decide +kernel)) rfl, dk_of (by decide +kernel), ⟨by decide +kernel, by decide +kernel⟩, lw_gd_of (List.mem_of_getElem? (i := 39) (by decide +kernel)) rfl⟩
def mX8_isDead : MI := (yX8_isDead, cX8_isDead, 2, (some .boolean), 1, 25, [], [(0, .aload_n 0, 1), (1, .bipush 12, 2), (3, .iload_n 1, 1), (4, .bipush 12, 2), (6, .invokevirtual 21, 3), (9, .ifCond .eq 7, 3), (12, .iconst 1, 1), (13, .goto 4, 3), (16, .iconst 0, 1), (17, .ireturn, 1)])
theorem gmX8_isDead : GM mX8_isDead := ⟨by decide +kernel, lw_gd_of (List.mem_of_getElem? (i := 1420) (by decide +kernel)) rfl, dk_of (by decide +kernel), ⟨by decide +kernel, by decide +kernel⟩, lw_gd_of (List.mem_of_getElem? (i := 39) (by decide +kernel)) rfl⟩
def mX8_isRefusing : MI := (yX8_isRefusing, cX8_isRefusing, 2, (some .boolean), 1, 25, [], [(0, .aload_n 0, 1), (1, .bipush 24, 2), (3, .iload_n 1, 1), (4, .bipush 12, 2), (6, .invokevirtual 21, 3), (9, .ifCond .eq 7, 3), (12, .iconst 1, 1), (13, .goto 4, 3), (16, .iconst 0, 1), (17, .ireturn, 1)])
theorem gmX8_isRefusing : GM mX8_isRefusing := ⟨by decide +kernel, lw_gd_of (List.mem_of_getElem? (i := 1424) (by decide +kernel)) rfl, dk_of (by decide +kernel), ⟨by decide +kernel, by decide +kernel⟩, lw_gd_of (List.mem_of_getElem? (i := 39) (by decide +kernel)) rfl⟩
def mX8_takes : MI := (yX8_takes, cX8_takes, 2, (some .boolean), 1, 25, [], [(0, .aload_n 0, 1), (1, .bipush 12, 2), (3, .iload_n 1, 1), (4, .bipush 12, 2), (6, .invokevirtual 21, 3), (9, .ifCond .ne 19, 3), (12, .aload_n 0, 1), (13, .bipush 24, 2), (15, .iload_n 1, 1), (16, .bipush 12, 2), (18, .invokevirtual 21, 3), (21, .ifCond .ne 7, 3), (24, .iconst 1, 1), (25, .goto 4, 3), (28, .iconst 0, 1), (29, .ireturn, 1)])
theorem gmX8_takes : GM mX8_takes := ⟨by decide +kernel, lw_gd_of (List.mem_of_getElem? (i := 451) (by decide +kernel)) rfl, dk_of (by decide +kernel), ⟨by decide +kernel, by decide +kernel⟩, lw_gd_of (List.mem_of_getElem? (i := 39) (by decide +kernel)) rfl⟩
def mX8_passesOn : MI := (yX8_passesOn, cX8_passesOn, 2, (some .boolean), 1, 25, [], [(0, .aload_n 0, 1), (1, .bipush 12, 2), (3, .iload_n 1, 1), (4, .bipush 12, 2), (6, .invokevirtual 21, 3), (9, .ifCond .ne 25, 3), (12, .aload_n 0, 1), (13, .bipush 24, 2), (15, .iload_n 1, 1), (16, .bipush 12, 2), (18, .invokevirtual 21, 3), (21, .ifCond .eq 17, 3), (24, .aload_n 0, 1), (25, .getfield 11, 3), (28, .bipush 78, 2), (30, .iaload, 1), (31, .ifCond .eq 7, 3), (34, .iconst 1, 1), (35, .goto 4, 3), (38, .iconst 0, 1), (39, .ireturn, 1)])
theorem gmX8_passesOn : GM mX8_passesOn := ⟨by decide +kernel, lw_gd_of (List.mem_of_getElem? (i := 460) (by decide +kernel)) rfl, dk_of (by decide +kernel), ⟨by decide +kernel, by decide +kernel⟩, lw_gd_of (List.mem_of_getElem? (i := 39) (by decide +kernel)) rfl⟩
def mX8_accruesInLine : MI := (yX8_accruesInLine, cX8_accruesInLine, 1, (some .boolean), 0, 0, [], [(0, .aload_n 0, 1), (1, .getfield 11, 3), (4, .bipush 78, 2), (6, .iaload, 1), (7, .ifCond .eq 7, 3), (10, .iconst 1, 1), (11, .goto 4, 3), (14, .iconst 0, 1), (15, .ireturn, 1)])
theorem gmX8_accruesInLine : GM mX8_accruesInLine := ⟨by decide +kernel, lw_gd_of (List.mem_of_getElem? (i := 1377) (by decide +kernel)) rfl, dk_of (by decide +kernel), ⟨by decide +kernel, by decide +kernel⟩, lw_gd_of (List.mem_of_getElem? (i := 39) (by decide +kernel)) rfl⟩
def mX8_value : MI := (yX8_value, cX8_value, 2, (some .int), 1, 25, [], [(0, .aload_n 0, 1), (1, .bipush 36, 2), (3, .iload_n 1, 1), (4, .bipush 8, 2), (6, .invokevirtual 21, 3), (9, .ireturn, 1)])
theorem gmX8_value : GM mX8_value := ⟨by decide +kernel, lw_gd_of (List.mem_of_getElem? (i := 402) (by decide +kernel)) rfl, dk_of (by decide +kernel), ⟨by decide +kernel, by decide +kernel⟩, lw_gd_of (List.mem_of_getElem? (i := 39) (by decide +kernel)) rfl⟩
def mX8_giftCount : MI := (yX8_giftCount, cX8_giftCount, 1, (some .int), 0, 0, [], [(0, .aload_n 0, 1), (1, .getfield 11, 3), (4, .bipush 44, 2), (6, .iaload, 1), (7, .ireturn, 1)])
theorem gmX8_giftCount : GM mX8_giftCount := ⟨by decide +kernel, lw_gd_of (List.mem_of_getElem? (i := 515) (by decide +kernel)) rfl, dk_of (by decide +kernel), ⟨by decide +kernel, by decide +kernel⟩, lw_gd_of (List.mem_of_getElem? (i := 39) (by decide +kernel)) rfl⟩
def mX8_giftsTo : MI := (yX8_giftsTo, cX8_giftsTo, 4, (some .int), 1, 25, [], [(0, .iconst 0, 1), (1, .istore_n 2, 1), (2, .iconst 0, 1), (3, .istore_n 3, 1), (4, .iload_n 3, 1), (5, .aload_n 0, 1), (6, .invokevirtual 25, 3), (9, .if_icmp .ge 34, 3), (12, .aload_n 0, 1), (13, .bipush 45, 2), (15, .iload_n 3, 1), (16, .bipush 8, 2), (18, .invokevirtual 21, 3), (21, .iload_n 1, 1), (22, .if_icmp .ne 15, 3), (25, .iload_n 2, 1), (26, .aload_n 0, 1), (27, .bipush 53, 2), (29, .iload_n 3, 1), (30, .bipush 8, 2), (32, .invokevirtual 21, 3), (35, .iadd, 1), (36, .istore_n 2, 1), (37, .iinc 3 1, 3), (40, .goto (-36), 3), (43, .iload_n 2, 1), (44, .ireturn, 1)])
theorem gmX8_giftsTo : GM mX8_giftsTo := ⟨by decide +kernel, lw_gd_of (List.mem_of_getElem? (i := 511) (by decide +kernel)) rfl, dk_of (by decide +kernel), ⟨by decide +kernel, by decide +kernel⟩, lw_gd_of (List.mem_of_getElem? (i := 39) (by decide +kernel)) rfl⟩
def mX8_debtCount : MI := (yX8_debtCount, cX8_debtCount, 1, (some .int), 0, 0, [], [(0, .aload_n 0, 1), (1, .getfield 11, 3), (4, .bipush 61, 2), (6, .iaload, 1), (7, .ireturn, 1)])
theorem gmX8_debtCount : GM mX8_debtCount := ⟨by decide +kernel, lw_gd_of (List.mem_of_getElem? (i := 424) (by decide +kernel)) rfl, dk_of (by decide +kernel), ⟨by decide +kernel, by decide +kernel⟩, lw_gd_of (List.mem_of_getElem? (i := 39) (by decide +kernel)) rfl⟩
def mX8_debtRank : MI := (yX8_debtRank, cX8_debtRank, 2, (some .int), 1, 25, [], [(0, .aload_n 0, 1), (1, .bipush 62, 2), (3, .iload_n 1, 1), (4, .bipush 8, 2), (6, .invokevirtual 21, 3), (9, .ireturn, 1)])
theorem gmX8_debtRank : GM mX8_debtRank := ⟨by decide +kernel, lw_gd_of (List.mem_of_getElem? (i := 428) (by decide +kernel)) rfl, dk_of (by decide +kernel), ⟨by decide +kernel, by decide +kernel⟩, lw_gd_of (List.mem_of_getElem? (i := 39) (by decide +kernel)) rfl⟩
def mX8_debtAmount : MI := (yX8_debtAmount, cX8_debtAmount, 2, (some .int), 1, 25, [], [(0, .aload_n 0, 1), (1, .bipush 70, 2), (3, .iload_n 1, 1), (4, .bipush 8, 2), (6, .invokevirtual 21, 3), (9, .ireturn, 1)])
theorem gmX8_debtAmount : GM mX8_debtAmount := ⟨by decide +kernel, lw_gd_of (List.mem_of_getElem? (i := 432) (by decide +kernel)) rfl, dk_of (by decide +kernel), ⟨by decide +kernel, by decide +kernel⟩, lw_gd_of (List.mem_of_getElem? (i := 39) (by decide +kernel)) rfl⟩
def mX8_putAge : MI := (yX8_putAge, cX8_putAge, 3, none, 1, 25, [], [(0, .aload_n 0, 1), (1, .iconst 0, 1), (2, .iload_n 1, 1), (3, .bipush 12, 2), (5, .iload_n 2, 1), (6, .invokevirtual 29, 3), (9, .return_, 1)])
theorem gmX8_putAge : GM mX8_putAge := ⟨by decide +kernel, lw_gd_of (List.mem_of_getElem? (i := 1203) (by decide +kernel)) rfl, dk_of (by decide +kernel), ⟨by decide +kernel, by decide +kernel⟩, lw_gd_of (List.mem_of_getElem? (i := 39) (by decide +kernel)) rfl⟩
def mX8_putDead : MI := (yX8_putDead, cX8_putDead, 2, none, 1, 25, [], [(0, .aload_n 0, 1), (1, .bipush 12, 2), (3, .iload_n 1, 1), (4, .bipush 12, 2), (6, .iconst 1, 1), (7, .invokevirtual 29, 3), (10, .return_, 1)])
theorem gmX8_putDead : GM mX8_putDead := ⟨by decide +kernel, lw_gd_of (List.mem_of_getElem? (i := 1216) (by decide +kernel)) rfl, dk_of (by decide +kernel), ⟨by decide +kernel, by decide +kernel⟩, lw_gd_of (List.mem_of_getElem? (i := 39) (by decide +kernel)) rfl⟩
def mX8_putRefusing : MI := (yX8_putRefusing, cX8_putRefusing, 3, none, 1, 25, [], [(0, .aload_n 0, 1), (1, .bipush 24, 2), (3, .iload_n 1, 1), (4, .bipush 12, 2), (6, .iload_n 2, 1), (7, .invokestatic 33, 3), (10, .invokevirtual 29, 3), (13, .return_, 1)])
theorem gmX8_putRefusing : GM mX8_putRefusing := ⟨by decide +kernel, lw_gd_of (List.mem_of_getElem? (i := 1455) (by decide +kernel)) rfl, dk_of (by decide +kernel), ⟨by decide +kernel, by decide +kernel⟩, lw_gd_of (List.mem_of_getElem? (i := 39) (by decide +kernel)) rfl⟩
def mX8_putAccrual : MI := (yX8_putAccrual, cX8_putAccrual, 2, none, 1, 20, [], [(0, .aload_n 0, 1), (1, .getfield 11, 3), (4, .bipush 78, 2), (6, .iload_n 1, 1), (7, .invokestatic 33, 3), (10, .iastore, 1), (11, .return_, 1)])
theorem gmX8_putAccrual : GM mX8_putAccrual := ⟨by decide +kernel, lw_gd_of (List.mem_of_getElem? (i := 1283) (by decide +kernel)) rfl, dk_of (by decide +kernel), ⟨by decide +kernel, by decide +kernel⟩, lw_gd_of (List.mem_of_getElem? (i := 39) (by decide +kernel)) rfl⟩
def mX8_putValue : MI := (yX8_putValue, cX8_putValue, 3, none, 1, 25, [], [(0, .aload_n 0, 1), (1, .bipush 36, 2), (3, .iload_n 1, 1), (4, .bipush 8, 2), (6, .iload_n 2, 1), (7, .invokevirtual 29, 3), (10, .return_, 1)])
theorem gmX8_putValue : GM mX8_putValue := ⟨by decide +kernel, lw_gd_of (List.mem_of_getElem? (i := 1228) (by decide +kernel)) rfl, dk_of (by decide +kernel), ⟨by decide +kernel, by decide +kernel⟩, lw_gd_of (List.mem_of_getElem? (i := 39) (by decide +kernel)) rfl⟩
def mX8_putGift : MI := (yX8_putGift, cX8_putGift, 4, none, 1, 25, [], [(0, .aload_n 0, 1), (1, .invokevirtual 25, 3), (4, .istore_n 3, 1), (5, .iload_n 3, 1), (6, .bipush 8, 2), (8, .if_icmp .ge 33, 3), (11, .aload_n 0, 1), (12, .bipush 45, 2), (14, .iload_n 3, 1), (15, .bipush 8, 2), (17, .iload_n 1, 1), (18, .invokevirtual 29, 3), (21, .aload_n 0, 1), (22, .bipush 53, 2), (24, .iload_n 3, 1), (25, .bipush 8, 2), (27, .iload_n 2, 1), (28, .invokevirtual 29, 3), (31, .aload_n 0, 1), (32, .getfield 11, 3), (35, .bipush 44, 2), (37, .iload_n 3, 1), (38, .iconst 1, 1), (39, .iadd, 1), (40, .iastore, 1), (41, .return_, 1)])
theorem gmX8_putGift : GM mX8_putGift := ⟨by decide +kernel, lw_gd_of (List.mem_of_getElem? (i := 1253) (by decide +kernel)) rfl, dk_of (by decide +kernel), ⟨by decide +kernel, by decide +kernel⟩, lw_gd_of (List.mem_of_getElem? (i := 39) (by decide +kernel)) rfl⟩
def mX8_putDebt : MI := (yX8_putDebt, cX8_putDebt, 4, none, 1, 25, [], [(0, .aload_n 0, 1), (1, .invokevirtual 37, 3), (4, .istore_n 3, 1), (5, .iload_n 3, 1), (6, .bipush 8, 2), (8, .if_icmp .ge 33, 3), (11, .aload_n 0, 1), (12, .bipush 62, 2), (14, .iload_n 3, 1), (15, .bipush 8, 2), (17, .iload_n 1, 1), (18, .invokevirtual 29, 3), (21, .aload_n 0, 1), (22, .bipush 70, 2), (24, .iload_n 3, 1), (25, .bipush 8, 2), (27, .iload_n 2, 1), (28, .invokevirtual 29, 3), (31, .aload_n 0, 1), (32, .getfield 11, 3), (35, .bipush 61, 2), (37, .iload_n 3, 1), (38, .iconst 1, 1), (39, .iadd, 1), (40, .iastore, 1), (41, .return_, 1)])
theorem gmX8_putDebt : GM mX8_putDebt := ⟨by decide +kernel, lw_gd_of (List.mem_of_getElem? (i := 1242) (by decide +kernel)) rfl, dk_of (by decide +kernel), ⟨by decide +kernel, by decide +kernel⟩, lw_gd_of (List.mem_of_getElem? (i := 39) (by decide +kernel)) rfl⟩
def mX8_cell : MI := (yX8_cell, cX8_cell, 6, (some .int), 0, 0, [], [(0, .iload_n 1, 1), (1, .iload_n 2, 1), (2, .iadd, 1), (3, .istore 4, 2), (5, .iload_n 2, 1), (6, .ifCond .lt 27, 3), (9, .iload_n 2, 1), (10, .iload_n 3, 1), (11, .if_icmp .ge 22, 3), (14, .iload 4, 2), (16, .ifCond .lt 17, 3), (19, .iload 4, 2), (21, .aload_n 0, 1), (22, .getfield 11, 3), (25, .arraylength, 1), (26, .if_icmp .ge 7, 3), (29, .iconst 1, 1), (30, .goto 4, 3), (33, .iconst 0, 1), (34, .istore 5, 2), (36, .iload 5, 2), (38, .ifCond .eq 13, 3), (41, .aload_n 0, 1), (42, .getfield 11, 3), (45, .iload 4, 2), (47, .iaload, 1), (48, .goto 4, 3), (51, .iconst 0, 1), (52, .ireturn, 1)])
theorem gmX8_cell : GM mX8_cell := ⟨by decide +kernel, lw_gd_of (List.mem_of_getElem? (i := 406) (by decide +kernel)) rfl, dk_of (by decide +kernel), ⟨by decide +kernel, by decide +kernel⟩, lw_gd_of (List.mem_of_getElem? (i := 39) (by decide +kernel)) rfl⟩
def mX8_putCell : MI := (yX8_putCell, cX8_putCell, 6, none, 0, 0, [], [(0, .iload_n 1, 1), (1, .iload_n 2, 1), (2, .iadd, 1), (3, .istore 5, 2), (5, .iload_n 2, 1), (6, .ifCond .lt 32, 3), (9, .iload_n 2, 1), (10, .iload_n 3, 1), (11, .if_icmp .ge 27, 3), (14, .iload 5, 2), (16, .ifCond .lt 22, 3), (19, .iload 5, 2), (21, .aload_n 0, 1), (22, .getfield 11, 3), (25, .arraylength, 1), (26, .if_icmp .ge 12, 3), (29, .aload_n 0, 1), (30, .getfield 11, 3), (33, .iload 5, 2), (35, .iload 4, 2), (37, .iastore, 1), (38, .return_, 1)])
theorem gmX8_putCell : GM mX8_putCell := ⟨by decide +kernel, lw_gd_of (List.mem_of_getElem? (i := 1207) (by decide +kernel)) rfl, dk_of (by decide +kernel), ⟨by decide +kernel, by decide +kernel⟩, lw_gd_of (List.mem_of_getElem? (i := 39) (by decide +kernel)) rfl⟩
def mX9_init : MI := (yX9_init, cX9_init, 1, none, 5, 126, [], [(0, .aload_n 0, 1), (1, .invokespecial 1, 3), (4, .aload_n 0, 1), (5, .new 7, 3), (8, .dup, 1), (9, .invokespecial 9, 3), (12, .putfield 10, 3), (15, .aload_n 0, 1), (16, .new 16, 3), (19, .dup, 1), (20, .invokespecial 18, 3), (23, .putfield 19, 3), (26, .aload_n 0, 1), (27, .new 23, 3), (30, .dup, 1), (31, .invokespecial 25, 3), (34, .putfield 26, 3), (37, .aload_n 0, 1), (38, .new 30, 3), (41, .dup, 1), (42, .invokespecial 32, 3), (45, .putfield 33, 3), (48, .aload_n 0, 1), (49, .new 23, 3), (52, .dup, 1), (53, .invokespecial 25, 3), (56, .putfield 37, 3), (59, .aload_n 0, 1), (60, .new 30, 3), (63, .dup, 1), (64, .invokespecial 32, 3), (67, .putfield 40, 3), (70, .aload_n 0, 1), (71, .new 43, 3), (74, .dup, 1), (75, .invokespecial 45, 3), (78, .putfield 46, 3), (81, .aload_n 0, 1), (82, .iconst (-1), 1), (83, .putfield 50, 3), (86, .aload_n 0, 1), (87, .getfield 33, 3), (90, .aload_n 0, 1), (91, .getfield 19, 3), (94, .aload_n 0, 1), (95, .getfield 26, 3), (98, .invokevirtual 54, 3), (101, .return_, 1)])
theorem gmX9_init : GM mX9_init := ⟨by decide +kernel, lw_gd_of (List.mem_of_getElem? (i := 67) (by decide +kernel)) rfl, dk_of (by decide +kernel), ⟨by decide +kernel, by decide +kernel⟩, lw_gd_of (List.mem_of_getElem? (i := 35) (by decide +kernel)) rfl⟩
def mX9_append : MI := (yX9_append, cX9_append, 6, (some .int), 1, 22, [], [(0, .aload_n 0, 1), (1, .getfield 10, 3), (4, .getfield 58, 3), (7, .invokevirtual 62, 3), (10, .ifCond .ne 5, 3), (13, .iconst (-1), 1), (14, .ireturn, 1), (15, .aload_n 0, 1), (16, .getfield 10, 3), (19, .getfield 58, 3), (22, .iload_n 1, 1), (23, .invokevirtual 68, 3), (26, .aload_n 0, 1), (27, .getfield 10, 3), (30, .getfield 58, 3), (33, .iload_n 2, 1), (34, .invokevirtual 68, 3), (37, .aload_n 0, 1), (38, .getfield 10, 3), (41, .getfield 58, 3), (44, .iload_n 3, 1), (45, .invokevirtual 68, 3), (48, .aload_n 0, 1), (49, .getfield 10, 3), (52, .getfield 58, 3), (55, .iload 4, 2), (57, .invokevirtual 68, 3), (60, .aload_n 0, 1), (61, .getfield 10, 3), (64, .getfield 58, 3), (67, .iload 5, 2), (69, .invokevirtual 68, 3), (72, .aload_n 0, 1), (73, .getfield 10, 3), (76, .getfield 58, 3), (79, .getfield 72, 3), (82, .ireturn, 1)])
theorem gmX9_append : GM mX9_append := ⟨by decide +kernel, lw_gd_of (List.mem_of_getElem? (i := 1044) (by decide +kernel)) rfl, dk_of (by decide +kernel), ⟨by decide +kernel, by decide +kernel⟩, lw_gd_of (List.mem_of_getElem? (i := 35) (by decide +kernel)) rfl⟩
def mX9_parse : MI := (yX9_parse, cX9_parse, 3, (some .int), 9, 197, [], [(0, .iload_n 1, 1), (1, .ifCond .lt 17, 3), (4, .iload_n 1, 1), (5, .aload_n 0, 1), (6, .getfield 10, 3), (9, .getfield 58, 3), (12, .getfield 72, 3), (15, .if_icmp .le 13, 3), (18, .new 75, 3), (21, .dup, 1), (22, .ldc 77, 2), (24, .invokespecial 78, 3), (27, .athrow, 1), (28, .aload_n 0, 1), (29, .getfield 10, 3), (32, .iload_n 1, 1), (33, .invokevirtual 81, 3), (36, .istore_n 2, 1), (37, .aload_n 0, 1), (38, .getfield 10, 3), (41, .getfield 58, 3), (44, .invokevirtual 85, 3), (47, .aload_n 0, 1), (48, .aload_n 0, 1), (49, .getfield 10, 3), (52, .getfield 88, 3), (55, .putfield 50, 3), (58, .iload_n 2, 1), (59, .ifCond .ne 60, 3), (62, .aload_n 0, 1), (63, .getfield 19, 3), (66, .aload_n 0, 1), (67, .getfield 10, 3), (70, .getfield 91, 3), (73, .invokevirtual 92, 3), (76, .aload_n 0, 1), (77, .getfield 26, 3), (80, .aload_n 0, 1), (81, .getfield 10, 3), (84, .getfield 96, 3), (87, .invokevirtual 97, 3), (90, .aload_n 0, 1), (91, .getfield 46, 3), (94, .invokevirtual 100, 3), (97, .aload_n 0, 1), (98, .getfield 46, 3), (101, .invokevirtual 103, 3), (104, .aload_n 0, 1), (105, .getfield 33, 3), (108, .aload_n 0, 1), (109, .getfield 19, 3), (112, .aload_n 0, 1), (113, .getfield 26, 3), (116, .invokevirtual 54, 3), (119, .iload_n 2, 1), (120, .ireturn, 1)])
theorem gmX9_parse : GM mX9_parse := ⟨by decide +kernel, lw_gd_of (List.mem_of_getElem? (i := 1057) (by decide +kernel)) rfl, dk_of (by decide +kernel), ⟨by decide +kernel, by decide +kernel⟩, lw_gd_of (List.mem_of_getElem? (i := 35) (by decide +kernel)) rfl⟩
def mX9_size : MI := (yX9_size, cX9_size, 2, (some .int), 7, 113, [], [(0, .iload_n 1, 1), (1, .bipush 9, 2), (3, .invokestatic 106, 3), (6, .iload_n 1, 1), (7, .tableswitch 121 0 8 #[49, 57, 65, 73, 81, 89, 97, 105, 113], 49), (56, .aload_n 0, 1), (57, .getfield 19, 3), (60, .getfield 110, 3), (63, .ireturn, 1), (64, .aload_n 0, 1), (65, .getfield 19, 3), (68, .getfield 113, 3), (71, .ireturn, 1), (72, .aload_n 0, 1), (73, .getfield 26, 3), (76, .invokevirtual 116, 3), (79, .ireturn, 1), (80, .aload_n 0, 1), (81, .getfield 26, 3), (84, .invokevirtual 120, 3), (87, .ireturn, 1), (88, .aload_n 0, 1), (89, .getfield 19, 3), (92, .getfield 123, 3), (95, .ireturn, 1), (96, .aload_n 0, 1), (97, .getfield 19, 3), (100, .getfield 126, 3), (103, .ireturn, 1), (104, .aload_n 0, 1), (105, .getfield 19, 3), (108, .getfield 129, 3), (111, .ireturn, 1), (112, .aload_n 0, 1), (113, .getfield 19, 3), (116, .getfield 132, 3), (119, .ireturn, 1), (120, .aload_n 0, 1), (121, .getfield 19, 3), (124, .getfield 135, 3), (127, .ireturn, 1), (128, .aload_n 0, 1), (129, .getfield 26, 3), (132, .invokevirtual 138, 3), (135, .invokestatic 141, 3), (138, .ireturn, 1)])
theorem gmX9_size : GM mX9_size := ⟨by decide +kernel, lw_gd_of (List.mem_of_getElem? (i := 1372) (by decide +kernel)) rfl, dk_of (by decide +kernel), ⟨by decide +kernel, by decide +kernel⟩, lw_gd_of (List.mem_of_getElem? (i := 35) (by decide +kernel)) rfl⟩
def mX9_person : MI := (yX9_person, cX9_person, 3, (some .int), 7, 113, [], [(0, .aload_n 0, 1), (1, .iload_n 1, 1), (2, .invokevirtual 153, 3), (5, .iload_n 2, 1), (6, .iconst 5, 1), (7, .invokestatic 106, 3), (10, .iload_n 2, 1), (11, .tableswitch 87 0 4 #[33, 45, 54, 66, 78], 33), (44, .aload_n 0, 1), (45, .getfield 19, 3), (48, .getfield 156, 3), (51, .iload_n 1, 1), (52, .invokestatic 160, 3), (55, .ireturn, 1), (56, .aload_n 0, 1), (57, .getfield 26, 3), (60, .iload_n 1, 1), (61, .invokevirtual 164, 3), (64, .ireturn, 1), (65, .aload_n 0, 1), (66, .getfield 26, 3), (69, .iload_n 1, 1), (70, .invokevirtual 167, 3), (73, .invokestatic 141, 3), (76, .ireturn, 1), (77, .aload_n 0, 1), (78, .getfield 26, 3), (81, .iload_n 1, 1), (82, .invokevirtual 171, 3), (85, .invokestatic 141, 3), (88, .ireturn, 1), (89, .aload_n 0, 1), (90, .getfield 19, 3), (93, .iload_n 1, 1), (94, .invokevirtual 174, 3), (97, .ireturn, 1), (98, .aload_n 0, 1), (99, .getfield 26, 3), (102, .iload_n 1, 1), (103, .invokevirtual 177, 3), (106, .ireturn, 1)])
theorem gmX9_person : GM mX9_person := ⟨by decide +kernel, lw_gd_of (List.mem_of_getElem? (i := 1415) (by decide +kernel)) rfl, dk_of (by decide +kernel), ⟨by decide +kernel, by decide +kernel⟩, lw_gd_of (List.mem_of_getElem? (i := 35) (by decide +kernel)) rfl⟩
def mX9_debt : MI := (yX9_debt, cX9_debt, 3, (some .int), 7, 113, [], [(0, .iload_n 1, 1), (1, .ifCond .lt 14, 3), (4, .iload_n 1, 1), (5, .aload_n 0, 1), (6, .getfield 26, 3), (9, .invokevirtual 116, 3), (12, .if_icmp .lt 13, 3), (15, .new 192, 3), (18, .dup, 1), (19, .ldc 194, 2), (21, .invokespecial 196, 3), (24, .athrow, 1), (25, .iload_n 2, 1), (26, .iconst 2, 1), (27, .invokestatic 106, 3), (30, .iload_n 2, 1), (31, .lookupswitch 43 #[(0, 25), (1, 34)], 25), (56, .aload_n 0, 1), (57, .getfield 26, 3), (60, .iload_n 1, 1), (61, .invokevirtual 197, 3), (64, .ireturn, 1), (65, .aload_n 0, 1), (66, .getfield 26, 3), (69, .iload_n 1, 1), (70, .invokevirtual 200, 3), (73, .ireturn, 1), (74, .aload_n 0, 1), (75, .getfield 33, 3), (78, .getfield 203, 3), (81, .getfield 207, 3), (84, .iload_n 1, 1), (85, .invokestatic 160, 3), (88, .ireturn, 1)])
theorem gmX9_debt : GM mX9_debt := ⟨by decide +kernel, lw_gd_of (List.mem_of_getElem? (i := 1319) (by decide +kernel)) rfl, dk_of (by decide +kernel), ⟨by decide +kernel, by decide +kernel⟩, lw_gd_of (List.mem_of_getElem? (i := 35) (by decide +kernel)) rfl⟩
def mX9_legacy : MI := (yX9_legacy, cX9_legacy, 3, (some .int), 7, 113, [], [(0, .iload_n 1, 1), (1, .ifCond .lt 14, 3), (4, .iload_n 1, 1), (5, .aload_n 0, 1), (6, .getfield 19, 3), (9, .getfield 123, 3), (12, .if_icmp .lt 13, 3), (15, .new 192, 3), (18, .dup, 1), (19, .ldc 210, 2), (21, .invokespecial 196, 3), (24, .athrow, 1), (25, .iload_n 2, 1), (26, .iconst 3, 1), (27, .invokestatic 106, 3), (30, .iload_n 2, 1), (31, .tableswitch 64 0 2 #[25, 37, 49], 25), (56, .aload_n 0, 1), (57, .getfield 19, 3), (60, .getfield 212, 3), (63, .iload_n 1, 1), (64, .invokestatic 160, 3), (67, .ireturn, 1), (68, .aload_n 0, 1), (69, .getfield 19, 3), (72, .getfield 215, 3), (75, .iload_n 1, 1), (76, .invokestatic 160, 3), (79, .ireturn, 1), (80, .aload_n 0, 1), (81, .getfield 33, 3), (84, .getfield 203, 3), (87, .getfield 218, 3), (90, .iload_n 1, 1), (91, .invokestatic 160, 3), (94, .ireturn, 1), (95, .aload_n 0, 1), (96, .getfield 26, 3), (99, .aload_n 0, 1), (100, .getfield 19, 3), (103, .getfield 212, 3), (106, .iload_n 1, 1), (107, .invokestatic 160, 3), (110, .invokevirtual 221, 3), (113, .ifCond .ne 7, 3), (116, .iconst 1, 1), (117, .goto 4, 3), (120, .iconst 0, 1), (121, .invokestatic 141, 3), (124, .ireturn, 1)])
theorem gmX9_legacy : GM mX9_legacy := ⟨by decide +kernel, lw_gd_of (List.mem_of_getElem? (i := 1347) (by decide +kernel)) rfl, dk_of (by decide +kernel), ⟨by decide +kernel, by decide +kernel⟩, lw_gd_of (List.mem_of_getElem? (i := 35) (by decide +kernel)) rfl⟩
def mX9_account : MI := (yX9_account, cX9_account, 2, (some .int), 7, 113, [], [(0, .iload_n 1, 1), (1, .bipush 9, 2), (3, .invokestatic 106, 3), (6, .iload_n 1, 1), (7, .tableswitch 136 0 8 #[49, 60, 71, 82, 93, 104, 112, 120, 128], 49), (56, .aload_n 0, 1), (57, .getfield 33, 3), (60, .getfield 203, 3), (63, .getfield 224, 3), (66, .ireturn, 1), (67, .aload_n 0, 1), (68, .getfield 33, 3), (71, .getfield 203, 3), (74, .getfield 227, 3), (77, .ireturn, 1), (78, .aload_n 0, 1), (79, .getfield 33, 3), (82, .getfield 203, 3), (85, .getfield 230, 3), (88, .ireturn, 1), (89, .aload_n 0, 1), (90, .getfield 33, 3), (93, .getfield 203, 3), (96, .getfield 233, 3), (99, .ireturn, 1), (100, .aload_n 0, 1), (101, .getfield 33, 3), (104, .getfield 203, 3), (107, .getfield 236, 3), (110, .ireturn, 1), (111, .aload_n 0, 1), (112, .getfield 33, 3), (115, .getfield 239, 3), (118, .ireturn, 1), (119, .aload_n 0, 1), (120, .getfield 33, 3), (123, .getfield 242, 3), (126, .ireturn, 1), (127, .aload_n 0, 1), (128, .getfield 33, 3), (131, .getfield 245, 3), (134, .ireturn, 1), (135, .aload_n 0, 1), (136, .getfield 33, 3), (139, .getfield 248, 3), (142, .ireturn, 1), (143, .aload_n 0, 1), (144, .getfield 33, 3), (147, .getfield 251, 3), (150, .ireturn, 1)])
theorem gmX9_account : GM mX9_account := ⟨by decide +kernel, lw_gd_of (List.mem_of_getElem? (i := 1355) (by decide +kernel)) rfl, dk_of (by decide +kernel), ⟨by decide +kernel, by decide +kernel⟩, lw_gd_of (List.mem_of_getElem? (i := 35) (by decide +kernel)) rfl⟩
def mX9_heirs : MI := (yX9_heirs, cX9_heirs, 1, (some .int), 0, 0, [], [(0, .aload_n 0, 1), (1, .getfield 33, 3), (4, .getfield 261, 3), (7, .getfield 265, 3), (10, .ireturn, 1)])
theorem gmX9_heirs : GM mX9_heirs := ⟨by decide +kernel, lw_gd_of (List.mem_of_getElem? (i := 1384) (by decide +kernel)) rfl, dk_of (by decide +kernel), ⟨by decide +kernel, by decide +kernel⟩, lw_gd_of (List.mem_of_getElem? (i := 35) (by decide +kernel)) rfl⟩
def mX9_leftOut : MI := (yX9_leftOut, cX9_leftOut, 1, (some .int), 0, 0, [], [(0, .aload_n 0, 1), (1, .getfield 33, 3), (4, .getfield 270, 3), (7, .getfield 274, 3), (10, .ireturn, 1)])
theorem gmX9_leftOut : GM mX9_leftOut := ⟨by decide +kernel, lw_gd_of (List.mem_of_getElem? (i := 1392) (by decide +kernel)) rfl, dk_of (by decide +kernel), ⟨by decide +kernel, by decide +kernel⟩, lw_gd_of (List.mem_of_getElem? (i := 35) (by decide +kernel)) rfl⟩
def mX9_isEmpty : MI := (yX9_isEmpty, cX9_isEmpty, 2, (some .boolean), 7, 113, [], [(0, .aload_n 0, 1), (1, .iload_n 1, 1), (2, .invokevirtual 153, 3), (5, .aload_n 0, 1), (6, .getfield 33, 3), (9, .getfield 261, 3), (12, .getfield 279, 3), (15, .iload_n 1, 1), (16, .invokestatic 282, 3), (19, .ifCond .ne 7, 3), (22, .iconst 1, 1), (23, .goto 4, 3), (26, .iconst 0, 1), (27, .ireturn, 1)])
theorem gmX9_isEmpty : GM mX9_isEmpty := ⟨by decide +kernel, lw_gd_of (List.mem_of_getElem? (i := 1396) (by decide +kernel)) rfl, dk_of (by decide +kernel), ⟨by decide +kernel, by decide +kernel⟩, lw_gd_of (List.mem_of_getElem? (i := 35) (by decide +kernel)) rfl⟩
def mX9_step : MI := (yX9_step, cX9_step, 4, (some .int), 7, 113, [], [(0, .aload_n 0, 1), (1, .iload_n 1, 1), (2, .invokevirtual 153, 3), (5, .iload_n 2, 1), (6, .bipush 6, 2), (8, .invokestatic 106, 3), (11, .aload_n 0, 1), (12, .getfield 33, 3), (15, .getfield 261, 3), (18, .getfield 265, 3), (21, .iload_n 1, 1), (22, .invokestatic 282, 3), (25, .ifCond .ne 5, 3), (28, .iconst (-1), 1), (29, .ireturn, 1), (30, .aload_n 0, 1), (31, .getfield 33, 3), (34, .getfield 270, 3), (37, .getfield 274, 3), (40, .iload_n 1, 1), (41, .invokestatic 282, 3), (44, .istore_n 3, 1), (45, .iload_n 2, 1), (46, .tableswitch 142 0 5 #[38, 53, 68, 83, 102, 122], 38), (84, .aload_n 0, 1), (85, .getfield 33, 3), (88, .getfield 261, 3), (91, .getfield 286, 3), (94, .iload_n 1, 1), (95, .invokestatic 160, 3), (98, .ireturn, 1), (99, .aload_n 0, 1), (100, .getfield 33, 3), (103, .getfield 261, 3), (106, .getfield 289, 3), (109, .iload_n 1, 1), (110, .invokestatic 160, 3), (113, .ireturn, 1), (114, .aload_n 0, 1), (115, .getfield 33, 3), (118, .getfield 270, 3), (121, .getfield 292, 3), (124, .iload_n 1, 1), (125, .invokestatic 160, 3), (128, .ireturn, 1), (129, .iload_n 3, 1), (130, .ifCond .eq 7, 3), (133, .iconst (-1), 1), (134, .goto 13, 3), (137, .aload_n 0, 1), (138, .getfield 33, 3), (141, .getfield 270, 3), (144, .getfield 295, 3), (147, .ireturn, 1), (148, .iload_n 3, 1), (149, .ifCond .eq 7, 3), (152, .iconst (-1), 1), (153, .goto 14, 3), (156, .aload_n 0, 1), (157, .getfield 33, 3), (160, .getfield 270, 3), (163, .iload_n 1, 1), (164, .invokevirtual 298, 3), (167, .ireturn, 1), (168, .iload_n 3, 1), (169, .ifCond .eq 7, 3), (172, .iconst (-1), 1), (173, .goto 14, 3), (176, .aload_n 0, 1), (177, .getfield 33, 3), (180, .getfield 270, 3), (183, .iload_n 1, 1), (184, .invokevirtual 301, 3), (187, .ireturn, 1), (188, .aload_n 0, 1), (189, .getfield 33, 3), (192, .getfield 270, 3), (195, .iload_n 1, 1), (196, .invokevirtual 304, 3), (199, .ireturn, 1)])
theorem gmX9_step : GM mX9_step := ⟨by decide +kernel, lw_gd_of (List.mem_of_getElem? (i := 1434) (by decide +kernel)) rfl, dk_of (by decide +kernel), ⟨by decide +kernel, by decide +kernel⟩, lw_gd_of (List.mem_of_getElem? (i := 35) (by decide +kernel)) rfl⟩
def mX9_given : MI := (yX9_given, cX9_given, 2, (some .int), 7, 113, [], [(0, .aload_n 0, 1), (1, .iload_n 1, 1), (2, .invokevirtual 153, 3), (5, .aload_n 0, 1), (6, .getfield 33, 3), (9, .aload_n 0, 1), (10, .getfield 19, 3), (13, .iload_n 1, 1), (14, .invokevirtual 307, 3), (17, .ireturn, 1)])
theorem gmX9_given : GM mX9_given := ⟨by decide +kernel, lw_gd_of (List.mem_of_getElem? (i := 1407) (by decide +kernel)) rfl, dk_of (by decide +kernel), ⟨by decide +kernel, by decide +kernel⟩, lw_gd_of (List.mem_of_getElem? (i := 35) (by decide +kernel)) rfl⟩
def mX9_isBalanced : MI := (yX9_isBalanced, cX9_isBalanced, 3, (some .boolean), 3, 66, [], [(0, .aload_n 0, 1), (1, .getfield 33, 3), (4, .getfield 203, 3), (7, .getfield 227, 3), (10, .aload_n 0, 1), (11, .getfield 33, 3), (14, .getfield 251, 3), (17, .iadd, 1), (18, .istore_n 1, 1), (19, .iconst 0, 1), (20, .istore_n 2, 1), (21, .iload_n 2, 1), (22, .aload_n 0, 1), (23, .getfield 19, 3), (26, .getfield 110, 3), (29, .if_icmp .ge 24, 3), (32, .iload_n 1, 1), (33, .aload_n 0, 1), (34, .getfield 33, 3), (37, .aload_n 0, 1), (38, .getfield 19, 3), (41, .iload_n 2, 1), (42, .invokevirtual 307, 3), (45, .iadd, 1), (46, .istore_n 1, 1), (47, .iinc 2 1, 3), (50, .goto (-29), 3), (53, .iload_n 1, 1), (54, .aload_n 0, 1), (55, .getfield 33, 3), (58, .getfield 203, 3), (61, .getfield 224, 3), (64, .if_icmp .ne 7, 3), (67, .iconst 1, 1), (68, .goto 4, 3), (71, .iconst 0, 1), (72, .ireturn, 1)])
theorem gmX9_isBalanced : GM mX9_isBalanced := ⟨by decide +kernel, lw_gd_of (List.mem_of_getElem? (i := 1359) (by decide +kernel)) rfl, dk_of (by decide +kernel), ⟨by decide +kernel, by decide +kernel⟩, lw_gd_of (List.mem_of_getElem? (i := 35) (by decide +kernel)) rfl⟩
def mX9_givenIf : MI := (yX9_givenIf, cX9_givenIf, 3, (some .int), 7, 148, [], [(0, .aload_n 0, 1), (1, .iload_n 1, 1), (2, .invokevirtual 153, 3), (5, .aload_n 0, 1), (6, .iload_n 2, 1), (7, .invokevirtual 153, 3), (10, .aload_n 0, 1), (11, .iload_n 1, 1), (12, .iload_n 2, 1), (13, .invokevirtual 311, 3), (16, .ireturn, 1)])
theorem gmX9_givenIf : GM mX9_givenIf := ⟨by decide +kernel, lw_gd_of (List.mem_of_getElem? (i := 1447) (by decide +kernel)) rfl, dk_of (by decide +kernel), ⟨by decide +kernel, by decide +kernel⟩, lw_gd_of (List.mem_of_getElem? (i := 35) (by decide +kernel)) rfl⟩
def mX9_helper : MI := (yX9_helper, cX9_helper, 6, (some .int), 7, 148, [], [(0, .aload_n 0, 1), (1, .iload_n 1, 1), (2, .invokevirtual 153, 3), (5, .iconst (-1), 1), (6, .istore_n 2, 1), (7, .aload_n 0, 1), (8, .getfield 33, 3), (11, .aload_n 0, 1), (12, .getfield 19, 3), (15, .iload_n 1, 1), (16, .invokevirtual 307, 3), (19, .istore_n 3, 1), (20, .iconst 0, 1), (21, .istore 4, 2), (23, .iload 4, 2), (25, .aload_n 0, 1), (26, .getfield 19, 3), (29, .getfield 110, 3), (32, .if_icmp .ge 30, 3), (35, .aload_n 0, 1), (36, .iload_n 1, 1), (37, .iload 4, 2), (39, .invokevirtual 311, 3), (42, .istore 5, 2), (44, .iload 5, 2), (46, .iload_n 3, 1), (47, .if_icmp .le 9, 3), (50, .iload 4, 2), (52, .istore_n 2, 1), (53, .iload 5, 2), (55, .istore_n 3, 1), (56, .iinc 4 1, 3), (59, .goto (-36), 3), (62, .iload_n 2, 1), (63, .ireturn, 1)])
theorem gmX9_helper : GM mX9_helper := ⟨by decide +kernel, lw_gd_of (List.mem_of_getElem? (i := 1478) (by decide +kernel)) rfl, dk_of (by decide +kernel), ⟨by decide +kernel, by decide +kernel⟩, lw_gd_of (List.mem_of_getElem? (i := 35) (by decide +kernel)) rfl⟩
def mX9_tooMuch : MI := (yX9_tooMuch, cX9_tooMuch, 7, (some .int), 7, 113, [], [(0, .aload_n 0, 1), (1, .iload_n 1, 1), (2, .invokevirtual 153, 3), (5, .aload_n 0, 1), (6, .getfield 33, 3), (9, .getfield 261, 3), (12, .getfield 265, 3), (15, .iload_n 1, 1), (16, .invokestatic 282, 3), (19, .ifCond .eq 24, 3), (22, .aload_n 0, 1), (23, .getfield 33, 3), (26, .getfield 270, 3), (29, .getfield 274, 3), (32, .iload_n 1, 1), (33, .invokestatic 282, 3), (36, .ifCond .ne 7, 3), (39, .iconst 1, 1), (40, .goto 4, 3), (43, .iconst 0, 1), (44, .istore_n 2, 1), (45, .iload_n 2, 1), (46, .ifCond .eq 14, 3), (49, .aload_n 0, 1), (50, .iload_n 1, 1), (51, .ldc_w 315, 3), (54, .invokevirtual 316, 3), (57, .ifCond .ne 5, 3), (60, .iconst (-1), 1), (61, .ireturn, 1), (62, .iconst 1, 1), (63, .istore_n 3, 1), (64, .ldc_w 315, 3), (67, .istore 4, 2), (69, .iconst 0, 1), (70, .istore 5, 2), (72, .iload 5, 2), (74, .bipush 32, 2), (76, .if_icmp .ge 45, 3), (79, .iload_n 3, 1), (80, .iload 4, 2), (82, .if_icmp .ge 39, 3), (85, .iload_n 3, 1), (86, .iload 4, 2), (88, .iadd, 1), (89, .iconst 2, 1), (90, .idiv, 1), (91, .istore 6, 2), (93, .aload_n 0, 1), (94, .iload_n 1, 1), (95, .iload 6, 2), (97, .invokevirtual 316, 3), (100, .ifCond .eq 10, 3), (103, .iload 6, 2), (105, .istore 4, 2), (107, .goto 8, 3), (110, .iload 6, 2), (112, .iconst 1, 1), (113, .iadd, 1), (114, .istore_n 3, 1), (115, .iinc 5 1, 3), (118, .goto (-46), 3), (121, .iload 4, 2), (123, .ireturn, 1)])
theorem gmX9_tooMuch : GM mX9_tooMuch := ⟨by decide +kernel, lw_gd_of (List.mem_of_getElem? (i := 1459) (by decide +kernel)) rfl, dk_of (by decide +kernel), ⟨by decide +kernel, by decide +kernel⟩, lw_gd_of (List.mem_of_getElem? (i := 35) (by decide +kernel)) rfl⟩
def mX9_givenIfRefused : MI := (yX9_givenIfRefused, cX9_givenIfRefused, 3, (some .int), 5, 126, [], [(0, .aload_n 0, 1), (1, .getfield 37, 3), (4, .aload_n 0, 1), (5, .getfield 26, 3), (8, .invokevirtual 97, 3), (11, .aload_n 0, 1), (12, .getfield 37, 3), (15, .iload_n 2, 1), (16, .iconst 1, 1), (17, .invokevirtual 319, 3), (20, .aload_n 0, 1), (21, .getfield 40, 3), (24, .aload_n 0, 1), (25, .getfield 19, 3), (28, .aload_n 0, 1), (29, .getfield 37, 3), (32, .invokevirtual 54, 3), (35, .aload_n 0, 1), (36, .getfield 40, 3), (39, .aload_n 0, 1), (40, .getfield 19, 3), (43, .iload_n 1, 1), (44, .invokevirtual 307, 3), (47, .ireturn, 1)])
theorem gmX9_givenIfRefused : GM mX9_givenIfRefused := ⟨by decide +kernel, lw_gd_of (List.mem_of_getElem? (i := 1451) (by decide +kernel)) rfl, dk_of (by decide +kernel), ⟨by decide +kernel, by decide +kernel⟩, lw_gd_of (List.mem_of_getElem? (i := 35) (by decide +kernel)) rfl⟩
def mX9_isLeftOutWith : MI := (yX9_isLeftOutWith, cX9_isLeftOutWith, 3, (some .boolean), 4, 90, [], [(0, .aload_n 0, 1), (1, .getfield 40, 3), (4, .getfield 270, 3), (7, .aload_n 0, 1), (8, .getfield 26, 3), (11, .invokevirtual 323, 3), (14, .aload_n 0, 1), (15, .getfield 40, 3), (18, .getfield 270, 3), (21, .iload_n 1, 1), (22, .iload_n 2, 1), (23, .invokevirtual 326, 3), (26, .aload_n 0, 1), (27, .getfield 40, 3), (30, .getfield 270, 3), (33, .aload_n 0, 1), (34, .getfield 33, 3), (37, .getfield 248, 3), (40, .aload_n 0, 1), (41, .getfield 33, 3), (44, .getfield 261, 3), (47, .invokevirtual 329, 3), (50, .aload_n 0, 1), (51, .getfield 40, 3), (54, .getfield 270, 3), (57, .getfield 274, 3), (60, .iload_n 1, 1), (61, .invokestatic 282, 3), (64, .ireturn, 1)])
theorem gmX9_isLeftOutWith : GM mX9_isLeftOutWith := ⟨by decide +kernel, lw_gd_of (List.mem_of_getElem? (i := 1464) (by decide +kernel)) rfl, dk_of (by decide +kernel), ⟨by decide +kernel, by decide +kernel⟩, lw_gd_of (List.mem_of_getElem? (i := 35) (by decide +kernel)) rfl⟩
def mX9_refuse : MI := (yX9_refuse, cX9_refuse, 4, (some .boolean), 7, 126, [], [(0, .aload_n 0, 1), (1, .iload_n 1, 1), (2, .invokevirtual 153, 3), (5, .aload_n 0, 1), (6, .getfield 26, 3), (9, .iload_n 1, 1), (10, .invokevirtual 171, 3), (13, .istore_n 3, 1), (14, .aload_n 0, 1), (15, .getfield 46, 3), (18, .aload_n 0, 1), (19, .getfield 26, 3), (22, .invokevirtual 333, 3), (25, .aload_n 0, 1), (26, .getfield 26, 3), (29, .iload_n 1, 1), (30, .iload_n 2, 1), (31, .invokevirtual 319, 3), (34, .aload_n 0, 1), (35, .getfield 33, 3), (38, .aload_n 0, 1), (39, .getfield 19, 3), (42, .aload_n 0, 1), (43, .getfield 26, 3), (46, .invokevirtual 54, 3), (49, .iload_n 3, 1), (50, .ireturn, 1)])
theorem gmX9_refuse : GM mX9_refuse := ⟨by decide +kernel, lw_gd_of (List.mem_of_getElem? (i := 1485) (by decide +kernel)) rfl, dk_of (by decide +kernel), ⟨by decide +kernel, by decide +kernel⟩, lw_gd_of (List.mem_of_getElem? (i := 35) (by decide +kernel)) rfl⟩
def mX9_die : MI := (yX9_die, cX9_die, 2, (some .int), 7, 126, [], [(0, .aload_n 0, 1), (1, .iload_n 1, 1), (2, .invokevirtual 153, 3), (5, .aload_n 0, 1), (6, .getfield 46, 3), (9, .aload_n 0, 1), (10, .getfield 26, 3), (13, .invokevirtual 333, 3), (16, .aload_n 0, 1), (17, .getfield 26, 3), (20, .iload_n 1, 1), (21, .invokevirtual 336, 3), (24, .aload_n 0, 1), (25, .getfield 33, 3), (28, .aload_n 0, 1), (29, .getfield 19, 3), (32, .aload_n 0, 1), (33, .getfield 26, 3), (36, .invokevirtual 54, 3), (39, .aload_n 0, 1), (40, .getfield 33, 3), (43, .getfield 261, 3), (46, .getfield 265, 3), (49, .ireturn, 1)])
theorem gmX9_die : GM mX9_die := ⟨by decide +kernel, lw_gd_of (List.mem_of_getElem? (i := 1498) (by decide +kernel)) rfl, dk_of (by decide +kernel), ⟨by decide +kernel, by decide +kernel⟩, lw_gd_of (List.mem_of_getElem? (i := 35) (by decide +kernel)) rfl⟩
def mX9_setAge : MI := (yX9_setAge, cX9_setAge, 4, (some .int), 7, 126, [], [(0, .aload_n 0, 1), (1, .iload_n 1, 1), (2, .invokevirtual 153, 3), (5, .iload_n 2, 1), (6, .iconst 0, 1), (7, .bipush 120, 2), (9, .invokestatic 254, 3), (12, .aload_n 0, 1), (13, .getfield 26, 3), (16, .iload_n 1, 1), (17, .invokevirtual 164, 3), (20, .istore_n 3, 1), (21, .aload_n 0, 1), (22, .getfield 46, 3), (25, .aload_n 0, 1), (26, .getfield 26, 3), (29, .invokevirtual 333, 3), (32, .aload_n 0, 1), (33, .getfield 26, 3), (36, .iload_n 1, 1), (37, .iload_n 2, 1), (38, .invokevirtual 339, 3), (41, .aload_n 0, 1), (42, .getfield 33, 3), (45, .aload_n 0, 1), (46, .getfield 19, 3), (49, .aload_n 0, 1), (50, .getfield 26, 3), (53, .invokevirtual 54, 3), (56, .iload_n 3, 1), (57, .ireturn, 1)])
theorem gmX9_setAge : GM mX9_setAge := ⟨by decide +kernel, lw_gd_of (List.mem_of_getElem? (i := 1503) (by decide +kernel)) rfl, dk_of (by decide +kernel), ⟨by decide +kernel, by decide +kernel⟩, lw_gd_of (List.mem_of_getElem? (i := 35) (by decide +kernel)) rfl⟩
def mX9_addGift : MI := (yX9_addGift, cX9_addGift, 3, (some .int), 7, 126, [], [(0, .aload_n 0, 1), (1, .iload_n 1, 1), (2, .invokevirtual 153, 3), (5, .iload_n 2, 1), (6, .iconst 0, 1), (7, .ldc_w 315, 3), (10, .invokestatic 254, 3), (13, .aload_n 0, 1), (14, .getfield 26, 3), (17, .invokevirtual 120, 3), (20, .bipush 8, 2), (22, .if_icmp .lt 14, 3), (25, .new 342, 3), (28, .dup, 1), (29, .ldc_w 344, 3), (32, .invokespecial 345, 3), (35, .athrow, 1), (36, .aload_n 0, 1), (37, .getfield 46, 3), (40, .aload_n 0, 1), (41, .getfield 26, 3), (44, .invokevirtual 333, 3), (47, .aload_n 0, 1), (48, .getfield 26, 3), (51, .iload_n 1, 1), (52, .iload_n 2, 1), (53, .invokevirtual 346, 3), (56, .aload_n 0, 1), (57, .getfield 33, 3), (60, .aload_n 0, 1), (61, .getfield 19, 3), (64, .aload_n 0, 1), (65, .getfield 26, 3), (68, .invokevirtual 54, 3), (71, .aload_n 0, 1), (72, .getfield 33, 3), (75, .getfield 261, 3), (78, .getfield 265, 3), (81, .iload_n 1, 1), (82, .invokestatic 282, 3), (85, .ifCond .eq 17, 3), (88, .aload_n 0, 1), (89, .getfield 33, 3), (92, .getfield 270, 3), (95, .iload_n 1, 1), (96, .invokevirtual 304, 3), (99, .goto 4, 3), (102, .iconst (-1), 1), (103, .ireturn, 1)])
theorem gmX9_addGift : GM mX9_addGift := ⟨by decide +kernel, lw_gd_of (List.mem_of_getElem? (i := 1512) (by decide +kernel)) rfl, dk_of (by decide +kernel), ⟨by decide +kernel, by decide +kernel⟩, lw_gd_of (List.mem_of_getElem? (i := 35) (by decide +kernel)) rfl⟩
def mX9_setValue : MI := (yX9_setValue, cX9_setValue, 3, (some .int), 7, 126, [], [(0, .aload_n 0, 1), (1, .iload_n 1, 1), (2, .invokevirtual 180, 3), (5, .iload_n 2, 1), (6, .iconst 0, 1), (7, .ldc_w 315, 3), (10, .invokestatic 254, 3), (13, .aload_n 0, 1), (14, .getfield 46, 3), (17, .aload_n 0, 1), (18, .getfield 26, 3), (21, .invokevirtual 333, 3), (24, .aload_n 0, 1), (25, .getfield 26, 3), (28, .iload_n 1, 1), (29, .iload_n 2, 1), (30, .invokevirtual 354, 3), (33, .aload_n 0, 1), (34, .getfield 33, 3), (37, .aload_n 0, 1), (38, .getfield 19, 3), (41, .aload_n 0, 1), (42, .getfield 26, 3), (45, .invokevirtual 54, 3), (48, .aload_n 0, 1), (49, .getfield 33, 3), (52, .getfield 203, 3), (55, .getfield 224, 3), (58, .ireturn, 1)])
theorem gmX9_setValue : GM mX9_setValue := ⟨by decide +kernel, lw_gd_of (List.mem_of_getElem? (i := 1533) (by decide +kernel)) rfl, dk_of (by decide +kernel), ⟨by decide +kernel, by decide +kernel⟩, lw_gd_of (List.mem_of_getElem? (i := 35) (by decide +kernel)) rfl⟩
def mX9_setAccrue : MI := (yX9_setAccrue, cX9_setAccrue, 2, (some .int), 5, 126, [], [(0, .aload_n 0, 1), (1, .getfield 46, 3), (4, .aload_n 0, 1), (5, .getfield 26, 3), (8, .invokevirtual 333, 3), (11, .aload_n 0, 1), (12, .getfield 26, 3), (15, .iload_n 1, 1), (16, .invokevirtual 357, 3), (19, .aload_n 0, 1), (20, .getfield 33, 3), (23, .aload_n 0, 1), (24, .getfield 19, 3), (27, .aload_n 0, 1), (28, .getfield 26, 3), (31, .invokevirtual 54, 3), (34, .aload_n 0, 1), (35, .getfield 33, 3), (38, .getfield 261, 3), (41, .getfield 265, 3), (44, .ireturn, 1)])
theorem gmX9_setAccrue : GM mX9_setAccrue := ⟨by decide +kernel, lw_gd_of (List.mem_of_getElem? (i := 1543) (by decide +kernel)) rfl, dk_of (by decide +kernel), ⟨by decide +kernel, by decide +kernel⟩, lw_gd_of (List.mem_of_getElem? (i := 35) (by decide +kernel)) rfl⟩
def mX9_requirePerson : MI := (yX9_requirePerson, cX9_requirePerson, 2, none, 6, 92, [], [(0, .iload_n 1, 1), (1, .ifCond .lt 14, 3), (4, .iload_n 1, 1), (5, .aload_n 0, 1), (6, .getfield 19, 3), (9, .getfield 110, 3), (12, .if_icmp .lt 14, 3), (15, .new 192, 3), (18, .dup, 1), (19, .ldc_w 382, 3), (22, .invokespecial 196, 3), (25, .athrow, 1), (26, .return_, 1)])
theorem gmX9_requirePerson : GM mX9_requirePerson := ⟨by decide +kernel, lw_gd_of (List.mem_of_getElem? (i := 1400) (by decide +kernel)) rfl, dk_of (by decide +kernel), ⟨by decide +kernel, by decide +kernel⟩, lw_gd_of (List.mem_of_getElem? (i := 35) (by decide +kernel)) rfl⟩
def mX9_requireAsset : MI := (yX9_requireAsset, cX9_requireAsset, 2, none, 6, 92, [], [(0, .iload_n 1, 1), (1, .ifCond .lt 14, 3), (4, .iload_n 1, 1), (5, .aload_n 0, 1), (6, .getfield 19, 3), (9, .getfield 113, 3), (12, .if_icmp .lt 14, 3), (15, .new 192, 3), (18, .dup, 1), (19, .ldc_w 384, 3), (22, .invokespecial 196, 3), (25, .athrow, 1), (26, .return_, 1)])
theorem gmX9_requireAsset : GM mX9_requireAsset := ⟨by decide +kernel, lw_gd_of (List.mem_of_getElem? (i := 1537) (by decide +kernel)) rfl, dk_of (by decide +kernel), ⟨by decide +kernel, by decide +kernel⟩, lw_gd_of (List.mem_of_getElem? (i := 35) (by decide +kernel)) rfl⟩
def mX9_requireWhat : MI := (yX9_requireWhat, cX9_requireWhat, 2, none, 6, 92, [], [(0, .iload_n 0, 1), (1, .ifCond .lt 8, 3), (4, .iload_n 0, 1), (5, .iload_n 1, 1), (6, .if_icmp .le 14, 3), (9, .new 75, 3), (12, .dup, 1), (13, .ldc_w 388, 3), (16, .invokespecial 78, 3), (19, .athrow, 1), (20, .return_, 1)])
theorem gmX9_requireWhat : GM mX9_requireWhat := ⟨by decide +kernel, lw_gd_of (List.mem_of_getElem? (i := 1339) (by decide +kernel)) rfl, dk_of (by decide +kernel), ⟨by decide +kernel, by decide +kernel⟩, lw_gd_of (List.mem_of_getElem? (i := 35) (by decide +kernel)) rfl⟩
def mX9_requireRange : MI := (yX9_requireRange, cX9_requireRange, 3, none, 6, 92, [], [(0, .iload_n 0, 1), (1, .iload_n 1, 1), (2, .if_icmp .lt 8, 3), (5, .iload_n 0, 1), (6, .iload_n 2, 1), (7, .if_icmp .le 14, 3), (10, .new 75, 3), (13, .dup, 1), (14, .ldc_w 390, 3), (17, .invokespecial 78, 3), (20, .athrow, 1), (21, .return_, 1)])
theorem gmX9_requireRange : GM mX9_requireRange := ⟨by decide +kernel, lw_gd_of (List.mem_of_getElem? (i := 1506) (by decide +kernel)) rfl, dk_of (by decide +kernel), ⟨by decide +kernel, by decide +kernel⟩, lw_gd_of (List.mem_of_getElem? (i := 35) (by decide +kernel)) rfl⟩
def mX9_at : MI := (yX9_at, cX9_at, 2, (some .int), 0, 0, [], [(0, .iload_n 1, 1), (1, .ifCond .lt 15, 3), (4, .iload_n 1, 1), (5, .aload_n 0, 1), (6, .arraylength, 1), (7, .if_icmp .ge 9, 3), (10, .aload_n 0, 1), (11, .iload_n 1, 1), (12, .iaload, 1), (13, .goto 4, 3), (16, .iconst 0, 1), (17, .ireturn, 1)])
theorem gmX9_at : GM mX9_at := ⟨by decide +kernel, lw_gd_of (List.mem_of_getElem? (i := 409) (by decide +kernel)) rfl, dk_of (by decide +kernel), ⟨by decide +kernel, by decide +kernel⟩, lw_gd_of (List.mem_of_getElem? (i := 35) (by decide +kernel)) rfl⟩
def mX9_asInt : MI := (yX9_asInt, cX9_asInt, 1, (some .int), 0, 0, [], [(0, .iload_n 0, 1), (1, .ifCond .eq 7, 3), (4, .iconst 1, 1), (5, .goto 4, 3), (8, .iconst 0, 1), (9, .ireturn, 1)])
theorem gmX9_asInt : GM mX9_asInt := ⟨by decide +kernel, lw_gd_of (List.mem_of_getElem? (i := 1286) (by decide +kernel)) rfl, dk_of (by decide +kernel), ⟨by decide +kernel, by decide +kernel⟩, lw_gd_of (List.mem_of_getElem? (i := 35) (by decide +kernel)) rfl⟩
def mX9_hasBit : MI := (yX9_hasBit, cX9_hasBit, 2, (some .boolean), 0, 0, [], [(0, .iload_n 0, 1), (1, .iload_n 1, 1), (2, .ishr, 1), (3, .iconst 1, 1), (4, .iand, 1), (5, .ifCond .eq 7, 3), (8, .iconst 1, 1), (9, .goto 4, 3), (12, .iconst 0, 1), (13, .ireturn, 1)])
theorem gmX9_hasBit : GM mX9_hasBit := ⟨by decide +kernel, lw_gd_of (List.mem_of_getElem? (i := 480) (by decide +kernel)) rfl, dk_of (by decide +kernel), ⟨by decide +kernel, by decide +kernel⟩, lw_gd_of (List.mem_of_getElem? (i := 35) (by decide +kernel)) rfl⟩
def mX9_portion : MI := (yX9_portion, cX9_portion, 3, (some .int), 0, 0, [], [(0, .iload_n 2, 1), (1, .ifCond .le 15, 3), (4, .iload_n 0, 1), (5, .i2l, 1), (6, .iload_n 1, 1), (7, .i2l, 1), (8, .lmul, 1), (9, .iload_n 2, 1), (10, .i2l, 1), (11, .ldiv, 1), (12, .l2i, 1), (13, .goto 4, 3), (16, .iconst 0, 1), (17, .ireturn, 1)])
theorem gmX9_portion : GM mX9_portion := ⟨by decide +kernel, lw_gd_of (List.mem_of_getElem? (i := 412) (by decide +kernel)) rfl, dk_of (by decide +kernel), ⟨by decide +kernel, by decide +kernel⟩, lw_gd_of (List.mem_of_getElem? (i := 35) (by decide +kernel)) rfl⟩
def mX9_greatestCommonDivisor : MI := (yX9_greatestCommonDivisor, cX9_greatestCommonDivisor, 6, (some .int), 0, 0, [], [(0, .iload_n 0, 1), (1, .istore_n 2, 1), (2, .iload_n 1, 1), (3, .istore_n 3, 1), (4, .iconst 0, 1), (5, .istore 4, 2), (7, .iload 4, 2), (9, .bipush 64, 2), (11, .if_icmp .ge 23, 3), (14, .iload_n 3, 1), (15, .ifCond .le 19, 3), (18, .iload_n 2, 1), (19, .iload_n 3, 1), (20, .irem, 1), (21, .istore 5, 2), (23, .iload_n 3, 1), (24, .istore_n 2, 1), (25, .iload 5, 2), (27, .istore_n 3, 1), (28, .iinc 4 1, 3), (31, .goto (-24), 3), (34, .iload_n 2, 1), (35, .ireturn, 1)])
theorem gmX9_greatestCommonDivisor : GM mX9_greatestCommonDivisor := ⟨by decide +kernel, lw_gd_of (List.mem_of_getElem? (i := 486) (by decide +kernel)) rfl, dk_of (by decide +kernel), ⟨by decide +kernel, by decide +kernel⟩, lw_gd_of (List.mem_of_getElem? (i := 35) (by decide +kernel)) rfl⟩
def mX9_leastCommonMultiple : MI := (yX9_leastCommonMultiple, cX9_leastCommonMultiple, 3, (some .int), 1, 25, [], [(0, .iload_n 0, 1), (1, .iload_n 1, 1), (2, .invokestatic 392, 3), (5, .istore_n 2, 1), (6, .iload_n 2, 1), (7, .ifCond .le 11, 3), (10, .iload_n 0, 1), (11, .iload_n 2, 1), (12, .idiv, 1), (13, .iload_n 1, 1), (14, .imul, 1), (15, .goto 4, 3), (18, .iconst 0, 1), (19, .ireturn, 1)])
theorem gmX9_leastCommonMultiple : GM mX9_leastCommonMultiple := ⟨by decide +kernel, lw_gd_of (List.mem_of_getElem? (i := 483) (by decide +kernel)) rfl, dk_of (by decide +kernel), ⟨by decide +kernel, by decide +kernel⟩, lw_gd_of (List.mem_of_getElem? (i := 35) (by decide +kernel)) rfl⟩
def mX9_sumOf : MI := (yX9_sumOf, cX9_sumOf, 3, (some .int), 0, 0, [], [(0, .iconst 0, 1), (1, .istore_n 1, 1), (2, .iconst 0, 1), (3, .istore_n 2, 1), (4, .iload_n 2, 1), (5, .aload_n 0, 1), (6, .arraylength, 1), (7, .if_icmp .ge 15, 3), (10, .iload_n 1, 1), (11, .aload_n 0, 1), (12, .iload_n 2, 1), (13, .iaload, 1), (14, .iadd, 1), (15, .istore_n 1, 1), (16, .iinc 2 1, 3), (19, .goto (-15), 3), (22, .iload_n 1, 1), (23, .ireturn, 1)])
theorem gmX9_sumOf : GM mX9_sumOf := ⟨by decide +kernel, lw_gd_of (List.mem_of_getElem? (i := 435) (by decide +kernel)) rfl, dk_of (by decide +kernel), ⟨by decide +kernel, by decide +kernel⟩, lw_gd_of (List.mem_of_getElem? (i := 35) (by decide +kernel)) rfl⟩
def mX9_split : MI := (yX9_split, cX9_split, 6, none, 1, 22, [], [(0, .aload_n 1, 1), (1, .invokestatic 395, 3), (4, .istore_n 3, 1), (5, .iload_n 3, 1), (6, .ifCond .le 7, 3), (9, .iload_n 0, 1), (10, .goto 4, 3), (13, .iconst 0, 1), (14, .istore 4, 2), (16, .iconst 0, 1), (17, .istore 5, 2), (19, .iload 5, 2), (21, .aload_n 1, 1), (22, .arraylength, 1), (23, .if_icmp .ge 38, 3), (26, .iload 5, 2), (28, .aload_n 2, 1), (29, .arraylength, 1), (30, .if_icmp .ge 31, 3), (33, .aload_n 2, 1), (34, .iload 5, 2), (36, .iload_n 0, 1), (37, .aload_n 1, 1), (38, .iload 5, 2), (40, .iaload, 1), (41, .iload_n 3, 1), (42, .invokestatic 399, 3), (45, .iastore, 1), (46, .iload 4, 2), (48, .aload_n 2, 1), (49, .iload 5, 2), (51, .iaload, 1), (52, .isub, 1), (53, .istore 4, 2), (55, .iinc 5 1, 3), (58, .goto (-39), 3), (61, .iconst 0, 1), (62, .istore 5, 2), (64, .iload 5, 2), (66, .aload_n 1, 1), (67, .arraylength, 1), (68, .if_icmp .ge 39, 3), (71, .iload 5, 2), (73, .aload_n 2, 1), (74, .arraylength, 1), (75, .if_icmp .ge 32, 3), (78, .iload 4, 2), (80, .ifCond .le 21, 3), (83, .aload_n 1, 1), (84, .iload 5, 2), (86, .iaload, 1), (87, .ifCond .le 14, 3), (90, .aload_n 2, 1), (91, .iload 5, 2), (93, .dup2, 1), (94, .iaload, 1), (95, .iconst 1, 1), (96, .iadd, 1), (97, .iastore, 1), (98, .iinc 4 (-1), 3), (101, .iinc 5 1, 3), (104, .goto (-40), 3), (107, .return_, 1)])
theorem gmX9_split : GM mX9_split := ⟨by decide +kernel, lw_gd_of (List.mem_of_getElem? (i := 441) (by decide +kernel)) rfl, dk_of (by decide +kernel), ⟨by decide +kernel, by decide +kernel⟩, lw_gd_of (List.mem_of_getElem? (i := 35) (by decide +kernel)) rfl⟩
def mJ_length : MI := (yJ0_length_8abf5, cJ0_length_8abf5, 1, (some .int), 1, 20, [], [(0, .aload_n 0, 1), (1, .getfield 9, 3), (4, .arraylength, 1), (5, .aload_n 0, 1), (6, .invokevirtual 335, 3), (9, .ishr, 1), (10, .ireturn, 1)])
theorem gmJ_length : GM mJ_length := ⟨by decide +kernel, lw_gd_of (List.mem_of_getElem? (i := 818) (by decide +kernel)) rfl, dk_of (by decide +kernel), ⟨by decide +kernel, by decide +kernel⟩, lw_gd_of (List.mem_of_getElem? (i := 49) (by decide +kernel)) rfl⟩
def mJ_charAt : MI := (yJ0_charAt_5068e, cJ0_charAt_5068e, 2, (some .char), 3, 64, [], [(0, .aload_n 0, 1), (1, .invokevirtual 492, 3), (4, .ifCond .eq 12, 3), (7, .aload_n 0, 1), (8, .getfield 9, 3), (11, .iload_n 1, 1), (12, .invokestatic 495, 3), (15, .ireturn, 1), (16, .aload_n 0, 1), (17, .getfield 9, 3), (20, .iload_n 1, 1), (21, .invokestatic 498, 3), (24, .ireturn, 1)])
theorem gmJ_charAt : GM mJ_charAt := ⟨by decide +kernel, lw_gd_of (List.mem_of_getElem? (i := 1029) (by decide +kernel)) rfl, dk_of (by decide +kernel), ⟨by decide +kernel, by decide +kernel⟩, lw_gd_of (List.mem_of_getElem? (i := 49) (by decide +kernel)) rfl⟩
def mJ_coder : MI := (yJ0_coder_7d493, cJ0_coder_7d493, 1, (some .byte), 0, 0, [], [(0, .getstatic 38, 3), (3, .ifCond .eq 10, 3), (6, .aload_n 0, 1), (7, .getfield 15, 3), (10, .goto 4, 3), (13, .iconst 1, 1), (14, .ireturn, 1)])
theorem gmJ_coder : GM mJ_coder := ⟨by decide +kernel, lw_gd_of (List.mem_of_getElem? (i := 822) (by decide +kernel)) rfl, dk_of (by decide +kernel), ⟨by decide +kernel, by decide +kernel⟩, lw_gd_of (List.mem_of_getElem? (i := 49) (by decide +kernel)) rfl⟩
def mJ_isLatin1 : MI := (yJ0_isLatin1_aae02, cJ0_isLatin1_aae02, 1, (some .boolean), 0, 0, [], [(0, .getstatic 38, 3), (3, .ifCond .eq 14, 3), (6, .aload_n 0, 1), (7, .getfield 15, 3), (10, .ifCond .ne 7, 3), (13, .iconst 1, 1), (14, .goto 4, 3), (17, .iconst 0, 1), (18, .ireturn, 1)])
theorem gmJ_isLatin1 : GM mJ_isLatin1 := ⟨by decide +kernel, lw_gd_of (List.mem_of_getElem? (i := 1033) (by decide +kernel)) rfl, dk_of (by decide +kernel), ⟨by decide +kernel, by decide +kernel⟩, lw_gd_of (List.mem_of_getElem? (i := 49) (by decide +kernel)) rfl⟩
def mJ_checkIndexS : MI := (yJ0_checkIndex_df160, cJ0_checkIndex_df160, 2, none, 1, 22, [], [(0, .iload_n 0, 1), (1, .iload_n 1, 1), (2, .getstatic 1053, 3), (5, .invokestatic 1059, 3), (8, .pop, 1), (9, .return_, 1)])
theorem gmJ_checkIndexS : GM mJ_checkIndexS := ⟨by decide +kernel, lw_gd_of (List.mem_of_getElem? (i := 876) (by decide +kernel)) rfl, dk_of (by decide +kernel), ⟨by decide +kernel, by decide +kernel⟩, lw_gd_of (List.mem_of_getElem? (i := 49) (by decide +kernel)) rfl⟩
def mJ_charAtL : MI := (yJ1_charAt_3b067, cJ1_charAt_3b067, 2, (some .char), 2, 43, [], [(0, .iload_n 1, 1), (1, .aload_n 0, 1), (2, .arraylength, 1), (3, .invokestatic 9, 3), (6, .aload_n 0, 1), (7, .iload_n 1, 1), (8, .baload, 1), (9, .sipush 255, 3), (12, .iand, 1), (13, .i2c, 1), (14, .ireturn, 1)])
theorem gmJ_charAtL : GM mJ_charAtL := ⟨by decide +kernel, lw_gd_of (List.mem_of_getElem? (i := 1036) (by decide +kernel)) rfl, dk_of (by decide +kernel), ⟨by decide +kernel, by decide +kernel⟩, lw_gd_of (List.mem_of_getElem? (i := 55) (by decide +kernel)) rfl⟩
def mJ_checkIndexP : MI := (yJ3_checkIndex_8e157, cJ3_checkIndex_8e157, 3, (some .int), 0, 0, [], [(0, .iload_n 0, 1), (1, .ifCond .lt 8, 3), (4, .iload_n 0, 1), (5, .iload_n 1, 1), (6, .if_icmp .lt 10, 3), (9, .aload_n 2, 1), (10, .iload_n 0, 1), (11, .iload_n 1, 1), (12, .invokestatic 95, 3), (15, .athrow, 1), (16, .iload_n 0, 1), (17, .ireturn, 1)])
theorem gmJ_checkIndexP : GM mJ_checkIndexP := ⟨by decide +kernel, lw_gd_of (List.mem_of_getElem? (i := 879) (by decide +kernel)) rfl, dk_of (by decide +kernel), ⟨by decide +kernel, by decide +kernel⟩, lw_gd_of (List.mem_of_getElem? (i := 54) (by decide +kernel)) rfl⟩
end
section
theorem flX0_9 : FL RX0 9 0 0 false (.int) := FL.of ciX0 (by decide) (lw_gd_of (List.mem_of_getElem? (i := 112) (by decide +kernel)) rfl) rfl rfl
theorem flX0_15 : FL RX0 15 0 1 true (.array .long) := FL.of ciX0 (by decide) (lw_gd_of (List.mem_of_getElem? (i := 116) (by decide +kernel)) rfl) rfl rfl
theorem flX0_19 : FL RX0 19 0 2 true (.array .int) := FL.of ciX0 (by decide) (lw_gd_of (List.mem_of_getElem? (i := 117) (by decide +kernel)) rfl) rfl rfl
theorem flX0_23 : FL RX0 23 0 3 false (.int) := FL.of ciX0 (by decide) (lw_gd_of (List.mem_of_getElem? (i := 120) (by decide +kernel)) rfl) rfl rfl
theorem flX0_26 : FL RX0 26 0 4 false (.int) := FL.of ciX0 (by decide) (lw_gd_of (List.mem_of_getElem? (i := 125) (by decide +kernel)) rfl) rfl rfl
theorem flX0_29 : FL RX0 29 0 5 true (.array .int) := FL.of ciX0 (by decide) (lw_gd_of (List.mem_of_getElem? (i := 129) (by decide +kernel)) rfl) rfl rfl
theorem flX0_32 : FL RX0 32 0 6 false (.int) := FL.of ciX0 (by decide) (lw_gd_of (List.mem_of_getElem? (i := 131) (by decide +kernel)) rfl) rfl rfl
theorem flX0_35 : FL RX0 35 0 7 true (.array .int) := FL.of ciX0 (by decide) (lw_gd_of (List.mem_of_getElem? (i := 136) (by decide +kernel)) rfl) rfl rfl
theorem flX0_38 : FL RX0 38 0 8 true (.array .int) := FL.of ciX0 (by decide) (lw_gd_of (List.mem_of_getElem? (i := 140) (by decide +kernel)) rfl) rfl rfl
theorem flX0_41 : FL RX0 41 0 9 false (.int) := FL.of ciX0 (by decide) (lw_gd_of (List.mem_of_getElem? (i := 143) (by decide +kernel)) rfl) rfl rfl
theorem flX0_44 : FL RX0 44 0 10 false (.int) := FL.of ciX0 (by decide) (lw_gd_of (List.mem_of_getElem? (i := 147) (by decide +kernel)) rfl) rfl rfl
theorem flX0_47 : FL RX0 47 0 11 false (.int) := FL.of ciX0 (by decide) (lw_gd_of (List.mem_of_getElem? (i := 151) (by decide +kernel)) rfl) rfl rfl
theorem obX0_3 : Cond.methodLink RX0 3 objectInit ∈ lw_gd := lw_gd_of (List.mem_of_getElem? (i := 111) (by decide +kernel)) rfl
theorem syX0_50 : Cond.methodLink RX0 50 arraycopyName ∈ lw_gd := lw_gd_of (List.mem_of_getElem? (i := 1299) (by decide +kernel)) rfl
theorem flX1_9 : FL RX1 9 1 0 true (.array .byte) := FL.of ciX1 (by decide) (lw_gd_of (List.mem_of_getElem? (i := 83) (by decide +kernel)) rfl) rfl rfl
theorem flX1_15 : FL RX1 15 1 1 false (.int) := FL.of ciX1 (by decide) (lw_gd_of (List.mem_of_getElem? (i := 84) (by decide +kernel)) rfl) rfl rfl
theorem flX1_19 : FL RX1 19 1 2 false (.int) := FL.of ciX1 (by decide) (lw_gd_of (List.mem_of_getElem? (i := 86) (by decide +kernel)) rfl) rfl rfl
theorem flX1_22 : FL RX1 22 1 3 false (.int) := FL.of ciX1 (by decide) (lw_gd_of (List.mem_of_getElem? (i := 87) (by decide +kernel)) rfl) rfl rfl
theorem flX1_25 : FL RX1 25 1 4 false (.int) := FL.of ciX1 (by decide) (lw_gd_of (List.mem_of_getElem? (i := 89) (by decide +kernel)) rfl) rfl rfl
theorem flX1_28 : FL RX1 28 1 5 false (.int) := FL.of ciX1 (by decide) (lw_gd_of (List.mem_of_getElem? (i := 91) (by decide +kernel)) rfl) rfl rfl
theorem obX1_3 : Cond.methodLink RX1 3 objectInit ∈ lw_gd := lw_gd_of (List.mem_of_getElem? (i := 82) (by decide +kernel)) rfl
theorem lkX1_31 : LV RX1 31 mX1_advance 0 := ⟨lw_gd_of (List.mem_of_getElem? (i := 1141) (by decide +kernel)) rfl, lw_gd_of (List.mem_of_getElem? (i := 1142) (by decide +kernel)) rfl, lw_gd_of (List.mem_of_getElem? (i := 1143) (by decide +kernel)) rfl, by decide +kernel, gmX1_advance, rfl⟩
theorem lkX1_34 : LV RX1 34 mX1_kindAt 1 := ⟨lw_gd_of (List.mem_of_getElem? (i := 1145) (by decide +kernel)) rfl, lw_gd_of (List.mem_of_getElem? (i := 1147) (by decide +kernel)) rfl, lw_gd_of (List.mem_of_getElem? (i := 13) (by decide +kernel)) rfl, by decide +kernel, gmX1_kindAt, rfl⟩
theorem lkX1_38 : LV RX1 38 mJ_length 0 := ⟨lw_gd_of (List.mem_of_getElem? (i := 1158) (by decide +kernel)) rfl, lw_gd_of (List.mem_of_getElem? (i := 816) (by decide +kernel)) rfl, lw_gd_of (List.mem_of_getElem? (i := 817) (by decide +kernel)) rfl, by decide +kernel, gmJ_length, rfl⟩
theorem lkX1_43 : LV RX1 43 mX1_byteAt 1 := ⟨lw_gd_of (List.mem_of_getElem? (i := 1159) (by decide +kernel)) rfl, lw_gd_of (List.mem_of_getElem? (i := 1161) (by decide +kernel)) rfl, lw_gd_of (List.mem_of_getElem? (i := 15) (by decide +kernel)) rfl, by decide +kernel, gmX1_byteAt, rfl⟩
theorem lkX1_46 : LV RX1 46 mJ_charAt 1 := ⟨lw_gd_of (List.mem_of_getElem? (i := 1163) (by decide +kernel)) rfl, lw_gd_of (List.mem_of_getElem? (i := 1027) (by decide +kernel)) rfl, lw_gd_of (List.mem_of_getElem? (i := 1028) (by decide +kernel)) rfl, by decide +kernel, gmJ_charAt, rfl⟩
theorem kcX1_50 : Cond.constantLong RX1 50 27 ∈ lw_gd := lw_gd_of (List.mem_of_getElem? (i := 1177) (by decide +kernel)) rfl
theorem flX2_9 : FL RX2 9 2 0 false (.int) := FL.of ciX2 (by decide) (lw_gd_of (List.mem_of_getElem? (i := 243) (by decide +kernel)) rfl) rfl rfl
theorem flX2_15 : FL RX2 15 2 1 false (.int) := FL.of ciX2 (by decide) (lw_gd_of (List.mem_of_getElem? (i := 245) (by decide +kernel)) rfl) rfl rfl
theorem flX2_18 : FL RX2 18 2 2 false (.int) := FL.of ciX2 (by decide) (lw_gd_of (List.mem_of_getElem? (i := 247) (by decide +kernel)) rfl) rfl rfl
theorem flX2_21 : FL RX2 21 2 3 false (.int) := FL.of ciX2 (by decide) (lw_gd_of (List.mem_of_getElem? (i := 249) (by decide +kernel)) rfl) rfl rfl
theorem flX2_24 : FL RX2 24 2 4 false (.int) := FL.of ciX2 (by decide) (lw_gd_of (List.mem_of_getElem? (i := 251) (by decide +kernel)) rfl) rfl rfl
theorem flX2_27 : FL RX2 27 2 5 true (.array .int) := FL.of ciX2 (by decide) (lw_gd_of (List.mem_of_getElem? (i := 254) (by decide +kernel)) rfl) rfl rfl
theorem flX2_31 : FL RX2 31 2 6 true (.array .int) := FL.of ciX2 (by decide) (lw_gd_of (List.mem_of_getElem? (i := 256) (by decide +kernel)) rfl) rfl rfl
theorem flX2_34 : FL RX2 34 2 7 true (.array .int) := FL.of ciX2 (by decide) (lw_gd_of (List.mem_of_getElem? (i := 259) (by decide +kernel)) rfl) rfl rfl
theorem flX2_37 : FL RX2 37 2 8 true (.array .int) := FL.of ciX2 (by decide) (lw_gd_of (List.mem_of_getElem? (i := 260) (by decide +kernel)) rfl) rfl rfl
theorem obX2_3 : Cond.methodLink RX2 3 objectInit ∈ lw_gd := lw_gd_of (List.mem_of_getElem? (i := 242) (by decide +kernel)) rfl
theorem flX2_46 : FL RX2 46 0 5 true (.array .int) := FL.of ciX0 (by decide) (lw_gd_of (List.mem_of_getElem? (i := 130) (by decide +kernel)) rfl) rfl rfl
theorem lkX2_40 : LV RX2 40 mX8_value 1 := ⟨lw_gd_of (List.mem_of_getElem? (i := 399) (by decide +kernel)) rfl, lw_gd_of (List.mem_of_getElem? (i := 400) (by decide +kernel)) rfl, lw_gd_of (List.mem_of_getElem? (i := 401) (by decide +kernel)) rfl, by decide +kernel, gmX8_value, rfl⟩
theorem lkX2_51 : LSN RX2 51 mX9_at 2 := ⟨⟨"EstateSettlement", by decide +kernel⟩, lw_gd_of (List.mem_of_getElem? (i := 408) (by decide +kernel)) rfl, by decide +kernel, gmX9_at, rfl⟩
theorem lkX2_55 : LSN RX2 55 mX9_portion 3 := ⟨⟨"EstateSettlement", by decide +kernel⟩, lw_gd_of (List.mem_of_getElem? (i := 411) (by decide +kernel)) rfl, by decide +kernel, gmX9_portion, rfl⟩
theorem flX2_59 : FL RX2 59 0 4 false (.int) := FL.of ciX0 (by decide) (lw_gd_of (List.mem_of_getElem? (i := 126) (by decide +kernel)) rfl) rfl rfl
theorem lkX2_62 : LS9 RX2 62 mX2_netValue 3 := ⟨lw_gd_of (List.mem_of_getElem? (i := 396) (by decide +kernel)) rfl, lw_gd_of (List.mem_of_getElem? (i := 397) (by decide +kernel)) rfl, by decide +kernel, gmX2_netValue, rfl⟩
theorem lkX2_66 : LV RX2 66 mX2_claimDebts 2 := ⟨lw_gd_of (List.mem_of_getElem? (i := 417) (by decide +kernel)) rfl, lw_gd_of (List.mem_of_getElem? (i := 419) (by decide +kernel)) rfl, lw_gd_of (List.mem_of_getElem? (i := 1) (by decide +kernel)) rfl, by decide +kernel, gmX2_claimDebts, rfl⟩
theorem lkX2_70 : LSN RX2 70 mX9_sumOf 1 := ⟨⟨"EstateSettlement", by decide +kernel⟩, lw_gd_of (List.mem_of_getElem? (i := 434) (by decide +kernel)) rfl, by decide +kernel, gmX9_sumOf, rfl⟩
theorem lkX2_80 : LSN RX2 80 mX9_split 3 := ⟨⟨"EstateSettlement", by decide +kernel⟩, lw_gd_of (List.mem_of_getElem? (i := 440) (by decide +kernel)) rfl, by decide +kernel, gmX9_split, rfl⟩
theorem lkX2_84 : LV RX2 84 mX8_debtCount 0 := ⟨lw_gd_of (List.mem_of_getElem? (i := 421) (by decide +kernel)) rfl, lw_gd_of (List.mem_of_getElem? (i := 422) (by decide +kernel)) rfl, lw_gd_of (List.mem_of_getElem? (i := 423) (by decide +kernel)) rfl, by decide +kernel, gmX8_debtCount, rfl⟩
theorem lkX2_88 : LV RX2 88 mX8_debtRank 1 := ⟨lw_gd_of (List.mem_of_getElem? (i := 425) (by decide +kernel)) rfl, lw_gd_of (List.mem_of_getElem? (i := 426) (by decide +kernel)) rfl, lw_gd_of (List.mem_of_getElem? (i := 427) (by decide +kernel)) rfl, by decide +kernel, gmX8_debtRank, rfl⟩
theorem lkX2_91 : LV RX2 91 mX8_debtAmount 1 := ⟨lw_gd_of (List.mem_of_getElem? (i := 429) (by decide +kernel)) rfl, lw_gd_of (List.mem_of_getElem? (i := 430) (by decide +kernel)) rfl, lw_gd_of (List.mem_of_getElem? (i := 431) (by decide +kernel)) rfl, by decide +kernel, gmX8_debtAmount, rfl⟩
theorem flX2_94 : FL RX2 94 0 6 false (.int) := FL.of ciX0 (by decide) (lw_gd_of (List.mem_of_getElem? (i := 134) (by decide +kernel)) rfl) rfl rfl
theorem flX2_97 : FL RX2 97 0 7 true (.array .int) := FL.of ciX0 (by decide) (lw_gd_of (List.mem_of_getElem? (i := 138) (by decide +kernel)) rfl) rfl rfl
theorem flX2_104 : FL RX2 104 0 8 true (.array .int) := FL.of ciX0 (by decide) (lw_gd_of (List.mem_of_getElem? (i := 141) (by decide +kernel)) rfl) rfl rfl
theorem lkX2_100 : LV RX2 100 mX8_takes 1 := ⟨lw_gd_of (List.mem_of_getElem? (i := 448) (by decide +kernel)) rfl, lw_gd_of (List.mem_of_getElem? (i := 449) (by decide +kernel)) rfl, lw_gd_of (List.mem_of_getElem? (i := 450) (by decide +kernel)) rfl, by decide +kernel, gmX8_takes, rfl⟩
theorem flX3_9 : FL RX3 9 3 0 false (.int) := FL.of ciX3 (by decide) (lw_gd_of (List.mem_of_getElem? (i := 286) (by decide +kernel)) rfl) rfl rfl
theorem flX3_15 : FL RX3 15 3 1 false (.int) := FL.of ciX3 (by decide) (lw_gd_of (List.mem_of_getElem? (i := 289) (by decide +kernel)) rfl) rfl rfl
theorem flX3_18 : FL RX3 18 3 2 true (.array .int) := FL.of ciX3 (by decide) (lw_gd_of (List.mem_of_getElem? (i := 291) (by decide +kernel)) rfl) rfl rfl
theorem flX3_22 : FL RX3 22 3 3 true (.array .int) := FL.of ciX3 (by decide) (lw_gd_of (List.mem_of_getElem? (i := 292) (by decide +kernel)) rfl) rfl rfl
theorem flX3_25 : FL RX3 25 3 4 true (.array .int) := FL.of ciX3 (by decide) (lw_gd_of (List.mem_of_getElem? (i := 294) (by decide +kernel)) rfl) rfl rfl
theorem obX3_3 : Cond.methodLink RX3 3 objectInit ∈ lw_gd := lw_gd_of (List.mem_of_getElem? (i := 285) (by decide +kernel)) rfl
theorem flX3_28 : FL RX3 28 0 0 false (.int) := FL.of ciX0 (by decide) (lw_gd_of (List.mem_of_getElem? (i := 113) (by decide +kernel)) rfl) rfl rfl
theorem flX3_46 : FL RX3 46 0 3 false (.int) := FL.of ciX0 (by decide) (lw_gd_of (List.mem_of_getElem? (i := 121) (by decide +kernel)) rfl) rfl rfl
theorem flX3_49 : FL RX3 49 0 2 true (.array .int) := FL.of ciX0 (by decide) (lw_gd_of (List.mem_of_getElem? (i := 118) (by decide +kernel)) rfl) rfl rfl
theorem lkX3_33 : LV RX3 33 mX8_takes 1 := ⟨lw_gd_of (List.mem_of_getElem? (i := 456) (by decide +kernel)) rfl, lw_gd_of (List.mem_of_getElem? (i := 449) (by decide +kernel)) rfl, lw_gd_of (List.mem_of_getElem? (i := 450) (by decide +kernel)) rfl, by decide +kernel, gmX8_takes, rfl⟩
theorem lkX3_39 : LV RX3 39 mX8_passesOn 1 := ⟨lw_gd_of (List.mem_of_getElem? (i := 457) (by decide +kernel)) rfl, lw_gd_of (List.mem_of_getElem? (i := 458) (by decide +kernel)) rfl, lw_gd_of (List.mem_of_getElem? (i := 459) (by decide +kernel)) rfl, by decide +kernel, gmX8_passesOn, rfl⟩
theorem lkX3_42 : LSN RX3 42 mX9_at 2 := ⟨⟨"EstateSettlement", by decide +kernel⟩, lw_gd_of (List.mem_of_getElem? (i := 408) (by decide +kernel)) rfl, by decide +kernel, gmX9_at, rfl⟩
theorem lkX3_52 : LV RX3 52 mX3_countLine 1 := ⟨lw_gd_of (List.mem_of_getElem? (i := 462) (by decide +kernel)) rfl, lw_gd_of (List.mem_of_getElem? (i := 464) (by decide +kernel)) rfl, lw_gd_of (List.mem_of_getElem? (i := 2) (by decide +kernel)) rfl, by decide +kernel, gmX3_countLine, rfl⟩
theorem lkX3_56 : LV RX3 56 mX3_divisorBelow 2 := ⟨lw_gd_of (List.mem_of_getElem? (i := 470) (by decide +kernel)) rfl, lw_gd_of (List.mem_of_getElem? (i := 472) (by decide +kernel)) rfl, lw_gd_of (List.mem_of_getElem? (i := 3) (by decide +kernel)) rfl, by decide +kernel, gmX3_divisorBelow, rfl⟩
theorem lkX3_60 : LSN RX3 60 mX9_hasBit 2 := ⟨⟨"EstateSettlement", by decide +kernel⟩, lw_gd_of (List.mem_of_getElem? (i := 479) (by decide +kernel)) rfl, by decide +kernel, gmX9_hasBit, rfl⟩
theorem lkX3_64 : LSN RX3 64 mX9_leastCommonMultiple 2 := ⟨⟨"EstateSettlement", by decide +kernel⟩, lw_gd_of (List.mem_of_getElem? (i := 482) (by decide +kernel)) rfl, by decide +kernel, gmX9_leastCommonMultiple, rfl⟩
theorem flX4_11 : FL RX4 11 4 0 true (.array .int) := FL.of ciX4 (by decide) (lw_gd_of (List.mem_of_getElem? (i := 375) (by decide +kernel)) rfl) rfl rfl
theorem flX4_17 : FL RX4 17 4 1 true (.array .int) := FL.of ciX4 (by decide) (lw_gd_of (List.mem_of_getElem? (i := 376) (by decide +kernel)) rfl) rfl rfl
theorem flX4_20 : FL RX4 20 4 2 false (.int) := FL.of ciX4 (by decide) (lw_gd_of (List.mem_of_getElem? (i := 377) (by decide +kernel)) rfl) rfl rfl
theorem flX4_24 : FL RX4 24 4 3 false (.int) := FL.of ciX4 (by decide) (lw_gd_of (List.mem_of_getElem? (i := 378) (by decide +kernel)) rfl) rfl rfl
theorem obX4_3 : Cond.methodLink RX4 3 objectInit ∈ lw_gd := lw_gd_of (List.mem_of_getElem? (i := 374) (by decide +kernel)) rfl
theorem syX4_27 : Cond.methodLink RX4 27 arraycopyName ∈ lw_gd := lw_gd_of (List.mem_of_getElem? (i := 1490) (by decide +kernel)) rfl
theorem lkX4_33 : LV RX4 33 mX8_writeTo 2 := ⟨lw_gd_of (List.mem_of_getElem? (i := 1491) (by decide +kernel)) rfl, lw_gd_of (List.mem_of_getElem? (i := 1492) (by decide +kernel)) rfl, lw_gd_of (List.mem_of_getElem? (i := 1493) (by decide +kernel)) rfl, by decide +kernel, gmX8_writeTo, rfl⟩
theorem nwX5_9 : Cond.classLink RX5 9 RX1 ∈ lw_gd ∧ Cond.instantiable RX1 6 ∈ lw_gd ∧ Cond.initialized RX1 ∈ lw_gd := ⟨lw_gd_of (List.mem_of_getElem? (i := 77) (by decide +kernel)) rfl, lw_gd_of (List.mem_of_getElem? (i := 78) (by decide +kernel)) rfl, lw_gd_of (List.mem_of_getElem? (i := 37) (by decide +kernel)) rfl⟩
theorem flX5_12 : FL RX5 12 5 0 true (.object "EstateSettlement$Input") := FL.of ciX5 (by decide) (lw_gd_of (List.mem_of_getElem? (i := 192) (by decide +kernel)) rfl) rfl rfl
theorem nwX5_18 : Cond.classLink RX5 18 RX0 ∈ lw_gd ∧ Cond.instantiable RX0 12 ∈ lw_gd ∧ Cond.initialized RX0 ∈ lw_gd := ⟨lw_gd_of (List.mem_of_getElem? (i := 106) (by decide +kernel)) rfl, lw_gd_of (List.mem_of_getElem? (i := 107) (by decide +kernel)) rfl, lw_gd_of (List.mem_of_getElem? (i := 38) (by decide +kernel)) rfl⟩
theorem flX5_21 : FL RX5 21 5 1 true (.object "EstateSettlement$Estate") := FL.of ciX5 (by decide) (lw_gd_of (List.mem_of_getElem? (i := 194) (by decide +kernel)) rfl) rfl rfl
theorem nwX5_25 : Cond.classLink RX5 25 RX8 ∈ lw_gd ∧ Cond.instantiable RX8 1 ∈ lw_gd ∧ Cond.initialized RX8 ∈ lw_gd := ⟨lw_gd_of (List.mem_of_getElem? (i := 182) (by decide +kernel)) rfl, lw_gd_of (List.mem_of_getElem? (i := 183) (by decide +kernel)) rfl, lw_gd_of (List.mem_of_getElem? (i := 39) (by decide +kernel)) rfl⟩
theorem flX5_28 : FL RX5 28 5 2 true (.object "EstateSettlement$State") := FL.of ciX5 (by decide) (lw_gd_of (List.mem_of_getElem? (i := 196) (by decide +kernel)) rfl) rfl rfl
theorem flX5_32 : FL RX5 32 5 3 false (.int) := FL.of ciX5 (by decide) (lw_gd_of (List.mem_of_getElem? (i := 198) (by decide +kernel)) rfl) rfl rfl
theorem flX5_36 : FL RX5 36 5 4 false (.int) := FL.of ciX5 (by decide) (lw_gd_of (List.mem_of_getElem? (i := 200) (by decide +kernel)) rfl) rfl rfl
theorem flX5_39 : FL RX5 39 5 5 false (.boolean) := FL.of ciX5 (by decide) (lw_gd_of (List.mem_of_getElem? (i := 201) (by decide +kernel)) rfl) rfl rfl
theorem flX5_43 : FL RX5 43 5 6 false (.boolean) := FL.of ciX5 (by decide) (lw_gd_of (List.mem_of_getElem? (i := 202) (by decide +kernel)) rfl) rfl rfl
theorem flX5_46 : FL RX5 46 5 7 false (.boolean) := FL.of ciX5 (by decide) (lw_gd_of (List.mem_of_getElem? (i := 203) (by decide +kernel)) rfl) rfl rfl
theorem flX5_49 : FL RX5 49 5 8 false (.int) := FL.of ciX5 (by decide) (lw_gd_of (List.mem_of_getElem? (i := 204) (by decide +kernel)) rfl) rfl rfl
theorem flX5_52 : FL RX5 52 5 9 false (.int) := FL.of ciX5 (by decide) (lw_gd_of (List.mem_of_getElem? (i := 205) (by decide +kernel)) rfl) rfl rfl
theorem obX5_3 : Cond.methodLink RX5 3 objectInit ∈ lw_gd := lw_gd_of (List.mem_of_getElem? (i := 76) (by decide +kernel)) rfl
theorem lkX5_11 : LIN RX5 11 mX1_init 0 := ⟨⟨"EstateSettlement", by decide +kernel⟩, lw_gd_of (List.mem_of_getElem? (i := 80) (by decide +kernel)) rfl, rfl, by decide +kernel, gmX1_init, rfl, rfl⟩
theorem lkX5_20 : LIN RX5 20 mX0_init 0 := ⟨⟨"EstateSettlement", by decide +kernel⟩, lw_gd_of (List.mem_of_getElem? (i := 109) (by decide +kernel)) rfl, rfl, by decide +kernel, gmX0_init, rfl, rfl⟩
theorem lkX5_27 : LI RX5 27 mX8_init 0 := ⟨lw_gd_of (List.mem_of_getElem? (i := 184) (by decide +kernel)) rfl, lw_gd_of (List.mem_of_getElem? (i := 185) (by decide +kernel)) rfl, rfl, by decide +kernel, gmX8_init, rfl, rfl⟩
theorem flX5_63 : FL RX5 63 1 3 false (.int) := FL.of ciX1 (by decide) (lw_gd_of (List.mem_of_getElem? (i := 88) (by decide +kernel)) rfl) rfl rfl
theorem lkX5_55 : LV RX5 55 mX0_clear 0 := ⟨lw_gd_of (List.mem_of_getElem? (i := 1129) (by decide +kernel)) rfl, lw_gd_of (List.mem_of_getElem? (i := 1130) (by decide +kernel)) rfl, lw_gd_of (List.mem_of_getElem? (i := 1131) (by decide +kernel)) rfl, by decide +kernel, gmX0_clear, rfl⟩
theorem lkX5_58 : LV RX5 58 mX8_clear 0 := ⟨lw_gd_of (List.mem_of_getElem? (i := 1133) (by decide +kernel)) rfl, lw_gd_of (List.mem_of_getElem? (i := 1134) (by decide +kernel)) rfl, lw_gd_of (List.mem_of_getElem? (i := 1135) (by decide +kernel)) rfl, by decide +kernel, gmX8_clear, rfl⟩
theorem lkX5_59 : LV RX5 59 mX1_open 1 := ⟨lw_gd_of (List.mem_of_getElem? (i := 1137) (by decide +kernel)) rfl, lw_gd_of (List.mem_of_getElem? (i := 1138) (by decide +kernel)) rfl, lw_gd_of (List.mem_of_getElem? (i := 1139) (by decide +kernel)) rfl, by decide +kernel, gmX1_open, rfl⟩
theorem lkX5_66 : LV RX5 66 mX5_readStatement 0 := ⟨lw_gd_of (List.mem_of_getElem? (i := 1149) (by decide +kernel)) rfl, lw_gd_of (List.mem_of_getElem? (i := 1151) (by decide +kernel)) rfl, lw_gd_of (List.mem_of_getElem? (i := 14) (by decide +kernel)) rfl, by decide +kernel, gmX5_readStatement, rfl⟩
theorem lkX5_70 : LV RX5 70 mX5_readSemicolon 0 := ⟨lw_gd_of (List.mem_of_getElem? (i := 1287) (by decide +kernel)) rfl, lw_gd_of (List.mem_of_getElem? (i := 1289) (by decide +kernel)) rfl, lw_gd_of (List.mem_of_getElem? (i := 29) (by decide +kernel)) rfl, by decide +kernel, gmX5_readSemicolon, rfl⟩
theorem flX5_73 : FL RX5 73 1 4 false (.int) := FL.of ciX1 (by decide) (lw_gd_of (List.mem_of_getElem? (i := 90) (by decide +kernel)) rfl) rfl rfl
theorem lkX5_78 : LV RX5 78 mX1_isWord 1 := ⟨lw_gd_of (List.mem_of_getElem? (i := 1154) (by decide +kernel)) rfl, lw_gd_of (List.mem_of_getElem? (i := 1155) (by decide +kernel)) rfl, lw_gd_of (List.mem_of_getElem? (i := 1156) (by decide +kernel)) rfl, by decide +kernel, gmX1_isWord, rfl⟩
theorem lkX5_82 : LV RX5 82 mX5_readPerson 0 := ⟨lw_gd_of (List.mem_of_getElem? (i := 1164) (by decide +kernel)) rfl, lw_gd_of (List.mem_of_getElem? (i := 1166) (by decide +kernel)) rfl, lw_gd_of (List.mem_of_getElem? (i := 16) (by decide +kernel)) rfl, by decide +kernel, gmX5_readPerson, rfl⟩
theorem lkX5_87 : LV RX5 87 mX5_readAsset 0 := ⟨lw_gd_of (List.mem_of_getElem? (i := 1219) (by decide +kernel)) rfl, lw_gd_of (List.mem_of_getElem? (i := 1221) (by decide +kernel)) rfl, lw_gd_of (List.mem_of_getElem? (i := 22) (by decide +kernel)) rfl, by decide +kernel, gmX5_readAsset, rfl⟩
theorem lkX5_92 : LV RX5 92 mX5_readDebt 0 := ⟨lw_gd_of (List.mem_of_getElem? (i := 1234) (by decide +kernel)) rfl, lw_gd_of (List.mem_of_getElem? (i := 1236) (by decide +kernel)) rfl, lw_gd_of (List.mem_of_getElem? (i := 23) (by decide +kernel)) rfl, by decide +kernel, gmX5_readDebt, rfl⟩
theorem lkX5_97 : LV RX5 97 mX5_readGift 0 := ⟨lw_gd_of (List.mem_of_getElem? (i := 1245) (by decide +kernel)) rfl, lw_gd_of (List.mem_of_getElem? (i := 1247) (by decide +kernel)) rfl, lw_gd_of (List.mem_of_getElem? (i := 24) (by decide +kernel)) rfl, by decide +kernel, gmX5_readGift, rfl⟩
theorem lkX5_102 : LV RX5 102 mX5_readLegacy 0 := ⟨lw_gd_of (List.mem_of_getElem? (i := 1255) (by decide +kernel)) rfl, lw_gd_of (List.mem_of_getElem? (i := 1257) (by decide +kernel)) rfl, lw_gd_of (List.mem_of_getElem? (i := 25) (by decide +kernel)) rfl, by decide +kernel, gmX5_readLegacy, rfl⟩
theorem lkX5_107 : LV RX5 107 mX5_readShare 0 := ⟨lw_gd_of (List.mem_of_getElem? (i := 1264) (by decide +kernel)) rfl, lw_gd_of (List.mem_of_getElem? (i := 1266) (by decide +kernel)) rfl, lw_gd_of (List.mem_of_getElem? (i := 26) (by decide +kernel)) rfl, by decide +kernel, gmX5_readShare, rfl⟩
theorem lkX5_112 : LV RX5 112 mX5_readLife 0 := ⟨lw_gd_of (List.mem_of_getElem? (i := 1269) (by decide +kernel)) rfl, lw_gd_of (List.mem_of_getElem? (i := 1271) (by decide +kernel)) rfl, lw_gd_of (List.mem_of_getElem? (i := 27) (by decide +kernel)) rfl, by decide +kernel, gmX5_readLife, rfl⟩
theorem lkX5_117 : LV RX5 117 mX5_readAccrue 0 := ⟨lw_gd_of (List.mem_of_getElem? (i := 1274) (by decide +kernel)) rfl, lw_gd_of (List.mem_of_getElem? (i := 1276) (by decide +kernel)) rfl, lw_gd_of (List.mem_of_getElem? (i := 28) (by decide +kernel)) rfl, by decide +kernel, gmX5_readAccrue, rfl⟩
theorem lkX5_120 : LV RX5 120 mX5_fail 1 := ⟨lw_gd_of (List.mem_of_getElem? (i := 1168) (by decide +kernel)) rfl, lw_gd_of (List.mem_of_getElem? (i := 1170) (by decide +kernel)) rfl, lw_gd_of (List.mem_of_getElem? (i := 17) (by decide +kernel)) rfl, by decide +kernel, gmX5_fail, rfl⟩
theorem lkX5_124 : LV RX5 124 mX1_advance 0 := ⟨lw_gd_of (List.mem_of_getElem? (i := 1172) (by decide +kernel)) rfl, lw_gd_of (List.mem_of_getElem? (i := 1142) (by decide +kernel)) rfl, lw_gd_of (List.mem_of_getElem? (i := 1143) (by decide +kernel)) rfl, by decide +kernel, gmX1_advance, rfl⟩
theorem flX5_127 : FL RX5 127 0 0 false (.int) := FL.of ciX0 (by decide) (lw_gd_of (List.mem_of_getElem? (i := 115) (by decide +kernel)) rfl) rfl rfl
theorem flX5_140 : FL RX5 140 0 3 false (.int) := FL.of ciX0 (by decide) (lw_gd_of (List.mem_of_getElem? (i := 124) (by decide +kernel)) rfl) rfl rfl
theorem lkX5_130 : LV RX5 130 mX1_word 0 := ⟨lw_gd_of (List.mem_of_getElem? (i := 1173) (by decide +kernel)) rfl, lw_gd_of (List.mem_of_getElem? (i := 1174) (by decide +kernel)) rfl, lw_gd_of (List.mem_of_getElem? (i := 1175) (by decide +kernel)) rfl, by decide +kernel, gmX1_word, rfl⟩
theorem lkX5_134 : LV RX5 134 mX0_personNamed 1 := ⟨lw_gd_of (List.mem_of_getElem? (i := 1178) (by decide +kernel)) rfl, lw_gd_of (List.mem_of_getElem? (i := 1179) (by decide +kernel)) rfl, lw_gd_of (List.mem_of_getElem? (i := 1180) (by decide +kernel)) rfl, by decide +kernel, gmX0_personNamed, rfl⟩
theorem lkX5_143 : LV RX5 143 mX5_readKnownPerson 1 := ⟨lw_gd_of (List.mem_of_getElem? (i := 1183) (by decide +kernel)) rfl, lw_gd_of (List.mem_of_getElem? (i := 1185) (by decide +kernel)) rfl, lw_gd_of (List.mem_of_getElem? (i := 18) (by decide +kernel)) rfl, by decide +kernel, gmX5_readKnownPerson, rfl⟩
theorem lkX5_148 : LV RX5 148 mX5_readNumber 2 := ⟨lw_gd_of (List.mem_of_getElem? (i := 1188) (by decide +kernel)) rfl, lw_gd_of (List.mem_of_getElem? (i := 1190) (by decide +kernel)) rfl, lw_gd_of (List.mem_of_getElem? (i := 19) (by decide +kernel)) rfl, by decide +kernel, gmX5_readNumber, rfl⟩
theorem lkX5_152 : LV RX5 152 mX0_putPerson 2 := ⟨lw_gd_of (List.mem_of_getElem? (i := 1196) (by decide +kernel)) rfl, lw_gd_of (List.mem_of_getElem? (i := 1197) (by decide +kernel)) rfl, lw_gd_of (List.mem_of_getElem? (i := 1198) (by decide +kernel)) rfl, by decide +kernel, gmX0_putPerson, rfl⟩
theorem lkX5_156 : LV RX5 156 mX8_putAge 2 := ⟨lw_gd_of (List.mem_of_getElem? (i := 1200) (by decide +kernel)) rfl, lw_gd_of (List.mem_of_getElem? (i := 1201) (by decide +kernel)) rfl, lw_gd_of (List.mem_of_getElem? (i := 1202) (by decide +kernel)) rfl, by decide +kernel, gmX8_putAge, rfl⟩
theorem lkX5_160 : LV RX5 160 mX5_readStanding 2 := ⟨lw_gd_of (List.mem_of_getElem? (i := 1208) (by decide +kernel)) rfl, lw_gd_of (List.mem_of_getElem? (i := 1210) (by decide +kernel)) rfl, lw_gd_of (List.mem_of_getElem? (i := 21) (by decide +kernel)) rfl, by decide +kernel, gmX5_readStanding, rfl⟩
theorem lkX5_165 : LV RX5 165 mX8_putDead 1 := ⟨lw_gd_of (List.mem_of_getElem? (i := 1213) (by decide +kernel)) rfl, lw_gd_of (List.mem_of_getElem? (i := 1214) (by decide +kernel)) rfl, lw_gd_of (List.mem_of_getElem? (i := 1215) (by decide +kernel)) rfl, by decide +kernel, gmX8_putDead, rfl⟩
theorem flX5_169 : FL RX5 169 0 4 false (.int) := FL.of ciX0 (by decide) (lw_gd_of (List.mem_of_getElem? (i := 128) (by decide +kernel)) rfl) rfl rfl
theorem kcX5_172 : Cond.constant RX5 172 9999999 ∈ lw_gd := lw_gd_of (List.mem_of_getElem? (i := 1223) (by decide +kernel)) rfl
theorem lkX5_175 : LV RX5 175 mX8_putValue 2 := ⟨lw_gd_of (List.mem_of_getElem? (i := 1225) (by decide +kernel)) rfl, lw_gd_of (List.mem_of_getElem? (i := 1226) (by decide +kernel)) rfl, lw_gd_of (List.mem_of_getElem? (i := 1227) (by decide +kernel)) rfl, by decide +kernel, gmX8_putValue, rfl⟩
theorem lkX5_178 : LV RX5 178 mX0_putAsset 1 := ⟨lw_gd_of (List.mem_of_getElem? (i := 1229) (by decide +kernel)) rfl, lw_gd_of (List.mem_of_getElem? (i := 1230) (by decide +kernel)) rfl, lw_gd_of (List.mem_of_getElem? (i := 1231) (by decide +kernel)) rfl, by decide +kernel, gmX0_putAsset, rfl⟩
theorem lkX5_181 : LV RX5 181 mX8_debtCount 0 := ⟨lw_gd_of (List.mem_of_getElem? (i := 1238) (by decide +kernel)) rfl, lw_gd_of (List.mem_of_getElem? (i := 422) (by decide +kernel)) rfl, lw_gd_of (List.mem_of_getElem? (i := 423) (by decide +kernel)) rfl, by decide +kernel, gmX8_debtCount, rfl⟩
theorem lkX5_185 : LV RX5 185 mX8_putDebt 2 := ⟨lw_gd_of (List.mem_of_getElem? (i := 1239) (by decide +kernel)) rfl, lw_gd_of (List.mem_of_getElem? (i := 1240) (by decide +kernel)) rfl, lw_gd_of (List.mem_of_getElem? (i := 1241) (by decide +kernel)) rfl, by decide +kernel, gmX8_putDebt, rfl⟩
theorem lkX5_188 : LV RX5 188 mX8_giftCount 0 := ⟨lw_gd_of (List.mem_of_getElem? (i := 1249) (by decide +kernel)) rfl, lw_gd_of (List.mem_of_getElem? (i := 513) (by decide +kernel)) rfl, lw_gd_of (List.mem_of_getElem? (i := 514) (by decide +kernel)) rfl, by decide +kernel, gmX8_giftCount, rfl⟩
theorem lkX5_191 : LV RX5 191 mX8_putGift 2 := ⟨lw_gd_of (List.mem_of_getElem? (i := 1250) (by decide +kernel)) rfl, lw_gd_of (List.mem_of_getElem? (i := 1251) (by decide +kernel)) rfl, lw_gd_of (List.mem_of_getElem? (i := 1252) (by decide +kernel)) rfl, by decide +kernel, gmX8_putGift, rfl⟩
theorem flX5_194 : FL RX5 194 0 6 false (.int) := FL.of ciX0 (by decide) (lw_gd_of (List.mem_of_getElem? (i := 135) (by decide +kernel)) rfl) rfl rfl
theorem lkX5_197 : LV RX5 197 mX0_putLegacy 2 := ⟨lw_gd_of (List.mem_of_getElem? (i := 1259) (by decide +kernel)) rfl, lw_gd_of (List.mem_of_getElem? (i := 1260) (by decide +kernel)) rfl, lw_gd_of (List.mem_of_getElem? (i := 1261) (by decide +kernel)) rfl, by decide +kernel, gmX0_putLegacy, rfl⟩
theorem flX5_200 : FL RX5 200 0 9 false (.int) := FL.of ciX0 (by decide) (lw_gd_of (List.mem_of_getElem? (i := 146) (by decide +kernel)) rfl) rfl rfl
theorem flX5_203 : FL RX5 203 0 10 false (.int) := FL.of ciX0 (by decide) (lw_gd_of (List.mem_of_getElem? (i := 150) (by decide +kernel)) rfl) rfl rfl
theorem flX5_206 : FL RX5 206 0 11 false (.int) := FL.of ciX0 (by decide) (lw_gd_of (List.mem_of_getElem? (i := 154) (by decide +kernel)) rfl) rfl rfl
theorem lkX5_212 : LV RX5 212 mX8_putAccrual 1 := ⟨lw_gd_of (List.mem_of_getElem? (i := 1280) (by decide +kernel)) rfl, lw_gd_of (List.mem_of_getElem? (i := 1281) (by decide +kernel)) rfl, lw_gd_of (List.mem_of_getElem? (i := 1282) (by decide +kernel)) rfl, by decide +kernel, gmX8_putAccrual, rfl⟩
theorem lkX5_216 : LV RX5 216 mX1_number 0 := ⟨lw_gd_of (List.mem_of_getElem? (i := 1192) (by decide +kernel)) rfl, lw_gd_of (List.mem_of_getElem? (i := 1193) (by decide +kernel)) rfl, lw_gd_of (List.mem_of_getElem? (i := 1194) (by decide +kernel)) rfl, by decide +kernel, gmX1_number, rfl⟩
theorem flX6_9 : FL RX6 9 6 0 false (.int) := FL.of ciX6 (by decide) (lw_gd_of (List.mem_of_getElem? (i := 314) (by decide +kernel)) rfl) rfl rfl
theorem flX6_15 : FL RX6 15 6 1 false (.int) := FL.of ciX6 (by decide) (lw_gd_of (List.mem_of_getElem? (i := 316) (by decide +kernel)) rfl) rfl rfl
theorem flX6_18 : FL RX6 18 6 2 false (.int) := FL.of ciX6 (by decide) (lw_gd_of (List.mem_of_getElem? (i := 318) (by decide +kernel)) rfl) rfl rfl
theorem flX6_21 : FL RX6 21 6 3 true (.array .int) := FL.of ciX6 (by decide) (lw_gd_of (List.mem_of_getElem? (i := 319) (by decide +kernel)) rfl) rfl rfl
theorem flX6_25 : FL RX6 25 6 4 true (.array .int) := FL.of ciX6 (by decide) (lw_gd_of (List.mem_of_getElem? (i := 321) (by decide +kernel)) rfl) rfl rfl
theorem flX6_28 : FL RX6 28 6 5 true (.array .int) := FL.of ciX6 (by decide) (lw_gd_of (List.mem_of_getElem? (i := 322) (by decide +kernel)) rfl) rfl rfl
theorem obX6_3 : Cond.methodLink RX6 3 objectInit ∈ lw_gd := lw_gd_of (List.mem_of_getElem? (i := 313) (by decide +kernel)) rfl
theorem lkX6_31 : LV RX6 31 mX8_giftsTo 1 := ⟨lw_gd_of (List.mem_of_getElem? (i := 508) (by decide +kernel)) rfl, lw_gd_of (List.mem_of_getElem? (i := 509) (by decide +kernel)) rfl, lw_gd_of (List.mem_of_getElem? (i := 510) (by decide +kernel)) rfl, by decide +kernel, gmX8_giftsTo, rfl⟩
theorem flX6_37 : FL RX6 37 3 4 true (.array .int) := FL.of ciX3 (by decide) (lw_gd_of (List.mem_of_getElem? (i := 295) (by decide +kernel)) rfl) rfl rfl
theorem syX6_40 : Cond.methodLink RX6 40 arraycopyName ∈ lw_gd := lw_gd_of (List.mem_of_getElem? (i := 520) (by decide +kernel)) rfl
theorem lkX6_46 : LV RX6 46 mX6_reckon 1 := ⟨lw_gd_of (List.mem_of_getElem? (i := 523) (by decide +kernel)) rfl, lw_gd_of (List.mem_of_getElem? (i := 525) (by decide +kernel)) rfl, lw_gd_of (List.mem_of_getElem? (i := 5) (by decide +kernel)) rfl, by decide +kernel, gmX6_reckon, rfl⟩
theorem lkX6_50 : LV RX6 50 mX6_findOverpaid 0 := ⟨lw_gd_of (List.mem_of_getElem? (i := 532) (by decide +kernel)) rfl, lw_gd_of (List.mem_of_getElem? (i := 534) (by decide +kernel)) rfl, lw_gd_of (List.mem_of_getElem? (i := 7) (by decide +kernel)) rfl, by decide +kernel, gmX6_findOverpaid, rfl⟩
theorem lkX6_54 : LSN RX6 54 mX9_split 3 := ⟨⟨"EstateSettlement", by decide +kernel⟩, lw_gd_of (List.mem_of_getElem? (i := 440) (by decide +kernel)) rfl, by decide +kernel, gmX9_split, rfl⟩
theorem lkX6_58 : LV RX6 58 mX6_isInAccount 1 := ⟨lw_gd_of (List.mem_of_getElem? (i := 528) (by decide +kernel)) rfl, lw_gd_of (List.mem_of_getElem? (i := 530) (by decide +kernel)) rfl, lw_gd_of (List.mem_of_getElem? (i := 6) (by decide +kernel)) rfl, by decide +kernel, gmX6_isInAccount, rfl⟩
theorem lkX6_62 : LSN RX6 62 mX9_portion 3 := ⟨⟨"EstateSettlement", by decide +kernel⟩, lw_gd_of (List.mem_of_getElem? (i := 411) (by decide +kernel)) rfl, by decide +kernel, gmX9_portion, rfl⟩
theorem lkX6_66 : LV RX6 66 mX6_due 1 := ⟨lw_gd_of (List.mem_of_getElem? (i := 536) (by decide +kernel)) rfl, lw_gd_of (List.mem_of_getElem? (i := 537) (by decide +kernel)) rfl, lw_gd_of (List.mem_of_getElem? (i := 538) (by decide +kernel)) rfl, by decide +kernel, gmX6_due, rfl⟩
theorem lkX6_69 : LSN RX6 69 mX9_sumOf 1 := ⟨⟨"EstateSettlement", by decide +kernel⟩, lw_gd_of (List.mem_of_getElem? (i := 434) (by decide +kernel)) rfl, by decide +kernel, gmX9_sumOf, rfl⟩
theorem nwX7_9 : Cond.classLink RX7 9 RX2 ∈ lw_gd ∧ Cond.instantiable RX2 9 ∈ lw_gd ∧ Cond.initialized RX2 ∈ lw_gd := ⟨lw_gd_of (List.mem_of_getElem? (i := 237) (by decide +kernel)) rfl, lw_gd_of (List.mem_of_getElem? (i := 238) (by decide +kernel)) rfl, lw_gd_of (List.mem_of_getElem? (i := 41) (by decide +kernel)) rfl⟩
theorem flX7_12 : FL RX7 12 7 0 true (.object "EstateSettlement$Inventory") := FL.of ciX7 (by decide) (lw_gd_of (List.mem_of_getElem? (i := 336) (by decide +kernel)) rfl) rfl rfl
theorem nwX7_18 : Cond.classLink RX7 18 RX3 ∈ lw_gd ∧ Cond.instantiable RX3 5 ∈ lw_gd ∧ Cond.initialized RX3 ∈ lw_gd := ⟨lw_gd_of (List.mem_of_getElem? (i := 280) (by decide +kernel)) rfl, lw_gd_of (List.mem_of_getElem? (i := 281) (by decide +kernel)) rfl, lw_gd_of (List.mem_of_getElem? (i := 42) (by decide +kernel)) rfl⟩
theorem flX7_21 : FL RX7 21 7 1 true (.object "EstateSettlement$Lines") := FL.of ciX7 (by decide) (lw_gd_of (List.mem_of_getElem? (i := 338) (by decide +kernel)) rfl) rfl rfl
theorem nwX7_25 : Cond.classLink RX7 25 RX6 ∈ lw_gd ∧ Cond.instantiable RX6 6 ∈ lw_gd ∧ Cond.initialized RX6 ∈ lw_gd := ⟨lw_gd_of (List.mem_of_getElem? (i := 308) (by decide +kernel)) rfl, lw_gd_of (List.mem_of_getElem? (i := 309) (by decide +kernel)) rfl, lw_gd_of (List.mem_of_getElem? (i := 43) (by decide +kernel)) rfl⟩
theorem flX7_28 : FL RX7 28 7 2 true (.object "EstateSettlement$Portions") := FL.of ciX7 (by decide) (lw_gd_of (List.mem_of_getElem? (i := 340) (by decide +kernel)) rfl) rfl rfl
theorem flX7_32 : FL RX7 32 7 3 false (.int) := FL.of ciX7 (by decide) (lw_gd_of (List.mem_of_getElem? (i := 342) (by decide +kernel)) rfl) rfl rfl
theorem flX7_36 : FL RX7 36 7 4 false (.int) := FL.of ciX7 (by decide) (lw_gd_of (List.mem_of_getElem? (i := 344) (by decide +kernel)) rfl) rfl rfl
theorem flX7_39 : FL RX7 39 7 5 false (.int) := FL.of ciX7 (by decide) (lw_gd_of (List.mem_of_getElem? (i := 346) (by decide +kernel)) rfl) rfl rfl
theorem flX7_42 : FL RX7 42 7 6 false (.int) := FL.of ciX7 (by decide) (lw_gd_of (List.mem_of_getElem? (i := 348) (by decide +kernel)) rfl) rfl rfl
theorem flX7_45 : FL RX7 45 7 7 false (.int) := FL.of ciX7 (by decide) (lw_gd_of (List.mem_of_getElem? (i := 350) (by decide +kernel)) rfl) rfl rfl
theorem obX7_3 : Cond.methodLink RX7 3 objectInit ∈ lw_gd := lw_gd_of (List.mem_of_getElem? (i := 236) (by decide +kernel)) rfl
theorem lkX7_11 : LIN RX7 11 mX2_init 0 := ⟨⟨"EstateSettlement", by decide +kernel⟩, lw_gd_of (List.mem_of_getElem? (i := 240) (by decide +kernel)) rfl, rfl, by decide +kernel, gmX2_init, rfl, rfl⟩
theorem lkX7_20 : LIN RX7 20 mX3_init 0 := ⟨⟨"EstateSettlement", by decide +kernel⟩, lw_gd_of (List.mem_of_getElem? (i := 283) (by decide +kernel)) rfl, rfl, by decide +kernel, gmX3_init, rfl, rfl⟩
theorem lkX7_27 : LIN RX7 27 mX6_init 0 := ⟨⟨"EstateSettlement", by decide +kernel⟩, lw_gd_of (List.mem_of_getElem? (i := 311) (by decide +kernel)) rfl, rfl, by decide +kernel, gmX6_init, rfl, rfl⟩
theorem lkX7_57 : LV RX7 57 mX2_addUpAssets 2 := ⟨lw_gd_of (List.mem_of_getElem? (i := 392) (by decide +kernel)) rfl, lw_gd_of (List.mem_of_getElem? (i := 393) (by decide +kernel)) rfl, lw_gd_of (List.mem_of_getElem? (i := 394) (by decide +kernel)) rfl, by decide +kernel, gmX2_addUpAssets, rfl⟩
theorem lkX7_61 : LV RX7 61 mX2_payDebts 1 := ⟨lw_gd_of (List.mem_of_getElem? (i := 413) (by decide +kernel)) rfl, lw_gd_of (List.mem_of_getElem? (i := 414) (by decide +kernel)) rfl, lw_gd_of (List.mem_of_getElem? (i := 415) (by decide +kernel)) rfl, by decide +kernel, gmX2_payDebts, rfl⟩
theorem lkX7_65 : LV RX7 65 mX2_payLegacies 2 := ⟨lw_gd_of (List.mem_of_getElem? (i := 444) (by decide +kernel)) rfl, lw_gd_of (List.mem_of_getElem? (i := 445) (by decide +kernel)) rfl, lw_gd_of (List.mem_of_getElem? (i := 446) (by decide +kernel)) rfl, by decide +kernel, gmX2_payLegacies, rfl⟩
theorem lkX7_68 : LV RX7 68 mX3_findOpenLines 2 := ⟨lw_gd_of (List.mem_of_getElem? (i := 452) (by decide +kernel)) rfl, lw_gd_of (List.mem_of_getElem? (i := 453) (by decide +kernel)) rfl, lw_gd_of (List.mem_of_getElem? (i := 454) (by decide +kernel)) rfl, by decide +kernel, gmX3_findOpenLines, rfl⟩
theorem lkX7_71 : LV RX7 71 mX3_findHeirs 2 := ⟨lw_gd_of (List.mem_of_getElem? (i := 466) (by decide +kernel)) rfl, lw_gd_of (List.mem_of_getElem? (i := 467) (by decide +kernel)) rfl, lw_gd_of (List.mem_of_getElem? (i := 468) (by decide +kernel)) rfl, by decide +kernel, gmX3_findHeirs, rfl⟩
theorem lkX7_74 : LV RX7 74 mX3_findWeights 0 := ⟨lw_gd_of (List.mem_of_getElem? (i := 474) (by decide +kernel)) rfl, lw_gd_of (List.mem_of_getElem? (i := 475) (by decide +kernel)) rfl, lw_gd_of (List.mem_of_getElem? (i := 476) (by decide +kernel)) rfl, by decide +kernel, gmX3_findWeights, rfl⟩
theorem lkX7_77 : LV RX7 77 mX7_divideResidue 2 := ⟨lw_gd_of (List.mem_of_getElem? (i := 487) (by decide +kernel)) rfl, lw_gd_of (List.mem_of_getElem? (i := 489) (by decide +kernel)) rfl, lw_gd_of (List.mem_of_getElem? (i := 4) (by decide +kernel)) rfl, by decide +kernel, gmX7_divideResidue, rfl⟩
theorem lkX7_80 : LV RX7 80 mX6_bring 1 := ⟨lw_gd_of (List.mem_of_getElem? (i := 504) (by decide +kernel)) rfl, lw_gd_of (List.mem_of_getElem? (i := 505) (by decide +kernel)) rfl, lw_gd_of (List.mem_of_getElem? (i := 506) (by decide +kernel)) rfl, by decide +kernel, gmX6_bring, rfl⟩
theorem lkX7_83 : LV RX7 83 mX6_divide 2 := ⟨lw_gd_of (List.mem_of_getElem? (i := 516) (by decide +kernel)) rfl, lw_gd_of (List.mem_of_getElem? (i := 517) (by decide +kernel)) rfl, lw_gd_of (List.mem_of_getElem? (i := 518) (by decide +kernel)) rfl, by decide +kernel, gmX6_divide, rfl⟩
theorem flX7_91 : FL RX7 91 0 6 false (.int) := FL.of ciX0 (by decide) (lw_gd_of (List.mem_of_getElem? (i := 132) (by decide +kernel)) rfl) rfl rfl
theorem flX7_96 : FL RX7 96 0 7 true (.array .int) := FL.of ciX0 (by decide) (lw_gd_of (List.mem_of_getElem? (i := 137) (by decide +kernel)) rfl) rfl rfl
theorem flX7_104 : FL RX7 104 2 6 true (.array .int) := FL.of ciX2 (by decide) (lw_gd_of (List.mem_of_getElem? (i := 257) (by decide +kernel)) rfl) rfl rfl
theorem flX7_107 : FL RX7 107 0 3 false (.int) := FL.of ciX0 (by decide) (lw_gd_of (List.mem_of_getElem? (i := 122) (by decide +kernel)) rfl) rfl rfl
theorem lkX7_87 : LV RX7 87 mX6_fromFund 1 := ⟨lw_gd_of (List.mem_of_getElem? (i := 1364) (by decide +kernel)) rfl, lw_gd_of (List.mem_of_getElem? (i := 1365) (by decide +kernel)) rfl, lw_gd_of (List.mem_of_getElem? (i := 1366) (by decide +kernel)) rfl, by decide +kernel, gmX6_fromFund, rfl⟩
theorem lkX7_100 : LSN RX7 100 mX9_at 2 := ⟨⟨"EstateSettlement", by decide +kernel⟩, lw_gd_of (List.mem_of_getElem? (i := 408) (by decide +kernel)) rfl, by decide +kernel, gmX9_at, rfl⟩
theorem flX7_116 : FL RX7 116 2 4 false (.int) := FL.of ciX2 (by decide) (lw_gd_of (List.mem_of_getElem? (i := 252) (by decide +kernel)) rfl) rfl rfl
theorem flX7_119 : FL RX7 119 3 0 false (.int) := FL.of ciX3 (by decide) (lw_gd_of (List.mem_of_getElem? (i := 287) (by decide +kernel)) rfl) rfl rfl
theorem flX7_122 : FL RX7 122 0 10 false (.int) := FL.of ciX0 (by decide) (lw_gd_of (List.mem_of_getElem? (i := 148) (by decide +kernel)) rfl) rfl rfl
theorem flX7_125 : FL RX7 125 0 9 false (.int) := FL.of ciX0 (by decide) (lw_gd_of (List.mem_of_getElem? (i := 144) (by decide +kernel)) rfl) rfl rfl
theorem flX7_132 : FL RX7 132 0 11 false (.int) := FL.of ciX0 (by decide) (lw_gd_of (List.mem_of_getElem? (i := 153) (by decide +kernel)) rfl) rfl rfl
theorem lkX7_110 : LV RX7 110 mX8_takes 1 := ⟨lw_gd_of (List.mem_of_getElem? (i := 491) (by decide +kernel)) rfl, lw_gd_of (List.mem_of_getElem? (i := 449) (by decide +kernel)) rfl, lw_gd_of (List.mem_of_getElem? (i := 450) (by decide +kernel)) rfl, by decide +kernel, gmX8_takes, rfl⟩
theorem lkX7_128 : LSN RX7 128 mX9_portion 3 := ⟨⟨"EstateSettlement", by decide +kernel⟩, lw_gd_of (List.mem_of_getElem? (i := 411) (by decide +kernel)) rfl, by decide +kernel, gmX9_portion, rfl⟩
theorem lkX7_135 : LV RX7 135 mX8_age 1 := ⟨lw_gd_of (List.mem_of_getElem? (i := 493) (by decide +kernel)) rfl, lw_gd_of (List.mem_of_getElem? (i := 494) (by decide +kernel)) rfl, lw_gd_of (List.mem_of_getElem? (i := 495) (by decide +kernel)) rfl, by decide +kernel, gmX8_age, rfl⟩
theorem lkX7_138 : LS9 RX7 138 mX7_lifeFactor 1 := ⟨lw_gd_of (List.mem_of_getElem? (i := 497) (by decide +kernel)) rfl, lw_gd_of (List.mem_of_getElem? (i := 498) (by decide +kernel)) rfl, by decide +kernel, gmX7_lifeFactor, rfl⟩
theorem flX8_11 : FL RX8 11 8 0 true (.array .int) := FL.of ciX8 (by decide) (lw_gd_of (List.mem_of_getElem? (i := 188) (by decide +kernel)) rfl) rfl rfl
theorem obX8_5 : Cond.methodLink RX8 5 objectInit ∈ lw_gd := lw_gd_of (List.mem_of_getElem? (i := 187) (by decide +kernel)) rfl
theorem syX8_15 : Cond.methodLink RX8 15 arraycopyName ∈ lw_gd := lw_gd_of (List.mem_of_getElem? (i := 1304) (by decide +kernel)) rfl
theorem lkX8_21 : LV RX8 21 mX8_cell 3 := ⟨lw_gd_of (List.mem_of_getElem? (i := 403) (by decide +kernel)) rfl, lw_gd_of (List.mem_of_getElem? (i := 405) (by decide +kernel)) rfl, lw_gd_of (List.mem_of_getElem? (i := 0) (by decide +kernel)) rfl, by decide +kernel, gmX8_cell, rfl⟩
theorem lkX8_25 : LV RX8 25 mX8_giftCount 0 := ⟨lw_gd_of (List.mem_of_getElem? (i := 512) (by decide +kernel)) rfl, lw_gd_of (List.mem_of_getElem? (i := 513) (by decide +kernel)) rfl, lw_gd_of (List.mem_of_getElem? (i := 514) (by decide +kernel)) rfl, by decide +kernel, gmX8_giftCount, rfl⟩
theorem lkX8_29 : LV RX8 29 mX8_putCell 4 := ⟨lw_gd_of (List.mem_of_getElem? (i := 1204) (by decide +kernel)) rfl, lw_gd_of (List.mem_of_getElem? (i := 1206) (by decide +kernel)) rfl, lw_gd_of (List.mem_of_getElem? (i := 20) (by decide +kernel)) rfl, by decide +kernel, gmX8_putCell, rfl⟩
theorem lkX8_33 : LSN RX8 33 mX9_asInt 1 := ⟨⟨"EstateSettlement", by decide +kernel⟩, lw_gd_of (List.mem_of_getElem? (i := 1285) (by decide +kernel)) rfl, by decide +kernel, gmX9_asInt, rfl⟩
theorem lkX8_37 : LV RX8 37 mX8_debtCount 0 := ⟨lw_gd_of (List.mem_of_getElem? (i := 1243) (by decide +kernel)) rfl, lw_gd_of (List.mem_of_getElem? (i := 422) (by decide +kernel)) rfl, lw_gd_of (List.mem_of_getElem? (i := 423) (by decide +kernel)) rfl, by decide +kernel, gmX8_debtCount, rfl⟩
theorem nwX9_7 : Cond.classLink RX9 7 RX5 ∈ lw_gd ∧ Cond.instantiable RX5 10 ∈ lw_gd ∧ Cond.initialized RX5 ∈ lw_gd := ⟨lw_gd_of (List.mem_of_getElem? (i := 71) (by decide +kernel)) rfl, lw_gd_of (List.mem_of_getElem? (i := 72) (by decide +kernel)) rfl, lw_gd_of (List.mem_of_getElem? (i := 36) (by decide +kernel)) rfl⟩
theorem flX9_10 : FL RX9 10 9 0 true (.object "EstateSettlement$Parser") := FL.of ciX9 (by decide) (lw_gd_of (List.mem_of_getElem? (i := 542) (by decide +kernel)) rfl) rfl rfl
theorem nwX9_16 : Cond.classLink RX9 16 RX0 ∈ lw_gd ∧ Cond.instantiable RX0 12 ∈ lw_gd ∧ Cond.initialized RX0 ∈ lw_gd := ⟨lw_gd_of (List.mem_of_getElem? (i := 227) (by decide +kernel)) rfl, lw_gd_of (List.mem_of_getElem? (i := 107) (by decide +kernel)) rfl, lw_gd_of (List.mem_of_getElem? (i := 38) (by decide +kernel)) rfl⟩
theorem flX9_19 : FL RX9 19 9 1 true (.object "EstateSettlement$Estate") := FL.of ciX9 (by decide) (lw_gd_of (List.mem_of_getElem? (i := 543) (by decide +kernel)) rfl) rfl rfl
theorem nwX9_23 : Cond.classLink RX9 23 RX8 ∈ lw_gd ∧ Cond.instantiable RX8 1 ∈ lw_gd ∧ Cond.initialized RX8 ∈ lw_gd := ⟨lw_gd_of (List.mem_of_getElem? (i := 229) (by decide +kernel)) rfl, lw_gd_of (List.mem_of_getElem? (i := 183) (by decide +kernel)) rfl, lw_gd_of (List.mem_of_getElem? (i := 39) (by decide +kernel)) rfl⟩
theorem flX9_26 : FL RX9 26 9 2 true (.object "EstateSettlement$State") := FL.of ciX9 (by decide) (lw_gd_of (List.mem_of_getElem? (i := 544) (by decide +kernel)) rfl) rfl rfl
theorem nwX9_30 : Cond.classLink RX9 30 RX7 ∈ lw_gd ∧ Cond.instantiable RX7 8 ∈ lw_gd ∧ Cond.initialized RX7 ∈ lw_gd := ⟨lw_gd_of (List.mem_of_getElem? (i := 231) (by decide +kernel)) rfl, lw_gd_of (List.mem_of_getElem? (i := 232) (by decide +kernel)) rfl, lw_gd_of (List.mem_of_getElem? (i := 40) (by decide +kernel)) rfl⟩
theorem flX9_33 : FL RX9 33 9 3 true (.object "EstateSettlement$Settlement") := FL.of ciX9 (by decide) (lw_gd_of (List.mem_of_getElem? (i := 545) (by decide +kernel)) rfl) rfl rfl
theorem flX9_37 : FL RX9 37 9 4 true (.object "EstateSettlement$State") := FL.of ciX9 (by decide) (lw_gd_of (List.mem_of_getElem? (i := 546) (by decide +kernel)) rfl) rfl rfl
theorem flX9_40 : FL RX9 40 9 5 true (.object "EstateSettlement$Settlement") := FL.of ciX9 (by decide) (lw_gd_of (List.mem_of_getElem? (i := 547) (by decide +kernel)) rfl) rfl rfl
theorem nwX9_43 : Cond.classLink RX9 43 RX4 ∈ lw_gd ∧ Cond.instantiable RX4 4 ∈ lw_gd ∧ Cond.initialized RX4 ∈ lw_gd := ⟨lw_gd_of (List.mem_of_getElem? (i := 369) (by decide +kernel)) rfl, lw_gd_of (List.mem_of_getElem? (i := 370) (by decide +kernel)) rfl, lw_gd_of (List.mem_of_getElem? (i := 44) (by decide +kernel)) rfl⟩
theorem flX9_46 : FL RX9 46 9 6 true (.object "EstateSettlement$Memory") := FL.of ciX9 (by decide) (lw_gd_of (List.mem_of_getElem? (i := 548) (by decide +kernel)) rfl) rfl rfl
theorem flX9_50 : FL RX9 50 9 7 false (.int) := FL.of ciX9 (by decide) (lw_gd_of (List.mem_of_getElem? (i := 549) (by decide +kernel)) rfl) rfl rfl
theorem obX9_1 : Cond.methodLink RX9 1 objectInit ∈ lw_gd := lw_gd_of (List.mem_of_getElem? (i := 68) (by decide +kernel)) rfl
theorem lkX9_9 : LIN RX9 9 mX5_init 0 := ⟨⟨"EstateSettlement", by decide +kernel⟩, lw_gd_of (List.mem_of_getElem? (i := 74) (by decide +kernel)) rfl, rfl, by decide +kernel, gmX5_init, rfl, rfl⟩
theorem lkX9_18 : LIN RX9 18 mX0_init 0 := ⟨⟨"EstateSettlement", by decide +kernel⟩, lw_gd_of (List.mem_of_getElem? (i := 109) (by decide +kernel)) rfl, rfl, by decide +kernel, gmX0_init, rfl, rfl⟩
theorem lkX9_25 : LI RX9 25 mX8_init 0 := ⟨lw_gd_of (List.mem_of_getElem? (i := 230) (by decide +kernel)) rfl, lw_gd_of (List.mem_of_getElem? (i := 185) (by decide +kernel)) rfl, rfl, by decide +kernel, gmX8_init, rfl, rfl⟩
theorem lkX9_32 : LIN RX9 32 mX7_init 0 := ⟨⟨"EstateSettlement", by decide +kernel⟩, lw_gd_of (List.mem_of_getElem? (i := 234) (by decide +kernel)) rfl, rfl, by decide +kernel, gmX7_init, rfl, rfl⟩
theorem lkX9_45 : LIN RX9 45 mX4_init 0 := ⟨⟨"EstateSettlement", by decide +kernel⟩, lw_gd_of (List.mem_of_getElem? (i := 372) (by decide +kernel)) rfl, rfl, by decide +kernel, gmX4_init, rfl, rfl⟩
theorem lkX9_54 : LV RX9 54 mX7_settle 2 := ⟨lw_gd_of (List.mem_of_getElem? (i := 388) (by decide +kernel)) rfl, lw_gd_of (List.mem_of_getElem? (i := 389) (by decide +kernel)) rfl, lw_gd_of (List.mem_of_getElem? (i := 390) (by decide +kernel)) rfl, by decide +kernel, gmX7_settle, rfl⟩
theorem flX9_58 : FL RX9 58 5 0 true (.object "EstateSettlement$Input") := FL.of ciX5 (by decide) (lw_gd_of (List.mem_of_getElem? (i := 193) (by decide +kernel)) rfl) rfl rfl
theorem flX9_72 : FL RX9 72 1 1 false (.int) := FL.of ciX1 (by decide) (lw_gd_of (List.mem_of_getElem? (i := 85) (by decide +kernel)) rfl) rfl rfl
theorem lkX9_62 : LV RX9 62 mX1_hasRoom 0 := ⟨lw_gd_of (List.mem_of_getElem? (i := 1045) (by decide +kernel)) rfl, lw_gd_of (List.mem_of_getElem? (i := 1046) (by decide +kernel)) rfl, lw_gd_of (List.mem_of_getElem? (i := 1047) (by decide +kernel)) rfl, by decide +kernel, gmX1_hasRoom, rfl⟩
theorem lkX9_68 : LV RX9 68 mX1_add 1 := ⟨lw_gd_of (List.mem_of_getElem? (i := 1049) (by decide +kernel)) rfl, lw_gd_of (List.mem_of_getElem? (i := 1050) (by decide +kernel)) rfl, lw_gd_of (List.mem_of_getElem? (i := 1051) (by decide +kernel)) rfl, by decide +kernel, gmX1_add, rfl⟩
theorem flX9_88 : FL RX9 88 5 3 false (.int) := FL.of ciX5 (by decide) (lw_gd_of (List.mem_of_getElem? (i := 199) (by decide +kernel)) rfl) rfl rfl
theorem flX9_91 : FL RX9 91 5 1 true (.object "EstateSettlement$Estate") := FL.of ciX5 (by decide) (lw_gd_of (List.mem_of_getElem? (i := 195) (by decide +kernel)) rfl) rfl rfl
theorem flX9_96 : FL RX9 96 5 2 true (.object "EstateSettlement$State") := FL.of ciX5 (by decide) (lw_gd_of (List.mem_of_getElem? (i := 197) (by decide +kernel)) rfl) rfl rfl
theorem thX9_75_78 : TH RX9 75 78 1 := ⟨lw_gd_of (List.mem_of_getElem? (i := 1058) (by decide +kernel)) rfl, lw_gd_of (List.mem_of_getElem? (i := 1100) (by decide +kernel)) rfl⟩
theorem lkX9_81 : LV RX9 81 mX5_read 1 := ⟨lw_gd_of (List.mem_of_getElem? (i := 1125) (by decide +kernel)) rfl, lw_gd_of (List.mem_of_getElem? (i := 1126) (by decide +kernel)) rfl, lw_gd_of (List.mem_of_getElem? (i := 1127) (by decide +kernel)) rfl, by decide +kernel, gmX5_read, rfl⟩
theorem lkX9_85 : LV RX9 85 mX1_clear 0 := ⟨lw_gd_of (List.mem_of_getElem? (i := 1291) (by decide +kernel)) rfl, lw_gd_of (List.mem_of_getElem? (i := 1292) (by decide +kernel)) rfl, lw_gd_of (List.mem_of_getElem? (i := 1293) (by decide +kernel)) rfl, by decide +kernel, gmX1_clear, rfl⟩
theorem lkX9_92 : LV RX9 92 mX0_copy 1 := ⟨lw_gd_of (List.mem_of_getElem? (i := 1295) (by decide +kernel)) rfl, lw_gd_of (List.mem_of_getElem? (i := 1296) (by decide +kernel)) rfl, lw_gd_of (List.mem_of_getElem? (i := 1297) (by decide +kernel)) rfl, by decide +kernel, gmX0_copy, rfl⟩
theorem lkX9_97 : LV RX9 97 mX8_copy 1 := ⟨lw_gd_of (List.mem_of_getElem? (i := 1300) (by decide +kernel)) rfl, lw_gd_of (List.mem_of_getElem? (i := 1301) (by decide +kernel)) rfl, lw_gd_of (List.mem_of_getElem? (i := 1302) (by decide +kernel)) rfl, by decide +kernel, gmX8_copy, rfl⟩
theorem lkX9_100 : LV RX9 100 mX4_clearUndo 0 := ⟨lw_gd_of (List.mem_of_getElem? (i := 1305) (by decide +kernel)) rfl, lw_gd_of (List.mem_of_getElem? (i := 1306) (by decide +kernel)) rfl, lw_gd_of (List.mem_of_getElem? (i := 1307) (by decide +kernel)) rfl, by decide +kernel, gmX4_clearUndo, rfl⟩
theorem lkX9_103 : LV RX9 103 mX4_clearSlots 0 := ⟨lw_gd_of (List.mem_of_getElem? (i := 1309) (by decide +kernel)) rfl, lw_gd_of (List.mem_of_getElem? (i := 1310) (by decide +kernel)) rfl, lw_gd_of (List.mem_of_getElem? (i := 1311) (by decide +kernel)) rfl, by decide +kernel, gmX4_clearSlots, rfl⟩
theorem flX9_110 : FL RX9 110 0 0 false (.int) := FL.of ciX0 (by decide) (lw_gd_of (List.mem_of_getElem? (i := 114) (by decide +kernel)) rfl) rfl rfl
theorem flX9_113 : FL RX9 113 0 4 false (.int) := FL.of ciX0 (by decide) (lw_gd_of (List.mem_of_getElem? (i := 127) (by decide +kernel)) rfl) rfl rfl
theorem flX9_123 : FL RX9 123 0 6 false (.int) := FL.of ciX0 (by decide) (lw_gd_of (List.mem_of_getElem? (i := 133) (by decide +kernel)) rfl) rfl rfl
theorem flX9_126 : FL RX9 126 0 3 false (.int) := FL.of ciX0 (by decide) (lw_gd_of (List.mem_of_getElem? (i := 123) (by decide +kernel)) rfl) rfl rfl
theorem flX9_129 : FL RX9 129 0 10 false (.int) := FL.of ciX0 (by decide) (lw_gd_of (List.mem_of_getElem? (i := 149) (by decide +kernel)) rfl) rfl rfl
theorem flX9_132 : FL RX9 132 0 9 false (.int) := FL.of ciX0 (by decide) (lw_gd_of (List.mem_of_getElem? (i := 145) (by decide +kernel)) rfl) rfl rfl
theorem flX9_135 : FL RX9 135 0 11 false (.int) := FL.of ciX0 (by decide) (lw_gd_of (List.mem_of_getElem? (i := 152) (by decide +kernel)) rfl) rfl rfl
theorem lkX9_106 : LS9 RX9 106 mX9_requireWhat 2 := ⟨lw_gd_of (List.mem_of_getElem? (i := 1337) (by decide +kernel)) rfl, lw_gd_of (List.mem_of_getElem? (i := 1338) (by decide +kernel)) rfl, by decide +kernel, gmX9_requireWhat, rfl⟩
theorem lkX9_116 : LV RX9 116 mX8_debtCount 0 := ⟨lw_gd_of (List.mem_of_getElem? (i := 1320) (by decide +kernel)) rfl, lw_gd_of (List.mem_of_getElem? (i := 422) (by decide +kernel)) rfl, lw_gd_of (List.mem_of_getElem? (i := 423) (by decide +kernel)) rfl, by decide +kernel, gmX8_debtCount, rfl⟩
theorem lkX9_120 : LV RX9 120 mX8_giftCount 0 := ⟨lw_gd_of (List.mem_of_getElem? (i := 1373) (by decide +kernel)) rfl, lw_gd_of (List.mem_of_getElem? (i := 513) (by decide +kernel)) rfl, lw_gd_of (List.mem_of_getElem? (i := 514) (by decide +kernel)) rfl, by decide +kernel, gmX8_giftCount, rfl⟩
theorem lkX9_138 : LV RX9 138 mX8_accruesInLine 0 := ⟨lw_gd_of (List.mem_of_getElem? (i := 1374) (by decide +kernel)) rfl, lw_gd_of (List.mem_of_getElem? (i := 1375) (by decide +kernel)) rfl, lw_gd_of (List.mem_of_getElem? (i := 1376) (by decide +kernel)) rfl, by decide +kernel, gmX8_accruesInLine, rfl⟩
theorem lkX9_141 : LS9 RX9 141 mX9_asInt 1 := ⟨lw_gd_of (List.mem_of_getElem? (i := 1350) (by decide +kernel)) rfl, lw_gd_of (List.mem_of_getElem? (i := 1285) (by decide +kernel)) rfl, by decide +kernel, gmX9_asInt, rfl⟩
theorem flX9_156 : FL RX9 156 0 2 true (.array .int) := FL.of ciX0 (by decide) (lw_gd_of (List.mem_of_getElem? (i := 119) (by decide +kernel)) rfl) rfl rfl
theorem lkX9_153 : LV RX9 153 mX9_requirePerson 1 := ⟨lw_gd_of (List.mem_of_getElem? (i := 1397) (by decide +kernel)) rfl, lw_gd_of (List.mem_of_getElem? (i := 1399) (by decide +kernel)) rfl, lw_gd_of (List.mem_of_getElem? (i := 30) (by decide +kernel)) rfl, by decide +kernel, gmX9_requirePerson, rfl⟩
theorem lkX9_160 : LS9 RX9 160 mX9_at 2 := ⟨lw_gd_of (List.mem_of_getElem? (i := 1343) (by decide +kernel)) rfl, lw_gd_of (List.mem_of_getElem? (i := 408) (by decide +kernel)) rfl, by decide +kernel, gmX9_at, rfl⟩
theorem lkX9_164 : LV RX9 164 mX8_age 1 := ⟨lw_gd_of (List.mem_of_getElem? (i := 1416) (by decide +kernel)) rfl, lw_gd_of (List.mem_of_getElem? (i := 494) (by decide +kernel)) rfl, lw_gd_of (List.mem_of_getElem? (i := 495) (by decide +kernel)) rfl, by decide +kernel, gmX8_age, rfl⟩
theorem lkX9_167 : LV RX9 167 mX8_isDead 1 := ⟨lw_gd_of (List.mem_of_getElem? (i := 1417) (by decide +kernel)) rfl, lw_gd_of (List.mem_of_getElem? (i := 1418) (by decide +kernel)) rfl, lw_gd_of (List.mem_of_getElem? (i := 1419) (by decide +kernel)) rfl, by decide +kernel, gmX8_isDead, rfl⟩
theorem lkX9_171 : LV RX9 171 mX8_isRefusing 1 := ⟨lw_gd_of (List.mem_of_getElem? (i := 1421) (by decide +kernel)) rfl, lw_gd_of (List.mem_of_getElem? (i := 1422) (by decide +kernel)) rfl, lw_gd_of (List.mem_of_getElem? (i := 1423) (by decide +kernel)) rfl, by decide +kernel, gmX8_isRefusing, rfl⟩
theorem lkX9_174 : LV RX9 174 mX0_childrenOf 1 := ⟨lw_gd_of (List.mem_of_getElem? (i := 1425) (by decide +kernel)) rfl, lw_gd_of (List.mem_of_getElem? (i := 1426) (by decide +kernel)) rfl, lw_gd_of (List.mem_of_getElem? (i := 1427) (by decide +kernel)) rfl, by decide +kernel, gmX0_childrenOf, rfl⟩
theorem lkX9_177 : LV RX9 177 mX8_giftsTo 1 := ⟨lw_gd_of (List.mem_of_getElem? (i := 1429) (by decide +kernel)) rfl, lw_gd_of (List.mem_of_getElem? (i := 509) (by decide +kernel)) rfl, lw_gd_of (List.mem_of_getElem? (i := 510) (by decide +kernel)) rfl, by decide +kernel, gmX8_giftsTo, rfl⟩
theorem flX9_203 : FL RX9 203 7 0 true (.object "EstateSettlement$Inventory") := FL.of ciX7 (by decide) (lw_gd_of (List.mem_of_getElem? (i := 337) (by decide +kernel)) rfl) rfl rfl
theorem flX9_207 : FL RX9 207 2 5 true (.array .int) := FL.of ciX2 (by decide) (lw_gd_of (List.mem_of_getElem? (i := 255) (by decide +kernel)) rfl) rfl rfl
theorem thX9_192_196 : TH RX9 192 196 0 := ⟨lw_gd_of (List.mem_of_getElem? (i := 1321) (by decide +kernel)) rfl, lw_gd_of (List.mem_of_getElem? (i := 1331) (by decide +kernel)) rfl⟩
theorem lkX9_197 : LV RX9 197 mX8_debtRank 1 := ⟨lw_gd_of (List.mem_of_getElem? (i := 1341) (by decide +kernel)) rfl, lw_gd_of (List.mem_of_getElem? (i := 426) (by decide +kernel)) rfl, lw_gd_of (List.mem_of_getElem? (i := 427) (by decide +kernel)) rfl, by decide +kernel, gmX8_debtRank, rfl⟩
theorem lkX9_200 : LV RX9 200 mX8_debtAmount 1 := ⟨lw_gd_of (List.mem_of_getElem? (i := 1342) (by decide +kernel)) rfl, lw_gd_of (List.mem_of_getElem? (i := 430) (by decide +kernel)) rfl, lw_gd_of (List.mem_of_getElem? (i := 431) (by decide +kernel)) rfl, by decide +kernel, gmX8_debtAmount, rfl⟩
theorem flX9_212 : FL RX9 212 0 7 true (.array .int) := FL.of ciX0 (by decide) (lw_gd_of (List.mem_of_getElem? (i := 139) (by decide +kernel)) rfl) rfl rfl
theorem flX9_215 : FL RX9 215 0 8 true (.array .int) := FL.of ciX0 (by decide) (lw_gd_of (List.mem_of_getElem? (i := 142) (by decide +kernel)) rfl) rfl rfl
theorem flX9_218 : FL RX9 218 2 6 true (.array .int) := FL.of ciX2 (by decide) (lw_gd_of (List.mem_of_getElem? (i := 258) (by decide +kernel)) rfl) rfl rfl
theorem lkX9_221 : LV RX9 221 mX8_takes 1 := ⟨lw_gd_of (List.mem_of_getElem? (i := 1349) (by decide +kernel)) rfl, lw_gd_of (List.mem_of_getElem? (i := 449) (by decide +kernel)) rfl, lw_gd_of (List.mem_of_getElem? (i := 450) (by decide +kernel)) rfl, by decide +kernel, gmX8_takes, rfl⟩
theorem flX9_224 : FL RX9 224 2 0 false (.int) := FL.of ciX2 (by decide) (lw_gd_of (List.mem_of_getElem? (i := 244) (by decide +kernel)) rfl) rfl rfl
theorem flX9_227 : FL RX9 227 2 1 false (.int) := FL.of ciX2 (by decide) (lw_gd_of (List.mem_of_getElem? (i := 246) (by decide +kernel)) rfl) rfl rfl
theorem flX9_230 : FL RX9 230 2 2 false (.int) := FL.of ciX2 (by decide) (lw_gd_of (List.mem_of_getElem? (i := 248) (by decide +kernel)) rfl) rfl rfl
theorem flX9_233 : FL RX9 233 2 3 false (.int) := FL.of ciX2 (by decide) (lw_gd_of (List.mem_of_getElem? (i := 250) (by decide +kernel)) rfl) rfl rfl
theorem flX9_236 : FL RX9 236 2 4 false (.int) := FL.of ciX2 (by decide) (lw_gd_of (List.mem_of_getElem? (i := 253) (by decide +kernel)) rfl) rfl rfl
theorem flX9_239 : FL RX9 239 7 3 false (.int) := FL.of ciX7 (by decide) (lw_gd_of (List.mem_of_getElem? (i := 343) (by decide +kernel)) rfl) rfl rfl
theorem flX9_242 : FL RX9 242 7 4 false (.int) := FL.of ciX7 (by decide) (lw_gd_of (List.mem_of_getElem? (i := 345) (by decide +kernel)) rfl) rfl rfl
theorem flX9_245 : FL RX9 245 7 5 false (.int) := FL.of ciX7 (by decide) (lw_gd_of (List.mem_of_getElem? (i := 347) (by decide +kernel)) rfl) rfl rfl
theorem flX9_248 : FL RX9 248 7 6 false (.int) := FL.of ciX7 (by decide) (lw_gd_of (List.mem_of_getElem? (i := 349) (by decide +kernel)) rfl) rfl rfl
theorem flX9_251 : FL RX9 251 7 7 false (.int) := FL.of ciX7 (by decide) (lw_gd_of (List.mem_of_getElem? (i := 351) (by decide +kernel)) rfl) rfl rfl
theorem flX9_261 : FL RX9 261 7 1 true (.object "EstateSettlement$Lines") := FL.of ciX7 (by decide) (lw_gd_of (List.mem_of_getElem? (i := 339) (by decide +kernel)) rfl) rfl rfl
theorem flX9_265 : FL RX9 265 3 0 false (.int) := FL.of ciX3 (by decide) (lw_gd_of (List.mem_of_getElem? (i := 288) (by decide +kernel)) rfl) rfl rfl
theorem flX9_270 : FL RX9 270 7 2 true (.object "EstateSettlement$Portions") := FL.of ciX7 (by decide) (lw_gd_of (List.mem_of_getElem? (i := 341) (by decide +kernel)) rfl) rfl rfl
theorem flX9_274 : FL RX9 274 6 0 false (.int) := FL.of ciX6 (by decide) (lw_gd_of (List.mem_of_getElem? (i := 315) (by decide +kernel)) rfl) rfl rfl
theorem flX9_279 : FL RX9 279 3 1 false (.int) := FL.of ciX3 (by decide) (lw_gd_of (List.mem_of_getElem? (i := 290) (by decide +kernel)) rfl) rfl rfl
theorem lkX9_282 : LS9 RX9 282 mX9_hasBit 2 := ⟨lw_gd_of (List.mem_of_getElem? (i := 1402) (by decide +kernel)) rfl, lw_gd_of (List.mem_of_getElem? (i := 479) (by decide +kernel)) rfl, by decide +kernel, gmX9_hasBit, rfl⟩
theorem flX9_286 : FL RX9 286 3 3 true (.array .int) := FL.of ciX3 (by decide) (lw_gd_of (List.mem_of_getElem? (i := 293) (by decide +kernel)) rfl) rfl rfl
theorem flX9_289 : FL RX9 289 3 4 true (.array .int) := FL.of ciX3 (by decide) (lw_gd_of (List.mem_of_getElem? (i := 296) (by decide +kernel)) rfl) rfl rfl
theorem flX9_292 : FL RX9 292 6 3 true (.array .int) := FL.of ciX6 (by decide) (lw_gd_of (List.mem_of_getElem? (i := 320) (by decide +kernel)) rfl) rfl rfl
theorem flX9_295 : FL RX9 295 6 1 false (.int) := FL.of ciX6 (by decide) (lw_gd_of (List.mem_of_getElem? (i := 317) (by decide +kernel)) rfl) rfl rfl
theorem lkX9_298 : LV RX9 298 mX6_due 1 := ⟨lw_gd_of (List.mem_of_getElem? (i := 1435) (by decide +kernel)) rfl, lw_gd_of (List.mem_of_getElem? (i := 537) (by decide +kernel)) rfl, lw_gd_of (List.mem_of_getElem? (i := 538) (by decide +kernel)) rfl, by decide +kernel, gmX6_due, rfl⟩
theorem lkX9_301 : LV RX9 301 mX6_cent 1 := ⟨lw_gd_of (List.mem_of_getElem? (i := 1436) (by decide +kernel)) rfl, lw_gd_of (List.mem_of_getElem? (i := 1437) (by decide +kernel)) rfl, lw_gd_of (List.mem_of_getElem? (i := 1438) (by decide +kernel)) rfl, by decide +kernel, gmX6_cent, rfl⟩
theorem lkX9_304 : LV RX9 304 mX6_fromFund 1 := ⟨lw_gd_of (List.mem_of_getElem? (i := 1440) (by decide +kernel)) rfl, lw_gd_of (List.mem_of_getElem? (i := 1365) (by decide +kernel)) rfl, lw_gd_of (List.mem_of_getElem? (i := 1366) (by decide +kernel)) rfl, by decide +kernel, gmX6_fromFund, rfl⟩
theorem lkX9_307 : LV RX9 307 mX7_givenTo 2 := ⟨lw_gd_of (List.mem_of_getElem? (i := 1360) (by decide +kernel)) rfl, lw_gd_of (List.mem_of_getElem? (i := 1361) (by decide +kernel)) rfl, lw_gd_of (List.mem_of_getElem? (i := 1362) (by decide +kernel)) rfl, by decide +kernel, gmX7_givenTo, rfl⟩
theorem lkX9_311 : LV RX9 311 mX9_givenIfRefused 2 := ⟨lw_gd_of (List.mem_of_getElem? (i := 1448) (by decide +kernel)) rfl, lw_gd_of (List.mem_of_getElem? (i := 1450) (by decide +kernel)) rfl, lw_gd_of (List.mem_of_getElem? (i := 31) (by decide +kernel)) rfl, by decide +kernel, gmX9_givenIfRefused, rfl⟩
theorem kcX9_315 : Cond.constant RX9 315 9999999 ∈ lw_gd := lw_gd_of (List.mem_of_getElem? (i := 1460) (by decide +kernel)) rfl
theorem lkX9_316 : LV RX9 316 mX9_isLeftOutWith 2 := ⟨lw_gd_of (List.mem_of_getElem? (i := 1461) (by decide +kernel)) rfl, lw_gd_of (List.mem_of_getElem? (i := 1463) (by decide +kernel)) rfl, lw_gd_of (List.mem_of_getElem? (i := 32) (by decide +kernel)) rfl, by decide +kernel, gmX9_isLeftOutWith, rfl⟩
theorem lkX9_319 : LV RX9 319 mX8_putRefusing 2 := ⟨lw_gd_of (List.mem_of_getElem? (i := 1452) (by decide +kernel)) rfl, lw_gd_of (List.mem_of_getElem? (i := 1453) (by decide +kernel)) rfl, lw_gd_of (List.mem_of_getElem? (i := 1454) (by decide +kernel)) rfl, by decide +kernel, gmX8_putRefusing, rfl⟩
theorem lkX9_323 : LV RX9 323 mX6_bring 1 := ⟨lw_gd_of (List.mem_of_getElem? (i := 1465) (by decide +kernel)) rfl, lw_gd_of (List.mem_of_getElem? (i := 505) (by decide +kernel)) rfl, lw_gd_of (List.mem_of_getElem? (i := 506) (by decide +kernel)) rfl, by decide +kernel, gmX6_bring, rfl⟩
theorem lkX9_326 : LV RX9 326 mX6_bringFurther 2 := ⟨lw_gd_of (List.mem_of_getElem? (i := 1466) (by decide +kernel)) rfl, lw_gd_of (List.mem_of_getElem? (i := 1467) (by decide +kernel)) rfl, lw_gd_of (List.mem_of_getElem? (i := 1468) (by decide +kernel)) rfl, by decide +kernel, gmX6_bringFurther, rfl⟩
theorem lkX9_329 : LV RX9 329 mX6_divide 2 := ⟨lw_gd_of (List.mem_of_getElem? (i := 1470) (by decide +kernel)) rfl, lw_gd_of (List.mem_of_getElem? (i := 517) (by decide +kernel)) rfl, lw_gd_of (List.mem_of_getElem? (i := 518) (by decide +kernel)) rfl, by decide +kernel, gmX6_divide, rfl⟩
theorem lkX9_333 : LV RX9 333 mX4_remember 1 := ⟨lw_gd_of (List.mem_of_getElem? (i := 1486) (by decide +kernel)) rfl, lw_gd_of (List.mem_of_getElem? (i := 1487) (by decide +kernel)) rfl, lw_gd_of (List.mem_of_getElem? (i := 1488) (by decide +kernel)) rfl, by decide +kernel, gmX4_remember, rfl⟩
theorem lkX9_336 : LV RX9 336 mX8_putDead 1 := ⟨lw_gd_of (List.mem_of_getElem? (i := 1499) (by decide +kernel)) rfl, lw_gd_of (List.mem_of_getElem? (i := 1214) (by decide +kernel)) rfl, lw_gd_of (List.mem_of_getElem? (i := 1215) (by decide +kernel)) rfl, by decide +kernel, gmX8_putDead, rfl⟩
theorem lkX9_254 : LS9 RX9 254 mX9_requireRange 3 := ⟨lw_gd_of (List.mem_of_getElem? (i := 1504) (by decide +kernel)) rfl, lw_gd_of (List.mem_of_getElem? (i := 1505) (by decide +kernel)) rfl, by decide +kernel, gmX9_requireRange, rfl⟩
theorem lkX9_339 : LV RX9 339 mX8_putAge 2 := ⟨lw_gd_of (List.mem_of_getElem? (i := 1508) (by decide +kernel)) rfl, lw_gd_of (List.mem_of_getElem? (i := 1201) (by decide +kernel)) rfl, lw_gd_of (List.mem_of_getElem? (i := 1202) (by decide +kernel)) rfl, by decide +kernel, gmX8_putAge, rfl⟩
theorem thX9_342_345 : TH RX9 342 345 2 := ⟨lw_gd_of (List.mem_of_getElem? (i := 1513) (by decide +kernel)) rfl, lw_gd_of (List.mem_of_getElem? (i := 1523) (by decide +kernel)) rfl⟩
theorem lkX9_346 : LV RX9 346 mX8_putGift 2 := ⟨lw_gd_of (List.mem_of_getElem? (i := 1529) (by decide +kernel)) rfl, lw_gd_of (List.mem_of_getElem? (i := 1251) (by decide +kernel)) rfl, lw_gd_of (List.mem_of_getElem? (i := 1252) (by decide +kernel)) rfl, by decide +kernel, gmX8_putGift, rfl⟩
theorem lkX9_180 : LV RX9 180 mX9_requireAsset 1 := ⟨lw_gd_of (List.mem_of_getElem? (i := 1534) (by decide +kernel)) rfl, lw_gd_of (List.mem_of_getElem? (i := 1536) (by decide +kernel)) rfl, lw_gd_of (List.mem_of_getElem? (i := 33) (by decide +kernel)) rfl, by decide +kernel, gmX9_requireAsset, rfl⟩
theorem lkX9_354 : LV RX9 354 mX8_putValue 2 := ⟨lw_gd_of (List.mem_of_getElem? (i := 1539) (by decide +kernel)) rfl, lw_gd_of (List.mem_of_getElem? (i := 1226) (by decide +kernel)) rfl, lw_gd_of (List.mem_of_getElem? (i := 1227) (by decide +kernel)) rfl, by decide +kernel, gmX8_putValue, rfl⟩
theorem lkX9_357 : LV RX9 357 mX8_putAccrual 1 := ⟨lw_gd_of (List.mem_of_getElem? (i := 1544) (by decide +kernel)) rfl, lw_gd_of (List.mem_of_getElem? (i := 1281) (by decide +kernel)) rfl, lw_gd_of (List.mem_of_getElem? (i := 1282) (by decide +kernel)) rfl, by decide +kernel, gmX8_putAccrual, rfl⟩
theorem lkX9_392 : LS9 RX9 392 mX9_greatestCommonDivisor 2 := ⟨lw_gd_of (List.mem_of_getElem? (i := 484) (by decide +kernel)) rfl, lw_gd_of (List.mem_of_getElem? (i := 485) (by decide +kernel)) rfl, by decide +kernel, gmX9_greatestCommonDivisor, rfl⟩
theorem lkX9_395 : LS9 RX9 395 mX9_sumOf 1 := ⟨lw_gd_of (List.mem_of_getElem? (i := 442) (by decide +kernel)) rfl, lw_gd_of (List.mem_of_getElem? (i := 434) (by decide +kernel)) rfl, by decide +kernel, gmX9_sumOf, rfl⟩
theorem lkX9_399 : LS9 RX9 399 mX9_portion 3 := ⟨lw_gd_of (List.mem_of_getElem? (i := 443) (by decide +kernel)) rfl, lw_gd_of (List.mem_of_getElem? (i := 411) (by decide +kernel)) rfl, by decide +kernel, gmX9_portion, rfl⟩
theorem fjJ0_9 : Cond.fieldLink RJ0 9 "java/lang/String" "value" "[B" ∈ lw_gd := lw_gd_of (List.mem_of_getElem? (i := 1011) (by decide +kernel)) rfl
theorem lkJ0_335 : LV RJ0 335 mJ_coder 0 := ⟨lw_gd_of (List.mem_of_getElem? (i := 819) (by decide +kernel)) rfl, lw_gd_of (List.mem_of_getElem? (i := 820) (by decide +kernel)) rfl, lw_gd_of (List.mem_of_getElem? (i := 821) (by decide +kernel)) rfl, by decide +kernel, gmJ_coder, rfl⟩
theorem lkJ0_492 : LV RJ0 492 mJ_isLatin1 0 := ⟨lw_gd_of (List.mem_of_getElem? (i := 1030) (by decide +kernel)) rfl, lw_gd_of (List.mem_of_getElem? (i := 1031) (by decide +kernel)) rfl, lw_gd_of (List.mem_of_getElem? (i := 1032) (by decide +kernel)) rfl, by decide +kernel, gmJ_isLatin1, rfl⟩
theorem lkJ0_495 : LS9 RJ0 495 mJ_charAtL 2 := ⟨lw_gd_of (List.mem_of_getElem? (i := 1034) (by decide +kernel)) rfl, lw_gd_of (List.mem_of_getElem? (i := 1035) (by decide +kernel)) rfl, by decide +kernel, gmJ_charAtL, rfl⟩
theorem fjJ0_38 : Cond.fieldLink RJ0 38 "java/lang/String" "COMPACT_STRINGS" "Z" ∈ lw_gd := lw_gd_of (List.mem_of_getElem? (i := 823) (by decide +kernel)) rfl
theorem fjJ0_15 : Cond.fieldLink RJ0 15 "java/lang/String" "coder" "B" ∈ lw_gd := lw_gd_of (List.mem_of_getElem? (i := 1012) (by decide +kernel)) rfl
theorem fjJ0_1053 : Cond.fieldLink RJ0 1053 "jdk/internal/util/Preconditions" "SIOOBE_FORMATTER" "Ljava/util/function/BiFunction;" ∈ lw_gd := lw_gd_of (List.mem_of_getElem? (i := 801) (by decide +kernel)) rfl
theorem lkJ0_1059 : LS9 RJ0 1059 mJ_checkIndexP 3 := ⟨lw_gd_of (List.mem_of_getElem? (i := 877) (by decide +kernel)) rfl, lw_gd_of (List.mem_of_getElem? (i := 878) (by decide +kernel)) rfl, by decide +kernel, gmJ_checkIndexP, rfl⟩
theorem lkJ1_9 : LS9 RJ1 9 mJ_checkIndexS 2 := ⟨lw_gd_of (List.mem_of_getElem? (i := 1037) (by decide +kernel)) rfl, lw_gd_of (List.mem_of_getElem? (i := 875) (by decide +kernel)) rfl, by decide +kernel, gmJ_checkIndexS, rfl⟩
theorem obI : Cond.instanceMethod objectInit ∈ lw_gd := lw_gd_of (List.mem_of_getElem? (i := 69) (by decide +kernel)) rfl
theorem obC : Cond.code objectInit ⟨#[0xb1]⟩ 1 none ∈ lw_gd := lw_gd_of (List.mem_of_getElem? (i := 70) (by decide +kernel)) rfl
theorem syN : Cond.native arraycopyName ∈ lw_gd := lw_gd_of (List.mem_of_getElem? (i := 522) (by decide +kernel)) rfl
theorem syS : Cond.static arraycopyName ∈ lw_gd := lw_gd_of (List.mem_of_getElem? (i := 521) (by decide +kernel)) rfl
theorem syI : Cond.initialized "java/lang/System" ∈ lw_gd := lw_gd_of (List.mem_of_getElem? (i := 46) (by decide +kernel)) rfl
theorem ma_minS : Cond.static Lib.Math.min.name ∈ lw_gd := lw_gd_of (List.mem_of_getElem? (i := 437) (by decide +kernel)) rfl
theorem ma_minC : Cond.code Lib.Math.min.name Lib.Math.min.code 2 (some .int) ∈ lw_gd := lw_gd_of (List.mem_of_getElem? (i := 438) (by decide +kernel)) rfl
theorem ma_minLX2_74 : Cond.methodLink RX2 74 Lib.Math.min.name ∈ lw_gd := lw_gd_of (List.mem_of_getElem? (i := 436) (by decide +kernel)) rfl
theorem ma_minLX7_48 : Cond.methodLink RX7 48 Lib.Math.min.name ∈ lw_gd := lw_gd_of (List.mem_of_getElem? (i := 500) (by decide +kernel)) rfl
theorem ma_minLJ7_304 : Cond.methodLink RJ7 304 Lib.Math.min.name ∈ lw_gd := lw_gd_of (List.mem_of_getElem? (i := 782) (by decide +kernel)) rfl
theorem ma_maxS : Cond.static Lib.Math.max.name ∈ lw_gd := lw_gd_of (List.mem_of_getElem? (i := 502) (by decide +kernel)) rfl
theorem ma_maxC : Cond.code Lib.Math.max.name Lib.Math.max.code 2 (some .int) ∈ lw_gd := lw_gd_of (List.mem_of_getElem? (i := 503) (by decide +kernel)) rfl
theorem ma_maxLX7_54 : Cond.methodLink RX7 54 Lib.Math.max.name ∈ lw_gd := lw_gd_of (List.mem_of_getElem? (i := 501) (by decide +kernel)) rfl
theorem ma_maxLJ8_194 : Cond.methodLink RJ8 194 Lib.Math.max.name ∈ lw_gd := lw_gd_of (List.mem_of_getElem? (i := 766) (by decide +kernel)) rfl
theorem ma_maxLX10_72 : Cond.methodLink RX10 72 Lib.Math.max.name ∈ lw_gd := lw_gd_of (List.mem_of_getElem? (i := 957) (by decide +kernel)) rfl
theorem maI : Cond.initialized "java/lang/Math" ∈ lw_gd := lw_gd_of (List.mem_of_getElem? (i := 45) (by decide +kernel)) rfl
theorem ac_int : Cond.arrayClass .int ∈ lw_gd := lw_gd_of (List.mem_of_getElem? (i := 181) (by decide +kernel)) rfl
theorem ac_byte : Cond.arrayClass .byte ∈ lw_gd := lw_gd_of (List.mem_of_getElem? (i := 105) (by decide +kernel)) rfl
theorem ac_boolean : Cond.arrayClass .boolean ∈ lw_gd := lw_gd_of (List.mem_of_getElem? (i := 737) (by decide +kernel)) rfl
theorem ac_long : Cond.arrayClass .long ∈ lw_gd := lw_gd_of (List.mem_of_getElem? (i := 180) (by decide +kernel)) rfl
end
section
theorem zz_look : True := trivial
end
