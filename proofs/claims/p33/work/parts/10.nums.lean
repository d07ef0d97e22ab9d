theorem i32_n (c : Nat) : Int32.ofInt (c : Int) = nI c := rfl
theorem i64_n (c : Nat) : Int64.ofNat c = lN c := rfl
theorem i8_n : ∀ c : Nat, c < 128 → (Int8.ofInt (c : Int)).toInt32 = nI c := by decide +kernel
theorem i16_n (c : Nat) (h : c < 32768) : (Int16.ofInt (c : Int)).toInt32 = nI c := by
  apply Int32.toInt_inj.mp
  rw [Int16.toInt_toInt32, Int16.toInt_ofInt, nI_toInt (by omega)]
  have h9 : (Int16.size : Int) = 65536 := rfl
  rw [Int.bmod_eq_of_le]
  · omega
  · omega
theorem nI_m (a b : Nat) : nI a * nI b = nI (a * b) := pk_mul a b
theorem nI_s {a b : Nat} (h : b ≤ a) : nI a - nI b = nI (a - b) := pk_sub h
theorem nI_inj {a b : Nat} (ha : a < 2147483648) (hb : b < 2147483648) : nI a = nI b ↔ a = b := nI_eq ha hb
theorem nI_c0 : (0 : Int32) = nI 0 := rfl
theorem nI_z {a : Nat} (ha : a < 2147483648) : nI a = 0 ↔ a = 0 := nI_eq (b := 0) ha (by decide)
theorem nI_m1 {a : Nat} (ha : a < 2147483648) : ¬ nI a = -1 := by
  intro h
  have h1 := congrArg Int32.toInt h
  rw [nI_toInt ha] at h1
  have h2 : (-1 : Int32).toInt = -1 := by decide
  omega
theorem n_iconst {sc : SC} {μ : MI} {mc ms k n pc : Nat} {lv : List (Nat × Value)} {st : List Value} {S : AS} {Q : Out → AS → Prop} (c : Nat) (h : cf (mCd μ) pc = some (.iconst (c : Int), 1)) (kk : Wp sc μ mc ms k n (pc + 1) lv (.int (nI c) :: st) S Q) : Wp sc μ mc ms k n pc lv st S Q := r_iconst h rfl kk
theorem n_m1 {sc : SC} {μ : MI} {mc ms k n pc : Nat} {lv : List (Nat × Value)} {st : List Value} {S : AS} {Q : Out → AS → Prop} (h : cf (mCd μ) pc = some (.iconst (-1), 1)) (kk : Wp sc μ mc ms k n (pc + 1) lv (.int (-1) :: st) S Q) : Wp sc μ mc ms k n pc lv st S Q := r_iconst h (by decide) kk
theorem n_bipush {sc : SC} {μ : MI} {mc ms k n pc : Nat} {lv : List (Nat × Value)} {st : List Value} {S : AS} {Q : Out → AS → Prop} (c : Nat) (h : cf (mCd μ) pc = some (.bipush (c : Int), 2)) (hc : c < 128) (kk : Wp sc μ mc ms k n (pc + 2) lv (.int (nI c) :: st) S Q) : Wp sc μ mc ms k n pc lv st S Q := r_bipush h (i8_n c hc) kk
theorem n_sipush {sc : SC} {μ : MI} {mc ms k n pc : Nat} {lv : List (Nat × Value)} {st : List Value} {S : AS} {Q : Out → AS → Prop} (c : Nat) (h : cf (mCd μ) pc = some (.sipush (c : Int), 3)) (hc : c < 32768) (kk : Wp sc μ mc ms k n (pc + 3) lv (.int (nI c) :: st) S Q) : Wp sc μ mc ms k n pc lv st S Q := r_sipush h (i16_n c hc) kk
theorem n_lconst {sc : SC} {μ : MI} {mc ms k n pc : Nat} {lv : List (Nat × Value)} {st : List Value} {S : AS} {Q : Out → AS → Prop} (c : Fin 2) (h : cf (mCd μ) pc = some (.lconst c, 1)) (kk : Wp sc μ mc ms k n (pc + 1) lv (.long (lN (c : Nat)) :: st) S Q) : Wp sc μ mc ms k n pc lv st S Q := r_lconst h rfl kk
theorem n_iadd {sc : SC} {μ : MI} {mc ms k n pc : Nat} {lv : List (Nat × Value)} {st : List Value} {S : AS} {Q : Out → AS → Prop} {a b : Nat} (h : cf (mCd μ) pc = some (.iadd, 1)) (kk : Wp sc μ mc ms k n (pc + 1) lv (.int (nI (a + b)) :: st) S Q) : Wp sc μ mc ms k n pc lv (.int (nI b) :: .int (nI a) :: st) S Q := r_iadd h (by rw [nI_add]; exact kk)
theorem n_isub {sc : SC} {μ : MI} {mc ms k n pc : Nat} {lv : List (Nat × Value)} {st : List Value} {S : AS} {Q : Out → AS → Prop} {a b : Nat} (h : cf (mCd μ) pc = some (.isub, 1)) (hb : b ≤ a) (kk : Wp sc μ mc ms k n (pc + 1) lv (.int (nI (a - b)) :: st) S Q) : Wp sc μ mc ms k n pc lv (.int (nI b) :: .int (nI a) :: st) S Q := r_isub h (by rw [nI_s hb]; exact kk)
theorem n_imul {sc : SC} {μ : MI} {mc ms k n pc : Nat} {lv : List (Nat × Value)} {st : List Value} {S : AS} {Q : Out → AS → Prop} {a b : Nat} (h : cf (mCd μ) pc = some (.imul, 1)) (kk : Wp sc μ mc ms k n (pc + 1) lv (.int (nI (a * b)) :: st) S Q) : Wp sc μ mc ms k n pc lv (.int (nI b) :: .int (nI a) :: st) S Q := r_imul h (by rw [nI_m]; exact kk)
theorem n_idiv {sc : SC} {μ : MI} {mc ms k n pc : Nat} {lv : List (Nat × Value)} {st : List Value} {S : AS} {Q : Out → AS → Prop} {a b : Nat} (h : cf (mCd μ) pc = some (.idiv, 1)) (ha : a < 2147483648) (h0 : 0 < b) (hb : b < 2147483648) (kk : Wp sc μ mc ms k n (pc + 1) lv (.int (nI (a / b)) :: st) S Q) : Wp sc μ mc ms k n pc lv (.int (nI b) :: .int (nI a) :: st) S Q := r_idiv h (fun q => by have := (nI_z hb).mp q; omega) (by rw [pk_div ha h0 hb]; exact kk)
theorem n_irem {sc : SC} {μ : MI} {mc ms k n pc : Nat} {lv : List (Nat × Value)} {st : List Value} {S : AS} {Q : Out → AS → Prop} {a b : Nat} (h : cf (mCd μ) pc = some (.irem, 1)) (ha : a < 2147483648) (h0 : 0 < b) (hb : b < 2147483648) (kk : Wp sc μ mc ms k n (pc + 1) lv (.int (nI (a % b)) :: st) S Q) : Wp sc μ mc ms k n pc lv (.int (nI b) :: .int (nI a) :: st) S Q := r_irem h (fun q => by have := (nI_z hb).mp q; omega) (by rw [pk_rem ha h0 hb]; exact kk)
theorem n_ladd {sc : SC} {μ : MI} {mc ms k n pc : Nat} {lv : List (Nat × Value)} {st : List Value} {S : AS} {Q : Out → AS → Prop} {a b : Nat} (h : cf (mCd μ) pc = some (.ladd, 1)) (kk : Wp sc μ mc ms k n (pc + 1) lv (.long (lN (a + b)) :: st) S Q) : Wp sc μ mc ms k n pc lv (.long (lN b) :: .long (lN a) :: st) S Q := r_ladd h (by rw [lN_add]; exact kk)
theorem n_lsub {sc : SC} {μ : MI} {mc ms k n pc : Nat} {lv : List (Nat × Value)} {st : List Value} {S : AS} {Q : Out → AS → Prop} {a b : Nat} (h : cf (mCd μ) pc = some (.lsub, 1)) (hb : b ≤ a) (kk : Wp sc μ mc ms k n (pc + 1) lv (.long (lN (a - b)) :: st) S Q) : Wp sc μ mc ms k n pc lv (.long (lN b) :: .long (lN a) :: st) S Q := r_lsub h (by rw [lN_sub hb]; exact kk)
theorem n_lmul {sc : SC} {μ : MI} {mc ms k n pc : Nat} {lv : List (Nat × Value)} {st : List Value} {S : AS} {Q : Out → AS → Prop} {a b : Nat} (h : cf (mCd μ) pc = some (.lmul, 1)) (kk : Wp sc μ mc ms k n (pc + 1) lv (.long (lN (a * b)) :: st) S Q) : Wp sc μ mc ms k n pc lv (.long (lN b) :: .long (lN a) :: st) S Q := r_lmul h (by rw [lN_mul]; exact kk)
theorem lN_z {a : Nat} (ha : a < 9223372036854775808) : lN a = 0 ↔ a = 0 := pk_lEQ (b := 0) ha (by decide)
theorem n_ldiv {sc : SC} {μ : MI} {mc ms k n pc : Nat} {lv : List (Nat × Value)} {st : List Value} {S : AS} {Q : Out → AS → Prop} {a b : Nat} (h : cf (mCd μ) pc = some (.ldiv, 1)) (ha : a < 9223372036854775808) (h0 : 0 < b) (hb : b < 9223372036854775808) (kk : Wp sc μ mc ms k n (pc + 1) lv (.long (lN (a / b)) :: st) S Q) : Wp sc μ mc ms k n pc lv (.long (lN b) :: .long (lN a) :: st) S Q := r_ldiv h (fun q => by have := (lN_z hb).mp q; omega) (by rw [pk_lDiv ha h0 hb]; exact kk)
theorem n_lrem {sc : SC} {μ : MI} {mc ms k n pc : Nat} {lv : List (Nat × Value)} {st : List Value} {S : AS} {Q : Out → AS → Prop} {a b : Nat} (h : cf (mCd μ) pc = some (.lrem, 1)) (ha : a < 9223372036854775808) (h0 : 0 < b) (hb : b < 9223372036854775808) (kk : Wp sc μ mc ms k n (pc + 1) lv (.long (lN (a % b)) :: st) S Q) : Wp sc μ mc ms k n pc lv (.long (lN b) :: .long (lN a) :: st) S Q := r_lrem h (fun q => by have := (lN_z hb).mp q; omega) (by rw [pk_lRem ha h0 hb]; exact kk)
theorem n_i2l {sc : SC} {μ : MI} {mc ms k n pc : Nat} {lv : List (Nat × Value)} {st : List Value} {S : AS} {Q : Out → AS → Prop} {a : Nat} (h : cf (mCd μ) pc = some (.i2l, 1)) (ha : a < 2147483648) (kk : Wp sc μ mc ms k n (pc + 1) lv (.long (lN a) :: st) S Q) : Wp sc μ mc ms k n pc lv (.int (nI a) :: st) S Q := r_i2l h (nI_l ha) kk
theorem n_l2i {sc : SC} {μ : MI} {mc ms k n pc : Nat} {lv : List (Nat × Value)} {st : List Value} {S : AS} {Q : Out → AS → Prop} {a : Nat} (h : cf (mCd μ) pc = some (.l2i, 1)) (kk : Wp sc μ mc ms k n (pc + 1) lv (.int (nI a) :: st) S Q) : Wp sc μ mc ms k n pc lv (.long (lN a) :: st) S Q := r_l2i h (lN_i a) kk
theorem n_iinc {sc : SC} {μ : MI} {mc ms k n pc : Nat} {lv : List (Nat × Value)} {st : List Value} {S : AS} {Q : Out → AS → Prop} {i a : Nat} {lv' : List (Nat × Value)} (c : Nat) (h : cf (mCd μ) pc = some (.iinc i (c : Int), 3)) (hx : lk lv i = some (.int (nI a))) (hn : i < mMl μ) (hl : st1 lv i (.int (nI (a + c))) = lv') (kk : Wp sc μ mc ms k n (pc + 3) lv' st S Q) : Wp sc μ mc ms k n pc lv st S Q := r_iinc h hx (by rw [i32_n, nI_add]) hn hl kk
theorem n_iincD {sc : SC} {μ : MI} {mc ms k n pc : Nat} {lv : List (Nat × Value)} {st : List Value} {S : AS} {Q : Out → AS → Prop} {i a : Nat} {lv' : List (Nat × Value)} (h : cf (mCd μ) pc = some (.iinc i (-1), 3)) (hx : lk lv i = some (.int (nI (a + 1)))) (hn : i < mMl μ) (hl : st1 lv i (.int (nI a)) = lv') (kk : Wp sc μ mc ms k n (pc + 3) lv' st S Q) : Wp sc μ mc ms k n pc lv st S Q := r_iinc h hx (by rw [show Int32.ofInt (-1) = -1 by decide]; exact pk_m1 a) hn hl kk
theorem n_icmp_eq {sc : SC} {μ : MI} {mc ms k n pc : Nat} {lv : List (Nat × Value)} {st : List Value} {S : AS} {Q : Out → AS → Prop} {a b : Nat} {off : Int} {tgt : Nat} (h : cf (mCd μ) pc = some (.if_icmp .eq off, 3)) (ht : (pc : Int) + off = (tgt : Int)) (ha : a < 2147483648) (hb : b < 2147483648) (kt : a = b → Wp sc μ mc ms k n tgt lv st S Q) (kf : a ≠ b → Wp sc μ mc ms k n (pc + 3) lv st S Q) : Wp sc μ mc ms k n pc lv (.int (nI b) :: .int (nI a) :: st) S Q :=
  r_icmp_eq h ht (fun q => kt ((nI_inj ha hb).mp q)) (fun q => kf (fun e => q (by rw [e])))
theorem n_icmp_ne {sc : SC} {μ : MI} {mc ms k n pc : Nat} {lv : List (Nat × Value)} {st : List Value} {S : AS} {Q : Out → AS → Prop} {a b : Nat} {off : Int} {tgt : Nat} (h : cf (mCd μ) pc = some (.if_icmp .ne off, 3)) (ht : (pc : Int) + off = (tgt : Int)) (ha : a < 2147483648) (hb : b < 2147483648) (kt : a ≠ b → Wp sc μ mc ms k n tgt lv st S Q) (kf : a = b → Wp sc μ mc ms k n (pc + 3) lv st S Q) : Wp sc μ mc ms k n pc lv (.int (nI b) :: .int (nI a) :: st) S Q :=
  r_icmp_ne h ht (fun q => kt (fun e => q (by rw [e]))) (fun q => kf ((nI_inj ha hb).mp q))
theorem n_icmp_lt {sc : SC} {μ : MI} {mc ms k n pc : Nat} {lv : List (Nat × Value)} {st : List Value} {S : AS} {Q : Out → AS → Prop} {a b : Nat} {off : Int} {tgt : Nat} (h : cf (mCd μ) pc = some (.if_icmp .lt off, 3)) (ht : (pc : Int) + off = (tgt : Int)) (ha : a < 2147483648) (hb : b < 2147483648) (kt : a < b → Wp sc μ mc ms k n tgt lv st S Q) (kf : b ≤ a → Wp sc μ mc ms k n (pc + 3) lv st S Q) : Wp sc μ mc ms k n pc lv (.int (nI b) :: .int (nI a) :: st) S Q :=
  r_icmp_lt h ht (fun q => kt ((nI_ltI ha hb).mp q)) (fun q => kf (Nat.not_lt.mp fun e => q ((nI_ltI ha hb).mpr e)))
theorem n_icmp_ge {sc : SC} {μ : MI} {mc ms k n pc : Nat} {lv : List (Nat × Value)} {st : List Value} {S : AS} {Q : Out → AS → Prop} {a b : Nat} {off : Int} {tgt : Nat} (h : cf (mCd μ) pc = some (.if_icmp .ge off, 3)) (ht : (pc : Int) + off = (tgt : Int)) (ha : a < 2147483648) (hb : b < 2147483648) (kt : b ≤ a → Wp sc μ mc ms k n tgt lv st S Q) (kf : a < b → Wp sc μ mc ms k n (pc + 3) lv st S Q) : Wp sc μ mc ms k n pc lv (.int (nI b) :: .int (nI a) :: st) S Q :=
  r_icmp_ge h ht (fun q => kt ((nI_leI hb ha).mp q)) (fun q => kf (Nat.not_le.mp fun e => q ((nI_leI hb ha).mpr e)))
theorem n_icmp_gt {sc : SC} {μ : MI} {mc ms k n pc : Nat} {lv : List (Nat × Value)} {st : List Value} {S : AS} {Q : Out → AS → Prop} {a b : Nat} {off : Int} {tgt : Nat} (h : cf (mCd μ) pc = some (.if_icmp .gt off, 3)) (ht : (pc : Int) + off = (tgt : Int)) (ha : a < 2147483648) (hb : b < 2147483648) (kt : b < a → Wp sc μ mc ms k n tgt lv st S Q) (kf : a ≤ b → Wp sc μ mc ms k n (pc + 3) lv st S Q) : Wp sc μ mc ms k n pc lv (.int (nI b) :: .int (nI a) :: st) S Q :=
  r_icmp_gt h ht (fun q => kt ((nI_ltI hb ha).mp q)) (fun q => kf (Nat.not_lt.mp fun e => q ((nI_ltI hb ha).mpr e)))
theorem n_icmp_le {sc : SC} {μ : MI} {mc ms k n pc : Nat} {lv : List (Nat × Value)} {st : List Value} {S : AS} {Q : Out → AS → Prop} {a b : Nat} {off : Int} {tgt : Nat} (h : cf (mCd μ) pc = some (.if_icmp .le off, 3)) (ht : (pc : Int) + off = (tgt : Int)) (ha : a < 2147483648) (hb : b < 2147483648) (kt : a ≤ b → Wp sc μ mc ms k n tgt lv st S Q) (kf : b < a → Wp sc μ mc ms k n (pc + 3) lv st S Q) : Wp sc μ mc ms k n pc lv (.int (nI b) :: .int (nI a) :: st) S Q :=
  r_icmp_le h ht (fun q => kt ((nI_leI ha hb).mp q)) (fun q => kf (Nat.not_le.mp fun e => q ((nI_leI ha hb).mpr e)))
theorem n_if_eq {sc : SC} {μ : MI} {mc ms k n pc : Nat} {lv : List (Nat × Value)} {st : List Value} {S : AS} {Q : Out → AS → Prop} {a : Nat} {off : Int} {tgt : Nat} (h : cf (mCd μ) pc = some (.ifCond .eq off, 3)) (ht : (pc : Int) + off = (tgt : Int)) (ha : a < 2147483648) (kt : a = 0 → Wp sc μ mc ms k n tgt lv st S Q) (kf : a ≠ 0 → Wp sc μ mc ms k n (pc + 3) lv st S Q) : Wp sc μ mc ms k n pc lv (.int (nI a) :: st) S Q :=
  r_if_eq h ht (fun q => kt ((nI_z ha).mp q)) (fun q => kf (fun e => q ((nI_z ha).mpr e)))
theorem n_if_ne {sc : SC} {μ : MI} {mc ms k n pc : Nat} {lv : List (Nat × Value)} {st : List Value} {S : AS} {Q : Out → AS → Prop} {a : Nat} {off : Int} {tgt : Nat} (h : cf (mCd μ) pc = some (.ifCond .ne off, 3)) (ht : (pc : Int) + off = (tgt : Int)) (ha : a < 2147483648) (kt : a ≠ 0 → Wp sc μ mc ms k n tgt lv st S Q) (kf : a = 0 → Wp sc μ mc ms k n (pc + 3) lv st S Q) : Wp sc μ mc ms k n pc lv (.int (nI a) :: st) S Q :=
  r_if_ne h ht (fun q => kt (fun e => q ((nI_z ha).mpr e))) (fun q => kf ((nI_z ha).mp q))
theorem n_if_lt {sc : SC} {μ : MI} {mc ms k n pc : Nat} {lv : List (Nat × Value)} {st : List Value} {S : AS} {Q : Out → AS → Prop} {a : Nat} {off : Int} {tgt : Nat} (h : cf (mCd μ) pc = some (.ifCond .lt off, 3)) (ht : (pc : Int) + off = (tgt : Int)) (ha : a < 2147483648) (kt : False → Wp sc μ mc ms k n tgt lv st S Q) (kf : True → Wp sc μ mc ms k n (pc + 3) lv st S Q) : Wp sc μ mc ms k n pc lv (.int (nI a) :: st) S Q :=
  r_if_lt h ht (fun q => kt (nI_pos ha q)) (fun q => kf (trivial))
theorem n_if_ge {sc : SC} {μ : MI} {mc ms k n pc : Nat} {lv : List (Nat × Value)} {st : List Value} {S : AS} {Q : Out → AS → Prop} {a : Nat} {off : Int} {tgt : Nat} (h : cf (mCd μ) pc = some (.ifCond .ge off, 3)) (ht : (pc : Int) + off = (tgt : Int)) (ha : a < 2147483648) (kt : True → Wp sc μ mc ms k n tgt lv st S Q) (kf : False → Wp sc μ mc ms k n (pc + 3) lv st S Q) : Wp sc μ mc ms k n pc lv (.int (nI a) :: st) S Q :=
  r_if_ge h ht (fun q => kt (trivial)) (fun q => kf (q (nI_pos' ha)))
theorem n_if_gt {sc : SC} {μ : MI} {mc ms k n pc : Nat} {lv : List (Nat × Value)} {st : List Value} {S : AS} {Q : Out → AS → Prop} {a : Nat} {off : Int} {tgt : Nat} (h : cf (mCd μ) pc = some (.ifCond .gt off, 3)) (ht : (pc : Int) + off = (tgt : Int)) (ha : a < 2147483648) (kt : 0 < a → Wp sc μ mc ms k n tgt lv st S Q) (kf : a = 0 → Wp sc μ mc ms k n (pc + 3) lv st S Q) : Wp sc μ mc ms k n pc lv (.int (nI a) :: st) S Q :=
  r_if_gt h ht (fun q => kt (Nat.pos_of_ne_zero fun e => by rw [e] at q; exact absurd q (by decide))) (fun q => kf (Nat.eq_zero_of_not_pos fun e => q (nI_lt e ha)))
theorem n_if_le {sc : SC} {μ : MI} {mc ms k n pc : Nat} {lv : List (Nat × Value)} {st : List Value} {S : AS} {Q : Out → AS → Prop} {a : Nat} {off : Int} {tgt : Nat} (h : cf (mCd μ) pc = some (.ifCond .le off, 3)) (ht : (pc : Int) + off = (tgt : Int)) (ha : a < 2147483648) (kt : a = 0 → Wp sc μ mc ms k n tgt lv st S Q) (kf : 0 < a → Wp sc μ mc ms k n (pc + 3) lv st S Q) : Wp sc μ mc ms k n pc lv (.int (nI a) :: st) S Q :=
  r_if_le h ht (fun q => kt (Nat.eq_zero_of_not_pos fun e => nI_nle e ha q)) (fun q => kf (Nat.pos_of_ne_zero fun e => q (by rw [e]; decide)))
theorem lc_gt {a b : Nat} (ha : a < 9223372036854775808) (hb : b < 9223372036854775808) : lg_cmp (lN a) (lN b) = if b < a then 1 else if a = b then 0 else -1 := by
  unfold lg_cmp
  by_cases h1 : b < a
  · rw [if_pos h1, if_pos (show lN b < lN a from (pk_lLT hb ha).mpr h1)]
  · rw [if_neg h1, if_neg (show ¬ lN b < lN a from fun q => h1 ((pk_lLT hb ha).mp q))]
    by_cases h2 : a = b
    · rw [if_pos h2, if_pos (by rw [h2])]
    · rw [if_neg h2, if_neg (fun q => h2 ((pk_lEQ ha hb).mp q))]
theorem n_lcmp_eq {sc : SC} {μ : MI} {mc ms k n pc : Nat} {lv : List (Nat × Value)} {st : List Value} {S : AS} {Q : Out → AS → Prop} {a b : Nat} {off : Int} {tgt : Nat} (h : cf (mCd μ) pc = some (.lcmp, 1)) (h2 : cf (mCd μ) (pc + 1) = some (.ifCond .eq off, 3)) (ht : (pc : Int) + 1 + off = (tgt : Int)) (ha : a < 9223372036854775808) (hb : b < 9223372036854775808) (kt : a = b → Wp sc μ mc ms k n tgt lv st S Q) (kf : a ≠ b → Wp sc μ mc ms k n (pc + 4) lv st S Q) : Wp sc μ mc ms k n pc lv (.long (lN b) :: .long (lN a) :: st) S Q := by
  refine r_lcmp h (r_if_eq h2 (by rw [← ht]; rfl) (fun q => kt ?_) (fun q => kf ?_)) <;> rw [lc_gt ha hb] at q <;> rcases Nat.lt_trichotomy a b with h9 | h9 | h9
  all_goals
    first
      | omega
      | (exfalso; simp [h9, Nat.lt_asymm h9, Nat.ne_of_lt h9] at q; done)
      | (exfalso; simp [h9, Nat.ne_of_gt h9] at q; done)
      | (exfalso; revert q; simp [h9, Nat.lt_asymm h9, Nat.ne_of_lt h9]; try decide)
      | (exfalso; revert q; rw [if_pos h9]; decide)
      | (exfalso; revert q; rw [if_neg (by omega), if_neg (by omega)]; decide)
      | (exfalso; revert q; rw [if_neg (by omega), if_pos (by omega)]; decide)
theorem n_lcmp_ne {sc : SC} {μ : MI} {mc ms k n pc : Nat} {lv : List (Nat × Value)} {st : List Value} {S : AS} {Q : Out → AS → Prop} {a b : Nat} {off : Int} {tgt : Nat} (h : cf (mCd μ) pc = some (.lcmp, 1)) (h2 : cf (mCd μ) (pc + 1) = some (.ifCond .ne off, 3)) (ht : (pc : Int) + 1 + off = (tgt : Int)) (ha : a < 9223372036854775808) (hb : b < 9223372036854775808) (kt : a ≠ b → Wp sc μ mc ms k n tgt lv st S Q) (kf : a = b → Wp sc μ mc ms k n (pc + 4) lv st S Q) : Wp sc μ mc ms k n pc lv (.long (lN b) :: .long (lN a) :: st) S Q := by
  refine r_lcmp h (r_if_ne h2 (by rw [← ht]; rfl) (fun q => kt ?_) (fun q => kf ?_)) <;> rw [lc_gt ha hb] at q <;> rcases Nat.lt_trichotomy a b with h9 | h9 | h9
  all_goals
    first
      | omega
      | (exfalso; simp [h9, Nat.lt_asymm h9, Nat.ne_of_lt h9] at q; done)
      | (exfalso; simp [h9, Nat.ne_of_gt h9] at q; done)
      | (exfalso; revert q; simp [h9, Nat.lt_asymm h9, Nat.ne_of_lt h9]; try decide)
      | (exfalso; revert q; rw [if_pos h9]; decide)
      | (exfalso; revert q; rw [if_neg (by omega), if_neg (by omega)]; decide)
      | (exfalso; revert q; rw [if_neg (by omega), if_pos (by omega)]; decide)
theorem n_lcmp_lt {sc : SC} {μ : MI} {mc ms k n pc : Nat} {lv : List (Nat × Value)} {st : List Value} {S : AS} {Q : Out → AS → Prop} {a b : Nat} {off : Int} {tgt : Nat} (h : cf (mCd μ) pc = some (.lcmp, 1)) (h2 : cf (mCd μ) (pc + 1) = some (.ifCond .lt off, 3)) (ht : (pc : Int) + 1 + off = (tgt : Int)) (ha : a < 9223372036854775808) (hb : b < 9223372036854775808) (kt : a < b → Wp sc μ mc ms k n tgt lv st S Q) (kf : b ≤ a → Wp sc μ mc ms k n (pc + 4) lv st S Q) : Wp sc μ mc ms k n pc lv (.long (lN b) :: .long (lN a) :: st) S Q := by
  refine r_lcmp h (r_if_lt h2 (by rw [← ht]; rfl) (fun q => kt ?_) (fun q => kf ?_)) <;> rw [lc_gt ha hb] at q <;> rcases Nat.lt_trichotomy a b with h9 | h9 | h9
  all_goals
    first
      | omega
      | (exfalso; simp [h9, Nat.lt_asymm h9, Nat.ne_of_lt h9] at q; done)
      | (exfalso; simp [h9, Nat.ne_of_gt h9] at q; done)
      | (exfalso; revert q; simp [h9, Nat.lt_asymm h9, Nat.ne_of_lt h9]; try decide)
      | (exfalso; revert q; rw [if_pos h9]; decide)
      | (exfalso; revert q; rw [if_neg (by omega), if_neg (by omega)]; decide)
      | (exfalso; revert q; rw [if_neg (by omega), if_pos (by omega)]; decide)
theorem n_lcmp_ge {sc : SC} {μ : MI} {mc ms k n pc : Nat} {lv : List (Nat × Value)} {st : List Value} {S : AS} {Q : Out → AS → Prop} {a b : Nat} {off : Int} {tgt : Nat} (h : cf (mCd μ) pc = some (.lcmp, 1)) (h2 : cf (mCd μ) (pc + 1) = some (.ifCond .ge off, 3)) (ht : (pc : Int) + 1 + off = (tgt : Int)) (ha : a < 9223372036854775808) (hb : b < 9223372036854775808) (kt : b ≤ a → Wp sc μ mc ms k n tgt lv st S Q) (kf : a < b → Wp sc μ mc ms k n (pc + 4) lv st S Q) : Wp sc μ mc ms k n pc lv (.long (lN b) :: .long (lN a) :: st) S Q := by
  refine r_lcmp h (r_if_ge h2 (by rw [← ht]; rfl) (fun q => kt ?_) (fun q => kf ?_)) <;> rw [lc_gt ha hb] at q <;> rcases Nat.lt_trichotomy a b with h9 | h9 | h9
  all_goals
    first
      | omega
      | (exfalso; simp [h9, Nat.lt_asymm h9, Nat.ne_of_lt h9] at q; done)
      | (exfalso; simp [h9, Nat.ne_of_gt h9] at q; done)
      | (exfalso; revert q; simp [h9, Nat.lt_asymm h9, Nat.ne_of_lt h9]; try decide)
      | (exfalso; revert q; rw [if_pos h9]; decide)
      | (exfalso; revert q; rw [if_neg (by omega), if_neg (by omega)]; decide)
      | (exfalso; revert q; rw [if_neg (by omega), if_pos (by omega)]; decide)
theorem n_lcmp_gt {sc : SC} {μ : MI} {mc ms k n pc : Nat} {lv : List (Nat × Value)} {st : List Value} {S : AS} {Q : Out → AS → Prop} {a b : Nat} {off : Int} {tgt : Nat} (h : cf (mCd μ) pc = some (.lcmp, 1)) (h2 : cf (mCd μ) (pc + 1) = some (.ifCond .gt off, 3)) (ht : (pc : Int) + 1 + off = (tgt : Int)) (ha : a < 9223372036854775808) (hb : b < 9223372036854775808) (kt : b < a → Wp sc μ mc ms k n tgt lv st S Q) (kf : a ≤ b → Wp sc μ mc ms k n (pc + 4) lv st S Q) : Wp sc μ mc ms k n pc lv (.long (lN b) :: .long (lN a) :: st) S Q := by
  refine r_lcmp h (r_if_gt h2 (by rw [← ht]; rfl) (fun q => kt ?_) (fun q => kf ?_)) <;> rw [lc_gt ha hb] at q <;> rcases Nat.lt_trichotomy a b with h9 | h9 | h9
  all_goals
    first
      | omega
      | (exfalso; simp [h9, Nat.lt_asymm h9, Nat.ne_of_lt h9] at q; done)
      | (exfalso; simp [h9, Nat.ne_of_gt h9] at q; done)
      | (exfalso; revert q; simp [h9, Nat.lt_asymm h9, Nat.ne_of_lt h9]; try decide)
      | (exfalso; revert q; rw [if_pos h9]; decide)
      | (exfalso; revert q; rw [if_neg (by omega), if_neg (by omega)]; decide)
      | (exfalso; revert q; rw [if_neg (by omega), if_pos (by omega)]; decide)
theorem n_lcmp_le {sc : SC} {μ : MI} {mc ms k n pc : Nat} {lv : List (Nat × Value)} {st : List Value} {S : AS} {Q : Out → AS → Prop} {a b : Nat} {off : Int} {tgt : Nat} (h : cf (mCd μ) pc = some (.lcmp, 1)) (h2 : cf (mCd μ) (pc + 1) = some (.ifCond .le off, 3)) (ht : (pc : Int) + 1 + off = (tgt : Int)) (ha : a < 9223372036854775808) (hb : b < 9223372036854775808) (kt : a ≤ b → Wp sc μ mc ms k n tgt lv st S Q) (kf : b < a → Wp sc μ mc ms k n (pc + 4) lv st S Q) : Wp sc μ mc ms k n pc lv (.long (lN b) :: .long (lN a) :: st) S Q := by
  refine r_lcmp h (r_if_le h2 (by rw [← ht]; rfl) (fun q => kt ?_) (fun q => kf ?_)) <;> rw [lc_gt ha hb] at q <;> rcases Nat.lt_trichotomy a b with h9 | h9 | h9
  all_goals
    first
      | omega
      | (exfalso; simp [h9, Nat.lt_asymm h9, Nat.ne_of_lt h9] at q; done)
      | (exfalso; simp [h9, Nat.ne_of_gt h9] at q; done)
      | (exfalso; revert q; simp [h9, Nat.lt_asymm h9, Nat.ne_of_lt h9]; try decide)
      | (exfalso; revert q; rw [if_pos h9]; decide)
      | (exfalso; revert q; rw [if_neg (by omega), if_neg (by omega)]; decide)
      | (exfalso; revert q; rw [if_neg (by omega), if_pos (by omega)]; decide)
theorem setI_r (σ : SS) (o a : Nat) (f : Nat → Int32) : (setI σ o f).1 a = if a = o then f else σ.1 a := rfl
theorem setI_l (σ : SS) (o : Nat) (f : Nat → Int32) : (setI σ o f).2 = σ.2 := rfl
theorem setL_l (σ : SS) (o : Nat) (f : Nat → Int64) : (setL σ o f).1 = σ.1 := rfl
theorem aup_e {α : Type} (f : Nat → α) (i j : Nat) (x : α) : aup f i x j = if j = i then x else f j := rfl
