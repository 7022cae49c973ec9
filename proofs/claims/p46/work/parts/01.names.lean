-- ===== PART A: goes FIRST, ahead of the names: the tables' words, and 'selects' of the private methods out of them =====
/-- a private method of a class that the tables say can be made, by its rows of tables_1 -/
def lw_okq (q : MethodName × Nat) : Prop := (q.1.cls ≠ "java/lang/invoke/MethodHandle" ∧ q.1.cls ≠ "java/lang/invoke/VarHandle") ∧ Cond.instantiable q.1.cls q.2 ∈ tables_1 ∧ Cond.privateMethod q.1 ∈ tables_1 ∧ Cond.instanceMethod q.1 ∈ tables_1
theorem lw_p0 : lw_okq (⟨"TradeHall$Tape", "skipBlanks", "()V"⟩, 7) := ⟨⟨by decide +kernel, by decide +kernel⟩, List.mem_of_getElem? (i := 94) (by decide +kernel), List.mem_of_getElem? (i := 295) (by decide +kernel), List.mem_of_getElem? (i := 296) (by decide +kernel)⟩
theorem lw_p1 : lw_okq (⟨"TradeHall$Tape", "byteAt", "(I)I"⟩, 7) := ⟨⟨by decide +kernel, by decide +kernel⟩, List.mem_of_getElem? (i := 94) (by decide +kernel), List.mem_of_getElem? (i := 299) (by decide +kernel), List.mem_of_getElem? (i := 300) (by decide +kernel)⟩
theorem lw_p2 : lw_okq (⟨"TradeHall$Tape", "readPart", "()V"⟩, 7) := ⟨⟨by decide +kernel, by decide +kernel⟩, List.mem_of_getElem? (i := 94) (by decide +kernel), List.mem_of_getElem? (i := 303) (by decide +kernel), List.mem_of_getElem? (i := 304) (by decide +kernel)⟩
theorem lw_p3 : lw_okq (⟨"TradeHall$Tape", "skipWord", "()V"⟩, 7) := ⟨⟨by decide +kernel, by decide +kernel⟩, List.mem_of_getElem? (i := 94) (by decide +kernel), List.mem_of_getElem? (i := 307) (by decide +kernel), List.mem_of_getElem? (i := 308) (by decide +kernel)⟩
theorem lw_p4 : lw_okq (⟨"TradeHall$Tape", "isWord", "(ILjava/lang/String;)Z"⟩, 7) := ⟨⟨by decide +kernel, by decide +kernel⟩, List.mem_of_getElem? (i := 94) (by decide +kernel), List.mem_of_getElem? (i := 315) (by decide +kernel), List.mem_of_getElem? (i := 316) (by decide +kernel)⟩
theorem lw_p5 : lw_okq (⟨"TradeHall$Tape", "readTrader", "(IZ)V"⟩, 7) := ⟨⟨by decide +kernel, by decide +kernel⟩, List.mem_of_getElem? (i := 94) (by decide +kernel), List.mem_of_getElem? (i := 367) (by decide +kernel), List.mem_of_getElem? (i := 368) (by decide +kernel)⟩
theorem lw_p6 : lw_okq (⟨"TradeHall$Tape", "note", "(II)V"⟩, 7) := ⟨⟨by decide +kernel, by decide +kernel⟩, List.mem_of_getElem? (i := 94) (by decide +kernel), List.mem_of_getElem? (i := 371) (by decide +kernel), List.mem_of_getElem? (i := 372) (by decide +kernel)⟩
theorem lw_p7 : lw_okq (⟨"TradeHall$Tape", "readNumber", "(I)I"⟩, 7) := ⟨⟨by decide +kernel, by decide +kernel⟩, List.mem_of_getElem? (i := 94) (by decide +kernel), List.mem_of_getElem? (i := 375) (by decide +kernel), List.mem_of_getElem? (i := 376) (by decide +kernel)⟩
theorem lw_p8 : lw_okq (⟨"TradeHall$Tape", "readFee", "(I)V"⟩, 7) := ⟨⟨by decide +kernel, by decide +kernel⟩, List.mem_of_getElem? (i := 94) (by decide +kernel), List.mem_of_getElem? (i := 426) (by decide +kernel), List.mem_of_getElem? (i := 427) (by decide +kernel)⟩
theorem lw_p9 : lw_okq (⟨"TradeHall$Tape", "readLaw", "(I)V"⟩, 7) := ⟨⟨by decide +kernel, by decide +kernel⟩, List.mem_of_getElem? (i := 94) (by decide +kernel), List.mem_of_getElem? (i := 431) (by decide +kernel), List.mem_of_getElem? (i := 432) (by decide +kernel)⟩
theorem lw_p10 : lw_okq (⟨"TradeHall$History", "at", "(I)LTradeHall$Hall;"⟩, 3) := ⟨⟨by decide +kernel, by decide +kernel⟩, List.mem_of_getElem? (i := 126) (by decide +kernel), List.mem_of_getElem? (i := 465) (by decide +kernel), List.mem_of_getElem? (i := 466) (by decide +kernel)⟩
theorem lw_p11 : lw_okq (⟨"TradeHall", "settleGrade", "(I)V"⟩, 11) := ⟨⟨by decide +kernel, by decide +kernel⟩, List.mem_of_getElem? (i := 24) (by decide +kernel), List.mem_of_getElem? (i := 516) (by decide +kernel), List.mem_of_getElem? (i := 517) (by decide +kernel)⟩
theorem lw_p12 : lw_okq (⟨"TradeHall$Book", "priceForAll", "()I"⟩, 11) := ⟨⟨by decide +kernel, by decide +kernel⟩, List.mem_of_getElem? (i := 176) (by decide +kernel), List.mem_of_getElem? (i := 558) (by decide +kernel), List.mem_of_getElem? (i := 559) (by decide +kernel)⟩
theorem lw_p13 : lw_okq (⟨"TradeHall$Book", "slotAt", "(ZI)I"⟩, 11) := ⟨⟨by decide +kernel, by decide +kernel⟩, List.mem_of_getElem? (i := 176) (by decide +kernel), List.mem_of_getElem? (i := 579) (by decide +kernel), List.mem_of_getElem? (i := 580) (by decide +kernel)⟩
theorem lw_p14 : lw_okq (⟨"TradeHall$Book", "amountsDone", "(ZI)I"⟩, 11) := ⟨⟨by decide +kernel, by decide +kernel⟩, List.mem_of_getElem? (i := 176) (by decide +kernel), List.mem_of_getElem? (i := 588) (by decide +kernel), List.mem_of_getElem? (i := 589) (by decide +kernel)⟩
theorem lw_p15 : lw_okq (⟨"TradeHall$Book", "amount", "(ZI)I"⟩, 11) := ⟨⟨by decide +kernel, by decide +kernel⟩, List.mem_of_getElem? (i := 176) (by decide +kernel), List.mem_of_getElem? (i := 592) (by decide +kernel), List.mem_of_getElem? (i := 593) (by decide +kernel)⟩
def lw_privs_1 : List (MethodName × Nat) := [(⟨"TradeHall$Tape", "skipBlanks", "()V"⟩, 7), (⟨"TradeHall$Tape", "byteAt", "(I)I"⟩, 7), (⟨"TradeHall$Tape", "readPart", "()V"⟩, 7), (⟨"TradeHall$Tape", "skipWord", "()V"⟩, 7), (⟨"TradeHall$Tape", "isWord", "(ILjava/lang/String;)Z"⟩, 7), (⟨"TradeHall$Tape", "readTrader", "(IZ)V"⟩, 7), (⟨"TradeHall$Tape", "note", "(II)V"⟩, 7), (⟨"TradeHall$Tape", "readNumber", "(I)I"⟩, 7), (⟨"TradeHall$Tape", "readFee", "(I)V"⟩, 7), (⟨"TradeHall$Tape", "readLaw", "(I)V"⟩, 7), (⟨"TradeHall$History", "at", "(I)LTradeHall$Hall;"⟩, 3), (⟨"TradeHall", "settleGrade", "(I)V"⟩, 11), (⟨"TradeHall$Book", "priceForAll", "()I"⟩, 11), (⟨"TradeHall$Book", "slotAt", "(ZI)I"⟩, 11), (⟨"TradeHall$Book", "amountsDone", "(ZI)I"⟩, 11), (⟨"TradeHall$Book", "amount", "(ZI)I"⟩, 11)]
theorem lw_r1 : ∀ q ∈ lw_privs_1, lw_okq q := List.forall_mem_cons.mpr ⟨lw_p0, List.forall_mem_cons.mpr ⟨lw_p1, List.forall_mem_cons.mpr ⟨lw_p2, List.forall_mem_cons.mpr ⟨lw_p3, List.forall_mem_cons.mpr ⟨lw_p4, List.forall_mem_cons.mpr ⟨lw_p5, List.forall_mem_cons.mpr ⟨lw_p6, List.forall_mem_cons.mpr ⟨lw_p7, List.forall_mem_cons.mpr ⟨lw_p8, List.forall_mem_cons.mpr ⟨lw_p9, List.forall_mem_cons.mpr ⟨lw_p10, List.forall_mem_cons.mpr ⟨lw_p11, List.forall_mem_cons.mpr ⟨lw_p12, List.forall_mem_cons.mpr ⟨lw_p13, List.forall_mem_cons.mpr ⟨lw_p14, List.forall_mem_cons.mpr ⟨lw_p15, fun _ h => absurd h List.not_mem_nil⟩⟩⟩⟩⟩⟩⟩⟩⟩⟩⟩⟩⟩⟩⟩⟩
theorem lw_p16 : lw_okq (⟨"TradeHall$Shelves", "at", "(I)LTradeHall$Hall;"⟩, 2) := ⟨⟨by decide +kernel, by decide +kernel⟩, List.mem_of_getElem? (i := 146) (by decide +kernel), List.mem_of_getElem? (i := 633) (by decide +kernel), List.mem_of_getElem? (i := 634) (by decide +kernel)⟩
theorem lw_p17 : lw_okq (⟨"TradeHall", "gradesWithTrades", "()I"⟩, 11) := ⟨⟨by decide +kernel, by decide +kernel⟩, List.mem_of_getElem? (i := 24) (by decide +kernel), List.mem_of_getElem? (i := 660) (by decide +kernel), List.mem_of_getElem? (i := 661) (by decide +kernel)⟩
theorem lw_p18 : lw_okq (⟨"TradeHall", "worthOfAll", "()I"⟩, 11) := ⟨⟨by decide +kernel, by decide +kernel⟩, List.mem_of_getElem? (i := 24) (by decide +kernel), List.mem_of_getElem? (i := 664) (by decide +kernel), List.mem_of_getElem? (i := 665) (by decide +kernel)⟩
theorem lw_p19 : lw_okq (⟨"TradeHall", "worthOf", "(II)I"⟩, 11) := ⟨⟨by decide +kernel, by decide +kernel⟩, List.mem_of_getElem? (i := 24) (by decide +kernel), List.mem_of_getElem? (i := 668) (by decide +kernel), List.mem_of_getElem? (i := 669) (by decide +kernel)⟩
theorem lw_p20 : lw_okq (⟨"TradeHall$Letters", "beginPart", "(Ljava/lang/String;)V"⟩, 2) := ⟨⟨by decide +kernel, by decide +kernel⟩, List.mem_of_getElem? (i := 162) (by decide +kernel), List.mem_of_getElem? (i := 1069) (by decide +kernel), List.mem_of_getElem? (i := 1070) (by decide +kernel)⟩
theorem lw_p21 : lw_okq (⟨"TradeHall$Letters", "put", "(I)V"⟩, 2) := ⟨⟨by decide +kernel, by decide +kernel⟩, List.mem_of_getElem? (i := 162) (by decide +kernel), List.mem_of_getElem? (i := 1073) (by decide +kernel), List.mem_of_getElem? (i := 1074) (by decide +kernel)⟩
theorem lw_p22 : lw_okq (⟨"TradeHall$Letters", "putWord", "(Ljava/lang/String;)V"⟩, 2) := ⟨⟨by decide +kernel, by decide +kernel⟩, List.mem_of_getElem? (i := 162) (by decide +kernel), List.mem_of_getElem? (i := 1077) (by decide +kernel), List.mem_of_getElem? (i := 1078) (by decide +kernel)⟩
theorem lw_p23 : lw_okq (⟨"TradeHall$Letters", "putNumber", "(I)V"⟩, 2) := ⟨⟨by decide +kernel, by decide +kernel⟩, List.mem_of_getElem? (i := 162) (by decide +kernel), List.mem_of_getElem? (i := 1084) (by decide +kernel), List.mem_of_getElem? (i := 1085) (by decide +kernel)⟩
def lw_privs_2 : List (MethodName × Nat) := [(⟨"TradeHall$Shelves", "at", "(I)LTradeHall$Hall;"⟩, 2), (⟨"TradeHall", "gradesWithTrades", "()I"⟩, 11), (⟨"TradeHall", "worthOfAll", "()I"⟩, 11), (⟨"TradeHall", "worthOf", "(II)I"⟩, 11), (⟨"TradeHall$Letters", "beginPart", "(Ljava/lang/String;)V"⟩, 2), (⟨"TradeHall$Letters", "put", "(I)V"⟩, 2), (⟨"TradeHall$Letters", "putWord", "(Ljava/lang/String;)V"⟩, 2), (⟨"TradeHall$Letters", "putNumber", "(I)V"⟩, 2)]
theorem lw_r2 : ∀ q ∈ lw_privs_2, lw_okq q := List.forall_mem_cons.mpr ⟨lw_p16, List.forall_mem_cons.mpr ⟨lw_p17, List.forall_mem_cons.mpr ⟨lw_p18, List.forall_mem_cons.mpr ⟨lw_p19, List.forall_mem_cons.mpr ⟨lw_p20, List.forall_mem_cons.mpr ⟨lw_p21, List.forall_mem_cons.mpr ⟨lw_p22, List.forall_mem_cons.mpr ⟨lw_p23, fun _ h => absurd h List.not_mem_nil⟩⟩⟩⟩⟩⟩⟩⟩
def lw_privs : List (MethodName × Nat) := lw_privs_1 ++ (lw_privs_2)
def lw_tbl : List Cond := k2_sels lw_privs ++ tables_1
theorem lw_privs_ok : ∀ q ∈ lw_privs, lw_okq q := by
  show ∀ q ∈ lw_privs_1 ++ (lw_privs_2), lw_okq q
  exact List.forall_mem_append.mpr ⟨lw_r1, lw_r2⟩
def RX0 : String := "TradeHall$Book"
def TX0 : u_T := fun k => match k with
  | 0 => ("TradeHall$Book", "bids", "[I", true)
  | 1 => ("TradeHall$Book", "asks", "[I", true)
  | 2 => ("TradeHall$Book", "bidCount", "I", false)
  | 3 => ("TradeHall$Book", "askCount", "I", false)
  | 4 => ("TradeHall$Book", "fee", "I", false)
  | 5 => ("TradeHall$Book", "law", "I", false)
  | 6 => ("TradeHall$Book", "trades", "I", false)
  | 7 => ("TradeHall$Book", "worth", "I", false)
  | 8 => ("TradeHall$Book", "done", "I", false)
  | 9 => ("TradeHall$Book", "buyerPays", "I", false)
  | _ => ("TradeHall$Book", "sellerHas", "I", false)
def tyX0 : Nat → FieldType := fun k => match k with
  | 0 => .array .int
  | 1 => .array .int
  | 2 => .int
  | 3 => .int
  | 4 => .int
  | 5 => .int
  | 6 => .int
  | 7 => .int
  | 8 => .int
  | 9 => .int
  | _ => .int
abbrev wsX00 : List Cond := u_ws RX0 TX0 11
theorem nmX0 : ∀ a, a < 11 → ∀ b, b < 11 → a ≠ b → (TX0 a).2.1 ≠ (TX0 b).2.1 := by decide +kernel
theorem tyX0_ok : ∀ k, k < 11 → parseFieldDescriptor (TX0 k).2.2.1 = some (tyX0 k) := by decide +kernel
abbrev cX0_init : ByteArray := prog_2_method_1_code
def yX0_init : MethodName := ⟨RX0, "<init>", "()V"⟩
abbrev cX0_take : ByteArray := prog_2_method_2_code
def yX0_take : MethodName := ⟨RX0, "take", "(LTradeHall$Hall;II)V"⟩
abbrev cX0_takeTrader : ByteArray := prog_2_method_3_code
def yX0_takeTrader : MethodName := ⟨RX0, "takeTrader", "(LTradeHall$Hall;II)V"⟩
abbrev cX0_insert : ByteArray := prog_2_method_5_code
def yX0_insert : MethodName := ⟨RX0, "insert", "([III)I"⟩
abbrev cX0_traderAt : ByteArray := prog_2_method_6_code
def yX0_traderAt : MethodName := ⟨RX0, "traderAt", "(ZI)I"⟩
abbrev cX0_slotAt : ByteArray := prog_2_method_8_code
def yX0_slotAt : MethodName := ⟨RX0, "slotAt", "(ZI)I"⟩
abbrev cX0_bid : ByteArray := prog_2_method_9_code
def yX0_bid : MethodName := ⟨RX0, "bid", "(I)I"⟩
abbrev cX0_ask : ByteArray := prog_2_method_10_code
def yX0_ask : MethodName := ⟨RX0, "ask", "(I)I"⟩
abbrev cX0_amount : ByteArray := prog_2_method_11_code
def yX0_amount : MethodName := ⟨RX0, "amount", "(ZI)I"⟩
abbrev cX0_lastBid : ByteArray := prog_2_method_12_code
def yX0_lastBid : MethodName := ⟨RX0, "lastBid", "()I"⟩
abbrev cX0_lastAsk : ByteArray := prog_2_method_13_code
def yX0_lastAsk : MethodName := ⟨RX0, "lastAsk", "()I"⟩
abbrev cX0_settle : ByteArray := prog_2_method_14_code
def yX0_settle : MethodName := ⟨RX0, "settle", "(II)V"⟩
abbrev cX0_priceForAll : ByteArray := prog_2_method_15_code
def yX0_priceForAll : MethodName := ⟨RX0, "priceForAll", "()I"⟩
abbrev cX0_worthWithout : ByteArray := prog_2_method_19_code
def yX0_worthWithout : MethodName := ⟨RX0, "worthWithout", "(I)I"⟩
abbrev cX0_doneOf : ByteArray := prog_2_method_20_code
def yX0_doneOf : MethodName := ⟨RX0, "doneOf", "(ZI)I"⟩
abbrev cX0_moneyOf : ByteArray := prog_2_method_21_code
def yX0_moneyOf : MethodName := ⟨RX0, "moneyOf", "(ZI)I"⟩
abbrev cX0_amountsDone : ByteArray := prog_2_method_22_code
def yX0_amountsDone : MethodName := ⟨RX0, "amountsDone", "(ZI)I"⟩
abbrev cX0_takings : ByteArray := prog_2_method_23_code
def yX0_takings : MethodName := ⟨RX0, "takings", "()I"⟩
def RX1 : String := "TradeHall$Hall"
def TX1 : u_T := fun k => match k with
  | 0 => ("TradeHall$Hall", "sells", "[Z", true)
  | 1 => ("TradeHall$Hall", "grades", "[I", true)
  | 2 => ("TradeHall$Hall", "units", "[I", true)
  | 3 => ("TradeHall$Hall", "says", "[I", true)
  | 4 => ("TradeHall$Hall", "purses", "[I", true)
  | 5 => ("TradeHall$Hall", "traded", "[I", true)
  | 6 => ("TradeHall$Hall", "size", "I", false)
  | 7 => ("TradeHall$Hall", "fee", "I", false)
  | 8 => ("TradeHall$Hall", "law", "I", false)
  | 9 => ("TradeHall$Hall", "chest", "I", false)
  | 10 => ("TradeHall$Hall", "tradesClosed", "I", false)
  | 11 => ("TradeHall$Hall", "closes", "I", false)
  | _ => ("TradeHall$Hall", "mostTaken", "I", false)
def tyX1 : Nat → FieldType := fun k => match k with
  | 0 => .array .boolean
  | 1 => .array .int
  | 2 => .array .int
  | 3 => .array .int
  | 4 => .array .int
  | 5 => .array .int
  | 6 => .int
  | 7 => .int
  | 8 => .int
  | 9 => .int
  | 10 => .int
  | 11 => .int
  | _ => .int
abbrev wsX10 : List Cond := u_ws RX1 TX1 13
theorem nmX1 : ∀ a, a < 13 → ∀ b, b < 13 → a ≠ b → (TX1 a).2.1 ≠ (TX1 b).2.1 := by decide +kernel
theorem tyX1_ok : ∀ k, k < 13 → parseFieldDescriptor (TX1 k).2.2.1 = some (tyX1 k) := by decide +kernel
abbrev cX1_init : ByteArray := prog_3_method_1_code
def yX1_init : MethodName := ⟨RX1, "<init>", "()V"⟩
abbrev cX1_clear : ByteArray := prog_3_method_2_code
def yX1_clear : MethodName := ⟨RX1, "clear", "()V"⟩
abbrev cX1_copyFrom : ByteArray := prog_3_method_3_code
def yX1_copyFrom : MethodName := ⟨RX1, "copyFrom", "(LTradeHall$Hall;)V"⟩
abbrev cX1_has : ByteArray := prog_3_method_4_code
def yX1_has : MethodName := ⟨RX1, "has", "(I)Z"⟩
abbrev cX1_hasUnit : ByteArray := prog_3_method_5_code
def yX1_hasUnit : MethodName := ⟨RX1, "hasUnit", "(II)Z"⟩
abbrev cX1_isSeller : ByteArray := prog_3_method_6_code
def yX1_isSeller : MethodName := ⟨RX1, "isSeller", "(I)Z"⟩
abbrev cX1_gradeOf : ByteArray := prog_3_method_7_code
def yX1_gradeOf : MethodName := ⟨RX1, "gradeOf", "(I)I"⟩
abbrev cX1_unitsOf : ByteArray := prog_3_method_8_code
def yX1_unitsOf : MethodName := ⟨RX1, "unitsOf", "(I)I"⟩
abbrev cX1_purseOf : ByteArray := prog_3_method_9_code
def yX1_purseOf : MethodName := ⟨RX1, "purseOf", "(I)I"⟩
abbrev cX1_tradedOf : ByteArray := prog_3_method_10_code
def yX1_tradedOf : MethodName := ⟨RX1, "tradedOf", "(I)I"⟩
abbrev cX1_said : ByteArray := prog_3_method_11_code
def yX1_said : MethodName := ⟨RX1, "said", "(II)I"⟩
abbrev cX1_setSaid : ByteArray := prog_3_method_12_code
def yX1_setSaid : MethodName := ⟨RX1, "setSaid", "(III)V"⟩
abbrev cX1_fits : ByteArray := prog_3_method_14_code
def yX1_fits : MethodName := ⟨RX1, "fits", "(III)Z"⟩
abbrev cX1_inOrder : ByteArray := prog_3_method_15_code
def yX1_inOrder : MethodName := ⟨RX1, "inOrder", "(ZII)Z"⟩
abbrev cX1_enter : ByteArray := prog_3_method_16_code
def yX1_enter : MethodName := ⟨RX1, "enter", "(ZI)I"⟩
abbrev cX1_append : ByteArray := prog_3_method_17_code
def yX1_append : MethodName := ⟨RX1, "append", "(II)I"⟩
abbrev cX1_dropFirst : ByteArray := prog_3_method_18_code
def yX1_dropFirst : MethodName := ⟨RX1, "dropFirst", "(II)V"⟩
abbrev cX1_trade : ByteArray := prog_3_method_19_code
def yX1_trade : MethodName := ⟨RX1, "trade", "(III)V"⟩
abbrev cX1_noteClose : ByteArray := prog_3_method_20_code
def yX1_noteClose : MethodName := ⟨RX1, "noteClose", "(II)V"⟩
abbrev cX1_allUnits : ByteArray := prog_3_method_21_code
def yX1_allUnits : MethodName := ⟨RX1, "allUnits", "()I"⟩
abbrev cX1_allPurses : ByteArray := prog_3_method_22_code
def yX1_allPurses : MethodName := ⟨RX1, "allPurses", "()I"⟩
abbrev cX1_richest : ByteArray := prog_3_method_23_code
def yX1_richest : MethodName := ⟨RX1, "richest", "()I"⟩
def RX2 : String := "TradeHall$History"
def TX2 : u_T := fun k => match k with
  | 0 => ("TradeHall$History", "past", "[LTradeHall$Hall;", true)
  | 1 => ("TradeHall$History", "next", "I", false)
  | _ => ("TradeHall$History", "size", "I", false)
def tyX2 : Nat → FieldType := fun k => match k with
  | 0 => .array (.object "TradeHall$Hall")
  | 1 => .int
  | _ => .int
abbrev wsX20 : List Cond := u_ws RX2 TX2 3
theorem nmX2 : ∀ a, a < 3 → ∀ b, b < 3 → a ≠ b → (TX2 a).2.1 ≠ (TX2 b).2.1 := by decide +kernel
theorem tyX2_ok : ∀ k, k < 3 → parseFieldDescriptor (TX2 k).2.2.1 = some (tyX2 k) := by decide +kernel
abbrev cX2_init : ByteArray := prog_4_method_1_code
def yX2_init : MethodName := ⟨RX2, "<init>", "()V"⟩
abbrev cX2_forget : ByteArray := prog_4_method_2_code
def yX2_forget : MethodName := ⟨RX2, "forget", "()V"⟩
abbrev cX2_remember : ByteArray := prog_4_method_3_code
def yX2_remember : MethodName := ⟨RX2, "remember", "(LTradeHall$Hall;)V"⟩
abbrev cX2_takeBack : ByteArray := prog_4_method_4_code
def yX2_takeBack : MethodName := ⟨RX2, "takeBack", "(LTradeHall$Hall;)I"⟩
abbrev cX2_at : ByteArray := prog_4_method_5_code
def yX2_at : MethodName := ⟨RX2, "at", "(I)LTradeHall$Hall;"⟩
def RX3 : String := "TradeHall$Letters"
def TX3 : u_T := fun k => match k with
  | 0 => ("TradeHall$Letters", "bytes", "[I", true)
  | _ => ("TradeHall$Letters", "size", "I", false)
def tyX3 : Nat → FieldType := fun k => match k with
  | 0 => .array .int
  | _ => .int
abbrev wsX30 : List Cond := u_ws RX3 TX3 2
theorem nmX3 : ∀ a, a < 2 → ∀ b, b < 2 → a ≠ b → (TX3 a).2.1 ≠ (TX3 b).2.1 := by decide +kernel
theorem tyX3_ok : ∀ k, k < 2 → parseFieldDescriptor (TX3 k).2.2.1 = some (tyX3 k) := by decide +kernel
abbrev cX3_init : ByteArray := prog_5_method_1_code
def yX3_init : MethodName := ⟨RX3, "<init>", "()V"⟩
abbrev cX3_at : ByteArray := prog_5_method_2_code
def yX3_at : MethodName := ⟨RX3, "at", "(I)I"⟩
abbrev cX3_write : ByteArray := prog_5_method_3_code
def yX3_write : MethodName := ⟨RX3, "write", "(LTradeHall$Hall;)V"⟩
abbrev cX3_beginPart : ByteArray := prog_5_method_4_code
def yX3_beginPart : MethodName := ⟨RX3, "beginPart", "(Ljava/lang/String;)V"⟩
abbrev cX3_putWord : ByteArray := prog_5_method_5_code
def yX3_putWord : MethodName := ⟨RX3, "putWord", "(Ljava/lang/String;)V"⟩
abbrev cX3_putNumber : ByteArray := prog_5_method_6_code
def yX3_putNumber : MethodName := ⟨RX3, "putNumber", "(I)V"⟩
abbrev cX3_put : ByteArray := prog_5_method_7_code
def yX3_put : MethodName := ⟨RX3, "put", "(I)V"⟩
def RX4 : String := "TradeHall$Ranking"
def TX4 : u_T := fun k => match k with
  | 0 => ("TradeHall$Ranking", "order", "[I", true)
  | 1 => ("TradeHall$Ranking", "gains", "[I", true)
  | _ => ("TradeHall$Ranking", "size", "I", false)
def tyX4 : Nat → FieldType := fun k => match k with
  | 0 => .array .int
  | 1 => .array .int
  | _ => .int
abbrev wsX40 : List Cond := u_ws RX4 TX4 3
theorem nmX4 : ∀ a, a < 3 → ∀ b, b < 3 → a ≠ b → (TX4 a).2.1 ≠ (TX4 b).2.1 := by decide +kernel
theorem tyX4_ok : ∀ k, k < 3 → parseFieldDescriptor (TX4 k).2.2.1 = some (tyX4 k) := by decide +kernel
abbrev cX4_init : ByteArray := prog_6_method_1_code
def yX4_init : MethodName := ⟨RX4, "<init>", "()V"⟩
def RX5 : String := "TradeHall$Serving"
def TX5 : u_T := fun k => match k with
  | 0 => ("TradeHall$Serving", "most", "[I", true)
  | 1 => ("TradeHall$Serving", "value", "I", false)
  | _ => ("TradeHall$Serving", "pairs", "I", false)
def tyX5 : Nat → FieldType := fun k => match k with
  | 0 => .array .int
  | 1 => .int
  | _ => .int
abbrev wsX50 : List Cond := u_ws RX5 TX5 3
theorem nmX5 : ∀ a, a < 3 → ∀ b, b < 3 → a ≠ b → (TX5 a).2.1 ≠ (TX5 b).2.1 := by decide +kernel
theorem tyX5_ok : ∀ k, k < 3 → parseFieldDescriptor (TX5 k).2.2.1 = some (tyX5 k) := by decide +kernel
abbrev cX5_init : ByteArray := prog_7_method_1_code
def yX5_init : MethodName := ⟨RX5, "<init>", "()V"⟩
def RX6 : String := "TradeHall$Shelves"
def TX6 : u_T := fun k => match k with
  | 0 => ("TradeHall$Shelves", "halls", "[LTradeHall$Hall;", true)
  | _ => ("TradeHall$Shelves", "kept", "I", false)
def tyX6 : Nat → FieldType := fun k => match k with
  | 0 => .array (.object "TradeHall$Hall")
  | _ => .int
abbrev wsX60 : List Cond := u_ws RX6 TX6 2
theorem nmX6 : ∀ a, a < 2 → ∀ b, b < 2 → a ≠ b → (TX6 a).2.1 ≠ (TX6 b).2.1 := by decide +kernel
theorem tyX6_ok : ∀ k, k < 2 → parseFieldDescriptor (TX6 k).2.2.1 = some (tyX6 k) := by decide +kernel
abbrev cX6_init : ByteArray := prog_8_method_1_code
def yX6_init : MethodName := ⟨RX6, "<init>", "()V"⟩
abbrev cX6_holds : ByteArray := prog_8_method_2_code
def yX6_holds : MethodName := ⟨RX6, "holds", "(I)Z"⟩
abbrev cX6_put : ByteArray := prog_8_method_3_code
def yX6_put : MethodName := ⟨RX6, "put", "(ILTradeHall$Hall;)V"⟩
abbrev cX6_fetch : ByteArray := prog_8_method_4_code
def yX6_fetch : MethodName := ⟨RX6, "fetch", "(ILTradeHall$Hall;)V"⟩
abbrev cX6_at : ByteArray := prog_8_method_5_code
def yX6_at : MethodName := ⟨RX6, "at", "(I)LTradeHall$Hall;"⟩
def RX7 : String := "TradeHall$Tape"
def TX7 : u_T := fun k => match k with
  | 0 => ("TradeHall$Tape", "bytes", "[I", true)
  | 1 => ("TradeHall$Tape", "told", "LTradeHall$Hall;", true)
  | 2 => ("TradeHall$Tape", "size", "I", false)
  | 3 => ("TradeHall$Tape", "place", "I", false)
  | 4 => ("TradeHall$Tape", "fault", "I", false)
  | 5 => ("TradeHall$Tape", "hasFee", "Z", false)
  | _ => ("TradeHall$Tape", "hasLaw", "Z", false)
def tyX7 : Nat → FieldType := fun k => match k with
  | 0 => .array .int
  | 1 => .object "TradeHall$Hall"
  | 2 => .int
  | 3 => .int
  | 4 => .int
  | 5 => .boolean
  | _ => .boolean
abbrev wsX70 : List Cond := u_ws RX7 TX7 7
theorem nmX7 : ∀ a, a < 7 → ∀ b, b < 7 → a ≠ b → (TX7 a).2.1 ≠ (TX7 b).2.1 := by decide +kernel
theorem tyX7_ok : ∀ k, k < 7 → parseFieldDescriptor (TX7 k).2.2.1 = some (tyX7 k) := by decide +kernel
abbrev cX7_init : ByteArray := prog_9_method_1_code
def yX7_init : MethodName := ⟨RX7, "<init>", "()V"⟩
abbrev cX7_append : ByteArray := prog_9_method_2_code
def yX7_append : MethodName := ⟨RX7, "append", "(I)V"⟩
abbrev cX7_read : ByteArray := prog_9_method_3_code
def yX7_read : MethodName := ⟨RX7, "read", "()I"⟩
abbrev cX7_readPart : ByteArray := prog_9_method_4_code
def yX7_readPart : MethodName := ⟨RX7, "readPart", "()V"⟩
abbrev cX7_readTrader : ByteArray := prog_9_method_5_code
def yX7_readTrader : MethodName := ⟨RX7, "readTrader", "(IZ)V"⟩
abbrev cX7_readFee : ByteArray := prog_9_method_6_code
def yX7_readFee : MethodName := ⟨RX7, "readFee", "(I)V"⟩
abbrev cX7_readLaw : ByteArray := prog_9_method_7_code
def yX7_readLaw : MethodName := ⟨RX7, "readLaw", "(I)V"⟩
abbrev cX7_readNumber : ByteArray := prog_9_method_8_code
def yX7_readNumber : MethodName := ⟨RX7, "readNumber", "(I)I"⟩
abbrev cX7_note : ByteArray := prog_9_method_9_code
def yX7_note : MethodName := ⟨RX7, "note", "(II)V"⟩
abbrev cX7_skipBlanks : ByteArray := prog_9_method_10_code
def yX7_skipBlanks : MethodName := ⟨RX7, "skipBlanks", "()V"⟩
abbrev cX7_skipWord : ByteArray := prog_9_method_11_code
def yX7_skipWord : MethodName := ⟨RX7, "skipWord", "()V"⟩
abbrev cX7_isWord : ByteArray := prog_9_method_12_code
def yX7_isWord : MethodName := ⟨RX7, "isWord", "(ILjava/lang/String;)Z"⟩
abbrev cX7_byteAt : ByteArray := prog_9_method_13_code
def yX7_byteAt : MethodName := ⟨RX7, "byteAt", "(I)I"⟩
abbrev cX7_isDigit : ByteArray := prog_9_method_14_code
def yX7_isDigit : MethodName := ⟨RX7, "isDigit", "(I)Z"⟩
abbrev cX7_isSmallLetter : ByteArray := prog_9_method_15_code
def yX7_isSmallLetter : MethodName := ⟨RX7, "isSmallLetter", "(I)Z"⟩
def RX8 : String := "TradeHall"
def TX8 : u_T := fun k => match k with
  | 0 => ("TradeHall", "hall", "LTradeHall$Hall;", true)
  | 1 => ("TradeHall", "tape", "LTradeHall$Tape;", true)
  | 2 => ("TradeHall", "history", "LTradeHall$History;", true)
  | 3 => ("TradeHall", "shelves", "LTradeHall$Shelves;", true)
  | 4 => ("TradeHall", "letters", "LTradeHall$Letters;", true)
  | 5 => ("TradeHall", "book", "LTradeHall$Book;", true)
  | 6 => ("TradeHall", "others", "LTradeHall$Book;", true)
  | 7 => ("TradeHall", "ranking", "LTradeHall$Ranking;", true)
  | 8 => ("TradeHall", "serving", "LTradeHall$Serving;", true)
  | 9 => ("TradeHall", "takingsByFee", "[I", true)
  | _ => ("TradeHall", "waysRow", "[J", true)
def tyX8 : Nat → FieldType := fun k => match k with
  | 0 => .object "TradeHall$Hall"
  | 1 => .object "TradeHall$Tape"
  | 2 => .object "TradeHall$History"
  | 3 => .object "TradeHall$Shelves"
  | 4 => .object "TradeHall$Letters"
  | 5 => .object "TradeHall$Book"
  | 6 => .object "TradeHall$Book"
  | 7 => .object "TradeHall$Ranking"
  | 8 => .object "TradeHall$Serving"
  | 9 => .array .int
  | _ => .array .long
abbrev wsX80 : List Cond := u_ws RX8 TX8 11
theorem nmX8 : ∀ a, a < 11 → ∀ b, b < 11 → a ≠ b → (TX8 a).2.1 ≠ (TX8 b).2.1 := by decide +kernel
theorem tyX8_ok : ∀ k, k < 11 → parseFieldDescriptor (TX8 k).2.2.1 = some (tyX8 k) := by decide +kernel
abbrev cX8_init : ByteArray := prog_1_method_1_code
def yX8_init : MethodName := ⟨RX8, "<init>", "()V"⟩
abbrev cX8_feed : ByteArray := prog_1_method_2_code
def yX8_feed : MethodName := ⟨RX8, "feed", "(IIIII)I"⟩
abbrev cX8_end : ByteArray := prog_1_method_3_code
def yX8_end : MethodName := ⟨RX8, "end", "(I)I"⟩
abbrev cX8_tell : ByteArray := prog_1_method_4_code
def yX8_tell : MethodName := ⟨RX8, "tell", "()I"⟩
abbrev cX8_come : ByteArray := prog_1_method_5_code
def yX8_come : MethodName := ⟨RX8, "come", "(ZI)I"⟩
abbrev cX8_add : ByteArray := prog_1_method_6_code
def yX8_add : MethodName := ⟨RX8, "add", "(II)I"⟩
abbrev cX8_say : ByteArray := prog_1_method_7_code
def yX8_say : MethodName := ⟨RX8, "say", "(III)I"⟩
abbrev cX8_leave : ByteArray := prog_1_method_8_code
def yX8_leave : MethodName := ⟨RX8, "leave", "(I)I"⟩
abbrev cX8_fee : ByteArray := prog_1_method_9_code
def yX8_fee : MethodName := ⟨RX8, "fee", "(I)I"⟩
abbrev cX8_law : ByteArray := prog_1_method_10_code
def yX8_law : MethodName := ⟨RX8, "law", "(I)I"⟩
abbrev cX8_close : ByteArray := prog_1_method_11_code
def yX8_close : MethodName := ⟨RX8, "close", "(I)I"⟩
abbrev cX8_undo : ByteArray := prog_1_method_12_code
def yX8_undo : MethodName := ⟨RX8, "undo", "()I"⟩
abbrev cX8_keep : ByteArray := prog_1_method_13_code
def yX8_keep : MethodName := ⟨RX8, "keep", "(I)I"⟩
abbrev cX8_back : ByteArray := prog_1_method_14_code
def yX8_back : MethodName := ⟨RX8, "back", "(I)I"⟩
abbrev cX8_trader : ByteArray := prog_1_method_15_code
def yX8_trader : MethodName := ⟨RX8, "trader", "(II)I"⟩
abbrev cX8_audit : ByteArray := prog_1_method_29_code
def yX8_audit : MethodName := ⟨RX8, "audit", "(I)I"⟩
abbrev cX8_letter : ByteArray := prog_1_method_31_code
def yX8_letter : MethodName := ⟨RX8, "letter", "(I)I"⟩
abbrev cX8_count : ByteArray := prog_1_method_44_code
def yX8_count : MethodName := ⟨RX8, "count", "(I)I"⟩
abbrev cX8_isGrade : ByteArray := prog_1_method_45_code
def yX8_isGrade : MethodName := ⟨RX8, "isGrade", "(I)Z"⟩
abbrev cX8_isValue : ByteArray := prog_1_method_46_code
def yX8_isValue : MethodName := ⟨RX8, "isValue", "(I)Z"⟩
abbrev cX8_isFee : ByteArray := prog_1_method_47_code
def yX8_isFee : MethodName := ⟨RX8, "isFee", "(I)Z"⟩
abbrev cX8_isLaw : ByteArray := prog_1_method_48_code
def yX8_isLaw : MethodName := ⟨RX8, "isLaw", "(I)Z"⟩
abbrev cX8_isShelf : ByteArray := prog_1_method_49_code
def yX8_isShelf : MethodName := ⟨RX8, "isShelf", "(I)Z"⟩
abbrev cX8_bit : ByteArray := prog_1_method_51_code
def yX8_bit : MethodName := ⟨RX8, "bit", "(I)I"⟩
abbrev cX8_lawWord : ByteArray := prog_1_method_52_code
def yX8_lawWord : MethodName := ⟨RX8, "lawWord", "(I)Ljava/lang/String;"⟩
abbrev cX8_settleGrade : ByteArray := prog_1_method_55_code
def yX8_settleGrade : MethodName := ⟨RX8, "settleGrade", "(I)V"⟩
abbrev cX8_worthOf : ByteArray := prog_1_method_56_code
def yX8_worthOf : MethodName := ⟨RX8, "worthOf", "(II)I"⟩
abbrev cX8_worthOfAll : ByteArray := prog_1_method_57_code
def yX8_worthOfAll : MethodName := ⟨RX8, "worthOfAll", "()I"⟩
abbrev cX8_gradesWithTrades : ByteArray := prog_1_method_58_code
def yX8_gradesWithTrades : MethodName := ⟨RX8, "gradesWithTrades", "()I"⟩
def RX9 : String := "TradeHallLaw$Hall"
def TX9 : u_T := fun k => match k with
  | 0 => ("TradeHallLaw$Hall", "many", "I", false)
  | 1 => ("TradeHallLaw$Hall", "fee", "I", false)
  | 2 => ("TradeHallLaw$Hall", "law", "I", false)
  | 3 => ("TradeHallLaw$Hall", "chest", "I", false)
  | 4 => ("TradeHallLaw$Hall", "closed", "I", false)
  | 5 => ("TradeHallLaw$Hall", "closes", "I", false)
  | 6 => ("TradeHallLaw$Hall", "greatest", "I", false)
  | 7 => ("TradeHallLaw$Hall", "sells", "[Z", true)
  | 8 => ("TradeHallLaw$Hall", "grade", "[I", true)
  | 9 => ("TradeHallLaw$Hall", "purse", "[I", true)
  | 10 => ("TradeHallLaw$Hall", "traded", "[I", true)
  | _ => ("TradeHallLaw$Hall", "units", "[[I", false)
def tyX9 : Nat → FieldType := fun k => match k with
  | 0 => .int
  | 1 => .int
  | 2 => .int
  | 3 => .int
  | 4 => .int
  | 5 => .int
  | 6 => .int
  | 7 => .array .boolean
  | 8 => .array .int
  | 9 => .array .int
  | 10 => .array .int
  | _ => .array (.array .int)
abbrev wsX90 : List Cond := u_ws RX9 TX9 12
theorem nmX9 : ∀ a, a < 12 → ∀ b, b < 12 → a ≠ b → (TX9 a).2.1 ≠ (TX9 b).2.1 := by decide +kernel
theorem tyX9_ok : ∀ k, k < 12 → parseFieldDescriptor (TX9 k).2.2.1 = some (tyX9 k) := by decide +kernel
abbrev cX9_init : ByteArray := prog_11_method_1_code
def yX9_init : MethodName := ⟨RX9, "<init>", "()V"⟩
abbrev cX9_copy : ByteArray := prog_11_method_2_code
def yX9_copy : MethodName := ⟨RX9, "copy", "()LTradeHallLaw$Hall;"⟩
abbrev cX9_comes : ByteArray := prog_11_method_3_code
def yX9_comes : MethodName := ⟨RX9, "comes", "(ZI[I)V"⟩
abbrev cX9_told : ByteArray := prog_11_method_4_code
def yX9_told : MethodName := ⟨RX9, "told", "()Ljava/lang/String;"⟩
abbrev cX9_some : ByteArray := prog_11_method_5_code
def yX9_some : MethodName := ⟨RX9, "some", "([IIII)LTradeHallLaw$Hall;"⟩
def RX10 : String := "TradeHallLaw$Market"
def TX10 : u_T := fun k => match k with
  | 0 => ("TradeHallLaw$Market", "bid", "[[I", true)
  | 1 => ("TradeHallLaw$Market", "ask", "[[I", true)
  | 2 => ("TradeHallLaw$Market", "bids", "I", false)
  | 3 => ("TradeHallLaw$Market", "asks", "I", false)
  | 4 => ("TradeHallLaw$Market", "trades", "I", false)
  | 5 => ("TradeHallLaw$Market", "worth", "I", false)
  | 6 => ("TradeHallLaw$Market", "done", "I", false)
  | 7 => ("TradeHallLaw$Market", "pays", "I", false)
  | _ => ("TradeHallLaw$Market", "gets", "I", false)
def tyX10 : Nat → FieldType := fun k => match k with
  | 0 => .array (.array .int)
  | 1 => .array (.array .int)
  | 2 => .int
  | 3 => .int
  | 4 => .int
  | 5 => .int
  | 6 => .int
  | 7 => .int
  | _ => .int
abbrev wsX100 : List Cond := u_ws RX10 TX10 9
theorem nmX10 : ∀ a, a < 9 → ∀ b, b < 9 → a ≠ b → (TX10 a).2.1 ≠ (TX10 b).2.1 := by decide +kernel
theorem tyX10_ok : ∀ k, k < 9 → parseFieldDescriptor (TX10 k).2.2.1 = some (tyX10 k) := by decide +kernel
abbrev cX10_init : ByteArray := prog_12_method_1_code
def yX10_init : MethodName := ⟨RX10, "<init>", "(LTradeHallLaw$Hall;II)V"⟩
abbrev cX10_orders : ByteArray := prog_12_method_2_code
def yX10_orders : MethodName := ⟨RX10, "orders", "([[III)V"⟩
abbrev cX10_by : ByteArray := prog_12_method_3_code
def yX10_by : MethodName := ⟨RX10, "by", "(II)LTradeHallLaw$Market;"⟩
abbrev cX10_doneOf : ByteArray := prog_12_method_4_code
def yX10_doneOf : MethodName := ⟨RX10, "doneOf", "(I)I"⟩
def RX11 : String := "TradeHallModel"
def TX11 : u_T := fun k => match k with
  | _ => ("", "", "", false)
def tyX11 : Nat → FieldType := fun k => match k with
  | _ => .int
abbrev wsX110 : List Cond := u_ws RX11 TX11 0
theorem nmX11 : ∀ a, a < 0 → ∀ b, b < 0 → a ≠ b → (TX11 a).2.1 ≠ (TX11 b).2.1 := by decide +kernel
theorem tyX11_ok : ∀ k, k < 0 → parseFieldDescriptor (TX11 k).2.2.1 = some (tyX11 k) := by decide +kernel
def RJ5 : String := "java/lang/AbstractStringBuilder"
def TJ5 : u_T := fun k => match k with
  | _ => ("", "", "", false)
def tyJ5 : Nat → FieldType := fun k => match k with
  | _ => .int
abbrev wsJ50 : List Cond := u_ws RJ5 TJ5 0
theorem nmJ5 : ∀ a, a < 0 → ∀ b, b < 0 → a ≠ b → (TJ5 a).2.1 ≠ (TJ5 b).2.1 := by decide +kernel
theorem tyJ5_ok : ∀ k, k < 0 → parseFieldDescriptor (TJ5 k).2.2.1 = some (tyJ5 k) := by decide +kernel
abbrev cJ5_init_d00df : ByteArray := prog_14_method_2_code
def yJ5_init_d00df : MethodName := ⟨RJ5, "<init>", "(I)V"⟩
abbrev cJ5_length_8abf5 : ByteArray := prog_14_method_6_code
def yJ5_length_8abf5 : MethodName := ⟨RJ5, "length", "()I"⟩
abbrev cJ5_ensureCapacityInternal_d00df : ByteArray := prog_14_method_9_code
def yJ5_ensureCapacityInternal_d00df : MethodName := ⟨RJ5, "ensureCapacityInternal", "(I)V"⟩
abbrev cJ5_newCapacity_0f7a4 : ByteArray := prog_14_method_10_code
def yJ5_newCapacity_0f7a4 : MethodName := ⟨RJ5, "newCapacity", "(I)I"⟩
abbrev cJ5_inflate_da8c8 : ByteArray := prog_14_method_11_code
def yJ5_inflate_da8c8 : MethodName := ⟨RJ5, "inflate", "()V"⟩
abbrev cJ5_charAt_5068e : ByteArray := prog_14_method_14_code
def yJ5_charAt_5068e : MethodName := ⟨RJ5, "charAt", "(I)C"⟩
abbrev cJ5_append_cf1ce : ByteArray := prog_14_method_22_code
def yJ5_append_cf1ce : MethodName := ⟨RJ5, "append", "(Ljava/lang/String;)Ljava/lang/AbstractStringBuilder;"⟩
abbrev cJ5_appendNull_278bc : ByteArray := prog_14_method_26_code
def yJ5_appendNull_278bc : MethodName := ⟨RJ5, "appendNull", "()Ljava/lang/AbstractStringBuilder;"⟩
abbrev cJ5_append_3fe6f : ByteArray := prog_14_method_31_code
def yJ5_append_3fe6f : MethodName := ⟨RJ5, "append", "(C)Ljava/lang/AbstractStringBuilder;"⟩
abbrev cJ5_append_c97b9 : ByteArray := prog_14_method_32_code
def yJ5_append_c97b9 : MethodName := ⟨RJ5, "append", "(I)Ljava/lang/AbstractStringBuilder;"⟩
abbrev cJ5_getValue_6d5f1 : ByteArray := prog_14_method_64_code
def yJ5_getValue_6d5f1 : MethodName := ⟨RJ5, "getValue", "()[B"⟩
abbrev cJ5_isLatin1_aae02 : ByteArray := prog_14_method_68_code
def yJ5_isLatin1_aae02 : MethodName := ⟨RJ5, "isLatin1", "()Z"⟩
abbrev cJ5_inflateIfNeededFor_a7421 : ByteArray := prog_14_method_71_code
def yJ5_inflateIfNeededFor_a7421 : MethodName := ⟨RJ5, "inflateIfNeededFor", "(Ljava/lang/String;)V"⟩
abbrev cJ5_putStringAt_47b60 : ByteArray := prog_14_method_73_code
def yJ5_putStringAt_47b60 : MethodName := ⟨RJ5, "putStringAt", "(ILjava/lang/String;)V"⟩
def RJ6 : String := "java/lang/Integer"
def TJ6 : u_T := fun k => match k with
  | _ => ("", "", "", false)
def tyJ6 : Nat → FieldType := fun k => match k with
  | _ => .int
abbrev wsJ60 : List Cond := u_ws RJ6 TJ6 0
theorem nmJ6 : ∀ a, a < 0 → ∀ b, b < 0 → a ≠ b → (TJ6 a).2.1 ≠ (TJ6 b).2.1 := by decide +kernel
theorem tyJ6_ok : ∀ k, k < 0 → parseFieldDescriptor (TJ6 k).2.2.1 = some (tyJ6 k) := by decide +kernel
abbrev cJ6_getChars_ba4f3 : ByteArray := prog_17_method_12_code
def yJ6_getChars_ba4f3 : MethodName := ⟨RJ6, "getChars", "(II[B)I"⟩
abbrev cJ6_stringSize_0f7a4 : ByteArray := prog_17_method_13_code
def yJ6_stringSize_0f7a4 : MethodName := ⟨RJ6, "stringSize", "(I)I"⟩
def RJ9 : String := "java/lang/Math"
def TJ9 : u_T := fun k => match k with
  | _ => ("", "", "", false)
def tyJ9 : Nat → FieldType := fun k => match k with
  | _ => .int
abbrev wsJ90 : List Cond := u_ws RJ9 TJ9 0
theorem nmJ9 : ∀ a, a < 0 → ∀ b, b < 0 → a ≠ b → (TJ9 a).2.1 ≠ (TJ9 b).2.1 := by decide +kernel
theorem tyJ9_ok : ∀ k, k < 0 → parseFieldDescriptor (TJ9 k).2.2.1 = some (tyJ9 k) := by decide +kernel
abbrev cJ9_max_7cf53 : ByteArray := prog_18_method_65_code
def yJ9_max_7cf53 : MethodName := ⟨RJ9, "max", "(II)I"⟩
abbrev cJ9_min_7cf53 : ByteArray := prog_18_method_69_code
def yJ9_min_7cf53 : MethodName := ⟨RJ9, "min", "(II)I"⟩
def RJ0 : String := "java/lang/String"
def TJ0 : u_T := fun k => match k with
  | 0 => ("java/lang/String", "value", "[B", true)
  | 1 => ("java/lang/String", "coder", "B", true)
  | 2 => ("java/lang/String", "hash", "I", false)
  | _ => ("java/lang/String", "hashIsZero", "Z", false)
def tyJ0 : Nat → FieldType := fun k => match k with
  | 0 => .array .byte
  | 1 => .byte
  | 2 => .int
  | _ => .boolean
abbrev wsJ00 : List Cond := u_ws RJ0 TJ0 4
theorem nmJ0 : ∀ a, a < 4 → ∀ b, b < 4 → a ≠ b → (TJ0 a).2.1 ≠ (TJ0 b).2.1 := by decide +kernel
theorem tyJ0_ok : ∀ k, k < 4 → parseFieldDescriptor (TJ0 k).2.2.1 = some (tyJ0 k) := by decide +kernel
abbrev cJ0_init_81219 : ByteArray := prog_19_method_53_code
def yJ0_init_81219 : MethodName := ⟨RJ0, "<init>", "(Ljava/lang/StringBuilder;)V"⟩
abbrev cJ0_length_8abf5 : ByteArray := prog_19_method_54_code
def yJ0_length_8abf5 : MethodName := ⟨RJ0, "length", "()I"⟩
abbrev cJ0_charAt_5068e : ByteArray := prog_19_method_56_code
def yJ0_charAt_5068e : MethodName := ⟨RJ0, "charAt", "(I)C"⟩
abbrev cJ0_getBytes_840e7 : ByteArray := prog_19_method_147_code
def yJ0_getBytes_840e7 : MethodName := ⟨RJ0, "getBytes", "([BIB)V"⟩
abbrev cJ0_init_db425 : ByteArray := prog_19_method_150_code
def yJ0_init_db425 : MethodName := ⟨RJ0, "<init>", "(Ljava/lang/AbstractStringBuilder;Ljava/lang/Void;)V"⟩
abbrev cJ0_coder_7d493 : ByteArray := prog_19_method_152_code
def yJ0_coder_7d493 : MethodName := ⟨RJ0, "coder", "()B"⟩
abbrev cJ0_isLatin1_aae02 : ByteArray := prog_19_method_154_code
def yJ0_isLatin1_aae02 : MethodName := ⟨RJ0, "isLatin1", "()Z"⟩
abbrev cJ0_checkIndex_df160 : ByteArray := prog_19_method_155_code
def yJ0_checkIndex_df160 : MethodName := ⟨RJ0, "checkIndex", "(II)V"⟩
abbrev cJ0_checkBoundsOffCount_cabcc : ByteArray := prog_19_method_157_code
def yJ0_checkBoundsOffCount_cabcc : MethodName := ⟨RJ0, "checkBoundsOffCount", "(III)I"⟩
abbrev cJ0_checkBoundsBeginEnd_23922 : ByteArray := prog_19_method_158_code
def yJ0_checkBoundsBeginEnd_23922 : MethodName := ⟨RJ0, "checkBoundsBeginEnd", "(III)V"⟩
def RJ4 : String := "java/lang/StringBuilder"
def TJ4 : u_T := fun k => match k with
  | 0 => ("java/lang/AbstractStringBuilder", "value", "[B", false)
  | 1 => ("java/lang/AbstractStringBuilder", "coder", "B", false)
  | 2 => ("java/lang/AbstractStringBuilder", "maybeLatin1", "Z", false)
  | _ => ("java/lang/AbstractStringBuilder", "count", "I", false)
def tyJ4 : Nat → FieldType := fun k => match k with
  | 0 => .array .byte
  | 1 => .byte
  | 2 => .boolean
  | _ => .int
abbrev wsJ40 : List Cond := u_ws RJ4 TJ4 4
theorem nmJ4 : ∀ a, a < 4 → ∀ b, b < 4 → a ≠ b → (TJ4 a).2.1 ≠ (TJ4 b).2.1 := by decide +kernel
theorem tyJ4_ok : ∀ k, k < 4 → parseFieldDescriptor (TJ4 k).2.2.1 = some (tyJ4 k) := by decide +kernel
abbrev cJ4_init_d00df : ByteArray := prog_20_method_2_code
def yJ4_init_d00df : MethodName := ⟨RJ4, "<init>", "(I)V"⟩
abbrev cJ4_append_15ec4 : ByteArray := prog_20_method_7_code
def yJ4_append_15ec4 : MethodName := ⟨RJ4, "append", "(Ljava/lang/String;)Ljava/lang/StringBuilder;"⟩
abbrev cJ4_append_cf468 : ByteArray := prog_20_method_14_code
def yJ4_append_cf468 : MethodName := ⟨RJ4, "append", "(C)Ljava/lang/StringBuilder;"⟩
abbrev cJ4_append_bf812 : ByteArray := prog_20_method_15_code
def yJ4_append_bf812 : MethodName := ⟨RJ4, "append", "(I)Ljava/lang/StringBuilder;"⟩
abbrev cJ4_toString_0e30d : ByteArray := prog_20_method_42_code
def yJ4_toString_0e30d : MethodName := ⟨RJ4, "toString", "()Ljava/lang/String;"⟩
abbrev cJ4_charAt_5068e : ByteArray := prog_20_method_88_code
def yJ4_charAt_5068e : MethodName := ⟨RJ4, "charAt", "(I)C"⟩
abbrev cJ4_length_8abf5 : ByteArray := prog_20_method_93_code
def yJ4_length_8abf5 : MethodName := ⟨RJ4, "length", "()I"⟩
def RJ1 : String := "java/lang/StringLatin1"
def TJ1 : u_T := fun k => match k with
  | _ => ("", "", "", false)
def tyJ1 : Nat → FieldType := fun k => match k with
  | _ => .int
abbrev wsJ10 : List Cond := u_ws RJ1 TJ1 0
theorem nmJ1 : ∀ a, a < 0 → ∀ b, b < 0 → a ≠ b → (TJ1 a).2.1 ≠ (TJ1 b).2.1 := by decide +kernel
theorem tyJ1_ok : ∀ k, k < 0 → parseFieldDescriptor (TJ1 k).2.2.1 = some (tyJ1 k) := by decide +kernel
abbrev cJ1_charAt_3b067 : ByteArray := prog_21_method_2_code
def yJ1_charAt_3b067 : MethodName := ⟨RJ1, "charAt", "([BI)C"⟩
abbrev cJ1_canEncode_fc78d : ByteArray := prog_21_method_3_code
def yJ1_canEncode_fc78d : MethodName := ⟨RJ1, "canEncode", "(C)Z"⟩
abbrev cJ1_inflate_0e8fd : ByteArray := prog_21_method_50_code
def yJ1_inflate_0e8fd : MethodName := ⟨RJ1, "inflate", "([BI[BII)V"⟩
def RJ2 : String := "java/lang/StringUTF16"
def TJ2 : u_T := fun k => match k with
  | _ => ("", "", "", false)
def tyJ2 : Nat → FieldType := fun k => match k with
  | _ => .int
abbrev wsJ20 : List Cond := u_ws RJ2 TJ2 0
theorem nmJ2 : ∀ a, a < 0 → ∀ b, b < 0 → a ≠ b → (TJ2 a).2.1 ≠ (TJ2 b).2.1 := by decide +kernel
theorem tyJ2_ok : ∀ k, k < 0 → parseFieldDescriptor (TJ2 k).2.2.1 = some (tyJ2 k) := by decide +kernel
abbrev cJ2_newBytesFor_77867 : ByteArray := prog_22_method_2_code
def yJ2_newBytesFor_77867 : MethodName := ⟨RJ2, "newBytesFor", "(I)[B"⟩
abbrev cJ2_newBytesLength_0f7a4 : ByteArray := prog_22_method_3_code
def yJ2_newBytesLength_0f7a4 : MethodName := ⟨RJ2, "newBytesLength", "(I)I"⟩
abbrev cJ2_putChar_b72d1 : ByteArray := prog_22_method_4_code
def yJ2_putChar_b72d1 : MethodName := ⟨RJ2, "putChar", "([BII)V"⟩
abbrev cJ2_getChar_3b067 : ByteArray := prog_22_method_5_code
def yJ2_getChar_3b067 : MethodName := ⟨RJ2, "getChar", "([BI)C"⟩
abbrev cJ2_length_9d52b : ByteArray := prog_22_method_6_code
def yJ2_length_9d52b : MethodName := ⟨RJ2, "length", "([B)I"⟩
abbrev cJ2_coderFromArrayLen_85cad : ByteArray := prog_22_method_15_code
def yJ2_coderFromArrayLen_85cad : MethodName := ⟨RJ2, "coderFromArrayLen", "([BI)B"⟩
abbrev cJ2_compress_39247 : ByteArray := prog_22_method_17_code
def yJ2_compress_39247 : MethodName := ⟨RJ2, "compress", "([BII)[B"⟩
abbrev cJ2_compress_5af95 : ByteArray := prog_22_method_22_code
def yJ2_compress_5af95 : MethodName := ⟨RJ2, "compress", "([BI[BII)I"⟩
abbrev cJ2_putCharSB_b72d1 : ByteArray := prog_22_method_71_code
def yJ2_putCharSB_b72d1 : MethodName := ⟨RJ2, "putCharSB", "([BII)V"⟩
abbrev cJ2_getChars_46870 : ByteArray := prog_22_method_77_code
def yJ2_getChars_46870 : MethodName := ⟨RJ2, "getChars", "(III[B)I"⟩
abbrev cJ2_putCharsAt_cd4e5 : ByteArray := prog_22_method_81_code
def yJ2_putCharsAt_cd4e5 : MethodName := ⟨RJ2, "putCharsAt", "([BICCCC)I"⟩
abbrev cJ2_charAt_3b067 : ByteArray := prog_22_method_83_code
def yJ2_charAt_3b067 : MethodName := ⟨RJ2, "charAt", "([BI)C"⟩
abbrev cJ2_inflate_0e8fd : ByteArray := prog_22_method_86_code
def yJ2_inflate_0e8fd : MethodName := ⟨RJ2, "inflate", "([BI[BII)V"⟩
abbrev cJ2_getChars_ba4f3 : ByteArray := prog_22_method_89_code
def yJ2_getChars_ba4f3 : MethodName := ⟨RJ2, "getChars", "(II[B)I"⟩
abbrev cJ2_checkIndex_2214a : ByteArray := prog_22_method_91_code
def yJ2_checkIndex_2214a : MethodName := ⟨RJ2, "checkIndex", "(I[B)V"⟩
abbrev cJ2_checkBoundsBeginEnd_d044e : ByteArray := prog_22_method_93_code
def yJ2_checkBoundsBeginEnd_d044e : MethodName := ⟨RJ2, "checkBoundsBeginEnd", "(II[B)V"⟩
abbrev cJ2_checkBoundsOffCount_d044e : ByteArray := prog_22_method_94_code
def yJ2_checkBoundsOffCount_d044e : MethodName := ⟨RJ2, "checkBoundsOffCount", "(II[B)V"⟩
def RJ10 : String := "java/lang/System"
def TJ10 : u_T := fun k => match k with
  | _ => ("", "", "", false)
def tyJ10 : Nat → FieldType := fun k => match k with
  | _ => .int
abbrev wsJ100 : List Cond := u_ws RJ10 TJ10 0
theorem nmJ10 : ∀ a, a < 0 → ∀ b, b < 0 → a ≠ b → (TJ10 a).2.1 ≠ (TJ10 b).2.1 := by decide +kernel
theorem tyJ10_ok : ∀ k, k < 0 → parseFieldDescriptor (TJ10 k).2.2.1 = some (tyJ10 k) := by decide +kernel
def RJ7 : String := "java/util/Arrays"
def TJ7 : u_T := fun k => match k with
  | _ => ("", "", "", false)
def tyJ7 : Nat → FieldType := fun k => match k with
  | _ => .int
abbrev wsJ70 : List Cond := u_ws RJ7 TJ7 0
theorem nmJ7 : ∀ a, a < 0 → ∀ b, b < 0 → a ≠ b → (TJ7 a).2.1 ≠ (TJ7 b).2.1 := by decide +kernel
theorem tyJ7_ok : ∀ k, k < 0 → parseFieldDescriptor (TJ7 k).2.2.1 = some (tyJ7 k) := by decide +kernel
abbrev cJ7_copyOf_9075b : ByteArray := prog_24_method_121_code
def yJ7_copyOf_9075b : MethodName := ⟨RJ7, "copyOf", "([BI)[B"⟩
abbrev cJ7_checkLength_df160 : ByteArray := prog_24_method_131_code
def yJ7_checkLength_df160 : MethodName := ⟨RJ7, "checkLength", "(II)V"⟩
abbrev cJ7_copyOfRange_39247 : ByteArray := prog_24_method_132_code
def yJ7_copyOfRange_39247 : MethodName := ⟨RJ7, "copyOfRange", "([BII)[B"⟩
abbrev cJ7_copyOfRangeByte_39247 : ByteArray := prog_24_method_133_code
def yJ7_copyOfRangeByte_39247 : MethodName := ⟨RJ7, "copyOfRangeByte", "([BII)[B"⟩
def RJ8 : String := "jdk/internal/util/ArraysSupport"
def TJ8 : u_T := fun k => match k with
  | _ => ("", "", "", false)
def tyJ8 : Nat → FieldType := fun k => match k with
  | _ => .int
abbrev wsJ80 : List Cond := u_ws RJ8 TJ8 0
theorem nmJ8 : ∀ a, a < 0 → ∀ b, b < 0 → a ≠ b → (TJ8 a).2.1 ≠ (TJ8 b).2.1 := by decide +kernel
theorem tyJ8_ok : ∀ k, k < 0 → parseFieldDescriptor (TJ8 k).2.2.1 = some (tyJ8 k) := by decide +kernel
abbrev cJ8_newLength_cabcc : ByteArray := prog_25_method_27_code
def yJ8_newLength_cabcc : MethodName := ⟨RJ8, "newLength", "(III)I"⟩
abbrev cJ8_hugeLength_7cf53 : ByteArray := prog_25_method_28_code
def yJ8_hugeLength_7cf53 : MethodName := ⟨RJ8, "hugeLength", "(II)I"⟩
def RJ3 : String := "jdk/internal/util/Preconditions"
def TJ3 : u_T := fun k => match k with
  | _ => ("", "", "", false)
def tyJ3 : Nat → FieldType := fun k => match k with
  | _ => .int
abbrev wsJ30 : List Cond := u_ws RJ3 TJ3 0
theorem nmJ3 : ∀ a, a < 0 → ∀ b, b < 0 → a ≠ b → (TJ3 a).2.1 ≠ (TJ3 b).2.1 := by decide +kernel
theorem tyJ3_ok : ∀ k, k < 0 → parseFieldDescriptor (TJ3 k).2.2.1 = some (tyJ3 k) := by decide +kernel
abbrev cJ3_checkIndex_8e157 : ByteArray := prog_26_method_11_code
def yJ3_checkIndex_8e157 : MethodName := ⟨RJ3, "checkIndex", "(IILjava/util/function/BiFunction;)I"⟩
abbrev cJ3_checkFromToIndex_8c36e : ByteArray := prog_26_method_12_code
def yJ3_checkFromToIndex_8c36e : MethodName := ⟨RJ3, "checkFromToIndex", "(IIILjava/util/function/BiFunction;)I"⟩
abbrev cJ3_checkFromIndexSize_8c36e : ByteArray := prog_26_method_13_code
def yJ3_checkFromIndexSize_8c36e : MethodName := ⟨RJ3, "checkFromIndexSize", "(IIILjava/util/function/BiFunction;)I"⟩
def RL : String := "TradeHallLaw"
abbrev cL_cell : ByteArray := method_2_code
def yL_cell : MethodName := ⟨RL, "cell", "([II)I"⟩
abbrev cL_says : ByteArray := method_3_code
def yL_says : MethodName := ⟨RL, "says", "(LTradeHall;Ljava/lang/CharSequence;)Z"⟩
abbrev cL_deal : ByteArray := method_4_code
def yL_deal : MethodName := ⟨RL, "deal", "(LTradeHallLaw$Hall;III)I"⟩
abbrev cL_takings : ByteArray := method_6_code
def yL_takings : MethodName := ⟨RL, "takings", "(LTradeHallLaw$Hall;II)I"⟩
abbrev cL_same : ByteArray := method_7_code
def yL_same : MethodName := ⟨RL, "same", "(LTradeHall;LTradeHallLaw$Hall;)Z"⟩
abbrev cL_closes : ByteArray := method_8_code
def yL_closes : MethodName := ⟨RL, "closes", "(LTradeHallLaw$Hall;I)I"⟩
abbrev cL_goesOn : ByteArray := method_9_code
def yL_goesOn : MethodName := ⟨RL, "goesOn", "(ZII)Z"⟩
abbrev cL_law : ByteArray := code
def yL_law : MethodName := ⟨RL, "law", "([I)Z"⟩
abbrev vwCl : List vw_C := [(RX0, TX0, 11), (RX1, TX1, 13), (RX2, TX2, 3), (RX3, TX3, 2), (RX4, TX4, 3), (RX5, TX5, 3), (RX6, TX6, 2), (RX7, TX7, 7), (RX8, TX8, 11), (RX9, TX9, 12), (RX10, TX10, 9), (RJ0, TJ0, 4), (RJ4, TJ4, 4)]
