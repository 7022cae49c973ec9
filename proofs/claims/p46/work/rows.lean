section
-- ===== PART A: goes FIRST, ahead of the names: the tables' words, and 'selects' of the private methods out of them =====
/-- a private method of a class that the tables say can be made, by its rows of tables_1 -/
def lw_okq (q : MethodName × Nat) : Prop := (q.1.cls ≠ "java/lang/invoke/MethodHandle" ∧ q.1.cls ≠ "java/lang/invoke/VarHandle") ∧ Cond.instantiable q.1.cls q.2 ∈ tables_1 ∧ Cond.privateMethod q.1 ∈ tables_1 ∧ Cond.instanceMethod q.1 ∈ tables_1
theorem lw_p0 : lw_okq (⟨"TradeHall$Tape", "skipBlanks", "()V"⟩, 7) := ⟨⟨by decide +kernel, by decide +kernel⟩, List.mem_of_getElem? (i := 94) (by decide +kernel), List.mem_of_getElem? (i := 295) (by decide +kernel), List.mem_of_getElem? (i := 296) (by decide +kernel)⟩
theorem lw_p1 : lw_okq (⟨"TradeHall$Tape", "byteAt", "(I)I"⟩, 7) := ⟨⟨by decide +kernel, by decide +kernel⟩, List.mem_of_getElem? (i := 94) (by decide +kernel), List.mem_of_getElem? (i := 299) (by decide +kernel), List.mem_of_getElem? (i := 300) (by decide +kernel)⟩
theorem lw_p2 : lw_okq (⟨"TradeHall$Tape", "readPart", "()V"⟩, 7) := ⟨⟨by decide +kernel, by decide +kernel⟩, List.mem_of_getElem? (i := 94) (by decide +kernel), List.mem_of_getElem? (i := 303) (by decide +kernel), List.mem_of_getElem? (i := 304) (by decide +kernel)⟩
theorem lw_p3 : lw_okq (⟨"TradeHall$Tape", "skipWord", "()V"⟩, 7) := ⟨⟨by decide +kernel, by decide +kernel⟩, List.mem_of_getElem? (i := 94) (by decide +kernel), List.mem_of_getElem? (i := 307) (by decide +kernel), List.mem_of_getElem? (i := 308) (by decide +kernel)⟩
theorem lw_p4 : lw_okq (⟨"TradeHall$Tape", "isWord", "(ILjava/lang/String;)Z"⟩, 7) := ⟨⟨by decide +kernel, by decide +kernel⟩, List.mem_of_getElem? (i := 94) (by decide +kernel), List.mem_of_getElem? (i := 315) (by decide +kernel), List.mem_of_getElem? (i := 316) (by decide +kernel)⟩
theorem lw_p5 : lw_okq (⟨"TradeHall$Tape", "readTrader", "(IZ)V"⟩, 7) := ⟨⟨by decide +kernel, by decide +kernel⟩, List.mem_of_getElem? (i := 94) (by decide +kernel), List.mem_of_getElem? (i := 367) (by decide +kernel), List.mem_of_getElem? (i := 368) (by decide +kernel)⟩
theorem lw_p6 : lw_okq (⟨"TradeHall$Tape", "note", "(II)V"⟩, 7) := ⟨⟨by decide +kernel, by decide +kernel⟩, List.mem_of_getElem? (i := 94) (by decide +kernel), List.mem_of_getElem? (i := 371) (by decide +kernel), List.mem_of_getElem? (i := 372) (by decide +kernel)⟩
theorem lw_p7 : lw_okq (⟨"TradeHall$Tape", "readNumber", "(I)I"⟩, 7) := ⟨⟨by decide +kernel, by decide +kernel⟩, List.mem_of_getElem? (i := 94) (by decide +kernel), List.mem_of_getElem? (i := 375) (by decide +kernel), List.mem_of_getElem? (i := 376) (by decide +kernel)⟩
theorem lw_p8 : lw_okq (⟨"TradeHall$Tape", "readFee", "(I)V"⟩, 7) := ⟨⟨by decide +kernel, by decide +kernel⟩, List.mem_of_getElem? (i := 94) (by decide +kernel), List.mem_of_getElem? (i := 426) (by decide +kernel), List.mem_of_getElem? (i := 427) (by decide +kernel)⟩
theorem lw_p9 : lw_okq (⟨"TradeHall$Tape", "readLaw", "(I)V"⟩, 7) := ⟨⟨by decide +kernel, by decide +kernel⟩, List.mem_of_getElem? (i := 94) (by decide +kernel), List.mem_of_getElem? (i := 431) (by decide +kernel), List.mem_of_getElem? (i := 432) (by decide +kernel)⟩
theorem lw_p10 : lw_okq (⟨"TradeHall$History", "at", "(I)LTradeHall$Hall;"⟩, 3) := ⟨⟨by decide +kernel, by decide +kernel⟩, List.mem_of_getElem? (i := 126) (by decide +kernel), List.mem_of_getElem? (i := 465) (by decide +kernel), List.mem_of_getElem? (i := 466) (by decide +kernel)⟩
theorem lw_p11 : lw_okq (⟨"TradeHall", "settleGrade", "(I)V"⟩, 11) := ⟨⟨by decide +kernel, by decide +kernel⟩, List.mem_of_getElem? (i := 24) (by decide +kernel), List.mem_of_getElem? (i := 516) (by decide +kernel), List.mem_of_getElem? (i := 517) (by decide +kernel)⟩
theorem lw_p12 : lw_okq (⟨"TradeHall$Book", "priceForAll", "()I"⟩, 11) := ⟨⟨by decide +kernel, by decide +kernel⟩, List.mem_of_getElem? (i := 176) (by decide +kernel), List.mem_of_getElem? (i := 558) (by decide +kernel), List.mem_of_getElem? (i := 559) (by decide +kernel)⟩
theorem lw_p13 : lw_okq (⟨"TradeHall$Book", "slotAt", "(ZI)I"⟩, 11) := ⟨⟨by decide +kernel, by decide +kernel⟩, List.mem_of_getElem? (i := 176) (by decide +kernel), List.mem_of_getElem? (i := 579) (by decide +kernel), List.mem_of_getElem? (i := 580) (by decide +kernel)⟩
theorem lw_p14 : lw_okq (⟨"TradeHall$Book", "amountsDone", "(ZI)I"⟩, 11) := ⟨⟨by decide +kernel, by decide +kernel⟩, List.mem_of_getElem? (i := 176) (by decide +kernel), List.mem_of_getElem? (i := 588) (by decide +kernel), List.mem_of_getElem? (i := 589) (by decide +kernel)⟩
theorem lw_p15 : lw_okq (⟨"TradeHall$Book", "amount", "(ZI)I"⟩, 11) := ⟨⟨by decide +kernel, by decide +kernel⟩, List.mem_of_getElem? (i := 176) (by decide +kernel), List.mem_of_getElem? (i := 592) (by decide +kernel), List.mem_of_getElem? (i := 593) (by decide +kernel)⟩
def lw_privs_1 : List (MethodName × Nat) := [(⟨"TradeHall$Tape", "skipBlanks", "()V"⟩, 7), (⟨"TradeHall$Tape", "byteAt", "(I)I"⟩, 7), (⟨"TradeHall$Tape", "readPart", "()V"⟩, 7), (⟨"TradeHall$Tape", "skipWord", "()V"⟩, 7), (⟨"TradeHall$Tape", "isWord", "(ILjava/lang/String;)Z"⟩, 7), (⟨"TradeHall$Tape", "readTrader", "(IZ)V"⟩, 7), (⟨"TradeHall$Tape", "note", "(II)V"⟩, 7), (⟨"TradeHall$Tape", "readNumber", "(I)I"⟩, 7), (⟨"TradeHall$Tape", "readFee", "(I)V"⟩, 7), (⟨"TradeHall$Tape", "readLaw", "(I)V"⟩, 7), (⟨"TradeHall$History", "at", "(I)LTradeHall$Hall;"⟩, 3), (⟨"TradeHall", "settleGrade", "(I)V"⟩, 11), (⟨"TradeHall$Book", "priceForAll", "()I"⟩, 11), (⟨"TradeHall$Book", "slotAt", "(ZI)I"⟩, 11), (⟨"TradeHall$Book", "amountsDone", "(ZI)I"⟩, 11), (⟨"TradeHall$Book", "amount", "(ZI)I"⟩, 11)]
theorem lw_r1 : ∀ q ∈ lw_privs_1, lw_okq q := List.forall_mem_cons.mpr ⟨lw_p0, List.forall_mem_cons.mpr ⟨lw_p1, List.forall_mem_cons.mpr ⟨lw_p2, List.forall_mem_cons.mpr ⟨lw_p3, List.forall_mem_cons.mpr ⟨lw_p4, List.forall_mem_cons.mpr ⟨lw_p5, List.forall_mem_cons.mpr ⟨lw_p6, List.forall_mem_cons.mpr ⟨lw_p7, List.forall_mem_cons.mpr ⟨lw_p8, List.forall_mem_cons.mpr ⟨lw_p9, List.forall_mem_cons.mpr ⟨lw_p10, List.forall_mem_cons.mpr ⟨lw_p11, List.forall_mem_cons.mpr ⟨lw_p12, List.forall_mem_cons.mpr ⟨lw_p13, List.forall_mem_cons.mpr ⟨lw_p14, List.forall_mem_cons.mpr ⟨lw_p15, fun _ h => absurd h List.not_mem_nil⟩⟩⟩⟩⟩⟩⟩⟩⟩⟩⟩⟩⟩⟩⟩⟩
theorem lw_p16 : lw_okq (⟨"TradeHall$Shelves", "at", "(I)LTradeHall$Hall;"⟩, 2) := ⟨⟨by decide +kernel, by decide +kernel⟩, List.mem_of_getElem? (i := 146) (by decide +kernel), List.mem_of_getElem? (i := 633) (by decide +kernel), List.mem_of_getElem? (i := 634) (by decide +kernel)⟩
theorem lw_p17 : lw_okq (⟨"TradeHall", "gradesWithTrades", "()I"⟩, 11) := ⟨⟨by decide +kernel, by decide +kernel⟩, List.mem_of_getElem? (i := 24) (by decide +kernel), List.mem_of_getElem? (i := 660) (by decide +kernel), List.mem_of_getElem? (i := 661) (by decide +kernel)⟩
theorem lw_p18 : lw_okq (⟨"TradeHall", "worthOfAll", "()I"⟩, 11) := ⟨⟨by decide +kernel, by decide +kernel⟩, List.mem_of_getElem? (i := 24) (by decide +kernel), List.mem_of_getElem? (i := 664) (by decide +kernel), List.mem_of_getElem? (i := 665) (by decide +kernel)⟩
theorem lw_p19 : lw_okq (⟨"TradeHall", "worthOf", "(II)I"⟩, 11) := ⟨⟨by decide +kernel, by decide +kernel⟩, List.mem_of_getElem? (i := 24) (by decide +kernel), List.mem_of_getElem? (i := 668) (by decide +kernel), List.mem_of_getElem? (i := 669) (by decide +kernel)⟩
theorem lw_p20 : lw_okq (⟨"TradeHall$Letters", "beginPart", "(Ljava/lang/String;)V"⟩, 2) := ⟨⟨by decide +kernel, by decide +kernel⟩, List.mem_of_getElem? (i := 162) (by decide +kernel), List.mem_of_getElem? (i := 1069) (by decide +kernel), List.mem_of_getElem? (i := 1070) (by decide +kernel)⟩
theorem lw_p21 : lw_okq (⟨"TradeHall$Letters", "put", "(I)V"⟩, 2) := ⟨⟨by decide +kernel, by decide +kernel⟩, List.mem_of_getElem? (i := 162) (by decide +kernel), List.mem_of_getElem? (i := 1073) (by decide +kernel), List.mem_of_getElem? (i := 1074) (by decide +kernel)⟩
theorem lw_p22 : lw_okq (⟨"TradeHall$Letters", "putWord", "(Ljava/lang/String;)V"⟩, 2) := ⟨⟨by decide +kernel, by decide +kernel⟩, List.mem_of_getElem? (i := 162) (by decide +kernel), List.mem_of_getElem? (i := 1077) (by decide +kernel), List.mem_of_getElem? (i := 1078) (by decide +kernel)⟩
theorem lw_p23 : lw_okq (⟨"TradeHall$Letters", "putNumber", "(I)V"⟩, 2) := ⟨⟨by decide +kernel, by decide +kernel⟩, List.mem_of_getElem? (i := 162) (by decide +kernel), List.mem_of_getElem? (i := 1084) (by decide +kernel), List.mem_of_getElem? (i := 1085) (by decide +kernel)⟩
def lw_privs_2 : List (MethodName × Nat) := [(⟨"TradeHall$Shelves", "at", "(I)LTradeHall$Hall;"⟩, 2), (⟨"TradeHall", "gradesWithTrades", "()I"⟩, 11), (⟨"TradeHall", "worthOfAll", "()I"⟩, 11), (⟨"TradeHall", "worthOf", "(II)I"⟩, 11), (⟨"TradeHall$Letters", "beginPart", "(Ljava/lang/String;)V"⟩, 2), (⟨"TradeHall$Letters", "put", "(I)V"⟩, 2), (⟨"TradeHall$Letters", "putWord", "(Ljava/lang/String;)V"⟩, 2), (⟨"TradeHall$Letters", "putNumber", "(I)V"⟩, 2)]
theorem lw_r2 : ∀ q ∈ lw_privs_2, lw_okq q := List.forall_mem_cons.mpr ⟨lw_p16, List.forall_mem_cons.mpr ⟨lw_p17, List.forall_mem_cons.mpr ⟨lw_p18, List.forall_mem_cons.mpr ⟨lw_p19, List.forall_mem_cons.mpr ⟨lw_p20, List.forall_mem_cons.mpr ⟨lw_p21, List.forall_mem_cons.mpr ⟨lw_p22, List.forall_mem_cons.mpr ⟨lw_p23, fun _ h => absurd h List.not_mem_nil⟩⟩⟩⟩⟩⟩⟩⟩
def lw_privs : List (MethodName × Nat) := lw_privs_1 ++ (lw_privs_2)
def lw_tbl : List Cond := k2_sels lw_privs ++ tables_1
theorem lw_privs_ok : ∀ q ∈ lw_privs, lw_okq q := by
  show ∀ q ∈ lw_privs_1 ++ (lw_privs_2), lw_okq q
  exact List.forall_mem_append.mpr ⟨lw_r1, lw_r2⟩
def RX0 : String := "TradeHall$Book"
def TX0 : u_T := fun k => match k with
  | 0 => ("TradeHall$Book", "bids", "[I", true)
  | 1 => ("TradeHall$Book", "asks", "[I", true)
  | 2 => ("TradeHall$Book", "bidCount", "I", false)
  | 3 => ("TradeHall$Book", "askCount", "I", false)
  | 4 => ("TradeHall$Book", "fee", "I", false)
  | 5 => ("TradeHall$Book", "law", "I", false)
  | 6 => ("TradeHall$Book", "trades", "I", false)
  | 7 => ("TradeHall$Book", "worth", "I", false)
  | 8 => ("TradeHall$Book", "done", "I", false)
  | 9 => ("TradeHall$Book", "buyerPays", "I", false)
  | _ => ("TradeHall$Book", "sellerHas", "I", false)
def tyX0 : Nat → FieldType := fun k => match k with
  | 0 => .array .int
  | 1 => .array .int
  | 2 => .int
  | 3 => .int
  | 4 => .int
  | 5 => .int
  | 6 => .int
  | 7 => .int
  | 8 => .int
  | 9 => .int
  | _ => .int
abbrev wsX00 : List Cond := u_ws RX0 TX0 11
theorem nmX0 : ∀ a, a < 11 → ∀ b, b < 11 → a ≠ b → (TX0 a).2.1 ≠ (TX0 b).2.1 := by decide +kernel
theorem tyX0_ok : ∀ k, k < 11 → parseFieldDescriptor (TX0 k).2.2.1 = some (tyX0 k) := by decide +kernel
abbrev cX0_init : ByteArray := prog_2_method_1_code
def yX0_init : MethodName := ⟨RX0, "<init>", "()V"⟩
abbrev cX0_take : ByteArray := prog_2_method_2_code
def yX0_take : MethodName := ⟨RX0, "take", "(LTradeHall$Hall;II)V"⟩
abbrev cX0_takeTrader : ByteArray := prog_2_method_3_code
def yX0_takeTrader : MethodName := ⟨RX0, "takeTrader", "(LTradeHall$Hall;II)V"⟩
abbrev cX0_insert : ByteArray := prog_2_method_5_code
def yX0_insert : MethodName := ⟨RX0, "insert", "([III)I"⟩
abbrev cX0_traderAt : ByteArray := prog_2_method_6_code
def yX0_traderAt : MethodName := ⟨RX0, "traderAt", "(ZI)I"⟩
abbrev cX0_slotAt : ByteArray := prog_2_method_8_code
def yX0_slotAt : MethodName := ⟨RX0, "slotAt", "(ZI)I"⟩
abbrev cX0_bid : ByteArray := prog_2_method_9_code
def yX0_bid : MethodName := ⟨RX0, "bid", "(I)I"⟩
abbrev cX0_ask : ByteArray := prog_2_method_10_code
def yX0_ask : MethodName := ⟨RX0, "ask", "(I)I"⟩
abbrev cX0_amount : ByteArray := prog_2_method_11_code
def yX0_amount : MethodName := ⟨RX0, "amount", "(ZI)I"⟩
abbrev cX0_lastBid : ByteArray := prog_2_method_12_code
def yX0_lastBid : MethodName := ⟨RX0, "lastBid", "()I"⟩
abbrev cX0_lastAsk : ByteArray := prog_2_method_13_code
def yX0_lastAsk : MethodName := ⟨RX0, "lastAsk", "()I"⟩
abbrev cX0_settle : ByteArray := prog_2_method_14_code
def yX0_settle : MethodName := ⟨RX0, "settle", "(II)V"⟩
abbrev cX0_priceForAll : ByteArray := prog_2_method_15_code
def yX0_priceForAll : MethodName := ⟨RX0, "priceForAll", "()I"⟩
abbrev cX0_worthWithout : ByteArray := prog_2_method_19_code
def yX0_worthWithout : MethodName := ⟨RX0, "worthWithout", "(I)I"⟩
abbrev cX0_doneOf : ByteArray := prog_2_method_20_code
def yX0_doneOf : MethodName := ⟨RX0, "doneOf", "(ZI)I"⟩
abbrev cX0_moneyOf : ByteArray := prog_2_method_21_code
def yX0_moneyOf : MethodName := ⟨RX0, "moneyOf", "(ZI)I"⟩
abbrev cX0_amountsDone : ByteArray := prog_2_method_22_code
def yX0_amountsDone : MethodName := ⟨RX0, "amountsDone", "(ZI)I"⟩
abbrev cX0_takings : ByteArray := prog_2_method_23_code
def yX0_takings : MethodName := ⟨RX0, "takings", "()I"⟩
def RX1 : String := "TradeHall$Hall"
def TX1 : u_T := fun k => match k with
  | 0 => ("TradeHall$Hall", "sells", "[Z", true)
  | 1 => ("TradeHall$Hall", "grades", "[I", true)
  | 2 => ("TradeHall$Hall", "units", "[I", true)
  | 3 => ("TradeHall$Hall", "says", "[I", true)
  | 4 => ("TradeHall$Hall", "purses", "[I", true)
  | 5 => ("TradeHall$Hall", "traded", "[I", true)
  | 6 => ("TradeHall$Hall", "size", "I", false)
  | 7 => ("TradeHall$Hall", "fee", "I", false)
  | 8 => ("TradeHall$Hall", "law", "I", false)
  | 9 => ("TradeHall$Hall", "chest", "I", false)
  | 10 => ("TradeHall$Hall", "tradesClosed", "I", false)
  | 11 => ("TradeHall$Hall", "closes", "I", false)
  | _ => ("TradeHall$Hall", "mostTaken", "I", false)
def tyX1 : Nat → FieldType := fun k => match k with
  | 0 => .array .boolean
  | 1 => .array .int
  | 2 => .array .int
  | 3 => .array .int
  | 4 => .array .int
  | 5 => .array .int
  | 6 => .int
  | 7 => .int
  | 8 => .int
  | 9 => .int
  | 10 => .int
  | 11 => .int
  | _ => .int
abbrev wsX10 : List Cond := u_ws RX1 TX1 13
theorem nmX1 : ∀ a, a < 13 → ∀ b, b < 13 → a ≠ b → (TX1 a).2.1 ≠ (TX1 b).2.1 := by decide +kernel
theorem tyX1_ok : ∀ k, k < 13 → parseFieldDescriptor (TX1 k).2.2.1 = some (tyX1 k) := by decide +kernel
abbrev cX1_init : ByteArray := prog_3_method_1_code
def yX1_init : MethodName := ⟨RX1, "<init>", "()V"⟩
abbrev cX1_clear : ByteArray := prog_3_method_2_code
def yX1_clear : MethodName := ⟨RX1, "clear", "()V"⟩
abbrev cX1_copyFrom : ByteArray := prog_3_method_3_code
def yX1_copyFrom : MethodName := ⟨RX1, "copyFrom", "(LTradeHall$Hall;)V"⟩
abbrev cX1_has : ByteArray := prog_3_method_4_code
def yX1_has : MethodName := ⟨RX1, "has", "(I)Z"⟩
abbrev cX1_hasUnit : ByteArray := prog_3_method_5_code
def yX1_hasUnit : MethodName := ⟨RX1, "hasUnit", "(II)Z"⟩
abbrev cX1_isSeller : ByteArray := prog_3_method_6_code
def yX1_isSeller : MethodName := ⟨RX1, "isSeller", "(I)Z"⟩
abbrev cX1_gradeOf : ByteArray := prog_3_method_7_code
def yX1_gradeOf : MethodName := ⟨RX1, "gradeOf", "(I)I"⟩
abbrev cX1_unitsOf : ByteArray := prog_3_method_8_code
def yX1_unitsOf : MethodName := ⟨RX1, "unitsOf", "(I)I"⟩
abbrev cX1_purseOf : ByteArray := prog_3_method_9_code
def yX1_purseOf : MethodName := ⟨RX1, "purseOf", "(I)I"⟩
abbrev cX1_tradedOf : ByteArray := prog_3_method_10_code
def yX1_tradedOf : MethodName := ⟨RX1, "tradedOf", "(I)I"⟩
abbrev cX1_said : ByteArray := prog_3_method_11_code
def yX1_said : MethodName := ⟨RX1, "said", "(II)I"⟩
abbrev cX1_setSaid : ByteArray := prog_3_method_12_code
def yX1_setSaid : MethodName := ⟨RX1, "setSaid", "(III)V"⟩
abbrev cX1_fits : ByteArray := prog_3_method_14_code
def yX1_fits : MethodName := ⟨RX1, "fits", "(III)Z"⟩
abbrev cX1_inOrder : ByteArray := prog_3_method_15_code
def yX1_inOrder : MethodName := ⟨RX1, "inOrder", "(ZII)Z"⟩
abbrev cX1_enter : ByteArray := prog_3_method_16_code
def yX1_enter : MethodName := ⟨RX1, "enter", "(ZI)I"⟩
abbrev cX1_append : ByteArray := prog_3_method_17_code
def yX1_append : MethodName := ⟨RX1, "append", "(II)I"⟩
abbrev cX1_dropFirst : ByteArray := prog_3_method_18_code
def yX1_dropFirst : MethodName := ⟨RX1, "dropFirst", "(II)V"⟩
abbrev cX1_trade : ByteArray := prog_3_method_19_code
def yX1_trade : MethodName := ⟨RX1, "trade", "(III)V"⟩
abbrev cX1_noteClose : ByteArray := prog_3_method_20_code
def yX1_noteClose : MethodName := ⟨RX1, "noteClose", "(II)V"⟩
abbrev cX1_allUnits : ByteArray := prog_3_method_21_code
def yX1_allUnits : MethodName := ⟨RX1, "allUnits", "()I"⟩
abbrev cX1_allPurses : ByteArray := prog_3_method_22_code
def yX1_allPurses : MethodName := ⟨RX1, "allPurses", "()I"⟩
abbrev cX1_richest : ByteArray := prog_3_method_23_code
def yX1_richest : MethodName := ⟨RX1, "richest", "()I"⟩
def RX2 : String := "TradeHall$History"
def TX2 : u_T := fun k => match k with
  | 0 => ("TradeHall$History", "past", "[LTradeHall$Hall;", true)
  | 1 => ("TradeHall$History", "next", "I", false)
  | _ => ("TradeHall$History", "size", "I", false)
def tyX2 : Nat → FieldType := fun k => match k with
  | 0 => .array (.object "TradeHall$Hall")
  | 1 => .int
  | _ => .int
abbrev wsX20 : List Cond := u_ws RX2 TX2 3
theorem nmX2 : ∀ a, a < 3 → ∀ b, b < 3 → a ≠ b → (TX2 a).2.1 ≠ (TX2 b).2.1 := by decide +kernel
theorem tyX2_ok : ∀ k, k < 3 → parseFieldDescriptor (TX2 k).2.2.1 = some (tyX2 k) := by decide +kernel
abbrev cX2_init : ByteArray := prog_4_method_1_code
def yX2_init : MethodName := ⟨RX2, "<init>", "()V"⟩
abbrev cX2_forget : ByteArray := prog_4_method_2_code
def yX2_forget : MethodName := ⟨RX2, "forget", "()V"⟩
abbrev cX2_remember : ByteArray := prog_4_method_3_code
def yX2_remember : MethodName := ⟨RX2, "remember", "(LTradeHall$Hall;)V"⟩
abbrev cX2_takeBack : ByteArray := prog_4_method_4_code
def yX2_takeBack : MethodName := ⟨RX2, "takeBack", "(LTradeHall$Hall;)I"⟩
abbrev cX2_at : ByteArray := prog_4_method_5_code
def yX2_at : MethodName := ⟨RX2, "at", "(I)LTradeHall$Hall;"⟩
def RX3 : String := "TradeHall$Letters"
def TX3 : u_T := fun k => match k with
  | 0 => ("TradeHall$Letters", "bytes", "[I", true)
  | _ => ("TradeHall$Letters", "size", "I", false)
def tyX3 : Nat → FieldType := fun k => match k with
  | 0 => .array .int
  | _ => .int
abbrev wsX30 : List Cond := u_ws RX3 TX3 2
theorem nmX3 : ∀ a, a < 2 → ∀ b, b < 2 → a ≠ b → (TX3 a).2.1 ≠ (TX3 b).2.1 := by decide +kernel
theorem tyX3_ok : ∀ k, k < 2 → parseFieldDescriptor (TX3 k).2.2.1 = some (tyX3 k) := by decide +kernel
abbrev cX3_init : ByteArray := prog_5_method_1_code
def yX3_init : MethodName := ⟨RX3, "<init>", "()V"⟩
abbrev cX3_at : ByteArray := prog_5_method_2_code
def yX3_at : MethodName := ⟨RX3, "at", "(I)I"⟩
abbrev cX3_write : ByteArray := prog_5_method_3_code
def yX3_write : MethodName := ⟨RX3, "write", "(LTradeHall$Hall;)V"⟩
abbrev cX3_beginPart : ByteArray := prog_5_method_4_code
def yX3_beginPart : MethodName := ⟨RX3, "beginPart", "(Ljava/lang/String;)V"⟩
abbrev cX3_putWord : ByteArray := prog_5_method_5_code
def yX3_putWord : MethodName := ⟨RX3, "putWord", "(Ljava/lang/String;)V"⟩
abbrev cX3_putNumber : ByteArray := prog_5_method_6_code
def yX3_putNumber : MethodName := ⟨RX3, "putNumber", "(I)V"⟩
abbrev cX3_put : ByteArray := prog_5_method_7_code
def yX3_put : MethodName := ⟨RX3, "put", "(I)V"⟩
def RX4 : String := "TradeHall$Ranking"
def TX4 : u_T := fun k => match k with
  | 0 => ("TradeHall$Ranking", "order", "[I", true)
  | 1 => ("TradeHall$Ranking", "gains", "[I", true)
  | _ => ("TradeHall$Ranking", "size", "I", false)
def tyX4 : Nat → FieldType := fun k => match k with
  | 0 => .array .int
  | 1 => .array .int
  | _ => .int
abbrev wsX40 : List Cond := u_ws RX4 TX4 3
theorem nmX4 : ∀ a, a < 3 → ∀ b, b < 3 → a ≠ b → (TX4 a).2.1 ≠ (TX4 b).2.1 := by decide +kernel
theorem tyX4_ok : ∀ k, k < 3 → parseFieldDescriptor (TX4 k).2.2.1 = some (tyX4 k) := by decide +kernel
abbrev cX4_init : ByteArray := prog_6_method_1_code
def yX4_init : MethodName := ⟨RX4, "<init>", "()V"⟩
def RX5 : String := "TradeHall$Serving"
def TX5 : u_T := fun k => match k with
  | 0 => ("TradeHall$Serving", "most", "[I", true)
  | 1 => ("TradeHall$Serving", "value", "I", false)
  | _ => ("TradeHall$Serving", "pairs", "I", false)
def tyX5 : Nat → FieldType := fun k => match k with
  | 0 => .array .int
  | 1 => .int
  | _ => .int
abbrev wsX50 : List Cond := u_ws RX5 TX5 3
theorem nmX5 : ∀ a, a < 3 → ∀ b, b < 3 → a ≠ b → (TX5 a).2.1 ≠ (TX5 b).2.1 := by decide +kernel
theorem tyX5_ok : ∀ k, k < 3 → parseFieldDescriptor (TX5 k).2.2.1 = some (tyX5 k) := by decide +kernel
abbrev cX5_init : ByteArray := prog_7_method_1_code
def yX5_init : MethodName := ⟨RX5, "<init>", "()V"⟩
def RX6 : String := "TradeHall$Shelves"
def TX6 : u_T := fun k => match k with
  | 0 => ("TradeHall$Shelves", "halls", "[LTradeHall$Hall;", true)
  | _ => ("TradeHall$Shelves", "kept", "I", false)
def tyX6 : Nat → FieldType := fun k => match k with
  | 0 => .array (.object "TradeHall$Hall")
  | _ => .int
abbrev wsX60 : List Cond := u_ws RX6 TX6 2
theorem nmX6 : ∀ a, a < 2 → ∀ b, b < 2 → a ≠ b → (TX6 a).2.1 ≠ (TX6 b).2.1 := by decide +kernel
theorem tyX6_ok : ∀ k, k < 2 → parseFieldDescriptor (TX6 k).2.2.1 = some (tyX6 k) := by decide +kernel
abbrev cX6_init : ByteArray := prog_8_method_1_code
def yX6_init : MethodName := ⟨RX6, "<init>", "()V"⟩
abbrev cX6_holds : ByteArray := prog_8_method_2_code
def yX6_holds : MethodName := ⟨RX6, "holds", "(I)Z"⟩
abbrev cX6_put : ByteArray := prog_8_method_3_code
def yX6_put : MethodName := ⟨RX6, "put", "(ILTradeHall$Hall;)V"⟩
abbrev cX6_fetch : ByteArray := prog_8_method_4_code
def yX6_fetch : MethodName := ⟨RX6, "fetch", "(ILTradeHall$Hall;)V"⟩
abbrev cX6_at : ByteArray := prog_8_method_5_code
def yX6_at : MethodName := ⟨RX6, "at", "(I)LTradeHall$Hall;"⟩
def RX7 : String := "TradeHall$Tape"
def TX7 : u_T := fun k => match k with
  | 0 => ("TradeHall$Tape", "bytes", "[I", true)
  | 1 => ("TradeHall$Tape", "told", "LTradeHall$Hall;", true)
  | 2 => ("TradeHall$Tape", "size", "I", false)
  | 3 => ("TradeHall$Tape", "place", "I", false)
  | 4 => ("TradeHall$Tape", "fault", "I", false)
  | 5 => ("TradeHall$Tape", "hasFee", "Z", false)
  | _ => ("TradeHall$Tape", "hasLaw", "Z", false)
def tyX7 : Nat → FieldType := fun k => match k with
  | 0 => .array .int
  | 1 => .object "TradeHall$Hall"
  | 2 => .int
  | 3 => .int
  | 4 => .int
  | 5 => .boolean
  | _ => .boolean
abbrev wsX70 : List Cond := u_ws RX7 TX7 7
theorem nmX7 : ∀ a, a < 7 → ∀ b, b < 7 → a ≠ b → (TX7 a).2.1 ≠ (TX7 b).2.1 := by decide +kernel
theorem tyX7_ok : ∀ k, k < 7 → parseFieldDescriptor (TX7 k).2.2.1 = some (tyX7 k) := by decide +kernel
abbrev cX7_init : ByteArray := prog_9_method_1_code
def yX7_init : MethodName := ⟨RX7, "<init>", "()V"⟩
abbrev cX7_append : ByteArray := prog_9_method_2_code
def yX7_append : MethodName := ⟨RX7, "append", "(I)V"⟩
abbrev cX7_read : ByteArray := prog_9_method_3_code
def yX7_read : MethodName := ⟨RX7, "read", "()I"⟩
abbrev cX7_readPart : ByteArray := prog_9_method_4_code
def yX7_readPart : MethodName := ⟨RX7, "readPart", "()V"⟩
abbrev cX7_readTrader : ByteArray := prog_9_method_5_code
def yX7_readTrader : MethodName := ⟨RX7, "readTrader", "(IZ)V"⟩
abbrev cX7_readFee : ByteArray := prog_9_method_6_code
def yX7_readFee : MethodName := ⟨RX7, "readFee", "(I)V"⟩
abbrev cX7_readLaw : ByteArray := prog_9_method_7_code
def yX7_readLaw : MethodName := ⟨RX7, "readLaw", "(I)V"⟩
abbrev cX7_readNumber : ByteArray := prog_9_method_8_code
def yX7_readNumber : MethodName := ⟨RX7, "readNumber", "(I)I"⟩
abbrev cX7_note : ByteArray := prog_9_method_9_code
def yX7_note : MethodName := ⟨RX7, "note", "(II)V"⟩
abbrev cX7_skipBlanks : ByteArray := prog_9_method_10_code
def yX7_skipBlanks : MethodName := ⟨RX7, "skipBlanks", "()V"⟩
abbrev cX7_skipWord : ByteArray := prog_9_method_11_code
def yX7_skipWord : MethodName := ⟨RX7, "skipWord", "()V"⟩
abbrev cX7_isWord : ByteArray := prog_9_method_12_code
def yX7_isWord : MethodName := ⟨RX7, "isWord", "(ILjava/lang/String;)Z"⟩
abbrev cX7_byteAt : ByteArray := prog_9_method_13_code
def yX7_byteAt : MethodName := ⟨RX7, "byteAt", "(I)I"⟩
abbrev cX7_isDigit : ByteArray := prog_9_method_14_code
def yX7_isDigit : MethodName := ⟨RX7, "isDigit", "(I)Z"⟩
abbrev cX7_isSmallLetter : ByteArray := prog_9_method_15_code
def yX7_isSmallLetter : MethodName := ⟨RX7, "isSmallLetter", "(I)Z"⟩
def RX8 : String := "TradeHall"
def TX8 : u_T := fun k => match k with
  | 0 => ("TradeHall", "hall", "LTradeHall$Hall;", true)
  | 1 => ("TradeHall", "tape", "LTradeHall$Tape;", true)
  | 2 => ("TradeHall", "history", "LTradeHall$History;", true)
  | 3 => ("TradeHall", "shelves", "LTradeHall$Shelves;", true)
  | 4 => ("TradeHall", "letters", "LTradeHall$Letters;", true)
  | 5 => ("TradeHall", "book", "LTradeHall$Book;", true)
  | 6 => ("TradeHall", "others", "LTradeHall$Book;", true)
  | 7 => ("TradeHall", "ranking", "LTradeHall$Ranking;", true)
  | 8 => ("TradeHall", "serving", "LTradeHall$Serving;", true)
  | 9 => ("TradeHall", "takingsByFee", "[I", true)
  | _ => ("TradeHall", "waysRow", "[J", true)
def tyX8 : Nat → FieldType := fun k => match k with
  | 0 => .object "TradeHall$Hall"
  | 1 => .object "TradeHall$Tape"
  | 2 => .object "TradeHall$History"
  | 3 => .object "TradeHall$Shelves"
  | 4 => .object "TradeHall$Letters"
  | 5 => .object "TradeHall$Book"
  | 6 => .object "TradeHall$Book"
  | 7 => .object "TradeHall$Ranking"
  | 8 => .object "TradeHall$Serving"
  | 9 => .array .int
  | _ => .array .long
abbrev wsX80 : List Cond := u_ws RX8 TX8 11
theorem nmX8 : ∀ a, a < 11 → ∀ b, b < 11 → a ≠ b → (TX8 a).2.1 ≠ (TX8 b).2.1 := by decide +kernel
theorem tyX8_ok : ∀ k, k < 11 → parseFieldDescriptor (TX8 k).2.2.1 = some (tyX8 k) := by decide +kernel
abbrev cX8_init : ByteArray := prog_1_method_1_code
def yX8_init : MethodName := ⟨RX8, "<init>", "()V"⟩
abbrev cX8_feed : ByteArray := prog_1_method_2_code
def yX8_feed : MethodName := ⟨RX8, "feed", "(IIIII)I"⟩
abbrev cX8_end : ByteArray := prog_1_method_3_code
def yX8_end : MethodName := ⟨RX8, "end", "(I)I"⟩
abbrev cX8_tell : ByteArray := prog_1_method_4_code
def yX8_tell : MethodName := ⟨RX8, "tell", "()I"⟩
abbrev cX8_come : ByteArray := prog_1_method_5_code
def yX8_come : MethodName := ⟨RX8, "come", "(ZI)I"⟩
abbrev cX8_add : ByteArray := prog_1_method_6_code
def yX8_add : MethodName := ⟨RX8, "add", "(II)I"⟩
abbrev cX8_say : ByteArray := prog_1_method_7_code
def yX8_say : MethodName := ⟨RX8, "say", "(III)I"⟩
abbrev cX8_leave : ByteArray := prog_1_method_8_code
def yX8_leave : MethodName := ⟨RX8, "leave", "(I)I"⟩
abbrev cX8_fee : ByteArray := prog_1_method_9_code
def yX8_fee : MethodName := ⟨RX8, "fee", "(I)I"⟩
abbrev cX8_law : ByteArray := prog_1_method_10_code
def yX8_law : MethodName := ⟨RX8, "law", "(I)I"⟩
abbrev cX8_close : ByteArray := prog_1_method_11_code
def yX8_close : MethodName := ⟨RX8, "close", "(I)I"⟩
abbrev cX8_undo : ByteArray := prog_1_method_12_code
def yX8_undo : MethodName := ⟨RX8, "undo", "()I"⟩
abbrev cX8_keep : ByteArray := prog_1_method_13_code
def yX8_keep : MethodName := ⟨RX8, "keep", "(I)I"⟩
abbrev cX8_back : ByteArray := prog_1_method_14_code
def yX8_back : MethodName := ⟨RX8, "back", "(I)I"⟩
abbrev cX8_trader : ByteArray := prog_1_method_15_code
def yX8_trader : MethodName := ⟨RX8, "trader", "(II)I"⟩
abbrev cX8_audit : ByteArray := prog_1_method_29_code
def yX8_audit : MethodName := ⟨RX8, "audit", "(I)I"⟩
abbrev cX8_letter : ByteArray := prog_1_method_31_code
def yX8_letter : MethodName := ⟨RX8, "letter", "(I)I"⟩
abbrev cX8_count : ByteArray := prog_1_method_44_code
def yX8_count : MethodName := ⟨RX8, "count", "(I)I"⟩
abbrev cX8_isGrade : ByteArray := prog_1_method_45_code
def yX8_isGrade : MethodName := ⟨RX8, "isGrade", "(I)Z"⟩
abbrev cX8_isValue : ByteArray := prog_1_method_46_code
def yX8_isValue : MethodName := ⟨RX8, "isValue", "(I)Z"⟩
abbrev cX8_isFee : ByteArray := prog_1_method_47_code
def yX8_isFee : MethodName := ⟨RX8, "isFee", "(I)Z"⟩
abbrev cX8_isLaw : ByteArray := prog_1_method_48_code
def yX8_isLaw : MethodName := ⟨RX8, "isLaw", "(I)Z"⟩
abbrev cX8_isShelf : ByteArray := prog_1_method_49_code
def yX8_isShelf : MethodName := ⟨RX8, "isShelf", "(I)Z"⟩
abbrev cX8_bit : ByteArray := prog_1_method_51_code
def yX8_bit : MethodName := ⟨RX8, "bit", "(I)I"⟩
abbrev cX8_lawWord : ByteArray := prog_1_method_52_code
def yX8_lawWord : MethodName := ⟨RX8, "lawWord", "(I)Ljava/lang/String;"⟩
abbrev cX8_settleGrade : ByteArray := prog_1_method_55_code
def yX8_settleGrade : MethodName := ⟨RX8, "settleGrade", "(I)V"⟩
abbrev cX8_worthOf : ByteArray := prog_1_method_56_code
def yX8_worthOf : MethodName := ⟨RX8, "worthOf", "(II)I"⟩
abbrev cX8_worthOfAll : ByteArray := prog_1_method_57_code
def yX8_worthOfAll : MethodName := ⟨RX8, "worthOfAll", "()I"⟩
abbrev cX8_gradesWithTrades : ByteArray := prog_1_method_58_code
def yX8_gradesWithTrades : MethodName := ⟨RX8, "gradesWithTrades", "()I"⟩
def RX9 : String := "TradeHallLaw$Hall"
def TX9 : u_T := fun k => match k with
  | 0 => ("TradeHallLaw$Hall", "many", "I", false)
  | 1 => ("TradeHallLaw$Hall", "fee", "I", false)
  | 2 => ("TradeHallLaw$Hall", "law", "I", false)
  | 3 => ("TradeHallLaw$Hall", "chest", "I", false)
  | 4 => ("TradeHallLaw$Hall", "closed", "I", false)
  | 5 => ("TradeHallLaw$Hall", "closes", "I", false)
  | 6 => ("TradeHallLaw$Hall", "greatest", "I", false)
  | 7 => ("TradeHallLaw$Hall", "sells", "[Z", true)
  | 8 => ("TradeHallLaw$Hall", "grade", "[I", true)
  | 9 => ("TradeHallLaw$Hall", "purse", "[I", true)
  | 10 => ("TradeHallLaw$Hall", "traded", "[I", true)
  | _ => ("TradeHallLaw$Hall", "units", "[[I", false)
def tyX9 : Nat → FieldType := fun k => match k with
  | 0 => .int
  | 1 => .int
  | 2 => .int
  | 3 => .int
  | 4 => .int
  | 5 => .int
  | 6 => .int
  | 7 => .array .boolean
  | 8 => .array .int
  | 9 => .array .int
  | 10 => .array .int
  | _ => .array (.array .int)
abbrev wsX90 : List Cond := u_ws RX9 TX9 12
theorem nmX9 : ∀ a, a < 12 → ∀ b, b < 12 → a ≠ b → (TX9 a).2.1 ≠ (TX9 b).2.1 := by decide +kernel
theorem tyX9_ok : ∀ k, k < 12 → parseFieldDescriptor (TX9 k).2.2.1 = some (tyX9 k) := by decide +kernel
abbrev cX9_init : ByteArray := prog_11_method_1_code
def yX9_init : MethodName := ⟨RX9, "<init>", "()V"⟩
abbrev cX9_copy : ByteArray := prog_11_method_2_code
def yX9_copy : MethodName := ⟨RX9, "copy", "()LTradeHallLaw$Hall;"⟩
abbrev cX9_comes : ByteArray := prog_11_method_3_code
def yX9_comes : MethodName := ⟨RX9, "comes", "(ZI[I)V"⟩
abbrev cX9_told : ByteArray := prog_11_method_4_code
def yX9_told : MethodName := ⟨RX9, "told", "()Ljava/lang/String;"⟩
abbrev cX9_some : ByteArray := prog_11_method_5_code
def yX9_some : MethodName := ⟨RX9, "some", "([IIII)LTradeHallLaw$Hall;"⟩
def RX10 : String := "TradeHallLaw$Market"
def TX10 : u_T := fun k => match k with
  | 0 => ("TradeHallLaw$Market", "bid", "[[I", true)
  | 1 => ("TradeHallLaw$Market", "ask", "[[I", true)
  | 2 => ("TradeHallLaw$Market", "bids", "I", false)
  | 3 => ("TradeHallLaw$Market", "asks", "I", false)
  | 4 => ("TradeHallLaw$Market", "trades", "I", false)
  | 5 => ("TradeHallLaw$Market", "worth", "I", false)
  | 6 => ("TradeHallLaw$Market", "done", "I", false)
  | 7 => ("TradeHallLaw$Market", "pays", "I", false)
  | _ => ("TradeHallLaw$Market", "gets", "I", false)
def tyX10 : Nat → FieldType := fun k => match k with
  | 0 => .array (.array .int)
  | 1 => .array (.array .int)
  | 2 => .int
  | 3 => .int
  | 4 => .int
  | 5 => .int
  | 6 => .int
  | 7 => .int
  | _ => .int
abbrev wsX100 : List Cond := u_ws RX10 TX10 9
theorem nmX10 : ∀ a, a < 9 → ∀ b, b < 9 → a ≠ b → (TX10 a).2.1 ≠ (TX10 b).2.1 := by decide +kernel
theorem tyX10_ok : ∀ k, k < 9 → parseFieldDescriptor (TX10 k).2.2.1 = some (tyX10 k) := by decide +kernel
abbrev cX10_init : ByteArray := prog_12_method_1_code
def yX10_init : MethodName := ⟨RX10, "<init>", "(LTradeHallLaw$Hall;II)V"⟩
abbrev cX10_orders : ByteArray := prog_12_method_2_code
def yX10_orders : MethodName := ⟨RX10, "orders", "([[III)V"⟩
abbrev cX10_by : ByteArray := prog_12_method_3_code
def yX10_by : MethodName := ⟨RX10, "by", "(II)LTradeHallLaw$Market;"⟩
abbrev cX10_doneOf : ByteArray := prog_12_method_4_code
def yX10_doneOf : MethodName := ⟨RX10, "doneOf", "(I)I"⟩
def RX11 : String := "TradeHallModel"
def TX11 : u_T := fun k => match k with
  | _ => ("", "", "", false)
def tyX11 : Nat → FieldType := fun k => match k with
  | _ => .int
abbrev wsX110 : List Cond := u_ws RX11 TX11 0
theorem nmX11 : ∀ a, a < 0 → ∀ b, b < 0 → a ≠ b → (TX11 a).2.1 ≠ (TX11 b).2.1 := by decide +kernel
theorem tyX11_ok : ∀ k, k < 0 → parseFieldDescriptor (TX11 k).2.2.1 = some (tyX11 k) := by decide +kernel
def RJ5 : String := "java/lang/AbstractStringBuilder"
def TJ5 : u_T := fun k => match k with
  | _ => ("", "", "", false)
def tyJ5 : Nat → FieldType := fun k => match k with
  | _ => .int
abbrev wsJ50 : List Cond := u_ws RJ5 TJ5 0
theorem nmJ5 : ∀ a, a < 0 → ∀ b, b < 0 → a ≠ b → (TJ5 a).2.1 ≠ (TJ5 b).2.1 := by decide +kernel
theorem tyJ5_ok : ∀ k, k < 0 → parseFieldDescriptor (TJ5 k).2.2.1 = some (tyJ5 k) := by decide +kernel
abbrev cJ5_init_d00df : ByteArray := prog_14_method_2_code
def yJ5_init_d00df : MethodName := ⟨RJ5, "<init>", "(I)V"⟩
abbrev cJ5_length_8abf5 : ByteArray := prog_14_method_6_code
def yJ5_length_8abf5 : MethodName := ⟨RJ5, "length", "()I"⟩
abbrev cJ5_ensureCapacityInternal_d00df : ByteArray := prog_14_method_9_code
def yJ5_ensureCapacityInternal_d00df : MethodName := ⟨RJ5, "ensureCapacityInternal", "(I)V"⟩
abbrev cJ5_newCapacity_0f7a4 : ByteArray := prog_14_method_10_code
def yJ5_newCapacity_0f7a4 : MethodName := ⟨RJ5, "newCapacity", "(I)I"⟩
abbrev cJ5_inflate_da8c8 : ByteArray := prog_14_method_11_code
def yJ5_inflate_da8c8 : MethodName := ⟨RJ5, "inflate", "()V"⟩
abbrev cJ5_charAt_5068e : ByteArray := prog_14_method_14_code
def yJ5_charAt_5068e : MethodName := ⟨RJ5, "charAt", "(I)C"⟩
abbrev cJ5_append_cf1ce : ByteArray := prog_14_method_22_code
def yJ5_append_cf1ce : MethodName := ⟨RJ5, "append", "(Ljava/lang/String;)Ljava/lang/AbstractStringBuilder;"⟩
abbrev cJ5_appendNull_278bc : ByteArray := prog_14_method_26_code
def yJ5_appendNull_278bc : MethodName := ⟨RJ5, "appendNull", "()Ljava/lang/AbstractStringBuilder;"⟩
abbrev cJ5_append_3fe6f : ByteArray := prog_14_method_31_code
def yJ5_append_3fe6f : MethodName := ⟨RJ5, "append", "(C)Ljava/lang/AbstractStringBuilder;"⟩
abbrev cJ5_append_c97b9 : ByteArray := prog_14_method_32_code
def yJ5_append_c97b9 : MethodName := ⟨RJ5, "append", "(I)Ljava/lang/AbstractStringBuilder;"⟩
abbrev cJ5_getValue_6d5f1 : ByteArray := prog_14_method_64_code
def yJ5_getValue_6d5f1 : MethodName := ⟨RJ5, "getValue", "()[B"⟩
abbrev cJ5_isLatin1_aae02 : ByteArray := prog_14_method_68_code
def yJ5_isLatin1_aae02 : MethodName := ⟨RJ5, "isLatin1", "()Z"⟩
abbrev cJ5_inflateIfNeededFor_a7421 : ByteArray := prog_14_method_71_code
def yJ5_inflateIfNeededFor_a7421 : MethodName := ⟨RJ5, "inflateIfNeededFor", "(Ljava/lang/String;)V"⟩
abbrev cJ5_putStringAt_47b60 : ByteArray := prog_14_method_73_code
def yJ5_putStringAt_47b60 : MethodName := ⟨RJ5, "putStringAt", "(ILjava/lang/String;)V"⟩
def RJ6 : String := "java/lang/Integer"
def TJ6 : u_T := fun k => match k with
  | _ => ("", "", "", false)
def tyJ6 : Nat → FieldType := fun k => match k with
  | _ => .int
abbrev wsJ60 : List Cond := u_ws RJ6 TJ6 0
theorem nmJ6 : ∀ a, a < 0 → ∀ b, b < 0 → a ≠ b → (TJ6 a).2.1 ≠ (TJ6 b).2.1 := by decide +kernel
theorem tyJ6_ok : ∀ k, k < 0 → parseFieldDescriptor (TJ6 k).2.2.1 = some (tyJ6 k) := by decide +kernel
abbrev cJ6_getChars_ba4f3 : ByteArray := prog_17_method_12_code
def yJ6_getChars_ba4f3 : MethodName := ⟨RJ6, "getChars", "(II[B)I"⟩
abbrev cJ6_stringSize_0f7a4 : ByteArray := prog_17_method_13_code
def yJ6_stringSize_0f7a4 : MethodName := ⟨RJ6, "stringSize", "(I)I"⟩
def RJ9 : String := "java/lang/Math"
def TJ9 : u_T := fun k => match k with
  | _ => ("", "", "", false)
def tyJ9 : Nat → FieldType := fun k => match k with
  | _ => .int
abbrev wsJ90 : List Cond := u_ws RJ9 TJ9 0
theorem nmJ9 : ∀ a, a < 0 → ∀ b, b < 0 → a ≠ b → (TJ9 a).2.1 ≠ (TJ9 b).2.1 := by decide +kernel
theorem tyJ9_ok : ∀ k, k < 0 → parseFieldDescriptor (TJ9 k).2.2.1 = some (tyJ9 k) := by decide +kernel
abbrev cJ9_max_7cf53 : ByteArray := prog_18_method_65_code
def yJ9_max_7cf53 : MethodName := ⟨RJ9, "max", "(II)I"⟩
abbrev cJ9_min_7cf53 : ByteArray := prog_18_method_69_code
def yJ9_min_7cf53 : MethodName := ⟨RJ9, "min", "(II)I"⟩
def RJ0 : String := "java/lang/String"
def TJ0 : u_T := fun k => match k with
  | 0 => ("java/lang/String", "value", "[B", true)
  | 1 => ("java/lang/String", "coder", "B", true)
  | 2 => ("java/lang/String", "hash", "I", false)
  | _ => ("java/lang/String", "hashIsZero", "Z", false)
def tyJ0 : Nat → FieldType := fun k => match k with
  | 0 => .array .byte
  | 1 => .byte
  | 2 => .int
  | _ => .boolean
abbrev wsJ00 : List Cond := u_ws RJ0 TJ0 4
theorem nmJ0 : ∀ a, a < 4 → ∀ b, b < 4 → a ≠ b → (TJ0 a).2.1 ≠ (TJ0 b).2.1 := by decide +kernel
theorem tyJ0_ok : ∀ k, k < 4 → parseFieldDescriptor (TJ0 k).2.2.1 = some (tyJ0 k) := by decide +kernel
abbrev cJ0_init_81219 : ByteArray := prog_19_method_53_code
def yJ0_init_81219 : MethodName := ⟨RJ0, "<init>", "(Ljava/lang/StringBuilder;)V"⟩
abbrev cJ0_length_8abf5 : ByteArray := prog_19_method_54_code
def yJ0_length_8abf5 : MethodName := ⟨RJ0, "length", "()I"⟩
abbrev cJ0_charAt_5068e : ByteArray := prog_19_method_56_code
def yJ0_charAt_5068e : MethodName := ⟨RJ0, "charAt", "(I)C"⟩
abbrev cJ0_getBytes_840e7 : ByteArray := prog_19_method_147_code
def yJ0_getBytes_840e7 : MethodName := ⟨RJ0, "getBytes", "([BIB)V"⟩
abbrev cJ0_init_db425 : ByteArray := prog_19_method_150_code
def yJ0_init_db425 : MethodName := ⟨RJ0, "<init>", "(Ljava/lang/AbstractStringBuilder;Ljava/lang/Void;)V"⟩
abbrev cJ0_coder_7d493 : ByteArray := prog_19_method_152_code
def yJ0_coder_7d493 : MethodName := ⟨RJ0, "coder", "()B"⟩
abbrev cJ0_isLatin1_aae02 : ByteArray := prog_19_method_154_code
def yJ0_isLatin1_aae02 : MethodName := ⟨RJ0, "isLatin1", "()Z"⟩
abbrev cJ0_checkIndex_df160 : ByteArray := prog_19_method_155_code
def yJ0_checkIndex_df160 : MethodName := ⟨RJ0, "checkIndex", "(II)V"⟩
abbrev cJ0_checkBoundsOffCount_cabcc : ByteArray := prog_19_method_157_code
def yJ0_checkBoundsOffCount_cabcc : MethodName := ⟨RJ0, "checkBoundsOffCount", "(III)I"⟩
abbrev cJ0_checkBoundsBeginEnd_23922 : ByteArray := prog_19_method_158_code
def yJ0_checkBoundsBeginEnd_23922 : MethodName := ⟨RJ0, "checkBoundsBeginEnd", "(III)V"⟩
def RJ4 : String := "java/lang/StringBuilder"
def TJ4 : u_T := fun k => match k with
  | 0 => ("java/lang/AbstractStringBuilder", "value", "[B", false)
  | 1 => ("java/lang/AbstractStringBuilder", "coder", "B", false)
  | 2 => ("java/lang/AbstractStringBuilder", "maybeLatin1", "Z", false)
  | _ => ("java/lang/AbstractStringBuilder", "count", "I", false)
def tyJ4 : Nat → FieldType := fun k => match k with
  | 0 => .array .byte
  | 1 => .byte
  | 2 => .boolean
  | _ => .int
abbrev wsJ40 : List Cond := u_ws RJ4 TJ4 4
theorem nmJ4 : ∀ a, a < 4 → ∀ b, b < 4 → a ≠ b → (TJ4 a).2.1 ≠ (TJ4 b).2.1 := by decide +kernel
theorem tyJ4_ok : ∀ k, k < 4 → parseFieldDescriptor (TJ4 k).2.2.1 = some (tyJ4 k) := by decide +kernel
abbrev cJ4_init_d00df : ByteArray := prog_20_method_2_code
def yJ4_init_d00df : MethodName := ⟨RJ4, "<init>", "(I)V"⟩
abbrev cJ4_append_15ec4 : ByteArray := prog_20_method_7_code
def yJ4_append_15ec4 : MethodName := ⟨RJ4, "append", "(Ljava/lang/String;)Ljava/lang/StringBuilder;"⟩
abbrev cJ4_append_cf468 : ByteArray := prog_20_method_14_code
def yJ4_append_cf468 : MethodName := ⟨RJ4, "append", "(C)Ljava/lang/StringBuilder;"⟩
abbrev cJ4_append_bf812 : ByteArray := prog_20_method_15_code
def yJ4_append_bf812 : MethodName := ⟨RJ4, "append", "(I)Ljava/lang/StringBuilder;"⟩
abbrev cJ4_toString_0e30d : ByteArray := prog_20_method_42_code
def yJ4_toString_0e30d : MethodName := ⟨RJ4, "toString", "()Ljava/lang/String;"⟩
abbrev cJ4_charAt_5068e : ByteArray := prog_20_method_88_code
def yJ4_charAt_5068e : MethodName := ⟨RJ4, "charAt", "(I)C"⟩
abbrev cJ4_length_8abf5 : ByteArray := prog_20_method_93_code
def yJ4_length_8abf5 : MethodName := ⟨RJ4, "length", "()I"⟩
def RJ1 : String := "java/lang/StringLatin1"
def TJ1 : u_T := fun k => match k with
  | _ => ("", "", "", false)
def tyJ1 : Nat → FieldType := fun k => match k with
  | _ => .int
abbrev wsJ10 : List Cond := u_ws RJ1 TJ1 0
theorem nmJ1 : ∀ a, a < 0 → ∀ b, b < 0 → a ≠ b → (TJ1 a).2.1 ≠ (TJ1 b).2.1 := by decide +kernel
theorem tyJ1_ok : ∀ k, k < 0 → parseFieldDescriptor (TJ1 k).2.2.1 = some (tyJ1 k) := by decide +kernel
abbrev cJ1_charAt_3b067 : ByteArray := prog_21_method_2_code
def yJ1_charAt_3b067 : MethodName := ⟨RJ1, "charAt", "([BI)C"⟩
abbrev cJ1_canEncode_fc78d : ByteArray := prog_21_method_3_code
def yJ1_canEncode_fc78d : MethodName := ⟨RJ1, "canEncode", "(C)Z"⟩
abbrev cJ1_inflate_0e8fd : ByteArray := prog_21_method_50_code
def yJ1_inflate_0e8fd : MethodName := ⟨RJ1, "inflate", "([BI[BII)V"⟩
def RJ2 : String := "java/lang/StringUTF16"
def TJ2 : u_T := fun k => match k with
  | _ => ("", "", "", false)
def tyJ2 : Nat → FieldType := fun k => match k with
  | _ => .int
abbrev wsJ20 : List Cond := u_ws RJ2 TJ2 0
theorem nmJ2 : ∀ a, a < 0 → ∀ b, b < 0 → a ≠ b → (TJ2 a).2.1 ≠ (TJ2 b).2.1 := by decide +kernel
theorem tyJ2_ok : ∀ k, k < 0 → parseFieldDescriptor (TJ2 k).2.2.1 = some (tyJ2 k) := by decide +kernel
abbrev cJ2_newBytesFor_77867 : ByteArray := prog_22_method_2_code
def yJ2_newBytesFor_77867 : MethodName := ⟨RJ2, "newBytesFor", "(I)[B"⟩
abbrev cJ2_newBytesLength_0f7a4 : ByteArray := prog_22_method_3_code
def yJ2_newBytesLength_0f7a4 : MethodName := ⟨RJ2, "newBytesLength", "(I)I"⟩
abbrev cJ2_putChar_b72d1 : ByteArray := prog_22_method_4_code
def yJ2_putChar_b72d1 : MethodName := ⟨RJ2, "putChar", "([BII)V"⟩
abbrev cJ2_getChar_3b067 : ByteArray := prog_22_method_5_code
def yJ2_getChar_3b067 : MethodName := ⟨RJ2, "getChar", "([BI)C"⟩
abbrev cJ2_length_9d52b : ByteArray := prog_22_method_6_code
def yJ2_length_9d52b : MethodName := ⟨RJ2, "length", "([B)I"⟩
abbrev cJ2_coderFromArrayLen_85cad : ByteArray := prog_22_method_15_code
def yJ2_coderFromArrayLen_85cad : MethodName := ⟨RJ2, "coderFromArrayLen", "([BI)B"⟩
abbrev cJ2_compress_39247 : ByteArray := prog_22_method_17_code
def yJ2_compress_39247 : MethodName := ⟨RJ2, "compress", "([BII)[B"⟩
abbrev cJ2_compress_5af95 : ByteArray := prog_22_method_22_code
def yJ2_compress_5af95 : MethodName := ⟨RJ2, "compress", "([BI[BII)I"⟩
abbrev cJ2_putCharSB_b72d1 : ByteArray := prog_22_method_71_code
def yJ2_putCharSB_b72d1 : MethodName := ⟨RJ2, "putCharSB", "([BII)V"⟩
abbrev cJ2_getChars_46870 : ByteArray := prog_22_method_77_code
def yJ2_getChars_46870 : MethodName := ⟨RJ2, "getChars", "(III[B)I"⟩
abbrev cJ2_putCharsAt_cd4e5 : ByteArray := prog_22_method_81_code
def yJ2_putCharsAt_cd4e5 : MethodName := ⟨RJ2, "putCharsAt", "([BICCCC)I"⟩
abbrev cJ2_charAt_3b067 : ByteArray := prog_22_method_83_code
def yJ2_charAt_3b067 : MethodName := ⟨RJ2, "charAt", "([BI)C"⟩
abbrev cJ2_inflate_0e8fd : ByteArray := prog_22_method_86_code
def yJ2_inflate_0e8fd : MethodName := ⟨RJ2, "inflate", "([BI[BII)V"⟩
abbrev cJ2_getChars_ba4f3 : ByteArray := prog_22_method_89_code
def yJ2_getChars_ba4f3 : MethodName := ⟨RJ2, "getChars", "(II[B)I"⟩
abbrev cJ2_checkIndex_2214a : ByteArray := prog_22_method_91_code
def yJ2_checkIndex_2214a : MethodName := ⟨RJ2, "checkIndex", "(I[B)V"⟩
abbrev cJ2_checkBoundsBeginEnd_d044e : ByteArray := prog_22_method_93_code
def yJ2_checkBoundsBeginEnd_d044e : MethodName := ⟨RJ2, "checkBoundsBeginEnd", "(II[B)V"⟩
abbrev cJ2_checkBoundsOffCount_d044e : ByteArray := prog_22_method_94_code
def yJ2_checkBoundsOffCount_d044e : MethodName := ⟨RJ2, "checkBoundsOffCount", "(II[B)V"⟩
def RJ10 : String := "java/lang/System"
def TJ10 : u_T := fun k => match k with
  | _ => ("", "", "", false)
def tyJ10 : Nat → FieldType := fun k => match k with
  | _ => .int
abbrev wsJ100 : List Cond := u_ws RJ10 TJ10 0
theorem nmJ10 : ∀ a, a < 0 → ∀ b, b < 0 → a ≠ b → (TJ10 a).2.1 ≠ (TJ10 b).2.1 := by decide +kernel
theorem tyJ10_ok : ∀ k, k < 0 → parseFieldDescriptor (TJ10 k).2.2.1 = some (tyJ10 k) := by decide +kernel
def RJ7 : String := "java/util/Arrays"
def TJ7 : u_T := fun k => match k with
  | _ => ("", "", "", false)
def tyJ7 : Nat → FieldType := fun k => match k with
  | _ => .int
abbrev wsJ70 : List Cond := u_ws RJ7 TJ7 0
theorem nmJ7 : ∀ a, a < 0 → ∀ b, b < 0 → a ≠ b → (TJ7 a).2.1 ≠ (TJ7 b).2.1 := by decide +kernel
theorem tyJ7_ok : ∀ k, k < 0 → parseFieldDescriptor (TJ7 k).2.2.1 = some (tyJ7 k) := by decide +kernel
abbrev cJ7_copyOf_9075b : ByteArray := prog_24_method_121_code
def yJ7_copyOf_9075b : MethodName := ⟨RJ7, "copyOf", "([BI)[B"⟩
abbrev cJ7_checkLength_df160 : ByteArray := prog_24_method_131_code
def yJ7_checkLength_df160 : MethodName := ⟨RJ7, "checkLength", "(II)V"⟩
abbrev cJ7_copyOfRange_39247 : ByteArray := prog_24_method_132_code
def yJ7_copyOfRange_39247 : MethodName := ⟨RJ7, "copyOfRange", "([BII)[B"⟩
abbrev cJ7_copyOfRangeByte_39247 : ByteArray := prog_24_method_133_code
def yJ7_copyOfRangeByte_39247 : MethodName := ⟨RJ7, "copyOfRangeByte", "([BII)[B"⟩
def RJ8 : String := "jdk/internal/util/ArraysSupport"
def TJ8 : u_T := fun k => match k with
  | _ => ("", "", "", false)
def tyJ8 : Nat → FieldType := fun k => match k with
  | _ => .int
abbrev wsJ80 : List Cond := u_ws RJ8 TJ8 0
theorem nmJ8 : ∀ a, a < 0 → ∀ b, b < 0 → a ≠ b → (TJ8 a).2.1 ≠ (TJ8 b).2.1 := by decide +kernel
theorem tyJ8_ok : ∀ k, k < 0 → parseFieldDescriptor (TJ8 k).2.2.1 = some (tyJ8 k) := by decide +kernel
abbrev cJ8_newLength_cabcc : ByteArray := prog_25_method_27_code
def yJ8_newLength_cabcc : MethodName := ⟨RJ8, "newLength", "(III)I"⟩
abbrev cJ8_hugeLength_7cf53 : ByteArray := prog_25_method_28_code
def yJ8_hugeLength_7cf53 : MethodName := ⟨RJ8, "hugeLength", "(II)I"⟩
def RJ3 : String := "jdk/internal/util/Preconditions"
def TJ3 : u_T := fun k => match k with
  | _ => ("", "", "", false)
def tyJ3 : Nat → FieldType := fun k => match k with
  | _ => .int
abbrev wsJ30 : List Cond := u_ws RJ3 TJ3 0
theorem nmJ3 : ∀ a, a < 0 → ∀ b, b < 0 → a ≠ b → (TJ3 a).2.1 ≠ (TJ3 b).2.1 := by decide +kernel
theorem tyJ3_ok : ∀ k, k < 0 → parseFieldDescriptor (TJ3 k).2.2.1 = some (tyJ3 k) := by decide +kernel
abbrev cJ3_checkIndex_8e157 : ByteArray := prog_26_method_11_code
def yJ3_checkIndex_8e157 : MethodName := ⟨RJ3, "checkIndex", "(IILjava/util/function/BiFunction;)I"⟩
abbrev cJ3_checkFromToIndex_8c36e : ByteArray := prog_26_method_12_code
def yJ3_checkFromToIndex_8c36e : MethodName := ⟨RJ3, "checkFromToIndex", "(IIILjava/util/function/BiFunction;)I"⟩
abbrev cJ3_checkFromIndexSize_8c36e : ByteArray := prog_26_method_13_code
def yJ3_checkFromIndexSize_8c36e : MethodName := ⟨RJ3, "checkFromIndexSize", "(IIILjava/util/function/BiFunction;)I"⟩
def RL : String := "TradeHallLaw"
abbrev cL_cell : ByteArray := method_2_code
def yL_cell : MethodName := ⟨RL, "cell", "([II)I"⟩
abbrev cL_says : ByteArray := method_3_code
def yL_says : MethodName := ⟨RL, "says", "(LTradeHall;Ljava/lang/CharSequence;)Z"⟩
abbrev cL_deal : ByteArray := method_4_code
def yL_deal : MethodName := ⟨RL, "deal", "(LTradeHallLaw$Hall;III)I"⟩
abbrev cL_takings : ByteArray := method_6_code
def yL_takings : MethodName := ⟨RL, "takings", "(LTradeHallLaw$Hall;II)I"⟩
abbrev cL_same : ByteArray := method_7_code
def yL_same : MethodName := ⟨RL, "same", "(LTradeHall;LTradeHallLaw$Hall;)Z"⟩
abbrev cL_closes : ByteArray := method_8_code
def yL_closes : MethodName := ⟨RL, "closes", "(LTradeHallLaw$Hall;I)I"⟩
abbrev cL_goesOn : ByteArray := method_9_code
def yL_goesOn : MethodName := ⟨RL, "goesOn", "(ZII)Z"⟩
abbrev cL_law : ByteArray := code
def yL_law : MethodName := ⟨RL, "law", "([I)Z"⟩
abbrev vwCl : List vw_C := [(RX0, TX0, 11), (RX1, TX1, 13), (RX2, TX2, 3), (RX3, TX3, 2), (RX4, TX4, 3), (RX5, TX5, 3), (RX6, TX6, 2), (RX7, TX7, 7), (RX8, TX8, 11), (RX9, TX9, 12), (RX10, TX10, 9), (RJ0, TJ0, 4), (RJ4, TJ4, 4)]
end
section
/-! ===== values, memory, world: the abstract machine's words ===== -/
abbrev zV : Type := Int ⊕ (Int ⊕ (UInt64 ⊕ (Nat × Nat)))
abbrev zi (x : Int) : zV := .inl x
abbrev zl (x : Int) : zV := .inr (.inl x)
abbrev zd (x : UInt64) : zV := .inr (.inr (.inl x))
abbrev zr (k i : Nat) : zV := .inr (.inr (.inr (k, i)))
abbrev zn : zV := zr 63 1
abbrev zM : Type := Nat → Nat → Int → Int
def zu (M : zM) (k i : Nat) (j : Int) (x : Int) : zM := fun k' i' j' => if k' = k ∧ i' = i ∧ j' = j then x else M k' i' j'
theorem zu_s (M : zM) (k i : Nat) (j : Int) (x : Int) : zu M k i j x k i j = x := if_pos ⟨rfl, rfl, rfl⟩
theorem zu_n {M : zM} {k i k' i' : Nat} {j j' : Int} {x : Int} (h : ¬ (k' = k ∧ i' = i ∧ j' = j)) : zu M k i j x k' i' j' = M k' i' j' := if_neg h
-- a method: its name, code, locals, answer, frames and locals' words that it asks below it
abbrev zD : Type := MethodName × ByteArray × Nat × Option FieldType × Nat × Nat
-- a launch: classes, addresses, arrays' classes, the script, what was made behind the fixed cells, the first own address
abbrev zG : Type := va_G × (Nat → Nat → Nat) × (Nat → ClassId) × Nat × (Nat → Int32) × List (Nat × Nat) × Nat
abbrev zgo (g : zG) : List (Nat × Nat) := g.2.2.2.2.2.1
abbrev zgn (g : zG) : Nat := g.2.2.2.2.2.2
def dec (X : zD) (pc : Nat) : Except DecodeError (Instr × Nat) := decode X.2.1 pc
def zcntL : List Nat := [2, 14, 1, 1, 1, 1, 1, 1, 1, 0, 2, 2, 14, 14, 14, 14, 14, 14, 1, 1, 1, 1, 1, 1, 1, 1, 1, 0, 0, 0, 0, 0, 0, 0, 0, 0, 0, 0, 0, 0, 0, 0, 0, 0, 0, 0, 0, 0, 0, 0, 0, 0, 0, 0, 0, 0, 0, 0, 0, 0, 4, 16, 16, 2]
def zlayL : List (List (Option (Nat × Nat × Nat))) := [[some (10, 1, 0), some (11, 1, 0), none, none, none, none, none, none, none, none, none], [some (12, 1, 0), some (13, 1, 0), some (14, 1, 0), some (15, 1, 0), some (16, 1, 0), some (17, 1, 0), none, none, none, none, none, none, none], [some (18, 0, 0), none, none], [some (19, 0, 0), none], [some (20, 0, 0), some (21, 0, 0), none], [some (22, 0, 0), none, none], [some (23, 0, 0), none], [some (24, 0, 0), some (1, 0, 1), none, none, none, none, none], [some (1, 0, 0), some (7, 0, 0), some (2, 0, 0), some (6, 0, 0), some (3, 0, 0), some (0, 0, 0), some (0, 0, 1), some (4, 0, 0), some (5, 0, 0), some (25, 0, 0), some (26, 0, 0)], [], [], [], [], [], [], [], [], [], [], [], [], [], [], [], [], [], [], [], [], [], [], [], [], [], [], [], [], [], [], [], [], [], [], [], [], [], [], [], [], [], [], [], [], [], [], [], [], [], [], [], [], [], [], [], [none, none, none, none, none, none, none, some (70, 2, 0), some (71, 2, 0), some (72, 2, 0), some (73, 2, 0), some (74, 2, 0)], [some (76, 2, 0), some (76, 2, 0), none, none, none, none, none, none, none], [some (80, 2, 0), none, none, none], [some (80, 2, 0), none, none, none], [], [], [], [], [], [], [], [], [], [], [], [], []]
def zetyL : List Nat := [0, 0, 0, 0, 0, 0, 0, 0, 0, 0, 0, 0, 1, 0, 0, 0, 0, 0, 4, 0, 0, 0, 0, 4, 0, 0, 3, 0, 0, 0, 0, 0, 0, 0, 0, 0, 0, 0, 0, 0, 0, 0, 0, 0, 0, 0, 0, 0, 0, 0, 0, 0, 0, 0, 0, 0, 0, 0, 0, 0, 0, 0, 0, 0, 0, 0, 0, 0, 0, 0, 1, 0, 0, 0, 5, 0, 5, 0, 0, 0, 2]
def zlenL : List Nat := [0, 0, 0, 0, 0, 0, 0, 0, 0, 0, 80, 80, 20, 20, 20, 80, 20, 20, 10, 640, 20, 20, 81, 2, 400, 501, 81, 0, 0, 0, 0, 0, 0, 0, 0, 0, 0, 0, 0, 0, 0, 0, 0, 0, 0, 0, 0, 0, 0, 0, 0, 0, 0, 0, 0, 0, 0, 0, 0, 0, 0, 0, 0, 0, 0, 0, 0, 0, 0, 0, 21, 21, 21, 21, 21, 0, 81, 3, 21, 5, 0]
def zelL : List Nat := [0, 0, 0, 0, 0, 0, 0, 0, 0, 0, 0, 0, 0, 0, 0, 0, 0, 0, 0, 0, 0, 0, 0, 0, 0, 0, 0, 0, 0, 0, 0, 0, 0, 0, 0, 0, 0, 0, 0, 0, 0, 0, 0, 0, 0, 0, 0, 0, 0, 0, 0, 0, 0, 0, 0, 0, 0, 0, 0, 0, 0, 0, 0, 0, 0, 0, 0, 0, 0, 0, 0, 0, 0, 0, 75, 0, 77, 0, 0, 0, 0]
abbrev zkPast : Nat := 18
abbrev zsN : Nat := 16
def zsLen : List Nat := [5, 6, 3, 3, 3, 6, 4, 5, 6, 7, 4, 4, 1, 0, 5, 5]
def zsByt : List (List Int32) := [[98, 117, 121, 101, 114], [115, 101, 108, 108, 101, 114], [102, 101, 101], [108, 97, 119], [99, 117, 116], [109, 105, 100, 100, 108, 101], [108, 101, 115, 115], [97, 112, 97, 114, 116], [98, 117, 121, 101, 114, 32], [115, 101, 108, 108, 101, 114, 32], [102, 101, 101, 32], [108, 97, 119, 32], [59], [], [59, 102, 101, 101, 32], [59, 108, 97, 119, 32]]
def zsRefs : List (String × Nat × String × Nat) := [("TradeHall", 403, "middle", 5), ("TradeHall", 405, "less", 6), ("TradeHall", 407, "apart", 7), ("TradeHall", 409, "cut", 4), ("TradeHall$Letters", 26, "seller", 1), ("TradeHall$Letters", 28, "buyer", 0), ("TradeHall$Letters", 52, "fee", 2), ("TradeHall$Letters", 56, "law", 3), ("TradeHall$Tape", 59, "buyer", 0), ("TradeHall$Tape", 69, "seller", 1), ("TradeHall$Tape", 71, "fee", 2), ("TradeHall$Tape", 77, "law", 3), ("TradeHallLaw$Hall", 67, ";", 12), ("TradeHallLaw$Hall", 69, "", 13), ("TradeHallLaw$Hall", 75, "seller ", 9), ("TradeHallLaw$Hall", 77, "buyer ", 8), ("TradeHallLaw$Hall", 89, ";fee ", 14), ("TradeHallLaw$Hall", 91, "fee ", 10), ("TradeHallLaw$Hall", 93, ";law ", 15), ("TradeHallLaw$Hall", 95, "law ", 11), ("TradeHallLaw$Hall", 97, "middle", 5), ("TradeHallLaw$Hall", 99, "less", 6), ("TradeHallLaw$Hall", 101, "apart", 7)]
def zDigs : List (String × Nat × (Nat → Int)) := [("DigitTens", 2, fun j => 48 + (j : Int) / 10), ("DigitOnes", 3, fun j => 48 + (j : Int) % 10)]
abbrev k_bids : Nat := 10
abbrev k_asks : Nat := 11
abbrev k_hSells : Nat := 12
abbrev k_hGrades : Nat := 13
abbrev k_hUnits : Nat := 14
abbrev k_hSays : Nat := 15
abbrev k_hPurses : Nat := 16
abbrev k_hTraded : Nat := 17
abbrev k_past : Nat := 18
abbrev k_lBytes : Nat := 19
abbrev k_rOrder : Nat := 20
abbrev k_rGains : Nat := 21
abbrev k_sMost : Nat := 22
abbrev k_shHalls : Nat := 23
abbrev k_tBytes : Nat := 24
abbrev k_byFee : Nat := 25
abbrev k_ways : Nat := 26
def zcnt (k : Nat) : Nat := zcntL.getD k 0
def zlay (k : Nat) : List (Option (Nat × Nat × Nat)) := zlayL.getD k []
/-- element kinds: 0 int, 1 boolean, 2 byte, 3 long, 4 halls, 5 rows of ints -/
def zety (k : Nat) : Nat := zetyL.getD k 0
def zlen (k : Nat) : Nat := zlenL.getD k 0
def zel (k : Nat) : Nat := zelL.getD k 0
def zoff (k : Nat) : Nat := if k = zkPast then 2 else 12
/-- kinds of objects; their place among the classes -/
abbrev zob (k : Nat) : Prop := k < 10 ∨ (64 ≤ k ∧ k < 68)
def zci (k : Nat) : Nat := if k < 10 then k else k - 55
/-- how long an array is -/
def zln (M : zM) (k i : Nat) : Nat := if zlen k = 0 then (M k i (-1)).toNat else zlen k
def zlocs : List (Nat × Nat) := (List.range 60).flatMap fun k => (List.range (zcnt k)).map fun i => (k, i)
theorem zlocs_mem {k i : Nat} : (k, i) ∈ zlocs ↔ k < 60 ∧ i < zcnt k := by
  simp [zlocs, List.mem_flatMap]
theorem zlocs_nodup : zlocs.Nodup := by decide +kernel
abbrev zall (g : zG) : List (Nat × Nat) := zlocs ++ zgo g
def zcv (g : zG) : zV → Value
  | .inl x => .int (Int32.ofInt x)
  | .inr (.inl x) => .long (Int64.ofInt x)
  | .inr (.inr (.inl x)) => .double x
  | .inr (.inr (.inr (k, i))) => if k = 63 then (if i = 0 then (if g.2.1 63 0 = 0 then .null else .ref (g.2.1 60 1)) else .null) else .ref (g.2.1 k i)
def zok (g : zG) : zV → Prop
  | .inr (.inr (.inr (k, i))) => if 60 ≤ k ∧ k < 64 then i < zcnt k else (k, i) ∈ zall g
  | _ => True
/-- a reference kept as a number: its place in its kind, below 0 null -/
def zdo (g : zG) (k : Nat) (r : Int) : Option Nat := if r < 0 then none else some (g.2.1 k r.toNat)
def zfv (g : zG) (M : zM) (k i j : Nat) (o : Option (Nat × Nat × Nat)) : Value := match o with
  | none => .int (Int32.ofInt (M k i j))
  | some (k', a, b) => if a = 2 then va_rf (zdo g k' (M k i j)) else .ref (g.2.1 k' (a * i + b))
def zfl (g : zG) (M : zM) (k i : Nat) : List Value := (zlay k).mapIdx (fun j o => zfv g M k i j o)
def zarr (g : zG) (M : zM) (k i : Nat) : (Nat → Int32) ⊕ (Nat → Int64) ⊕ (Nat → UInt32) ⊕ (Nat → UInt64) ⊕ (Nat → Option Nat) :=
  if zety k = 3 then .inr (.inl fun j => Int64.ofInt (M k i j)) else if zety k = 4 then .inr (.inr (.inr (.inr fun j => some (g.2.1 1 (j + zoff k))))) else
  if zety k = 5 then .inr (.inr (.inr (.inr fun j => zdo g (zel k) (M k i j)))) else .inl fun j => Int32.ofInt (M k i j)
def zent (g : zG) (M : zM) (k i : Nat) : va_E := if zob k then .inr (zci k, zfl g M k i) else .inl (g.2.2.1 (zety k), zln M k i, zarr g M k i)
def zws (g : zG) (M : zM) : va_W := (zall g).map fun q => (g.2.1 q.1 q.2, zent g M q.1 q.2)
def zA (g : zG) (q : Nat) : Prop := zgn g ≤ q
def ztys (g : zG) : List (ClassId × FieldType) := [(g.2.2.1 0, .int), (g.2.2.1 1, .boolean), (g.2.2.1 2, .byte), (g.2.2.1 3, .long), (g.2.2.1 4, .object "TradeHall$Hall"), (g.2.2.1 5, .array .int)]
/-- places that hold references as numbers: the kind that they mean -/
def zrp (k : Nat) (j : Int) : Option Nat := if zety k = 5 then some (zel k) else match (zlay k)[j.toNat]? with
  | some (some (k', a, _)) => if a = 2 then some k' else none
  | _ => none
/-- such numbers are below their kind's count -/
def zRV (M : zM) : Prop := ∀ (k i : Nat) (j : Int) (k' : Nat), (64 ≤ k ∧ k < 96) → (i : Int) < M 97 0 k → 0 ≤ j → zrp k j = some k' → M k i j < M 97 0 k'
/-- what was made: each kind's in a row from 0 on; row 97 counts them -/
def zO (g : zG) (M : zM) : Prop := (zgo g).Nodup ∧ (∀ k i : Nat, (k, i) ∈ zgo g ↔ ((64 ≤ k ∧ k < 96) ∧ (i : Int) < M 97 0 k)) ∧ zRV M ∧ ∀ k : Nat, 0 ≤ M 97 0 k
def zW (g : zG) (M : zM) (H : Heap) : Prop := va_P g.1 vwCl (zws g M) H ∧ va_D (zA g) (zws g M) ∧ zO g M
def zTB : List Cond := lw_tbl.filter goodWord
theorem zin {w : Cond} (h : w ∈ lw_tbl) (hg : goodWord w = true) : w ∈ zTB := List.mem_filter.mpr ⟨h, hg⟩
theorem zin_t {w : Cond} (h : w ∈ tables_1) (hg : goodWord w = true) : w ∈ zTB := zin (List.mem_append_right _ h) hg
theorem zin_p {w : Cond} (h : w ∈ k2_sels lw_privs) (hg : goodWord w = true) : w ∈ zTB := zin (List.mem_append_left _ h) hg
-- nest mates' words, words on casts and faces, strings
def zisN : Cond → Bool
  | .fieldLinkNest .. => true
  | .methodLinkNest .. => true
  | .castable .. => true
  | _ => false
def znest : List Cond := tables_1.filter zisN
theorem znest_warm {s U : State} (hW : s.WarmedH U.vm) (h : ∀ w ∈ znest, va_Nw w s) : ∀ w ∈ znest, va_Nw w U := by
  intro w hw
  have h1 := h w hw
  have h2 := (List.mem_filter.mp hw).2
  cases w <;> first | (cases h2; done) | exact va_Nw.warmF hW h1 | exact va_Nw.warmM hW h1 | exact va_Nw.warmC hW h1
abbrev zsA (g : zG) : Nat → Nat := g.2.1 61
abbrev zsV (g : zG) : Nat → Nat := g.2.1 62
/-- arrays of int rows can be made -/
def zAI (U : State) : Prop := ∃ (comp c : ClassId) (k : Class), U.vm.findClass "[I" = some comp ∧ (U.vm.classes.findIdx? fun (x : Class) => match x.kind with | .array component _ => component == comp | _ => false) = some c ∧ U.vm.classes[c]? = some k ∧ k.kind = .array comp (.array .int) ∧ U.vm.findClass "[[I" = some c
/-- the faces of a text -/
def zFc (U : State) : Prop := va_Fw "java/lang/String" ⟨"java/lang/CharSequence", "length", "()I"⟩ yJ0_length_8abf5 U ∧ va_Fw "java/lang/String" ⟨"java/lang/CharSequence", "charAt", "(I)C"⟩ yJ0_charAt_5068e U
theorem zFc.moved {u U : State} (hvm : u.vm.Alike U.vm) (h : zFc u) : zFc U := ⟨va_Fw.moved (by decide +kernel) hvm h.1, va_Fw.moved (by decide +kernel) hvm h.2⟩
/-- what stands beside the world: classes, words, strings, the script, the faces of texts, the digits -/
def zK (g : zG) (U : State) (H : Heap) : Prop :=
  va_K g.1 vwCl (ztys g) U ∧ (∀ w ∈ znest, va_Nw w U) ∧ vk_S zsN zsLen zsByt (zsA g) (zsV g) (zA g) U H ∧ (∀ q ∈ zsRefs, vk_R q.1 q.2.1 q.2.2.1 (zsA g q.2.2.2) U) ∧
  va_Z "java/lang/String" "COMPACT_STRINGS" "Z" (.int 1) (zA g) U H ∧
  va_X (g.2.1 60 0) g.2.2.2.1 g.2.2.2.2.1 U H ∧ va_Z "jdk/internal/util/Preconditions" "SIOOBE_FORMATTER" "Ljava/util/function/BiFunction;" (zcv g (zr 63 0)) (zA g) U H ∧ g.2.1 60 0 < H.size ∧ ¬ zA g (g.2.1 60 0) ∧
  zAI U ∧ zFc U ∧
  (∀ q ∈ zDigs, va_Z "java/lang/Integer" q.1 "[B" (.ref (g.2.1 60 q.2.1)) (zA g) U H ∧ va_T .byte (g.2.1 60 q.2.1) 100 (fun j => .int (Int32.ofInt (q.2.2 j))) (zA g) U H)
theorem zAI.moved {u U : State} (hvm : u.vm.Alike U.vm) (h : zAI u) : zAI U := by
  obtain ⟨comp, c, k, h1, h2, h3, h4, h5⟩ := h
  obtain ⟨k', hk', he⟩ := hvm.2.2 _ _ h3
  refine ⟨comp, c, k', by rw [hvm.findClass]; exact h1, ?_, hk', by rw [he]; exact h4, by rw [hvm.findClass]; exact h5⟩
  rw [hvm.findIdx?_eq _ (fun _ => rfl)]
  exact h2
theorem zK.mv {g : zG} {s U : State} {H0 H : Heap} (h : zK g s H0) (ha : s.vm.Alike U.vm) (hN : ∀ w ∈ znest, va_Nw w U) (hR : ∀ q ∈ zsRefs, vk_R q.1 q.2.1 q.2.2.1 (zsA g q.2.2.2) U) (hz : H0.size ≤ H.size) (hS : ∀ q : Nat, q < H0.size → ¬ zA g q → H[q]? = H0[q]?) : zK g U H := by
  obtain ⟨h1, -, h3, -, h5, h6, h7, h8, h9, h10, h11, h12⟩ := h
  exact ⟨h1.moved ha, hN, (h3.moved ha).kept hS, hR, (h5.moved ha).kept hS, (h6.moved ha).kept (hS _ h8 h9), (h7.moved ha).kept hS, Nat.lt_of_lt_of_le h8 hz, h9, h10.moved ha, h11.moved ha, fun q hq => ⟨((h12 q hq).1.moved ha).kept hS, ((h12 q hq).2.moved ha).kept hS⟩⟩
theorem zK.go {g : zG} {s U : State} {H0 H : Heap} {locs : List Loc} (h : zK g s H0) (hW : s.WarmedH U.vm) (hS : va_S (zA g) H0 H locs) : zK g U H :=
  h.mv hW.alike (znest_warm hW h.2.1) (fun q hq => vk_R.warm hW (h.2.2.2.1 q hq)) hS.1 hS.2.1
/-- more was made -/
def zX (g g' : zG) : Prop := g'.1 = g.1 ∧ g'.2.2.1 = g.2.2.1 ∧ g'.2.2.2.1 = g.2.2.2.1 ∧ g'.2.2.2.2.1 = g.2.2.2.2.1 ∧ zgn g' = zgn g ∧ (∀ x ∈ zgo g, x ∈ zgo g') ∧ ∀ k i : Nat, (k < 64 ∨ (k, i) ∈ zgo g) → g'.2.1 k i = g.2.1 k i
theorem zX.rf {g : zG} : zX g g := ⟨rfl, rfl, rfl, rfl, rfl, fun _ h => h, fun _ _ _ => rfl⟩
theorem zX.tr {g g1 g2 : zG} (a : zX g g1) (b : zX g1 g2) : zX g g2 := by
  obtain ⟨a1, a2, a3, a4, a5, a6, a7⟩ := a
  obtain ⟨b1, b2, b3, b4, b5, b6, b7⟩ := b
  exact ⟨b1.trans a1, b2.trans a2, b3.trans a3, b4.trans a4, b5.trans a5, fun x h => b6 x (a6 x h), fun k i h => (b7 k i (h.imp_right (a6 _))).trans (a7 k i h)⟩
theorem zX.A {g g' : zG} (h : zX g g') : zA g' = zA g := by
  funext q
  unfold zA
  rw [h.2.2.2.2.1]
theorem zX.ok {g g' : zG} (h : zX g g') {v : zV} (hv : zok g v) : zok g' v := by
  rcases v with x | x | x | ⟨k, i⟩
  · trivial
  · trivial
  · trivial
  · show if 60 ≤ k ∧ k < 64 then i < zcnt k else (k, i) ∈ zall g'
    have hv' : if 60 ≤ k ∧ k < 64 then i < zcnt k else (k, i) ∈ zall g := hv
    split
    · next c => rw [if_pos c] at hv'; exact hv'
    · next c =>
      rw [if_neg c] at hv'
      rcases List.mem_append.mp hv' with q | q
      · exact List.mem_append_left _ q
      · exact List.mem_append_right _ (h.2.2.2.2.2.1 _ q)
theorem zX.cv {g g' : zG} (h : zX g g') {v : zV} (hv : zok g v) : zcv g' v = zcv g v := by
  rcases v with x | x | x | ⟨k, i⟩
  · rfl
  · rfl
  · rfl
  · have e := h.2.2.2.2.2.2
    show (if k = 63 then (if i = 0 then (if g'.2.1 63 0 = 0 then Value.null else Value.ref (g'.2.1 60 1)) else Value.null) else Value.ref (g'.2.1 k i)) = (if k = 63 then (if i = 0 then (if g.2.1 63 0 = 0 then Value.null else Value.ref (g.2.1 60 1)) else Value.null) else Value.ref (g.2.1 k i))
    rw [e 63 0 (.inl (by decide)), e 60 1 (.inl (by decide))]
    by_cases c : k = 63
    · rw [if_pos c, if_pos c]
    · rw [if_neg c, if_neg c]
      have hv' : if 60 ≤ k ∧ k < 64 then i < zcnt k else (k, i) ∈ zall g := hv
      by_cases c2 : k < 64
      · rw [e k i (.inl c2)]
      · rw [if_neg (by omega)] at hv'
        rcases List.mem_append.mp hv' with q | q
        · exact absurd (zlocs_mem.mp q).1 (by omega)
        · rw [e k i (.inr q)]
theorem zX.K {g g' : zG} (h : zX g g') {U : State} {H : Heap} (k : zK g U H) : zK g' U H := by
  have eA := h.A
  obtain ⟨a1, a2, a3, a4, a5, a6, a7⟩ := h
  have e61 : zsA g' = zsA g := by funext i; exact a7 61 i (.inl (by decide))
  have e62 : zsV g' = zsV g := by funext i; exact a7 62 i (.inl (by decide))
  have e63 : zcv g' (zr 63 0) = zcv g (zr 63 0) := by
    show (if g'.2.1 63 0 = 0 then Value.null else Value.ref (g'.2.1 60 1)) = (if g.2.1 63 0 = 0 then Value.null else Value.ref (g.2.1 60 1))
    rw [a7 63 0 (.inl (by decide)), a7 60 1 (.inl (by decide))]
  have et : ztys g' = ztys g := by unfold ztys; rw [a2]
  unfold zK at k ⊢
  have e60 : ∀ q ∈ zDigs, g'.2.1 60 q.2.1 = g.2.1 60 q.2.1 := fun q _ => a7 60 q.2.1 (.inl (by decide))
  rw [a1, et, e61, e62, e63, eA, a3, a4, a7 60 0 (.inl (by decide))]
  obtain ⟨k1, k2, k3, k4, k5, k6, k7, k8, k9, k10, k11, k12⟩ := k
  exact ⟨k1, k2, k3, k4, k5, k6, k7, k8, k9, k10, k11, fun q hq => by rw [e60 q hq]; exact k12 q hq⟩
-- the judgement
abbrev zT : Type := Room × Nat × Nat × (zG → State → Array Value → List Frame → State → Prop)
def zPo (T : zT) (g : zG) (s : State) (args : Array Value) (below : List Frame) : State → Prop := fun t => ∃ g', zX g g' ∧ T.2.2.2 g' s args below t
def zC (X : zD) (T : zT) (g : zG) (p : Program) (s : State) (m : MethodId) (args : Array Value) (meth : Method) (c : Code) : Prop :=
  p.tables.exec = Jvm.exec ∧ c.code = X.2.1 ∧ c.maxLocals = X.2.2.1 ∧ s.vm.findClass X.1.cls = some m.cls ∧ (∀ w ∈ zTB, w.before args s = true) ∧ meth.sig.returnType = X.2.2.2.1 ∧ meth.locks = false ∧ zK g s s.heap ∧ (meth.name = X.1.name ∧ zgn g ≤ s.heap.size) ∧ T.2.1 ≤ T.1.cells ∧ T.2.2.1 ≤ T.1.slots
def zlv (g : zG) (lv : List (Nat × zV)) : List (Nat × Value) := lv.map fun q => (q.1, zcv g q.2)
def AW (l : Launch) (X : zD) (T : zT) (pc : Nat) (lv : List (Nat × zV)) (st : List zV) (M : zM) : Prop :=
  ∀ (g : zG) (p : Program) (e : Jvm.Env) (s : State) (m : MethodId) (args : Array Value) (below : List Frame) (meth : Method) (c : Code) (H : Heap) (locs : List Loc) (ls : Array Slot),
    zC X T g p s m args meth c → zW g M H → va_S (zA g) s.heap H locs → lv_has ls X.2.2.1 (zlv g lv) → (∀ q ∈ lv, zok g q.2) → (∀ v ∈ st, zok g v) →
    W p l e T.1 s m args below meth c H locs T.2.1 T.2.2.1 (zPo T g s args below) (F0 m pc ls (st.map (zcv g)))
theorem zWm {p : Program} {l : Launch} {e : Jvm.Env} {R : Room} {s : State} {m : MethodId} {args : Array Value} {below : List Frame} {meth : Method} {c : Code} {H : Heap} {locs : List Loc} {cells slots : Nat} {Q Q' : State → Prop} {f : JFrame} (k : W p l e R s m args below meth c H locs cells slots Q f) (h : ∀ t, Q t → Q' t) : W p l e R s m args below meth c H locs cells slots Q' f := by
  intro T hT hX
  obtain ⟨t, a, b⟩ := k T hT hX
  exact ⟨t, a, h t b⟩
theorem zX.lv {g g' : zG} (h : zX g g') {lv : List (Nat × zV)} (ho : ∀ q ∈ lv, zok g q.2) : zlv g' lv = zlv g lv := by
  unfold zlv
  refine List.map_congr_left fun q hq => ?_
  rw [h.cv (ho q hq)]
theorem zX.st {g g' : zG} (h : zX g g') {st : List zV} (ho : ∀ v ∈ st, zok g v) : st.map (zcv g') = st.map (zcv g) :=
  List.map_congr_left fun v hv => h.cv (ho v hv)
theorem zX.C {g g' : zG} (h : zX g g') {X : zD} {T : zT} {p : Program} {s : State} {m : MethodId} {args : Array Value} {meth : Method} {c : Code} (k : zC X T g p s m args meth c) : zC X T g' p s m args meth c := by
  obtain ⟨h1, h2, h3, h4, h5, h6, h7, h8, h9, h10⟩ := k
  exact ⟨h1, h2, h3, h4, h5, h6, h7, h.K h8, ⟨h9.1, by rw [h.2.2.2.2.1]; exact h9.2⟩, h10⟩
/-- the walk goes on where more was made -/
theorem zPo.of {T : zT} {g g' : zG} {s : State} {args : Array Value} {below : List Frame} (h : zX g g') : ∀ t, zPo T g' s args below t → zPo T g s args below t := by
  rintro t ⟨g2, h2, k⟩
  exact ⟨g2, h.tr h2, k⟩
end
section
/-! ===== rows: fields ===== -/
theorem zO_nd {g : zG} {M : zM} (h : zO g M) : (zall g).Nodup := by
  rw [List.nodup_append]
  refine ⟨zlocs_nodup, h.1, ?_⟩
  rintro ⟨k, i⟩ h1 ⟨k2, i2⟩ h2 e
  cases e
  have a := (zlocs_mem.mp h1).1
  have b := ((h.2.1 k i).mp h2).1
  omega
theorem zRV.u {M : zM} {k i : Nat} {j x : Int} (h : zRV M) (hk : k ≠ 97) (hx : ∀ k', zrp k j = some k' → x < M 97 0 k') : zRV (zu M k i j x) := by
  intro k2 i2 j2 k' h1 h2 h3 h4
  have e : ∀ q : Int, zu M k i j x 97 0 q = M 97 0 q := fun q => if_neg fun z => hk z.1.symm
  rw [e] at h2 ⊢
  by_cases c : k2 = k ∧ i2 = i ∧ j2 = j
  · obtain ⟨rfl, rfl, rfl⟩ := c
    rw [zu_s]
    exact hx k' h4
  · rw [zu_n c]
    exact h k2 i2 j2 k' h1 h2 h3 h4
theorem zO.u {g : zG} {M M' : zM} (h : zO g M) (e : ∀ k, M' 97 0 k = M 97 0 k) (hv : zRV M') : zO g M' := ⟨h.1, fun k i => by rw [e]; exact h.2.1 k i, hv, fun k => by rw [e]; exact h.2.2.2 k⟩
theorem zO.uu {g : zG} {M : zM} {k i : Nat} {j x : Int} (h : zO g M) (hk : k ≠ 97) (hx : ∀ k', zrp k j = some k' → x < M 97 0 k') : zO g (zu M k i j x) := h.u (fun q => if_neg fun z => hk z.1.symm) (h.2.2.1.u hk hx)
theorem zlay_na {k : Nat} (h : ¬ zob k) : zlay k = [] := by
  have h1 : ∀ n, n < 81 → (n < 10 ∨ (64 ≤ n ∧ n < 68)) ∨ zlayL.getD n [] = [] := by decide +kernel
  by_cases c : k < 81
  · exact (h1 k c).resolve_left h
  · unfold zlay
    rw [List.getD_eq_getElem?_getD, List.getElem?_eq_none (by have : zlayL.length = 81 := by decide +kernel
                                                              omega)]
    rfl
theorem zety_ob {k : Nat} (h : zob k) : zety k ≠ 5 := by
  have h1 : ∀ n, n < 68 → zetyL.getD n 0 ≠ 5 := by decide +kernel
  exact h1 k (by unfold zob at h; omega)
theorem zrp_na {k : Nat} {j : Int} (h : ¬ zob k) (h5 : zety k ≠ 5) : zrp k j = none := by
  unfold zrp
  rw [if_neg h5, zlay_na h]
  rfl
theorem zrp_no {k : Nat} {j : Nat} (h : zob k) (hl : (zlay k)[j]? = some none) : zrp k (j : Int) = none := by
  unfold zrp
  rw [if_neg (zety_ob h), Int.toNat_natCast, hl]
theorem zrp_r {k j k' b : Nat} (h : zob k) (hl : (zlay k)[j]? = some (some (k', 2, b))) : zrp k (j : Int) = some k' := by
  unfold zrp
  rw [if_neg (zety_ob h), Int.toNat_natCast, hl]
  rfl
theorem zok_in {g : zG} {k i : Nat} (hk : ¬ (60 ≤ k ∧ k < 64)) (h : zok g (zr k i)) : (k, i) ∈ zall g := by
  have h' : if 60 ≤ k ∧ k < 64 then i < zcnt k else (k, i) ∈ zall g := h
  rwa [if_neg hk] at h'
theorem zok_of {g : zG} {k i : Nat} (hk : ¬ (60 ≤ k ∧ k < 64)) (h : (k, i) ∈ zall g) : zok g (zr k i) := by
  show if 60 ≤ k ∧ k < 64 then i < zcnt k else (k, i) ∈ zall g
  rw [if_neg hk]; exact h
theorem zok_s {g : zG} {k i : Nat} (hk : k < 60) (h : i < zcnt k) : zok g (zr k i) := zok_of (by omega) (List.mem_append_left _ (zlocs_mem.mpr ⟨hk, h⟩))
theorem zok_n {g : zG} {k i : Nat} (hk : 60 ≤ k ∧ k < 64) (h : i < zcnt k) : zok g (zr k i) := by
  show if 60 ≤ k ∧ k < 64 then i < zcnt k else (k, i) ∈ zall g
  rw [if_pos hk]; exact h
theorem zok_c {g : zG} {M : zM} (hO : zO g M) {k i : Nat} (hk : k < 60) (h : zok g (zr k i)) : i < zcnt k := by
  rcases List.mem_append.mp (zok_in (by omega) h) with q | q
  · exact (zlocs_mem.mp q).2
  · have := ((hO.2.1 k i).mp q).1; omega
theorem zok_d {g : zG} {M : zM} (hO : zO g M) {k : Nat} {r : Int} (hk : 64 ≤ k ∧ k < 96) (h : 0 ≤ r ∧ r < M 97 0 k) : zok g (zr k r.toNat) := by
  refine zok_of (by omega) (List.mem_append_right _ ((hO.2.1 k r.toNat).mpr ⟨hk, ?_⟩))
  rw [Int.toNat_of_nonneg h.1]; exact h.2
theorem zws_at {g : zG} {k i : Nat} (hk : ¬ (60 ≤ k ∧ k < 64)) (h : zok g (zr k i)) : ∃ n : Nat, (zall g)[n]? = some (k, i) := List.getElem?_of_mem (zok_in hk h)
theorem zws_get {g : zG} {M : zM} {k i n : Nat} (h : (zall g)[n]? = some (k, i)) : (zws g M)[n]? = some (g.2.1 k i, zent g M k i) := by
  unfold zws
  rw [List.getElem?_map, h]
  rfl
theorem zent_congr {g : zG} {M M' : zM} {k i : Nat} (h : M k i = M' k i) : zent g M k i = zent g M' k i := by
  unfold zent zfl zarr zfv zln
  rw [h]
theorem zws_set {g : zG} {M M' : zM} {k i n : Nat} (hO : zO g M) (h : (zall g)[n]? = some (k, i)) (hM : ∀ k' i', ¬ (k' = k ∧ i' = i) → M' k' i' = M k' i') : (zws g M).set n (g.2.1 k i, zent g M' k i) = zws g M' := by
  refine List.ext_getElem? fun n' => ?_
  have hlt : n < (zall g).length := (List.getElem?_eq_some_iff.mp h).1
  by_cases hn : n' = n
  · subst hn
    rw [List.getElem?_set_self (by unfold zws; rw [List.length_map]; exact hlt), zws_get h]
  · rw [List.getElem?_set_ne (Ne.symm hn)]
    cases hq : (zall g)[n']? with
    | none => unfold zws; rw [List.getElem?_map, List.getElem?_map, hq]; rfl
    | some q =>
      obtain ⟨k', i'⟩ := q
      rw [zws_get hq, zws_get hq]
      have hne : ¬ (k' = k ∧ i' = i) := by
        rintro ⟨rfl, rfl⟩
        have hl' : n' < (zall g).length := (List.getElem?_eq_some_iff.mp hq).1
        have e1 := (List.getElem?_eq_some_iff.mp hq).2
        have e2 := (List.getElem?_eq_some_iff.mp h).2
        exact hn ((List.getElem_inj (zO_nd hO)).mp (e1.trans e2.symm))
      rw [zent_congr (hM k' i' hne).symm]
theorem zu_o {M : zM} {k i : Nat} {j x : Int} : ∀ k' i', ¬ (k' = k ∧ i' = i) → zu M k i j x k' i' = M k' i' := by
  intro k' i' h
  funext j'
  exact if_neg fun q => h ⟨q.1, q.2.1⟩
theorem zu_97 {M : zM} {k i : Nat} {j x : Int} (hk : k ≠ 97) : ∀ k', zu M k i j x 97 0 k' = M 97 0 k' := fun _ => if_neg fun q => hk q.1.symm
theorem zcv_r {g : zG} {k i : Nat} (h : k ≠ 63) : zcv g (zr k i) = .ref (g.2.1 k i) := if_neg h
theorem zk_ne {k : Nat} (h : k < 60) : k ≠ 63 := by omega
theorem zci_lt {k : Nat} (h : k < 10) : zci k = k := if_pos h
theorem zent_ob {g : zG} {M : zM} {k i : Nat} (hk : zob k) : zent g M k i = .inr (zci k, zfl g M k i) := if_pos hk
/-- the pool entry ix of the class own is the field k of the class kd -/
def zFL (own : String) (ix kd k : Nat) : Prop := ∃ (C : String) (T : u_T) (N : Nat), vwCl[zci kd]? = some (C, T, N) ∧ zob kd ∧ k < N ∧ (∀ w ∈ u_ws C T N, w ∈ zTB) ∧
  (Cond.fieldLink own ix (T k).1 (T k).2.1 (T k).2.2.1 ∈ zTB ∨ ∃ host, Cond.fieldLinkNest own ix (T k).1 (T k).2.1 (T k).2.2.1 host ∈ znest)
/-- it may be written; ty: its type -/
def zFP (own : String) (ix kd k : Nat) (ty : FieldType) : Prop := ∃ (C : String) (T : u_T) (N : Nat) (ty0 : Nat → FieldType), vwCl[zci kd]? = some (C, T, N) ∧ zob kd ∧ k < N ∧ (∀ w ∈ u_ws C T N, w ∈ zTB) ∧
  (Cond.fieldLink own ix (T k).1 (T k).2.1 (T k).2.2.1 ∈ zTB ∨ ∃ host, Cond.fieldLinkNest own ix (T k).1 (T k).2.1 (T k).2.2.1 host ∈ znest) ∧ (T k).2.2.2 = false ∧ parseFieldDescriptor (T k).2.2.1 = some ty ∧
  (∀ k, k < N → parseFieldDescriptor (T k).2.2.1 = some (ty0 k)) ∧ (∀ a, a < N → ∀ b, b < N → a ≠ b → (T a).2.1 ≠ (T b).2.1)
/-- a final field, written in the constructor -/
def zFF (own : String) (ix kd k : Nat) (ty : FieldType) : Prop := ∃ (C : String) (T : u_T) (N : Nat) (ty0 : Nat → FieldType), vwCl[zci kd]? = some (C, T, N) ∧ zob kd ∧ k < N ∧ (∀ w ∈ u_ws C T N, w ∈ zTB) ∧
  Cond.fieldLink own ix (T k).1 (T k).2.1 (T k).2.2.1 ∈ zTB ∧ (T k).2.2.2 = true ∧ (T k).1 = own ∧ parseFieldDescriptor (T k).2.2.1 = some ty ∧
  (∀ k, k < N → parseFieldDescriptor (T k).2.2.1 = some (ty0 k)) ∧ (∀ a, a < N → ∀ b, b < N → a ≠ b → (T a).2.1 ≠ (T b).2.1)
section
variable {l : Launch} {X : zD} {T : zT} {pc pc' : Nat} {lv lv' : List (Nat × zV)} {st st' : List zV} {M M' : zM}
/-- a step that changes neither heap nor locals -/
theorem AW.go (hok : ∀ g, (∀ v ∈ st, zok g v) → (∀ q ∈ lv, zok g q.2) → ∀ v ∈ st', zok g v)
    (h : ∀ (g : zG) (p : Program) (e : Jvm.Env) (s : State) (m : MethodId) (args : Array Value) (below : List Frame) (meth : Method) (c : Code) (H : Heap) (locs : List Loc) (ls : Array Slot) (Q : State → Prop),
      zC X T g p s m args meth c → zW g M H → va_S (zA g) s.heap H locs → lv_has ls X.2.2.1 (zlv g lv) → (∀ v ∈ st, zok g v) → W p l e T.1 s m args below meth c H locs T.2.1 T.2.2.1 Q (F0 m pc' ls (st'.map (zcv g))) → W p l e T.1 s m args below meth c H locs T.2.1 T.2.2.1 Q (F0 m pc ls (st.map (zcv g))))
    (kk : AW l X T pc' lv st' M) : AW l X T pc lv st M := by
  intro g p e s m args below meth c H locs ls hC hW hS hlv hol host
  exact h g p e s m args below meth c H locs ls _ hC hW hS hlv host (kk g p e s m args below meth c H locs ls hC hW hS hlv hol (hok g host hol))
theorem zob_n {k : Nat} (h : zob k) : ¬ (60 ≤ k ∧ k < 64) ∧ k ≠ 63 := by unfold zob at h; omega
/-- a field read: whatever it holds -/
theorem aw_getv {ix kd k i : Nat} {v : zV} {o : Option (Nat × Nat × Nat)} (hd : dec X pc = .ok (.getfield ix, 3)) (hp : pc + 3 = pc') (hf : zFL X.1.cls ix kd k) (hl : (zlay kd)[k]? = some o)
    (hv : ∀ g, zO g M → zok g (zr kd i) → zfv g M kd i k o = zcv g v ∧ zok g v) (kk : AW l X T pc' lv (v :: st) M) : AW l X T pc lv (zr kd i :: st) M := by
  subst hp
  intro g p e s m args below meth c H locs ls hC hW hS hlv hol host
  have hkk := kk g p e s m args below meth c H locs ls hC hW hS hlv hol (fun w hw => (List.mem_cons.mp hw).elim (fun q => q ▸ (hv g hW.2.2 (host _ List.mem_cons_self)).2) (fun q => host w (List.mem_cons_of_mem _ q)))
  obtain ⟨C, TT, N, hc, hkd, hkN, hin, hlink⟩ := hf
  have hn0 := zob_n hkd
  obtain ⟨n, hn⟩ := zws_at hn0.1 (host (zr kd i) List.mem_cons_self)
  have he : (zws g M)[n]? = some (g.2.1 kd i, .inr (zci kd, zfl g M kd i)) := by rw [zws_get hn, zent_ob hkd]
  have hv2 : (zfl g M kd i)[k]? = some (zcv g v) := by
    rw [← (hv g hW.2.2 (host _ List.mem_cons_self)).1]
    simp [zfl, List.getElem?_mapIdx, hl]
  obtain ⟨hx, hb, hml, hown, hts, -, -, hK, -⟩ := hC
  rw [List.map_cons, zcv_r hn0.2]
  rcases hlink with hlink | ⟨host', hlink⟩
  · exact va_get (T := TT) (N := N) (ref := (TT k).1) hx hb hts hin hown hK.1 hW.1 n he hc k hkN (hts _ hlink) (fun x h => h) hv2 hd hkk
  · exact va_getN (T := TT) (N := N) (ref := (TT k).1) (host := host') hx hb hts hin hown hK.1 hW.1 n he hc k hkN (va_Nw.use rfl (hK.2.1 _ hlink)) (fun x h => h) hv2 hd hkk
theorem aw_getI {ix kd k i : Nat} {kc : Int} (hd : dec X pc = .ok (.getfield ix, 3)) (hp : pc + 3 = pc') (hf : zFL X.1.cls ix kd k) (hl : (zlay kd)[k]? = some none) (hkc : (k : Int) = kc) (kk : AW l X T pc' lv (zi (M kd i kc) :: st) M) : AW l X T pc lv (zr kd i :: st) M := by
  subst hkc
  exact aw_getv (v := zi (M kd i k)) hd hp hf hl (fun g _ _ => ⟨rfl, trivial⟩) kk
theorem aw_getR {ix kd k i k' a b j : Nat} (hd : dec X pc = .ok (.getfield ix, 3)) (hp : pc + 3 = pc') (hf : zFL X.1.cls ix kd k) (hl : (zlay kd)[k]? = some (some (k', a, b))) (hj : a * i + b = j) (hz : k' < 60 ∧ (i < zcnt kd → j < zcnt k')) (ha : a ≠ 2 ∧ kd < 60) (kk : AW l X T pc' lv (zr k' j :: st) M) : AW l X T pc lv (zr kd i :: st) M := by
  refine aw_getv hd hp hf hl (fun g hO ho => ⟨?_, ?_⟩) kk
  · rw [zcv_r (by omega), zfv, if_neg ha.1, hj]
  · exact zok_s hz.1 (hz.2 (zok_c hO ha.2 ho))
/-- a reference that is kept as a number -/
theorem aw_getD {ix kd k i k' b : Nat} {kc : Int} (hd : dec X pc = .ok (.getfield ix, 3)) (hp : pc + 3 = pc') (hf : zFL X.1.cls ix kd k) (hl : (zlay kd)[k]? = some (some (k', 2, b))) (hkc : (k : Int) = kc) (hk : 64 ≤ k' ∧ k' < 96) (hr : 0 ≤ M kd i kc ∧ M kd i kc < M 97 0 k') (kk : AW l X T pc' lv (zr k' (M kd i kc).toNat :: st) M) : AW l X T pc lv (zr kd i :: st) M := by
  subst hkc
  refine aw_getv hd hp hf hl (fun g hO ho => ⟨?_, zok_d hO hk hr⟩) kk
  rw [zcv_r (by omega), zfv, if_pos rfl, zdo, if_neg (by omega)]
  rfl
theorem zfl_set {g : zG} {M : zM} {kd i k : Nat} {x : Int} {o : Option (Nat × Nat × Nat)} {v : Value} (hl : (zlay kd)[k]? = some o) (hv : zfv g (zu M kd i k x) kd i k o = v) : (zfl g M kd i).set k v = zfl g (zu M kd i k x) kd i := by
  refine List.ext_getElem? fun n => ?_
  have hlt : k < (zlay kd).length := (List.getElem?_eq_some_iff.mp hl).1
  by_cases hn : n = k
  · subst hn
    rw [List.getElem?_set_self (by simpa [zfl] using hlt)]
    simp [zfl, List.getElem?_mapIdx, hl, hv]
  · rw [List.getElem?_set_ne (Ne.symm hn)]
    simp only [zfl, List.getElem?_mapIdx]
    cases hq : (zlay kd)[n]? with
    | none => rfl
    | some o =>
      have e : zu M kd i k x kd i n = M kd i n := zu_n (by rintro ⟨-, -, h⟩; exact hn (by omega))
      cases o with
      | none => simp [zfv, e]
      | some r => simp [zfv, e]
theorem aw_putv {ix kd k i : Nat} {x kc : Int} {ty : FieldType} {v : zV} {o : Option (Nat × Nat × Nat)} (hd : dec X pc = .ok (.putfield ix, 3)) (hp : pc + 3 = pc') (hf : zFP X.1.cls ix kd k ty ∨ (zFF X.1.cls ix kd k ty ∧ X.1.name = "<init>")) (hl : (zlay kd)[k]? = some o) (hkc : (k : Int) = kc)
    (hxx : zob kd → ∀ g, zO g M → zok g v → ∀ k', zrp kd kc = some k' → x < M 97 0 k')
    (hv : ∀ g, zO g M → zok g v → zfv g (zu M kd i kc x) kd i k o = zcv g v ∧ narrow ty (zcv g v) = zcv g v ∧ fits ty (zcv g v) = true) (kk : AW l X T pc' lv st (zu M kd i kc x)) : AW l X T pc lv (v :: zr kd i :: st) M := by
  subst hp; subst hkc
  intro g p e s m args below meth c H locs ls hC hW hS hlv hol host
  have hkd : zob kd := by
    rcases hf with ⟨_, _, _, _, _, h, _⟩ | ⟨⟨_, _, _, _, _, h, _⟩, _⟩ <;> exact h
  have hn0 := zob_n hkd
  obtain ⟨hv1, hv2, hv3⟩ := hv g hW.2.2 (host _ List.mem_cons_self)
  obtain ⟨n, hn'⟩ := zws_at hn0.1 (host (zr kd i) (List.mem_cons_of_mem _ List.mem_cons_self))
  have he : (zws g M)[n]? = some (g.2.1 kd i, .inr (zci kd, zfl g M kd i)) := by rw [zws_get hn', zent_ob hkd]
  have hst : (zws g M).set n (g.2.1 kd i, .inr (zci kd, (zfl g M kd i).set k (zcv g v))) = zws g (zu M kd i k x) := by
    rw [← zws_set hW.2.2 hn' (M' := zu M kd i k x) zu_o, zfl_set hl hv1, zent_ob hkd]
  have hlen : k < (zfl g M kd i).length := by simpa [zfl] using (List.getElem?_eq_some_iff.mp hl).1
  obtain ⟨hx, hb, hml, hown, hts, hr, hlo, hK, hnm, hcl, hsl⟩ := id hC
  rw [List.map_cons, List.map_cons, zcv_r hn0.2]
  have key : ∀ (H1 : Heap) (locs1 : List Loc), va_P g.1 vwCl ((zws g M).set n (g.2.1 kd i, .inr (zci kd, (zfl g M kd i).set k (zcv g v)))) H1 → va_D (zA g) ((zws g M).set n (g.2.1 kd i, .inr (zci kd, (zfl g M kd i).set k (zcv g v)))) → va_S (zA g) s.heap H1 locs1 → W p l e T.1 s m args below meth c H1 locs1 T.2.1 T.2.2.1 (zPo T g s args below) (F0 m (pc + 3) ls (st.map (zcv g))) := by
    intro H1 locs1 h1 h2 h3
    rw [hst] at h1 h2
    exact kk g p e s m args below meth c H1 locs1 ls hC ⟨h1, h2, hW.2.2.uu (by unfold zob at hkd; omega) (hxx hkd g hW.2.2 (host _ List.mem_cons_self))⟩ h3 hlv hol (fun v hv => host v (List.mem_cons_of_mem _ (List.mem_cons_of_mem _ hv)))
  rcases hf with ⟨C, TT, N, ty0, hc, -, hkN, hin, hlink, hfin, hty, hty0, hnm2⟩ | ⟨⟨C, TT, N, ty0, hc, -, hkN, hin, hlink, hfin, hdecl, hty, hty0, hnm2⟩, hi⟩
  · rcases hlink with hlink | ⟨host', hlink⟩
    · exact va_put (T := TT) (N := N) (ref := (TT k).1) hx hb hts hin ty0 hty0 hnm2 hown hK.1 hW.1 hW.2.1 hS n he hc k hkN (hts _ hlink) (fun x h => h) hfin hty hv2 hv3 hlen hd key
    · exact va_putN (T := TT) (N := N) (ref := (TT k).1) (host := host') hx hb hts hin ty0 hty0 hnm2 hown hK.1 hW.1 hW.2.1 hS n he hc k hkN (va_Nw.use rfl (hK.2.1 _ hlink)) (fun x h => h) hfin hty hv2 hv3 hlen hd key
  · exact va_putF (T := TT) (N := N) (ref := (TT k).1) hx hb hts hin ty0 hty0 hnm2 hown hK.1 hW.1 hW.2.1 hS n he hc k hkN (hts _ hlink) (fun x h => h) hfin (hnm.1.trans hi) hdecl hty hv2 hv3 hlen hd key
theorem aw_put {ix kd k i : Nat} {x kc : Int} {ty : FieldType} (hd : dec X pc = .ok (.putfield ix, 3)) (hp : pc + 3 = pc') (hf : zFP X.1.cls ix kd k ty) (hl : (zlay kd)[k]? = some none) (hkc : (k : Int) = kc) (hn : narrow ty (.int (Int32.ofInt x)) = .int (Int32.ofInt x)) (hfit : fits ty (.int (Int32.ofInt x)) = true) (kk : AW l X T pc' lv st (zu M kd i kc x)) : AW l X T pc lv (zi x :: zr kd i :: st) M := by
  refine aw_putv hd hp (.inl hf) hl hkc (fun ho g _ _ k' h => ?_) (fun g _ _ => ⟨?_, hn, hfit⟩) kk
  · rw [← hkc, zrp_no ho hl] at h
    cases h
  rw [zfv, hkc, zu_s]
  rfl
/-- the number of a reference is written -/
theorem aw_putD {ix kd k i k' b j : Nat} {kc : Int} {ty : FieldType} (hd : dec X pc = .ok (.putfield ix, 3)) (hp : pc + 3 = pc') (hf : zFP X.1.cls ix kd k ty ∨ (zFF X.1.cls ix kd k ty ∧ X.1.name = "<init>")) (hl : (zlay kd)[k]? = some (some (k', 2, b))) (hkc : (k : Int) = kc) (hk : 64 ≤ k' ∧ k' < 96) (hn : ∀ q : Nat, narrow ty (.ref q) = .ref q ∧ fits ty (.ref q) = true) (kk : AW l X T pc' lv st (zu M kd i kc (j : Int))) : AW l X T pc lv (zr k' j :: zr kd i :: st) M := by
  refine aw_putv hd hp hf hl hkc (fun ho g hO hv k2 h => ?_) (fun g _ _ => ?_) kk
  · rw [← hkc, zrp_r ho hl] at h
    cases h
    rcases List.mem_append.mp (zok_in (by omega) hv) with q | q
    · have := (zlocs_mem.mp q).1; omega
    · exact ((hO.2.1 _ _).mp q).2
  rw [zcv_r (by omega)]
  refine ⟨?_, hn _⟩
  rw [zfv, if_pos rfl, hkc, zu_s, zdo, if_neg (by omega)]
  show Value.ref (g.2.1 k' ((j : Int)).toNat) = _
  rw [Int.toNat_natCast]
end
end
section
/-! ===== rows: constants, locals, arithmetic, branches ===== -/
abbrev zI (x : Int) : Prop := -2147483648 ≤ x ∧ x < 2147483648
abbrev zJ (x : Int) : Prop := -9223372036854775808 ≤ x ∧ x < 9223372036854775808
theorem zI_lt {x y : Int} (hx : zI x) (hy : zI y) : Int32.ofInt x < Int32.ofInt y ↔ x < y := by
  rw [Int32.lt_iff_toInt_lt, Int32.toInt_ofInt_of_le (by omega) (by omega), Int32.toInt_ofInt_of_le (by omega) (by omega)]
theorem zI_le {x y : Int} (hx : zI x) (hy : zI y) : Int32.ofInt x ≤ Int32.ofInt y ↔ x ≤ y := by
  rw [Int32.le_iff_toInt_le, Int32.toInt_ofInt_of_le (by omega) (by omega), Int32.toInt_ofInt_of_le (by omega) (by omega)]
theorem zI_eq {x y : Int} (hx : zI x) (hy : zI y) : Int32.ofInt x = Int32.ofInt y ↔ x = y := by
  rw [← Int32.toInt_inj, Int32.toInt_ofInt_of_le (by omega) (by omega), Int32.toInt_ofInt_of_le (by omega) (by omega)]
theorem zJ_lt {x y : Int} (hx : zJ x) (hy : zJ y) : Int64.ofInt x < Int64.ofInt y ↔ x < y := by
  rw [Int64.lt_iff_toInt_lt, Int64.toInt_ofInt_of_le (by omega) (by omega), Int64.toInt_ofInt_of_le (by omega) (by omega)]
theorem zJ_eq {x y : Int} (hx : zJ x) (hy : zJ y) : Int64.ofInt x = Int64.ofInt y ↔ x = y := by
  rw [← Int64.toInt_inj, Int64.toInt_ofInt_of_le (by omega) (by omega), Int64.toInt_ofInt_of_le (by omega) (by omega)]
theorem zI0 : zI 0 := by omega
theorem zi0 : Int32.ofInt 0 = 0 := rfl
theorem zin_of {j : Int} {n : Nat} (hn : n ≤ 2000000000) (h : 0 ≤ j ∧ j < n) : vp_in (Int32.ofInt j) n := by
  rw [vp_in_iff, Int32.toInt_ofInt_of_le (by omega) (by omega)]
  exact h
theorem zcl_of {j : Int} (h : 0 ≤ j ∧ j < 2000000000) : (((Int32.ofInt j).toNatClampNeg : Nat) : Int) = j := by
  rw [Int32.toNatClampNeg_ofInt_of_le (by omega) (by omega)]
  omega
def zcat : zV → Nat
  | .inr (.inl _) => 2
  | .inr (.inr (.inl _)) => 2
  | _ => 1
theorem zcat_cv (g : zG) (v : zV) : (zcv g v).category = zcat v := by
  rcases v with x | x | x | ⟨k, i⟩
  · rfl
  · rfl
  · rfl
  · show (if k = 63 then (if i = 0 then (if g.2.1 63 0 = 0 then Value.null else Value.ref (g.2.1 60 1)) else Value.null) else Value.ref (g.2.1 k i)).category = 1
    by_cases h : k = 63
    · rw [if_pos h]
      by_cases h3 : i = 0
      · rw [if_pos h3]
        by_cases h2 : g.2.1 63 0 = 0
        · rw [if_pos h2]; rfl
        · rw [if_neg h2]; rfl
      · rw [if_neg h3]; rfl
    · rw [if_neg h]; rfl
/-- a store into the listed locals -/
def zst (lv : List (Nat × zV)) (i : Nat) (v : zV) : List (Nat × zV) := (i, v) :: lv.filter fun q => !(q.1 == i) && !(q.1 + 1 == i && zcat q.2 == 2) && !(zcat v == 2 && q.1 == i + 1)
theorem zst_lv1 {g : zG} {lv : List (Nat × zV)} {i : Nat} {v : zV} (h : zcat v = 1) : (i, zcv g v) :: (zlv g lv).filter (fun q => !(q.1 == i) && !(q.1 + 1 == i && q.2.category == 2)) = zlv g (zst lv i v) := by
  simp only [zlv, zst, List.map_cons, List.filter_map, List.cons.injEq, true_and]
  refine congrArg _ (List.filter_congr fun q _ => ?_)
  simp [zcat_cv, h, Function.comp]
theorem zst_lv2 {g : zG} {lv : List (Nat × zV)} {i : Nat} {v : zV} (h : zcat v = 2) : (i, zcv g v) :: (zlv g lv).filter (fun q => !(q.1 == i) && (!(q.1 == i + 1) && !(q.1 + 1 == i && q.2.category == 2))) = zlv g (zst lv i v) := by
  simp only [zlv, zst, List.map_cons, List.filter_map, List.cons.injEq, true_and]
  refine congrArg _ (List.filter_congr fun q _ => ?_)
  simp only [Function.comp, zcat_cv, h]
  cases q.1 == i <;> cases q.1 + 1 == i <;> cases q.1 == i + 1 <;> cases zcat q.2 == 2 <;> rfl
theorem zst_ok {g : zG} {lv : List (Nat × zV)} {i : Nat} {v : zV} (hv : zok g v) (h : ∀ q ∈ lv, zok g q.2) : ∀ q ∈ zst lv i v, zok g q.2 := by
  intro q hq
  rcases List.mem_cons.mp hq with rfl | hq
  · exact hv
  · exact h q (List.mem_filter.mp hq).1
theorem zlv_at {g : zG} {lv : List (Nat × zV)} {n i : Nat} {v : zV} (h : lv[n]? = some (i, v)) : (zlv g lv)[n]? = some (i, zcv g v) := by simp [zlv, h]
theorem zok1 {g : zG} {v : zV} {st : List zV} (hv : zok g v) (h : ∀ v ∈ st, zok g v) : ∀ w ∈ v :: st, zok g w := fun w hw => (List.mem_cons.mp hw).elim (fun e => e ▸ hv) (h w)
theorem zokt {g : zG} {v : zV} {st : List zV} (h : ∀ w ∈ v :: st, zok g w) : ∀ w ∈ st, zok g w := fun w hw => h w (List.mem_cons_of_mem _ hw)
section
variable {l : Launch} {X : zD} {T : zT} {pc pc' : Nat} {lv lv' : List (Nat × zV)} {st st' : List zV} {M M' : zM}
theorem zok1i {g : zG} {x : Int} {st : List zV} (h : ∀ v ∈ st, zok g v) : ∀ w ∈ zi x :: st, zok g w := zok1 (v := zi x) trivial h
theorem zok1l {g : zG} {x : Int} {st : List zV} (h : ∀ v ∈ st, zok g v) : ∀ w ∈ zl x :: st, zok g w := zok1 (v := zl x) trivial h
theorem zok1d {g : zG} {x : UInt64} {st : List zV} (h : ∀ v ∈ st, zok g v) : ∀ w ∈ zd x :: st, zok g w := zok1 (v := zd x) trivial h
/-- fewer of the locals -/
theorem aw_sub (ks : List Nat) (h : ks.filterMap (fun k => lv[k]?) = lv') (kk : AW l X T pc lv' st M) : AW l X T pc lv st M := by
  intro g p e s m args below meth c H locs ls hC hW hS hlv hol host
  refine kk g p e s m args below meth c H locs ls hC hW hS (lv_sub hlv ks ?_) (fun q hq => ?_) host
  · subst h
    simp only [lv_pick, zlv, List.map_filterMap, List.getElem?_map]
  · subst h
    obtain ⟨k, -, hk⟩ := List.mem_filterMap.mp hq
    exact hol q (List.mem_of_getElem? hk)
theorem aw_memeq (h : M = M') (kk : AW l X T pc lv st M') : AW l X T pc lv st M := h ▸ kk
theorem aw_topeq {x y : Int} (h : x = y) (kk : AW l X T pc lv (zi y :: st) M) : AW l X T pc lv (zi x :: st) M := h ▸ kk
/-- an int is what it is modulo 2^32 -/
theorem aw_wrap {x y : Int} (h : (x - y) % 4294967296 = 0) (kk : AW l X T pc lv (zi y :: st) M) : AW l X T pc lv (zi x :: st) M := by
  intro g p e s m args below meth c H locs ls hC hW hS hlv hol host
  have e1 : Int32.ofInt x = Int32.ofInt y := by
    obtain ⟨k, hk⟩ : ∃ k : Int, x = y + 4294967296 * k := ⟨(x - y) / 4294967296, by omega⟩
    rw [hk, Int32.ofInt_add, Int32.ofInt_mul, show Int32.ofInt 4294967296 = 0 by decide, Int32.zero_mul, Int32.add_zero]
  have k1 := kk g p e s m args below meth c H locs ls hC hW hS hlv hol (zok1i (zokt host))
  simp only [List.map_cons, zcv] at k1 ⊢
  rw [e1]
  exact k1

theorem aw_iconst {n : Int} (hd : dec X pc = .ok (.iconst n, 1)) (hp : pc + 1 = pc') (kk : AW l X T pc' lv (zi n :: st) M) : AW l X T pc lv (st) M := by
  subst hp
  refine AW.go (fun _ h _ => zok1i h) ?_ kk
  intro g p e s m args below meth c H locs ls Q hC hW hS hlv host hk
  exact lv_iconst hC.1 hC.2.1 hd rfl hk
theorem aw_bipush {n : Int} (hd : dec X pc = .ok (.bipush n, 2)) (hp : pc + 2 = pc') (hv : (Int8.ofInt n).toInt32 = Int32.ofInt n) (kk : AW l X T pc' lv (zi n :: st) M) : AW l X T pc lv (st) M := by
  subst hp
  refine AW.go (fun _ h _ => zok1i h) ?_ kk
  intro g p e s m args below meth c H locs ls Q hC hW hS hlv host hk
  exact lv_bipush (v := Int32.ofInt n) hC.1 hC.2.1 hd hv hk
theorem aw_sipush {n : Int} (hd : dec X pc = .ok (.sipush n, 3)) (hp : pc + 3 = pc') (hv : (Int16.ofInt n).toInt32 = Int32.ofInt n) (kk : AW l X T pc' lv (zi n :: st) M) : AW l X T pc lv (st) M := by
  subst hp
  refine AW.go (fun _ h _ => zok1i h) ?_ kk
  intro g p e s m args below meth c H locs ls Q hC hW hS hlv host hk
  exact lv_sipush (v := Int32.ofInt n) hC.1 hC.2.1 hd hv hk
theorem aw_ldc {ix : Nat} {n : Int} (hd : dec X pc = .ok (.ldc ix, 2)) (hp : pc + 2 = pc') (hc : Cond.constant X.1.cls ix (Int32.ofInt n) ∈ zTB) (kk : AW l X T pc' lv (zi n :: st) M) : AW l X T pc lv (st) M := by
  subst hp
  refine AW.go (fun _ h _ => zok1i h) ?_ kk
  intro g p e s m args below meth c H locs ls Q hC hW hS hlv host hk
  exact lv_ldc hC.1 hC.2.1 hC.2.2.2.1 (hC.2.2.2.2.1 _ hc) hd hk
theorem aw_ldc2 {ix : Nat} {n : Int} (hd : dec X pc = .ok (.ldc2_w ix, 3)) (hp : pc + 3 = pc') (hc : Cond.constantLong X.1.cls ix (Int64.ofInt n) ∈ zTB) (kk : AW l X T pc' lv (zl n :: st) M) : AW l X T pc lv (st) M := by
  subst hp
  refine AW.go (fun _ h _ => zok1l h) ?_ kk
  intro g p e s m args below meth c H locs ls Q hC hW hS hlv host hk
  exact lv_ldc2 hC.1 hC.2.1 hC.2.2.2.1 (hC.2.2.2.2.1 _ hc) hd hk
theorem aw_ldc2d {ix : Nat} {n : UInt64} (hd : dec X pc = .ok (.ldc2_w ix, 3)) (hp : pc + 3 = pc') (hc : Cond.constantDouble X.1.cls ix n ∈ zTB) (kk : AW l X T pc' lv (zd n :: st) M) : AW l X T pc lv (st) M := by
  subst hp
  refine AW.go (fun _ h _ => zok1d h) ?_ kk
  intro g p e s m args below meth c H locs ls Q hC hW hS hlv host hk
  exact lv_ldc2d hC.1 hC.2.1 hC.2.2.2.1 (hC.2.2.2.2.1 _ hc) hd hk
theorem aw_lconst {n : Fin 2} {x : Int} (hd : dec X pc = .ok (.lconst n, 1)) (hp : pc + 1 = pc') (hv : Int64.ofNat (n : Nat) = Int64.ofInt x) (kk : AW l X T pc' lv (zl x :: st) M) : AW l X T pc lv (st) M := by
  subst hp
  refine AW.go (fun _ h _ => zok1l h) ?_ kk
  intro g p e s m args below meth c H locs ls Q hC hW hS hlv host hk
  exact lv_lconst hC.1 hC.2.1 hd hv hk
theorem aw_iload {i : Nat} {x : Int} (hd : dec X pc = .ok (.iload i, 2)) (hp : pc + 2 = pc') (n : Nat) (hl : lv[n]? = some (i, zi x)) (kk : AW l X T pc' lv (zi x :: st) M) : AW l X T pc lv (st) M := by
  subst hp
  refine AW.go (fun _ h _ => zok1i h) ?_ kk
  intro g p e s m args below meth c H locs ls Q hC hW hS hlv host hk
  exact lv_iload hC.1 hC.2.1 hd (lv_at hlv n (zlv_at hl)) hk
theorem aw_iload_n {i : Nat} {x : Int} {f : Fin 4} (hd : dec X pc = .ok (.iload_n f, 1)) (hp : pc + 1 = pc') (hi : (f : Nat) = i) (n : Nat) (hl : lv[n]? = some (i, zi x)) (kk : AW l X T pc' lv (zi x :: st) M) : AW l X T pc lv (st) M := by
  subst hp
  refine AW.go (fun _ h _ => zok1i h) ?_ kk
  intro g p e s m args below meth c H locs ls Q hC hW hS hlv host hk
  exact lv_iload_n hC.1 hC.2.1 hd hi (lv_at hlv n (zlv_at hl)) hk
theorem aw_aload {i k j : Nat} (hd : dec X pc = .ok (.aload i, 2)) (hp : pc + 2 = pc') (n : Nat) (hl : lv[n]? = some (i, zr k j)) (hk0 : k ≠ 63) (kk : AW l X T pc' lv (zr k j :: st) M) : AW l X T pc lv (st) M := by
  subst hp
  refine AW.go (fun _ h hl0 => zok1 (hl0 _ (List.mem_of_getElem? hl)) h) ?_ kk
  intro g p e s m args below meth c H locs ls Q hC hW hS hlv host hk
  rw [List.map_cons, zcv_r hk0] at hk
  exact lv_aload hC.1 hC.2.1 hd (lv_at hlv n ((zlv_at hl).trans (by rw [zcv_r hk0]))) hk
theorem aw_aload_n {i k j : Nat} {f : Fin 4} (hd : dec X pc = .ok (.aload_n f, 1)) (hp : pc + 1 = pc') (hi : (f : Nat) = i) (n : Nat) (hl : lv[n]? = some (i, zr k j)) (hk0 : k ≠ 63) (kk : AW l X T pc' lv (zr k j :: st) M) : AW l X T pc lv (st) M := by
  subst hp
  refine AW.go (fun _ h hl0 => zok1 (hl0 _ (List.mem_of_getElem? hl)) h) ?_ kk
  intro g p e s m args below meth c H locs ls Q hC hW hS hlv host hk
  rw [List.map_cons, zcv_r hk0] at hk
  exact lv_aload_n hC.1 hC.2.1 hd hi (lv_at hlv n ((zlv_at hl).trans (by rw [zcv_r hk0]))) hk
theorem aw_lload {i : Nat} {x : Int} (hd : dec X pc = .ok (.lload i, 2)) (hp : pc + 2 = pc') (n : Nat) (hl : lv[n]? = some (i, zl x)) (kk : AW l X T pc' lv (zl x :: st) M) : AW l X T pc lv (st) M := by
  subst hp
  refine AW.go (fun _ h _ => zok1l h) ?_ kk
  intro g p e s m args below meth c H locs ls Q hC hW hS hlv host hk
  exact lv_lload hC.1 hC.2.1 hd (lv_at hlv n (zlv_at hl)) hk
theorem aw_lload_n {i : Nat} {x : Int} {f : Fin 4} (hd : dec X pc = .ok (.lload_n f, 1)) (hp : pc + 1 = pc') (hi : (f : Nat) = i) (n : Nat) (hl : lv[n]? = some (i, zl x)) (kk : AW l X T pc' lv (zl x :: st) M) : AW l X T pc lv (st) M := by
  subst hp
  refine AW.go (fun _ h _ => zok1l h) ?_ kk
  intro g p e s m args below meth c H locs ls Q hC hW hS hlv host hk
  exact lv_lload_n hC.1 hC.2.1 hd hi (lv_at hlv n (zlv_at hl)) hk
theorem aw_dload_n {i : Nat} {x : UInt64} {f : Fin 4} (hd : dec X pc = .ok (.dload_n f, 1)) (hp : pc + 1 = pc') (hi : (f : Nat) = i) (n : Nat) (hl : lv[n]? = some (i, zd x)) (kk : AW l X T pc' lv (zd x :: st) M) : AW l X T pc lv (st) M := by
  subst hp
  refine AW.go (fun _ h _ => zok1d h) ?_ kk
  intro g p e s m args below meth c H locs ls Q hC hW hS hlv host hk
  exact lv_dload_n hC.1 hC.2.1 hd hi (lv_at hlv n (zlv_at hl)) hk
theorem aw_istore {i : Nat} {x : Int} (hd : dec X pc = .ok (.istore i, 2)) (hp : pc + 2 = pc') (hn : i < X.2.2.1) (hl : zst lv i (zi x) = lv') (kk : AW l X T pc' lv' st M) : AW l X T pc lv (zi x :: st) M := by
  subst hp; subst hl
  intro g p e s m args below meth c H locs ls hC hW hS hlv hol host
  exact lv_istore hC.1 hC.2.1 hd hlv hn (zst_lv1 (v := zi x) rfl) (fun ls' hls' => kk g p e s m args below meth c H locs ls' hC hW hS hls' (zst_ok (by trivial) hol) (zokt host))
theorem aw_istore_n {i : Nat} {x : Int} {f : Fin 4} (hd : dec X pc = .ok (.istore_n f, 1)) (hp : pc + 1 = pc') (hi : (f : Nat) = i) (hn : i < X.2.2.1) (hl : zst lv i (zi x) = lv') (kk : AW l X T pc' lv' st M) : AW l X T pc lv (zi x :: st) M := by
  subst hp; subst hl
  intro g p e s m args below meth c H locs ls hC hW hS hlv hol host
  exact lv_istore_n hC.1 hC.2.1 hd hi hlv hn (zst_lv1 (v := zi x) rfl) (fun ls' hls' => kk g p e s m args below meth c H locs ls' hC hW hS hls' (zst_ok (by trivial) hol) (zokt host))
theorem aw_lstore {i : Nat} {x : Int} (hd : dec X pc = .ok (.lstore i, 2)) (hp : pc + 2 = pc') (hn : i + 1 < X.2.2.1) (hl : zst lv i (zl x) = lv') (kk : AW l X T pc' lv' st M) : AW l X T pc lv (zl x :: st) M := by
  subst hp; subst hl
  intro g p e s m args below meth c H locs ls hC hW hS hlv hol host
  exact lv_lstore hC.1 hC.2.1 hd hlv hn (zst_lv2 (v := zl x) rfl) (fun ls' hls' => kk g p e s m args below meth c H locs ls' hC hW hS hls' (zst_ok (by trivial) hol) (zokt host))
theorem aw_lstore_n {i : Nat} {x : Int} {f : Fin 4} (hd : dec X pc = .ok (.lstore_n f, 1)) (hp : pc + 1 = pc') (hi : (f : Nat) = i) (hn : i + 1 < X.2.2.1) (hl : zst lv i (zl x) = lv') (kk : AW l X T pc' lv' st M) : AW l X T pc lv (zl x :: st) M := by
  subst hp; subst hl
  intro g p e s m args below meth c H locs ls hC hW hS hlv hol host
  exact lv_lstore_n hC.1 hC.2.1 hd hi hlv hn (zst_lv2 (v := zl x) rfl) (fun ls' hls' => kk g p e s m args below meth c H locs ls' hC hW hS hls' (zst_ok (by trivial) hol) (zokt host))
theorem aw_dstore_n {i : Nat} {x : UInt64} {f : Fin 4} (hd : dec X pc = .ok (.dstore_n f, 1)) (hp : pc + 1 = pc') (hi : (f : Nat) = i) (hn : i + 1 < X.2.2.1) (hl : zst lv i (zd x) = lv') (kk : AW l X T pc' lv' st M) : AW l X T pc lv (zd x :: st) M := by
  subst hp; subst hl
  intro g p e s m args below meth c H locs ls hC hW hS hlv hol host
  exact lv_dstore_n hC.1 hC.2.1 hd hi hlv hn (zst_lv2 (v := zd x) rfl) (fun ls' hls' => kk g p e s m args below meth c H locs ls' hC hW hS hls' (zst_ok (by trivial) hol) (zokt host))
theorem aw_astore_n {i : Nat} {k j : Nat} {f : Fin 4} (hk0 : k ≠ 63) (hd : dec X pc = .ok (.astore_n f, 1)) (hp : pc + 1 = pc') (hi : (f : Nat) = i) (hn : i < X.2.2.1) (hl : zst lv i (zr k j) = lv') (kk : AW l X T pc' lv' st M) : AW l X T pc lv (zr k j :: st) M := by
  subst hp; subst hl
  intro g p e s m args below meth c H locs ls hC hW hS hlv hol host
  rw [List.map_cons, zcv_r hk0]
  exact lv_astore_n hC.1 hC.2.1 hd hi hlv hn (by rw [← zst_lv1 rfl, zcv_r hk0]) (fun ls' hls' => kk g p e s m args below meth c H locs ls' hC hW hS hls' (zst_ok (host _ List.mem_cons_self) hol) (zokt host))
theorem aw_iinc {i : Nat} {x d y : Int} (hd : dec X pc = .ok (.iinc i d, 3)) (hp : pc + 3 = pc') (n : Nat) (hl : lv[n]? = some (i, zi x)) (hn : i < X.2.2.1) (hy : x + d = y) (hl' : zst lv i (zi y) = lv') (kk : AW l X T pc' lv' st M) : AW l X T pc lv st M := by
  subst hp; subst hl'; subst hy
  intro g p e s m args below meth c H locs ls hC hW hS hlv hol host
  exact lv_iinc (v := Int32.ofInt (x + d)) hC.1 hC.2.1 hd hlv (zlv_at hl) (by rw [Int32.ofInt_add]) hn (zst_lv1 (v := zi (x + d)) rfl) (fun ls' hls' => kk g p e s m args below meth c H locs ls' hC hW hS hls' (zst_ok (by trivial) hol) host)
theorem aw_iadd {x y : Int} (hd : dec X pc = .ok (.iadd, 1)) (hp : pc + 1 = pc') (kk : AW l X T pc' lv (zi (x + y) :: st) M) : AW l X T pc lv (zi y :: zi x :: st) M := by
  subst hp
  refine AW.go (fun _ h _ => zok1i (zokt (zokt h))) ?_ kk
  intro g p e s m args below meth c H locs ls Q hC hW hS hlv host hk
  refine lv_iadd hC.1 hC.2.1 hd ?_
  rw [List.map_cons, zcv, Int32.ofInt_add] at hk
  exact hk
theorem aw_isub {x y : Int} (hd : dec X pc = .ok (.isub, 1)) (hp : pc + 1 = pc') (kk : AW l X T pc' lv (zi (x - y) :: st) M) : AW l X T pc lv (zi y :: zi x :: st) M := by
  subst hp
  refine AW.go (fun _ h _ => zok1i (zokt (zokt h))) ?_ kk
  intro g p e s m args below meth c H locs ls Q hC hW hS hlv host hk
  refine lv_isub hC.1 hC.2.1 hd ?_
  rw [List.map_cons, zcv, Int32.ofInt_sub] at hk
  exact hk
theorem aw_imul {x y : Int} (hd : dec X pc = .ok (.imul, 1)) (hp : pc + 1 = pc') (kk : AW l X T pc' lv (zi (x * y) :: st) M) : AW l X T pc lv (zi y :: zi x :: st) M := by
  subst hp
  refine AW.go (fun _ h _ => zok1i (zokt (zokt h))) ?_ kk
  intro g p e s m args below meth c H locs ls Q hC hW hS hlv host hk
  refine lv_imul hC.1 hC.2.1 hd ?_
  rw [List.map_cons, zcv, Int32.ofInt_mul] at hk
  exact hk
theorem aw_ladd {x y : Int} (hd : dec X pc = .ok (.ladd, 1)) (hp : pc + 1 = pc') (kk : AW l X T pc' lv (zl (x + y) :: st) M) : AW l X T pc lv (zl y :: zl x :: st) M := by
  subst hp
  refine AW.go (fun _ h _ => zok1l (zokt (zokt h))) ?_ kk
  intro g p e s m args below meth c H locs ls Q hC hW hS hlv host hk
  refine lv_ladd hC.1 hC.2.1 hd ?_
  rw [List.map_cons, zcv, Int64.ofInt_add] at hk
  exact hk
theorem aw_lsub {x y : Int} (hd : dec X pc = .ok (.lsub, 1)) (hp : pc + 1 = pc') (kk : AW l X T pc' lv (zl (x - y) :: st) M) : AW l X T pc lv (zl y :: zl x :: st) M := by
  subst hp
  refine AW.go (fun _ h _ => zok1l (zokt (zokt h))) ?_ kk
  intro g p e s m args below meth c H locs ls Q hC hW hS hlv host hk
  refine lv_lsub hC.1 hC.2.1 hd ?_
  rw [List.map_cons, zcv, Int64.ofInt_sub] at hk
  exact hk
theorem aw_lmul {x y : Int} (hd : dec X pc = .ok (.lmul, 1)) (hp : pc + 1 = pc') (kk : AW l X T pc' lv (zl (x * y) :: st) M) : AW l X T pc lv (zl y :: zl x :: st) M := by
  subst hp
  refine AW.go (fun _ h _ => zok1l (zokt (zokt h))) ?_ kk
  intro g p e s m args below meth c H locs ls Q hC hW hS hlv host hk
  refine lv_lmul hC.1 hC.2.1 hd ?_
  rw [List.map_cons, zcv, Int64.ofInt_mul] at hk
  exact hk
theorem aw_ineg {x : Int} (hd : dec X pc = .ok (.ineg, 1)) (hp : pc + 1 = pc') (kk : AW l X T pc' lv (zi (-x) :: st) M) : AW l X T pc lv (zi x :: st) M := by
  subst hp
  refine AW.go (fun _ h _ => zok1i (zokt h)) ?_ kk
  intro g p e s m args below meth c H locs ls Q hC hW hS hlv host hk
  refine lv_ineg hC.1 hC.2.1 hd ?_
  rw [List.map_cons, zcv, Int32.ofInt_neg] at hk
  exact hk
theorem zne0 {y : Int} (hy : zI y) (h0 : y ≠ 0) : ¬ Int32.ofInt y = 0 := fun h => h0 ((zI_eq hy zI0).mp h)
theorem zne0J {y : Int} (hy : zJ y) (h0 : y ≠ 0) : ¬ Int64.ofInt y = 0 := fun h => h0 ((zJ_eq hy (by omega)).mp h)
theorem aw_idiv {x y : Int} (hd : dec X pc = .ok (.idiv, 1)) (hp : pc + 1 = pc') (hx : zI x) (hy : zI y) (h0 : y ≠ 0) (kk : AW l X T pc' lv (zi (x.tdiv y) :: st) M) : AW l X T pc lv (zi y :: zi x :: st) M := by
  subst hp
  refine AW.go (fun _ h _ => zok1i (zokt (zokt h))) ?_ kk
  intro g p e s m args below meth c H locs ls Q hC hW hS hlv host hk
  refine lv_idiv hC.1 hC.2.1 hd (zne0 hy h0) ?_
  rw [List.map_cons, zcv, Int32.ofInt_tdiv (by show -2147483648 ≤ x; omega) (by show x ≤ 2147483647; omega) (by show -2147483648 ≤ y; omega) (by show y ≤ 2147483647; omega)] at hk
  exact hk
theorem aw_irem {x y : Int} (hd : dec X pc = .ok (.irem, 1)) (hp : pc + 1 = pc') (hx : zI x) (hy : zI y) (h0 : y ≠ 0) (kk : AW l X T pc' lv (zi (x.tmod y) :: st) M) : AW l X T pc lv (zi y :: zi x :: st) M := by
  subst hp
  refine AW.go (fun _ h _ => zok1i (zokt (zokt h))) ?_ kk
  intro g p e s m args below meth c H locs ls Q hC hW hS hlv host hk
  refine lv_irem hC.1 hC.2.1 hd (zne0 hy h0) ?_
  rw [List.map_cons, zcv, show x.tmod y = x - x.tdiv y * y by rw [Int.tmod_def, Int.mul_comm], Int32.ofInt_sub, Int32.ofInt_mul, Int32.ofInt_tdiv (by show -2147483648 ≤ x; omega) (by show x ≤ 2147483647; omega) (by show -2147483648 ≤ y; omega) (by show y ≤ 2147483647; omega)] at hk
  exact hk
theorem aw_ldiv {x y : Int} (hd : dec X pc = .ok (.ldiv, 1)) (hp : pc + 1 = pc') (hx : zJ x) (hy : zJ y) (h0 : y ≠ 0) (kk : AW l X T pc' lv (zl (x.tdiv y) :: st) M) : AW l X T pc lv (zl y :: zl x :: st) M := by
  subst hp
  refine AW.go (fun _ h _ => zok1l (zokt (zokt h))) ?_ kk
  intro g p e s m args below meth c H locs ls Q hC hW hS hlv host hk
  refine lv_ldiv hC.1 hC.2.1 hd (zne0J hy h0) ?_
  rw [List.map_cons, zcv, Int64.ofInt_tdiv (by show -9223372036854775808 ≤ x; omega) (by show x ≤ 9223372036854775807; omega) (by show -9223372036854775808 ≤ y; omega) (by show y ≤ 9223372036854775807; omega)] at hk
  exact hk
theorem aw_lrem {x y : Int} (hd : dec X pc = .ok (.lrem, 1)) (hp : pc + 1 = pc') (hx : zJ x) (hy : zJ y) (h0 : y ≠ 0) (kk : AW l X T pc' lv (zl (x.tmod y) :: st) M) : AW l X T pc lv (zl y :: zl x :: st) M := by
  subst hp
  refine AW.go (fun _ h _ => zok1l (zokt (zokt h))) ?_ kk
  intro g p e s m args below meth c H locs ls Q hC hW hS hlv host hk
  refine lv_lrem hC.1 hC.2.1 hd (zne0J hy h0) ?_
  rw [List.map_cons, zcv, show x.tmod y = x - x.tdiv y * y by rw [Int.tmod_def, Int.mul_comm], Int64.ofInt_sub, Int64.ofInt_mul, Int64.ofInt_tdiv (by show -9223372036854775808 ≤ x; omega) (by show x ≤ 9223372036854775807; omega) (by show -9223372036854775808 ≤ y; omega) (by show y ≤ 9223372036854775807; omega)] at hk
  exact hk
theorem aw_i2l {x : Int} (hd : dec X pc = .ok (.i2l, 1)) (hp : pc + 1 = pc') (hx : zI x) (kk : AW l X T pc' lv (zl x :: st) M) : AW l X T pc lv (zi x :: st) M := by
  subst hp
  refine AW.go (fun _ h _ => zok1l (zokt h)) ?_ kk
  intro g p e s m args below meth c H locs ls Q hC hW hS hlv host hk
  refine lv_i2l (v := Int64.ofInt x) hC.1 hC.2.1 hd ?_ hk
  exact Int32.toInt64_ofInt (by show -2147483648 ≤ x; omega) (by show x ≤ 2147483647; omega)
theorem aw_i2b {x y : Int} (hd : dec X pc = .ok (.i2b, 1)) (hp : pc + 1 = pc') (hv : (Int32.ofInt x).toInt8.toInt32 = Int32.ofInt y) (kk : AW l X T pc' lv (zi y :: st) M) : AW l X T pc lv (zi x :: st) M := by
  subst hp
  refine AW.go (fun _ h _ => zok1i (zokt h)) ?_ kk
  intro g p e s m args below meth c H locs ls Q hC hW hS hlv host hk
  exact lv_i2b (v := Int32.ofInt y) hC.1 hC.2.1 hd hv hk
theorem aw_iand {x y z : Int} (hd : dec X pc = .ok (.iand, 1)) (hp : pc + 1 = pc') (hv : Int32.ofInt x &&& Int32.ofInt y = Int32.ofInt z) (kk : AW l X T pc' lv (zi z :: st) M) : AW l X T pc lv (zi y :: zi x :: st) M := by
  subst hp
  refine AW.go (fun _ h _ => zok1i (zokt (zokt h))) ?_ kk
  intro g p e s m args below meth c H locs ls Q hC hW hS hlv host hk
  refine lv_iand hC.1 hC.2.1 hd ?_
  rw [List.map_cons, zcv, ← hv] at hk
  exact hk
theorem aw_ior {x y z : Int} (hd : dec X pc = .ok (.ior, 1)) (hp : pc + 1 = pc') (hv : Int32.ofInt x ||| Int32.ofInt y = Int32.ofInt z) (kk : AW l X T pc' lv (zi z :: st) M) : AW l X T pc lv (zi y :: zi x :: st) M := by
  subst hp
  refine AW.go (fun _ h _ => zok1i (zokt (zokt h))) ?_ kk
  intro g p e s m args below meth c H locs ls Q hC hW hS hlv host hk
  refine lv_ior hC.1 hC.2.1 hd ?_
  rw [List.map_cons, zcv, ← hv] at hk
  exact hk
theorem aw_ishl {x y z : Int} (hd : dec X pc = .ok (.ishl, 1)) (hp : pc + 1 = pc') (hv : Int32.ofInt x <<< (Int32.ofInt y &&& 31) = Int32.ofInt z) (kk : AW l X T pc' lv (zi z :: st) M) : AW l X T pc lv (zi y :: zi x :: st) M := by
  subst hp
  refine AW.go (fun _ h _ => zok1i (zokt (zokt h))) ?_ kk
  intro g p e s m args below meth c H locs ls Q hC hW hS hlv host hk
  refine lv_ishl hC.1 hC.2.1 hd ?_
  rw [List.map_cons, zcv, ← hv] at hk
  exact hk
theorem aw_ishr {x y z : Int} (hd : dec X pc = .ok (.ishr, 1)) (hp : pc + 1 = pc') (hv : Int32.ofInt x >>> (Int32.ofInt y &&& 31) = Int32.ofInt z) (kk : AW l X T pc' lv (zi z :: st) M) : AW l X T pc lv (zi y :: zi x :: st) M := by
  subst hp
  refine AW.go (fun _ h _ => zok1i (zokt (zokt h))) ?_ kk
  intro g p e s m args below meth c H locs ls Q hC hW hS hlv host hk
  refine lv_ishr hC.1 hC.2.1 hd ?_
  rw [List.map_cons, zcv, ← hv] at hk
  exact hk
theorem aw_iushr {x y z : Int} (hd : dec X pc = .ok (.iushr, 1)) (hp : pc + 1 = pc') (hv : ((Int32.ofInt x).toUInt32 >>> ((Int32.ofInt y).toUInt32 &&& Int32.toUInt32 31)).toInt32 = Int32.ofInt z) (kk : AW l X T pc' lv (zi z :: st) M) : AW l X T pc lv (zi y :: zi x :: st) M := by
  subst hp
  refine AW.go (fun _ h _ => zok1i (zokt (zokt h))) ?_ kk
  intro g p e s m args below meth c H locs ls Q hC hW hS hlv host hk
  exact lv_iushr (v := Int32.ofInt z) hC.1 hC.2.1 hd hv hk
theorem aw_lor {x y z : Int} (hd : dec X pc = .ok (.lor, 1)) (hp : pc + 1 = pc') (hv : Int64.ofInt x ||| Int64.ofInt y = Int64.ofInt z) (kk : AW l X T pc' lv (zl z :: st) M) : AW l X T pc lv (zl y :: zl x :: st) M := by
  subst hp
  refine AW.go (fun _ h _ => zok1l (zokt (zokt h))) ?_ kk
  intro g p e s m args below meth c H locs ls Q hC hW hS hlv host hk
  refine lv_lor hC.1 hC.2.1 hd ?_
  rw [List.map_cons, zcv, ← hv] at hk
  exact hk
theorem aw_lshl {x y z : Int} (hd : dec X pc = .ok (.lshl, 1)) (hp : pc + 1 = pc') (hv : Int64.ofInt x <<< ((Int32.ofInt y).toInt64 &&& 63) = Int64.ofInt z) (kk : AW l X T pc' lv (zl z :: st) M) : AW l X T pc lv (zi y :: zl x :: st) M := by
  subst hp
  refine AW.go (fun _ h _ => zok1l (zokt (zokt h))) ?_ kk
  intro g p e s m args below meth c H locs ls Q hC hW hS hlv host hk
  exact lv_lshl (v := Int64.ofInt z) hC.1 hC.2.1 hd hv hk
theorem aw_i2d {x : Int} (hd : dec X pc = .ok (.i2d, 1)) (hp : pc + 1 = pc') (kk : AW l X T pc' lv (zd (FP.i2d (Int32.ofInt x)) :: st) M) : AW l X T pc lv (zi x :: st) M := by
  subst hp
  refine AW.go (fun _ h _ => zok1d (zokt h)) ?_ kk
  intro g p e s m args below meth c H locs ls Q hC hW hS hlv host hk
  exact lv_i2d hC.1 hC.2.1 hd hk
theorem aw_d2l {x : UInt64} {y : Int} (hd : dec X pc = .ok (.d2l, 1)) (hp : pc + 1 = pc') (hv : FP.d2l x = Int64.ofInt y) (kk : AW l X T pc' lv (zl y :: st) M) : AW l X T pc lv (zd x :: st) M := by
  subst hp
  refine AW.go (fun _ h _ => zok1l (zokt h)) ?_ kk
  intro g p e s m args below meth c H locs ls Q hC hW hS hlv host hk
  refine lv_d2l hC.1 hC.2.1 hd ?_
  rw [hv]
  exact hk
theorem aw_ddiv {x y z : UInt64} (hd : dec X pc = .ok (.ddiv, 1)) (hp : pc + 1 = pc') (hv : FP.ddiv x y = z) (hn : vf_n64 (FP.ddiv x y)) (kk : AW l X T pc' lv (zd z :: st) M) : AW l X T pc lv (zd y :: zd x :: st) M := by
  subst hp
  refine AW.go (fun _ h _ => zok1d (zokt (zokt h))) ?_ kk
  intro g p e s m args below meth c H locs ls Q hC hW hS hlv host hk
  subst hv
  exact lv_ddiv hC.1 hC.2.1 hd hn hk
theorem aw_dmul {x y z : UInt64} (hd : dec X pc = .ok (.dmul, 1)) (hp : pc + 1 = pc') (hv : FP.dmul x y = z) (hn : vf_n64 (FP.dmul x y)) (kk : AW l X T pc' lv (zd z :: st) M) : AW l X T pc lv (zd y :: zd x :: st) M := by
  subst hp
  refine AW.go (fun _ h _ => zok1d (zokt (zokt h))) ?_ kk
  intro g p e s m args below meth c H locs ls Q hC hW hS hlv host hk
  subst hv
  exact lv_dmul hC.1 hC.2.1 hd hn hk
theorem aw_dsub {x y z : UInt64} (hd : dec X pc = .ok (.dsub, 1)) (hp : pc + 1 = pc') (hv : FP.dsub x y = z) (hn : vf_n64 (FP.dsub x y)) (kk : AW l X T pc' lv (zd z :: st) M) : AW l X T pc lv (zd y :: zd x :: st) M := by
  subst hp
  refine AW.go (fun _ h _ => zok1d (zokt (zokt h))) ?_ kk
  intro g p e s m args below meth c H locs ls Q hC hW hS hlv host hk
  subst hv
  exact lv_dsub hC.1 hC.2.1 hd hn hk
theorem aw_dcmp {op : CmpOp} {x y : UInt64} {z : Int} (hd : dec X pc = .ok (.dcmp op, 1)) (hp : pc + 1 = pc') (hv : Op.cmpValue (FP.dcmp x y) op = Int32.ofInt z) (kk : AW l X T pc' lv (zi z :: st) M) : AW l X T pc lv (zd y :: zd x :: st) M := by
  subst hp
  refine AW.go (fun _ h _ => zok1i (zokt (zokt h))) ?_ kk
  intro g p e s m args below meth c H locs ls Q hC hW hS hlv host hk
  refine lv_dcmp hC.1 hC.2.1 hd ?_
  rw [hv]
  exact hk
theorem aw_pop {v : zV} (hd : dec X pc = .ok (.pop, 1)) (hp : pc + 1 = pc') (hv : zcat v = 1) (kk : AW l X T pc' lv (st) M) : AW l X T pc lv (v :: st) M := by
  subst hp
  refine AW.go (fun _ h _ => zokt h) ?_ kk
  intro g p e s m args below meth c H locs ls Q hC hW hS hlv host hk
  refine lv_pop hC.1 hC.2.1 hd ?_ hk
  rw [zcat_cv]; exact hv
theorem aw_dup {v : zV} (hd : dec X pc = .ok (.dup, 1)) (hp : pc + 1 = pc') (hv : zcat v = 1) (kk : AW l X T pc' lv (v :: v :: st) M) : AW l X T pc lv (v :: st) M := by
  subst hp
  refine AW.go (fun _ h _ => zok1 (h v List.mem_cons_self) h) ?_ kk
  intro g p e s m args below meth c H locs ls Q hC hW hS hlv host hk
  refine lv_dup hC.1 hC.2.1 hd ?_ hk
  rw [zcat_cv]; exact hv
theorem aw_goto {off : Int} (hd : dec X pc = .ok (.goto off, 3)) (ht : (pc : Int) + off = (pc' : Int)) (kk : AW l X T pc' lv st M) : AW l X T pc lv st M := by
  refine AW.go (fun _ h _ => h) ?_ kk
  intro g p e s m args below meth c H locs ls Q hC hW hS hlv host hk
  exact lv_goto hC.1 hC.2.1 hd ht hk
theorem aw_icmp_eq {off : Int} {tgt : Nat} {x y : Int} (hd : dec X pc = .ok (.if_icmp .eq off, 3)) (ht : (pc : Int) + off = (tgt : Int)) (hp : pc + 3 = pc') (hx : zI x) (hy : zI y) (kt : x = y → AW l X T tgt lv st M) (kf : x ≠ y → AW l X T pc' lv st M) : AW l X T pc lv (zi y :: zi x :: st) M := by
  subst hp
  intro g p e s m args below meth c H locs ls hC hW hS hlv hol host
  exact lv_icmp_eq hC.1 hC.2.1 hd ht (fun h => kt ((zI_eq hx hy).mp h) g p e s m args below meth c H locs ls hC hW hS hlv hol (zokt (zokt host))) (fun h => kf (fun q => h ((zI_eq hx hy).mpr q)) g p e s m args below meth c H locs ls hC hW hS hlv hol (zokt (zokt host)))
theorem aw_if_eq {off : Int} {tgt : Nat} {x : Int} (hd : dec X pc = .ok (.ifCond .eq off, 3)) (ht : (pc : Int) + off = (tgt : Int)) (hp : pc + 3 = pc') (hx : zI x) (kt : x = 0 → AW l X T tgt lv st M) (kf : x ≠ 0 → AW l X T pc' lv st M) : AW l X T pc lv (zi x :: st) M := by
  subst hp
  intro g p e s m args below meth c H locs ls hC hW hS hlv hol host
  have hy := zI0
  exact lv_if_eq hC.1 hC.2.1 hd ht (fun h => kt ((zI_eq hx hy).mp h) g p e s m args below meth c H locs ls hC hW hS hlv hol (zokt host)) (fun h => kf (fun q => h ((zI_eq hx hy).mpr q)) g p e s m args below meth c H locs ls hC hW hS hlv hol (zokt host))
theorem aw_icmp_ne {off : Int} {tgt : Nat} {x y : Int} (hd : dec X pc = .ok (.if_icmp .ne off, 3)) (ht : (pc : Int) + off = (tgt : Int)) (hp : pc + 3 = pc') (hx : zI x) (hy : zI y) (kt : x ≠ y → AW l X T tgt lv st M) (kf : x = y → AW l X T pc' lv st M) : AW l X T pc lv (zi y :: zi x :: st) M := by
  subst hp
  intro g p e s m args below meth c H locs ls hC hW hS hlv hol host
  exact lv_icmp_ne hC.1 hC.2.1 hd ht (fun h => kt (fun q => h ((zI_eq hx hy).mpr q)) g p e s m args below meth c H locs ls hC hW hS hlv hol (zokt (zokt host))) (fun h => kf ((zI_eq hx hy).mp h) g p e s m args below meth c H locs ls hC hW hS hlv hol (zokt (zokt host)))
theorem aw_if_ne {off : Int} {tgt : Nat} {x : Int} (hd : dec X pc = .ok (.ifCond .ne off, 3)) (ht : (pc : Int) + off = (tgt : Int)) (hp : pc + 3 = pc') (hx : zI x) (kt : x ≠ 0 → AW l X T tgt lv st M) (kf : x = 0 → AW l X T pc' lv st M) : AW l X T pc lv (zi x :: st) M := by
  subst hp
  intro g p e s m args below meth c H locs ls hC hW hS hlv hol host
  have hy := zI0
  exact lv_if_ne hC.1 hC.2.1 hd ht (fun h => kt (fun q => h ((zI_eq hx hy).mpr q)) g p e s m args below meth c H locs ls hC hW hS hlv hol (zokt host)) (fun h => kf ((zI_eq hx hy).mp h) g p e s m args below meth c H locs ls hC hW hS hlv hol (zokt host))
theorem aw_icmp_lt {off : Int} {tgt : Nat} {x y : Int} (hd : dec X pc = .ok (.if_icmp .lt off, 3)) (ht : (pc : Int) + off = (tgt : Int)) (hp : pc + 3 = pc') (hx : zI x) (hy : zI y) (kt : x < y → AW l X T tgt lv st M) (kf : y ≤ x → AW l X T pc' lv st M) : AW l X T pc lv (zi y :: zi x :: st) M := by
  subst hp
  intro g p e s m args below meth c H locs ls hC hW hS hlv hol host
  exact lv_icmp_lt hC.1 hC.2.1 hd ht (fun h => kt ((zI_lt hx hy).mp h) g p e s m args below meth c H locs ls hC hW hS hlv hol (zokt (zokt host))) (fun h => kf (by have := mt (zI_lt hx hy).mpr h; omega) g p e s m args below meth c H locs ls hC hW hS hlv hol (zokt (zokt host)))
theorem aw_if_lt {off : Int} {tgt : Nat} {x : Int} (hd : dec X pc = .ok (.ifCond .lt off, 3)) (ht : (pc : Int) + off = (tgt : Int)) (hp : pc + 3 = pc') (hx : zI x) (kt : x < 0 → AW l X T tgt lv st M) (kf : 0 ≤ x → AW l X T pc' lv st M) : AW l X T pc lv (zi x :: st) M := by
  subst hp
  intro g p e s m args below meth c H locs ls hC hW hS hlv hol host
  have hy := zI0
  exact lv_if_lt hC.1 hC.2.1 hd ht (fun h => kt ((zI_lt hx hy).mp h) g p e s m args below meth c H locs ls hC hW hS hlv hol (zokt host)) (fun h => kf (by have := mt (zI_lt hx hy).mpr h; omega) g p e s m args below meth c H locs ls hC hW hS hlv hol (zokt host))
theorem aw_icmp_ge {off : Int} {tgt : Nat} {x y : Int} (hd : dec X pc = .ok (.if_icmp .ge off, 3)) (ht : (pc : Int) + off = (tgt : Int)) (hp : pc + 3 = pc') (hx : zI x) (hy : zI y) (kt : y ≤ x → AW l X T tgt lv st M) (kf : x < y → AW l X T pc' lv st M) : AW l X T pc lv (zi y :: zi x :: st) M := by
  subst hp
  intro g p e s m args below meth c H locs ls hC hW hS hlv hol host
  exact lv_icmp_ge hC.1 hC.2.1 hd ht (fun h => kt ((zI_le hy hx).mp h) g p e s m args below meth c H locs ls hC hW hS hlv hol (zokt (zokt host))) (fun h => kf (by have := mt (zI_le hy hx).mpr h; omega) g p e s m args below meth c H locs ls hC hW hS hlv hol (zokt (zokt host)))
theorem aw_if_ge {off : Int} {tgt : Nat} {x : Int} (hd : dec X pc = .ok (.ifCond .ge off, 3)) (ht : (pc : Int) + off = (tgt : Int)) (hp : pc + 3 = pc') (hx : zI x) (kt : 0 ≤ x → AW l X T tgt lv st M) (kf : x < 0 → AW l X T pc' lv st M) : AW l X T pc lv (zi x :: st) M := by
  subst hp
  intro g p e s m args below meth c H locs ls hC hW hS hlv hol host
  have hy := zI0
  exact lv_if_ge hC.1 hC.2.1 hd ht (fun h => kt ((zI_le hy hx).mp h) g p e s m args below meth c H locs ls hC hW hS hlv hol (zokt host)) (fun h => kf (by have := mt (zI_le hy hx).mpr h; omega) g p e s m args below meth c H locs ls hC hW hS hlv hol (zokt host))
theorem aw_icmp_gt {off : Int} {tgt : Nat} {x y : Int} (hd : dec X pc = .ok (.if_icmp .gt off, 3)) (ht : (pc : Int) + off = (tgt : Int)) (hp : pc + 3 = pc') (hx : zI x) (hy : zI y) (kt : y < x → AW l X T tgt lv st M) (kf : x ≤ y → AW l X T pc' lv st M) : AW l X T pc lv (zi y :: zi x :: st) M := by
  subst hp
  intro g p e s m args below meth c H locs ls hC hW hS hlv hol host
  exact lv_icmp_gt hC.1 hC.2.1 hd ht (fun h => kt ((zI_lt hy hx).mp h) g p e s m args below meth c H locs ls hC hW hS hlv hol (zokt (zokt host))) (fun h => kf (by have := mt (zI_lt hy hx).mpr h; omega) g p e s m args below meth c H locs ls hC hW hS hlv hol (zokt (zokt host)))
theorem aw_if_gt {off : Int} {tgt : Nat} {x : Int} (hd : dec X pc = .ok (.ifCond .gt off, 3)) (ht : (pc : Int) + off = (tgt : Int)) (hp : pc + 3 = pc') (hx : zI x) (kt : 0 < x → AW l X T tgt lv st M) (kf : x ≤ 0 → AW l X T pc' lv st M) : AW l X T pc lv (zi x :: st) M := by
  subst hp
  intro g p e s m args below meth c H locs ls hC hW hS hlv hol host
  have hy := zI0
  exact lv_if_gt hC.1 hC.2.1 hd ht (fun h => kt ((zI_lt hy hx).mp h) g p e s m args below meth c H locs ls hC hW hS hlv hol (zokt host)) (fun h => kf (by have := mt (zI_lt hy hx).mpr h; omega) g p e s m args below meth c H locs ls hC hW hS hlv hol (zokt host))
theorem aw_icmp_le {off : Int} {tgt : Nat} {x y : Int} (hd : dec X pc = .ok (.if_icmp .le off, 3)) (ht : (pc : Int) + off = (tgt : Int)) (hp : pc + 3 = pc') (hx : zI x) (hy : zI y) (kt : x ≤ y → AW l X T tgt lv st M) (kf : y < x → AW l X T pc' lv st M) : AW l X T pc lv (zi y :: zi x :: st) M := by
  subst hp
  intro g p e s m args below meth c H locs ls hC hW hS hlv hol host
  exact lv_icmp_le hC.1 hC.2.1 hd ht (fun h => kt ((zI_le hx hy).mp h) g p e s m args below meth c H locs ls hC hW hS hlv hol (zokt (zokt host))) (fun h => kf (by have := mt (zI_le hx hy).mpr h; omega) g p e s m args below meth c H locs ls hC hW hS hlv hol (zokt (zokt host)))
theorem aw_if_le {off : Int} {tgt : Nat} {x : Int} (hd : dec X pc = .ok (.ifCond .le off, 3)) (ht : (pc : Int) + off = (tgt : Int)) (hp : pc + 3 = pc') (hx : zI x) (kt : x ≤ 0 → AW l X T tgt lv st M) (kf : 0 < x → AW l X T pc' lv st M) : AW l X T pc lv (zi x :: st) M := by
  subst hp
  intro g p e s m args below meth c H locs ls hC hW hS hlv hol host
  have hy := zI0
  exact lv_if_le hC.1 hC.2.1 hd ht (fun h => kt ((zI_le hx hy).mp h) g p e s m args below meth c H locs ls hC hW hS hlv hol (zokt host)) (fun h => kf (by have := mt (zI_le hx hy).mpr h; omega) g p e s m args below meth c H locs ls hC hW hS hlv hol (zokt host))
end
end
section
/-! ===== rows: arrays, switches ===== -/
abbrev zaG (k t : Nat) : Prop := (¬ (60 ≤ k ∧ k < 64) ∧ k ≠ 97 ∧ ¬ zob k) ∧ zety k = t
/-- kind k is an array of element kind t, one of the fixed ones; one of those that are made -/
abbrev zar (k t : Nat) : Prop := k < 60 ∧ ¬ k < 10 ∧ zety k = t
abbrev zad (k t : Nat) : Prop := (68 ≤ k ∧ k < 96) ∧ zety k = t
theorem zar.G {k t : Nat} (h : zar k t) : zaG k t := ⟨⟨by omega, by omega, by unfold zob; omega⟩, h.2.2⟩
theorem zst_na {k t : Nat} {j x : Int} {M : zM} (hk : zaG k t) (ht : t ≠ 5 := by decide) : ∀ k', zrp k j = some k' → x < M 97 0 k' := by
  intro k' h
  rw [zrp_na hk.1.2.2 (by rw [hk.2]; exact ht)] at h
  cases h
theorem zad.G {k t : Nat} (h : zad k t) : zaG k t := ⟨⟨by omega, by omega, by unfold zob; omega⟩, h.2⟩
theorem zent_arr {g : zG} {M : zM} {k i : Nat} (hk : ¬ zob k) : zent g M k i = .inl (g.2.2.1 (zety k), zln M k i, zarr g M k i) := if_neg hk
theorem zarr_i {g : zG} {M : zM} {k i : Nat} (h : zety k < 3) : zarr g M k i = .inl fun j : Nat => Int32.ofInt (M k i (j : Int)) := by
  unfold zarr
  rw [if_neg (by omega), if_neg (by omega), if_neg (by omega)]
theorem zarr_l {g : zG} {M : zM} {k i : Nat} (h : zety k = 3) : zarr g M k i = .inr (.inl fun j : Nat => Int64.ofInt (M k i (j : Int))) := by
  unfold zarr
  rw [if_pos h]
theorem zarr_q {g : zG} {M : zM} {k i : Nat} (h : zety k = 4) : zarr g M k i = .inr (.inr (.inr (.inr fun j => some (g.2.1 1 (j + zoff k))))) := by
  unfold zarr
  rw [if_neg (by omega), if_pos h]
theorem zarr_r {g : zG} {M : zM} {k i : Nat} (h : zety k = 5) : zarr g M k i = .inr (.inr (.inr (.inr fun j : Nat => zdo g (zel k) (M k i (j : Int))))) := by
  unfold zarr
  rw [if_neg (by omega), if_neg (by omega), if_pos h]
theorem zupd {M : zM} {k i : Nat} {j x : Int} (h : 0 ≤ j ∧ j < 2000000000) : (upd (fun j : Nat => Int32.ofInt (M k i (j : Int))) (Int32.ofInt j).toNatClampNeg (Int32.ofInt x)) = fun n : Nat => Int32.ofInt (zu M k i j x k i (n : Int)) := by
  funext n
  have e := zcl_of h
  by_cases hn : n = (Int32.ofInt j).toNatClampNeg
  · rw [hn]
    rw [pk_us, e, zu_s]
  · rw [pk_un hn, zu_n (by rintro ⟨-, -, h3⟩; exact hn (by omega))]
theorem zupdL {M : zM} {k i : Nat} {j x : Int} (h : 0 ≤ j ∧ j < 2000000000) : (vp_updL (fun j : Nat => Int64.ofInt (M k i (j : Int))) (Int32.ofInt j).toNatClampNeg (Int64.ofInt x)) = fun n : Nat => Int64.ofInt (zu M k i j x k i (n : Int)) := by
  funext n
  have e := zcl_of h
  by_cases hn : n = (Int32.ofInt j).toNatClampNeg
  · rw [hn]
    rw [pk_uLs, e, zu_s]
  · rw [pk_uLn hn, zu_n (by rintro ⟨-, -, h3⟩; exact hn (by omega))]
theorem zupdR {g : zG} {M : zM} {k i k' r : Nat} {j : Int} (h : 0 ≤ j ∧ j < 2000000000) : (va_up (fun j : Nat => zdo g k' (M k i (j : Int))) (Int32.ofInt j).toNatClampNeg (some (g.2.1 k' r))) = fun n : Nat => zdo g k' (zu M k i j (r : Int) k i (n : Int)) := by
  funext n
  have e := zcl_of h
  unfold va_up
  by_cases hn : n = (Int32.ofInt j).toNatClampNeg
  · rw [if_pos hn, hn, e, zu_s, zdo, if_neg (by omega), Int.toNat_natCast]
  · rw [if_neg hn, zu_n (by rintro ⟨-, -, h3⟩; exact hn (by omega))]
theorem zlen_small (k : Nat) : zlen k ≤ 2000000000 := by
  have h : ∀ n ∈ zlenL, n ≤ 2000000000 := by decide
  unfold zlen
  rw [List.getD_eq_getElem?_getD]
  cases hq : zlenL[k]? with
  | none => simp
  | some n => exact h n (List.mem_of_getElem? hq)
theorem zln_s {M : zM} {k i : Nat} (h : zlen k ≠ 0) : zln M k i = zlen k := if_neg h
theorem zln_d {M : zM} {k i : Nat} (h : zlen k = 0) : zln M k i = (M k i (-1)).toNat := if_pos h
theorem zln_u {M : zM} {k i k' i' : Nat} {j x : Int} (hj : 0 ≤ j) : zln (zu M k i j x) k' i' = zln M k' i' := by
  unfold zln
  rw [zu_n (by rintro ⟨-, -, h⟩; omega)]
/-- an index that fits -/
def zix (M : zM) (k i : Nat) (j : Int) : Prop := (0 ≤ j ∧ j < (zln M k i : Nat)) ∧ zln M k i ≤ 2000000000
theorem zix_s {M : zM} {k i : Nat} {j : Int} (h : 0 ≤ j ∧ j < (zlen k : Nat)) : zix M k i j := by
  have := zlen_small k
  unfold zix
  rw [zln_s (by omega)]
  exact ⟨h, this⟩
theorem zix_d {M : zM} {k i : Nat} {j : Int} (hk : zlen k = 0) (h : 0 ≤ j ∧ j < M k i (-1) ∧ M k i (-1) ≤ 1000000) : zix M k i j := by
  unfold zix
  rw [zln_d hk]
  omega
theorem zix.u {M : zM} {k i k' i' : Nat} {j j' x : Int} (h : zix M k i j) (hj : 0 ≤ j') : zix (zu M k' i' j' x) k i j := by
  unfold zix at h ⊢
  rw [zln_u hj]
  exact h
/-- a block of an array moved -/
def zcp (M : zM) (k0 i0 k1 i1 : Nat) (n : Int) : zM := fun k i j => if k = k1 ∧ i = i1 ∧ 0 ≤ j ∧ j < n then M k0 i0 j else M k i j
theorem zty_at {g : zG} {t : Nat} (h : t < 6) : ∃ ty, (ztys g)[t]? = some (g.2.2.1 t, ty) := by
  match t, h with
  | 0, _ => exact ⟨_, rfl⟩
  | 1, _ => exact ⟨_, rfl⟩
  | 2, _ => exact ⟨_, rfl⟩
  | 3, _ => exact ⟨_, rfl⟩
  | 4, _ => exact ⟨_, rfl⟩
  | 5, _ => exact ⟨_, rfl⟩
theorem zasg {vm : Vm} {c : ClassId} : vm.assignable c c = true := by
  show vm.assignableAux (255 + 1) c c = true
  rw [Vm.assignableAux]
  simp
section
variable {l : Launch} {X : zD} {T : zT} {pc pc' : Nat} {lv lv' : List (Nat × zV)} {st st' : List zV} {M M' : zM}
theorem aw_ialdG {k i : Nat} {j : Int} (hd : dec X pc = .ok (.iaload, 1)) (hp : pc + 1 = pc') (hk : zaG k 0) (hj : zix M k i j) (kk : AW l X T pc' lv (zi (M k i j) :: st) M) : AW l X T pc lv (zi j :: zr k i :: st) M := by
  subst hp
  refine AW.go (fun _ h _ => zok1i (zokt (zokt h))) ?_ kk
  intro g p e s m args below meth c H locs ls Q hC hW hS hlv host h
  obtain ⟨n, hn⟩ := zws_at hk.1.1 (host (zr k i) (List.mem_cons_of_mem _ List.mem_cons_self))
  obtain ⟨hj, hl⟩ := hj
  have he := zws_get (g := g) (M := M) hn
  rw [zent_arr hk.1.2.2, zarr_i (by omega), hk.2] at he
  rw [List.map_cons, List.map_cons, zcv_r (by omega)]
  refine va_iald hC.1 hC.2.1 hC.2.2.2.2.2.2.2.1.1 hW.1 n 0 he rfl (zin_of hl hj) hd ?_
  rw [zcl_of (by omega)]
  exact h
theorem aw_iald {k i : Nat} {j : Int} (hd : dec X pc = .ok (.iaload, 1)) (hp : pc + 1 = pc') (hk : zar k 0) (hj : 0 ≤ j ∧ j < (zlen k : Nat)) (kk : AW l X T pc' lv (zi (M k i j) :: st) M) : AW l X T pc lv (zi j :: zr k i :: st) M := aw_ialdG hd hp hk.G (zix_s hj) kk
theorem aw_zaldG {k i : Nat} {j : Int} (hd : dec X pc = .ok (.baload, 1)) (hp : pc + 1 = pc') (hk : zaG k 1) (hj : zix M k i j) (kk : AW l X T pc' lv (zi (M k i j) :: st) M) : AW l X T pc lv (zi j :: zr k i :: st) M := by
  subst hp
  refine AW.go (fun _ h _ => zok1i (zokt (zokt h))) ?_ kk
  intro g p e s m args below meth c H locs ls Q hC hW hS hlv host h
  obtain ⟨n, hn⟩ := zws_at hk.1.1 (host (zr k i) (List.mem_cons_of_mem _ List.mem_cons_self))
  obtain ⟨hj, hl⟩ := hj
  have he := zws_get (g := g) (M := M) hn
  rw [zent_arr hk.1.2.2, zarr_i (by omega), hk.2] at he
  rw [List.map_cons, List.map_cons, zcv_r (by omega)]
  refine va_zald hC.1 hC.2.1 hC.2.2.2.2.2.2.2.1.1 hW.1 n 1 he rfl (zin_of hl hj) hd ?_
  rw [zcl_of (by omega)]
  exact h
theorem aw_zald {k i : Nat} {j : Int} (hd : dec X pc = .ok (.baload, 1)) (hp : pc + 1 = pc') (hk : zar k 1) (hj : 0 ≤ j ∧ j < (zlen k : Nat)) (kk : AW l X T pc' lv (zi (M k i j) :: st) M) : AW l X T pc lv (zi j :: zr k i :: st) M := aw_zaldG hd hp hk.G (zix_s hj) kk
theorem aw_baldG {k i : Nat} {j : Int} (hd : dec X pc = .ok (.baload, 1)) (hp : pc + 1 = pc') (hk : zaG k 2) (hj : zix M k i j) (kk : AW l X T pc' lv (zi (M k i j) :: st) M) : AW l X T pc lv (zi j :: zr k i :: st) M := by
  subst hp
  refine AW.go (fun _ h _ => zok1i (zokt (zokt h))) ?_ kk
  intro g p e s m args below meth c H locs ls Q hC hW hS hlv host h
  obtain ⟨n, hn⟩ := zws_at hk.1.1 (host (zr k i) (List.mem_cons_of_mem _ List.mem_cons_self))
  obtain ⟨hj, hl⟩ := hj
  have he := zws_get (g := g) (M := M) hn
  rw [zent_arr hk.1.2.2, zarr_i (by omega), hk.2] at he
  rw [List.map_cons, List.map_cons, zcv_r (by omega)]
  refine va_bald hC.1 hC.2.1 hC.2.2.2.2.2.2.2.1.1 hW.1 n 2 he rfl (zin_of hl hj) hd ?_
  rw [zcl_of (by omega)]
  exact h
theorem aw_bald {k i : Nat} {j : Int} (hd : dec X pc = .ok (.baload, 1)) (hp : pc + 1 = pc') (hk : zar k 2) (hj : 0 ≤ j ∧ j < (zlen k : Nat)) (kk : AW l X T pc' lv (zi (M k i j) :: st) M) : AW l X T pc lv (zi j :: zr k i :: st) M := aw_baldG hd hp hk.G (zix_s hj) kk
theorem aw_laldG {k i : Nat} {j : Int} (hd : dec X pc = .ok (.laload, 1)) (hp : pc + 1 = pc') (hk : zaG k 3) (hj : zix M k i j) (kk : AW l X T pc' lv (zl (M k i j) :: st) M) : AW l X T pc lv (zi j :: zr k i :: st) M := by
  subst hp
  refine AW.go (fun _ h _ => zok1l (zokt (zokt h))) ?_ kk
  intro g p e s m args below meth c H locs ls Q hC hW hS hlv host h
  obtain ⟨n, hn⟩ := zws_at hk.1.1 (host (zr k i) (List.mem_cons_of_mem _ List.mem_cons_self))
  obtain ⟨hj, hl⟩ := hj
  have he := zws_get (g := g) (M := M) hn
  rw [zent_arr hk.1.2.2, zarr_l hk.2, hk.2] at he
  rw [List.map_cons, List.map_cons, zcv_r (by omega)]
  refine va_lald hC.1 hC.2.1 hC.2.2.2.2.2.2.2.1.1 hW.1 n 3 he rfl (zin_of hl hj) hd ?_
  rw [zcl_of (by omega)]
  exact h
theorem aw_lald {k i : Nat} {j : Int} (hd : dec X pc = .ok (.laload, 1)) (hp : pc + 1 = pc') (hk : zar k 3) (hj : 0 ≤ j ∧ j < (zlen k : Nat)) (kk : AW l X T pc' lv (zl (M k i j) :: st) M) : AW l X T pc lv (zi j :: zr k i :: st) M := aw_laldG hd hp hk.G (zix_s hj) kk
theorem aw_qald {k i : Nat} {j : Int} (hd : dec X pc = .ok (.aaload, 1)) (hp : pc + 1 = pc') (hk : zar k 4) (hj : 0 ≤ j ∧ j < (zlen k : Nat)) (hc : j.toNat + zoff k < 14) (kk : AW l X T pc' lv (zr 1 (j.toNat + zoff k) :: st) M) : AW l X T pc lv (zi j :: zr k i :: st) M := by
  subst hp
  refine AW.go (fun _ h _ => zok1 (v := zr 1 (j.toNat + zoff k)) (zok_s (by decide) hc) (zokt (zokt h))) ?_ kk
  intro g p e s m args below meth c H locs ls Q hC hW hS hlv host h
  obtain ⟨n, hn⟩ := zws_at hk.G.1.1 (host (zr k i) (List.mem_cons_of_mem _ List.mem_cons_self))
  obtain ⟨hj, hl⟩ := zix_s (M := M) (i := i) hj
  have he := zws_get (g := g) (M := M) hn
  rw [zent_arr hk.G.1.2.2, zarr_q hk.2.2, hk.2.2] at he
  rw [List.map_cons, List.map_cons, zcv_r (by omega)]
  refine va_aldq hC.1 hC.2.1 hC.2.2.2.2.2.2.2.1.1 hW.1 n 4 he rfl (zin_of hl hj) hd ?_
  have e := zcl_of (j := j) (by omega)
  rw [show (Int32.ofInt j).toNatClampNeg = j.toNat by omega]
  exact h
/-- a row out of an array of rows -/
theorem aw_rald {k i : Nat} {j : Int} (hd : dec X pc = .ok (.aaload, 1)) (hp : pc + 1 = pc') (hk : zaG k 5) (hz : 64 ≤ zel k ∧ zel k < 96) (hj : zix M k i j) (hr : 0 ≤ M k i j ∧ M k i j < M 97 0 (zel k)) (kk : AW l X T pc' lv (zr (zel k) (M k i j).toNat :: st) M) : AW l X T pc lv (zi j :: zr k i :: st) M := by
  subst hp
  intro g p e s m args below meth c H locs ls hC hW hS hlv hol host
  have h := kk g p e s m args below meth c H locs ls hC hW hS hlv hol (fun w hw => (List.mem_cons.mp hw).elim (fun q => q ▸ zok_d hW.2.2 hz hr) (fun q => host w (List.mem_cons_of_mem _ (List.mem_cons_of_mem _ q))))
  obtain ⟨n, hn⟩ := zws_at hk.1.1 (host (zr k i) (List.mem_cons_of_mem _ List.mem_cons_self))
  obtain ⟨hj, hl⟩ := hj
  have he := zws_get (g := g) (M := M) hn
  rw [zent_arr hk.1.2.2, zarr_r hk.2, hk.2] at he
  rw [List.map_cons, List.map_cons, zcv_r (by omega)]
  have hlt : (Int32.ofInt j).toNatClampNeg < zln M k i := Nat.not_le.mp fun q => zin_of hl hj (Or.inr q)
  have e1 := zcl_of (j := j) (by omega)
  refine W.aald (v := .ref (g.2.1 (zel k) (M k i j).toNat)) (ty := .array .int) hC.1 hC.2.1 (hW.1 n _ he) ((hC.2.2.2.2.2.2.2.1.1.2 5 _ rfl).1 (zln M k i) (fun q => va_rf (zdo g (zel k) (M k i (q : Int))))) rfl (fun q => by cases q) (by show ¬ (Int32.ofInt j < 0 ∨ (arrV _ _ _).slots.size ≤ _); rw [arrV_size]; exact zin_of hl hj) (by
    show (arrV _ _ _).slots[_]? = _
    rw [arrV_read _ _ hlt]
    show some (va_rf (zdo g (zel k) (M k i (((Int32.ofInt j).toNatClampNeg : Nat) : Int)))) = _
    rw [e1, zdo, if_neg (by omega)]
    rfl) rfl rfl hd ?_
  rw [List.map_cons, zcv_r (by omega)] at h
  exact h
theorem aw_alenG {k i : Nat} {x : Int} (hd : dec X pc = .ok (.arraylength, 1)) (hp : pc + 1 = pc') (hk : ¬ (60 ≤ k ∧ k < 64) ∧ ¬ zob k ∧ zety k < 6) (hx : ((zln M k i : Nat) : Int) = x) (kk : AW l X T pc' lv (zi x :: st) M) : AW l X T pc lv (zr k i :: st) M := by
  subst hp; subst hx
  refine AW.go (fun _ h _ => zok1i (zokt h)) ?_ kk
  intro g p e s m args below meth c H locs ls Q hC hW hS hlv host h
  obtain ⟨n, hn⟩ := zws_at hk.1 (host (zr k i) List.mem_cons_self)
  have he := zws_get (g := g) (M := M) hn
  rw [zent_arr hk.2.1] at he
  rw [List.map_cons, zcv_r (by omega)]
  obtain ⟨ty, ht⟩ := zty_at (g := g) hk.2.2
  exact va_alen (x := (zln M k i, zarr g M k i)) hC.1 hC.2.1 hC.2.2.2.2.2.2.2.1.1 hW.1 n (zety k) he ht (by rw [← Int32.ofInt_eq_ofNat]) hd h
theorem aw_alen {k i : Nat} {x : Int} (hd : dec X pc = .ok (.arraylength, 1)) (hp : pc + 1 = pc') (hk : k < 60 ∧ ¬ k < 10 ∧ zety k < 4) (hx : ((zlen k : Nat) : Int) = x) (hz : zlen k ≠ 0) (kk : AW l X T pc' lv (zi x :: st) M) : AW l X T pc lv (zr k i :: st) M :=
  aw_alenG hd hp ⟨by omega, by unfold zob; omega, by omega⟩ (by rw [zln_s hz]; exact hx) kk
theorem aw_iastG {k i : Nat} {j x : Int} (hd : dec X pc = .ok (.iastore, 1)) (hp : pc + 1 = pc') (hk : zaG k 0) (hj : zix M k i j) (kk : AW l X T pc' lv st (zu M k i j x)) : AW l X T pc lv (zi x :: zi j :: zr k i :: st) M := by
  subst hp
  intro g p e s m args below meth c H locs ls hC hW hS hlv hol host
  obtain ⟨n, hn⟩ := zws_at hk.1.1 (host (zr k i) (List.mem_cons_of_mem _ (List.mem_cons_of_mem _ List.mem_cons_self)))
  obtain ⟨hj, hl⟩ := hj
  have he := zws_get (g := g) (M := M) hn
  rw [zent_arr hk.1.2.2, zarr_i (by omega), hk.2] at he
  rw [List.map_cons, List.map_cons, List.map_cons, zcv_r (by omega)]
  have hs := zws_set (g := g) hW.2.2 hn (M := M) (M' := zu M k i j x) zu_o
  rw [zent_arr hk.1.2.2, zarr_i (by omega), hk.2, zln_u hj.1, ← zupd (by omega)] at hs
  refine va_iast hC.1 hC.2.1 hC.2.2.2.2.2.2.2.1.1 hW.1 hW.2.1 hS n 0 he rfl (zin_of hl hj) hd (fun H1 locs1 h1 h2 h3 => ?_)
  rw [hs] at h1 h2
  exact kk g p e s m args below meth c H1 locs1 ls hC ⟨h1, h2, hW.2.2.uu hk.1.2.1 (zst_na hk)⟩ h3 hlv hol (zokt (zokt (zokt host)))
theorem aw_iast {k i : Nat} {j x : Int} (hd : dec X pc = .ok (.iastore, 1)) (hp : pc + 1 = pc') (hk : zar k 0) (hj : 0 ≤ j ∧ j < (zlen k : Nat)) (kk : AW l X T pc' lv st (zu M k i j x)) : AW l X T pc lv (zi x :: zi j :: zr k i :: st) M := aw_iastG hd hp hk.G (zix_s hj) kk
theorem aw_zastG {k i : Nat} {j x : Int} (hd : dec X pc = .ok (.bastore, 1)) (hp : pc + 1 = pc') (hk : zaG k 1) (hj : zix M k i j) (hx : x = 0 ∨ x = 1) (kk : AW l X T pc' lv st (zu M k i j x)) : AW l X T pc lv (zi x :: zi j :: zr k i :: st) M := by
  subst hp
  intro g p e s m args below meth c H locs ls hC hW hS hlv hol host
  obtain ⟨n, hn⟩ := zws_at hk.1.1 (host (zr k i) (List.mem_cons_of_mem _ (List.mem_cons_of_mem _ List.mem_cons_self)))
  obtain ⟨hj, hl⟩ := hj
  have he := zws_get (g := g) (M := M) hn
  rw [zent_arr hk.1.2.2, zarr_i (by omega), hk.2] at he
  rw [List.map_cons, List.map_cons, List.map_cons, zcv_r (by omega)]
  have hs := zws_set (g := g) hW.2.2 hn (M := M) (M' := zu M k i j x) zu_o
  rw [zent_arr hk.1.2.2, zarr_i (by omega), hk.2, zln_u hj.1, ← zupd (by omega)] at hs
  have hnar : vp_nar .boolean (Int32.ofInt x) = Int32.ofInt x := by rcases hx with rfl | rfl <;> decide
  refine va_zast hC.1 hC.2.1 hC.2.2.2.2.2.2.2.1.1 hW.1 hW.2.1 hS n 1 he rfl (zin_of hl hj) hd (fun H1 locs1 h1 h2 h3 => ?_)
  rw [hnar, hs] at h1 h2
  exact kk g p e s m args below meth c H1 locs1 ls hC ⟨h1, h2, hW.2.2.uu hk.1.2.1 (zst_na hk)⟩ h3 hlv hol (zokt (zokt (zokt host)))
theorem aw_zast {k i : Nat} {j x : Int} (hd : dec X pc = .ok (.bastore, 1)) (hp : pc + 1 = pc') (hk : zar k 1) (hj : 0 ≤ j ∧ j < (zlen k : Nat)) (hx : x = 0 ∨ x = 1) (kk : AW l X T pc' lv st (zu M k i j x)) : AW l X T pc lv (zi x :: zi j :: zr k i :: st) M := aw_zastG hd hp hk.G (zix_s hj) hx kk
theorem aw_bastG {k i : Nat} {j x : Int} (hd : dec X pc = .ok (.bastore, 1)) (hp : pc + 1 = pc') (hk : zaG k 2) (hj : zix M k i j) (hx : -128 ≤ x ∧ x < 128) (kk : AW l X T pc' lv st (zu M k i j x)) : AW l X T pc lv (zi x :: zi j :: zr k i :: st) M := by
  subst hp
  intro g p e s m args below meth c H locs ls hC hW hS hlv hol host
  obtain ⟨n, hn⟩ := zws_at hk.1.1 (host (zr k i) (List.mem_cons_of_mem _ (List.mem_cons_of_mem _ List.mem_cons_self)))
  obtain ⟨hj, hl⟩ := hj
  have he := zws_get (g := g) (M := M) hn
  rw [zent_arr hk.1.2.2, zarr_i (by omega), hk.2] at he
  rw [List.map_cons, List.map_cons, List.map_cons, zcv_r (by omega)]
  have hs := zws_set (g := g) hW.2.2 hn (M := M) (M' := zu M k i j x) zu_o
  rw [zent_arr hk.1.2.2, zarr_i (by omega), hk.2, zln_u hj.1, ← zupd (by omega)] at hs
  have hnar : vp_nar .byte (Int32.ofInt x) = Int32.ofInt x := by
    rw [vp_nar_byte, ← Int32.toInt_inj, Int8.toInt_toInt32, Int32.toInt_toInt8, Int32.toInt_ofInt_of_le (by omega) (by omega)]
    exact Int.bmod_eq_of_le (by omega) (by omega)
  refine va_bast hC.1 hC.2.1 hC.2.2.2.2.2.2.2.1.1 hW.1 hW.2.1 hS n 2 he rfl (zin_of hl hj) hd (fun H1 locs1 h1 h2 h3 => ?_)
  rw [hnar, hs] at h1 h2
  exact kk g p e s m args below meth c H1 locs1 ls hC ⟨h1, h2, hW.2.2.uu hk.1.2.1 (zst_na hk)⟩ h3 hlv hol (zokt (zokt (zokt host)))
theorem aw_bast {k i : Nat} {j x : Int} (hd : dec X pc = .ok (.bastore, 1)) (hp : pc + 1 = pc') (hk : zar k 2) (hj : 0 ≤ j ∧ j < (zlen k : Nat)) (hx : -128 ≤ x ∧ x < 128) (kk : AW l X T pc' lv st (zu M k i j x)) : AW l X T pc lv (zi x :: zi j :: zr k i :: st) M := aw_bastG hd hp hk.G (zix_s hj) hx kk
theorem aw_lastG {k i : Nat} {j x : Int} (hd : dec X pc = .ok (.lastore, 1)) (hp : pc + 1 = pc') (hk : zaG k 3) (hj : zix M k i j) (kk : AW l X T pc' lv st (zu M k i j x)) : AW l X T pc lv (zl x :: zi j :: zr k i :: st) M := by
  subst hp
  intro g p e s m args below meth c H locs ls hC hW hS hlv hol host
  obtain ⟨n, hn⟩ := zws_at hk.1.1 (host (zr k i) (List.mem_cons_of_mem _ (List.mem_cons_of_mem _ List.mem_cons_self)))
  obtain ⟨hj, hl⟩ := hj
  have he := zws_get (g := g) (M := M) hn
  rw [zent_arr hk.1.2.2, zarr_l hk.2, hk.2] at he
  rw [List.map_cons, List.map_cons, List.map_cons, zcv_r (by omega)]
  have hs := zws_set (g := g) hW.2.2 hn (M := M) (M' := zu M k i j x) zu_o
  rw [zent_arr hk.1.2.2, zarr_l hk.2, hk.2, zln_u hj.1, ← zupdL (by omega)] at hs
  refine va_last hC.1 hC.2.1 hC.2.2.2.2.2.2.2.1.1 hW.1 hW.2.1 hS n 3 he rfl (zin_of hl hj) hd (fun H1 locs1 h1 h2 h3 => ?_)
  rw [hs] at h1 h2
  exact kk g p e s m args below meth c H1 locs1 ls hC ⟨h1, h2, hW.2.2.uu hk.1.2.1 (zst_na hk)⟩ h3 hlv hol (zokt (zokt (zokt host)))
theorem aw_last {k i : Nat} {j x : Int} (hd : dec X pc = .ok (.lastore, 1)) (hp : pc + 1 = pc') (hk : zar k 3) (hj : 0 ≤ j ∧ j < (zlen k : Nat)) (kk : AW l X T pc' lv st (zu M k i j x)) : AW l X T pc lv (zl x :: zi j :: zr k i :: st) M := aw_lastG hd hp hk.G (zix_s hj) kk
/-- a row put into an array of rows -/
theorem aw_rast {k i r : Nat} {j : Int} (hd : dec X pc = .ok (.aastore, 1)) (hp : pc + 1 = pc') (hk : zaG k 5) (he' : zaG (zel k) 0) (hz : 64 ≤ zel k ∧ zel k < 96) (hj : zix M k i j) (kk : AW l X T pc' lv st (zu M k i j (r : Int))) : AW l X T pc lv (zr (zel k) r :: zi j :: zr k i :: st) M := by
  subst hp
  intro g p e s m args below meth c H locs ls hC hW hS hlv hol host
  obtain ⟨n, hn⟩ := zws_at hk.1.1 (host (zr k i) (List.mem_cons_of_mem _ (List.mem_cons_of_mem _ List.mem_cons_self)))
  obtain ⟨n1, hn1⟩ := zws_at he'.1.1 (host (zr (zel k) r) List.mem_cons_self)
  obtain ⟨hj, hl⟩ := hj
  have he := zws_get (g := g) (M := M) hn
  rw [zent_arr hk.1.2.2, zarr_r hk.2, hk.2] at he
  have he1 := zws_get (g := g) (M := M) hn1
  rw [zent_arr he'.1.2.2, zarr_i (by omega), he'.2] at he1
  have hs := zws_set (g := g) hW.2.2 hn (M := M) (M' := zu M k i j (r : Int)) zu_o
  rw [zent_arr hk.1.2.2, zarr_r hk.2, hk.2, zln_u hj.1, ← zupdR (by omega)] at hs
  rw [List.map_cons, List.map_cons, List.map_cons, zcv_r (by omega), zcv_r (by omega)]
  have hlt : (Int32.ofInt j).toNatClampNeg < zln M k i := Nat.not_le.mp fun q => zin_of hl hj (Or.inr q)
  have h0 : ¬ Int32.ofInt j < 0 := fun q => zin_of hl hj (Or.inl q)
  obtain ⟨hx, hb, hml, hown, hts, hr, hlo, hK, hnm, hcl, hsl⟩ := id hC
  obtain ⟨comp, cc, kA, f1, -, f3, f4, f5⟩ := hK.2.2.2.2.2.2.2.2.2.1
  have c5 : s.vm.findClass ("[" ++ (FieldType.array .int).toString) = some (g.2.2.1 5) := (hK.1.2 5 _ rfl).2
  have c0 : s.vm.findClass ("[" ++ FieldType.int.toString) = some (g.2.2.1 0) := (hK.1.2 0 _ rfl).2
  have e5 : cc = g.2.2.1 5 := Option.some.inj (f5.symm.trans c5)
  have e0 : comp = g.2.2.1 0 := Option.some.inj (f1.symm.trans c0)
  subst e5; subst e0
  obtain ⟨kC, hkC, -⟩ := Vm.findClass_spec c0
  refine W.aast (t := .array .int) hx hb (hW.1 n _ he) (fun q h => by cases h) (fun h => by cases h) f3 f4 rfl hkC ⟨h0, by show _ < (arrV _ _ _).slots.size; rw [arrV_size]; exact hlt⟩ (hW.1 n1 _ he1) (fun q h => by cases h) hkC zasg rfl rfl hd fun H1 e1 z oq => ?_
  have hat : va_at g.1 vwCl (g.2.1 k i, .inl (g.2.2.1 5, zln M k i, .inr (.inr (.inr (.inr (va_up (fun j : Nat => zdo g (zel k) (M k i (j : Int))) (Int32.ofInt j).toNatClampNeg (some (g.2.1 (zel k) r)))))))) H1 := by
    show H1[g.2.1 k i]? = some (vp_cell _ _)
    rw [e1]
    rw [vp_cell_q, vp_cell_q, arrV_store]
    congr 2
    funext q
    by_cases hq : q = (Int32.ofInt j).toNatClampNeg
    · subst hq
      simp [updV, va_up, va_rf]
    · simp [updV, va_up, hq]
  have h1 := hW.1.set hW.2.1 he hat oq
  have h2 := hW.2.1.set (e := .inl (g.2.2.1 5, zln M k i, .inr (.inr (.inr (.inr (va_up (fun j : Nat => zdo g (zel k) (M k i (j : Int))) (Int32.ofInt j).toNatClampNeg (some (g.2.1 (zel k) r)))))))) he
  rw [hs] at h1 h2
  have hO1 : zO g (zu M k i j (r : Int)) := hW.2.2.uu hk.1.2.1 (fun k2 h => by
    unfold zrp at h
    rw [if_pos hk.2] at h
    cases h
    rcases List.mem_append.mp (zok_in (by omega) (host (zr (zel k) r) List.mem_cons_self)) with q | q
    · have := (zlocs_mem.mp q).1; omega
    · exact ((hW.2.2.2.1 _ _).mp q).2)
  exact kk g p e s m args below meth c H1 _ ls hC ⟨h1, h2, hO1⟩ (hS.put z oq (hW.2.1.2 n _ he)) hlv hol (zokt (zokt (zokt host)))
-- switches
def zTabs (l : Launch) (X : zD) (T : zT) (pc : Nat) (lv : List (Nat × zV)) (st : List zV) (M : zM) (x : Int) : Int → List Int → Prop
  | _, [] => True
  | k, o :: os => (x = k → ∃ tgt : Nat, (pc : Int) + o = (tgt : Int) ∧ AW l X T tgt lv st M) ∧ zTabs l X T pc lv st M x (k + 1) os
theorem zTabs_at {x : Int} : ∀ (os : List Int) (k : Int) (n : Nat), zTabs l X T pc lv st M x k os → x = k + n → ∀ o, os[n]? = some o → ∃ tgt : Nat, (pc : Int) + o = (tgt : Int) ∧ AW l X T tgt lv st M := by
  intro os
  induction os with
  | nil => intro k n _ _ o h; simp at h
  | cons a os ih =>
    intro k n h hx o ho
    cases n with
    | zero =>
      rw [List.getElem?_cons_zero] at ho
      cases ho
      exact h.1 (by simpa using hx)
    | succ n =>
      rw [List.getElem?_cons_succ] at ho
      exact ih (k + 1) n h.2 (by omega) o ho
theorem aw_table {dflt lo hi x : Int} {offs : List Int} {len tgt : Nat} (hd : dec X pc = .ok (.tableswitch dflt lo hi ⟨offs⟩, len)) (ht : (pc : Int) + dflt = (tgt : Int)) (hx : zI x) (hlen : (offs.length : Int) = hi - lo + 1) (hin : zTabs l X T pc lv st M x lo offs) (hout : (x < lo ∨ hi < x) → AW l X T tgt lv st M) : AW l X T pc lv (zi x :: st) M := by
  intro g p e s m args below meth c H locs ls hC hW hS hlv hol host
  have ex : (Int32.ofInt x).toInt = x := Int32.toInt_ofInt_of_le (by omega) (by omega)
  by_cases hx1 : x < lo ∨ hi < x
  · exact lv_tableOut hC.1 hC.2.1 hd (by rw [ex]; exact hx1) ht (hout hx1 g p e s m args below meth c H locs ls hC hW hS hlv hol (zokt host))
  · have hn : (x - lo).toNat < offs.length := by omega
    obtain ⟨t2, h1, h2⟩ := zTabs_at offs lo (x - lo).toNat hin (by omega) _ (List.getElem?_eq_getElem hn)
    exact lv_tableIn hC.1 hC.2.1 hd (by rw [ex]; omega) (by rw [ex]; omega) (by rw [ex, List.getElem?_toArray]; exact List.getElem?_eq_getElem hn) h1 (h2 g p e s m args below meth c H locs ls hC hW hS hlv hol (zokt host))
theorem aw_lookup {dflt x : Int} {ps : List (Int × Int)} {len : Nat} (hd : dec X pc = .ok (.lookupswitch dflt ⟨ps⟩, len)) (hx : zI x) (hsort : (ps.zip (ps.drop 1)).all (fun (a, next) => a.1 < next.1) = true) (kk : ∃ tgt : Nat, (pc : Int) + Op.lookupswitch.offset ps dflt x = (tgt : Int) ∧ AW l X T tgt lv st M) : AW l X T pc lv (zi x :: st) M := by
  intro g p e s m args below meth c H locs ls hC hW hS hlv hol host
  have ex : (Int32.ofInt x).toInt = x := Int32.toInt_ofInt_of_le (by omega) (by omega)
  obtain ⟨tgt, h1, h2⟩ := kk
  exact lv_lookup (ps := ⟨ps⟩) hC.1 hC.2.1 hd hsort rfl (by rw [ex]; exact h1) (h2 g p e s m args below meth c H locs ls hC hW hS hlv hol (zokt host))
-- long compares
theorem aw_lcmp {x y : Int} (hd : dec X pc = .ok (.lcmp, 1)) (hp : pc + 1 = pc') (hx : zJ x) (hy : zJ y) (kk : ∀ z : Int, (x < y ∧ z = -1 ∨ x = y ∧ z = 0 ∨ y < x ∧ z = 1) → AW l X T pc' lv (zi z :: st) M) : AW l X T pc lv (zl y :: zl x :: st) M := by
  have h1 := zJ_lt hx hy
  have h2 := zJ_lt hy hx
  have h3 := zJ_eq hx hy
  have hz : ∃ z : Int, (x < y ∧ z = -1 ∨ x = y ∧ z = 0 ∨ y < x ∧ z = 1) ∧ lg_cmp (Int64.ofInt x) (Int64.ofInt y) = Int32.ofInt z := by
    rcases Int.lt_trichotomy x y with h | h | h
    · refine ⟨-1, Or.inl ⟨h, rfl⟩, ?_⟩
      have a1 : ¬ Int64.ofInt y < Int64.ofInt x := fun q => by have := h2.mp q; omega
      have a2 : ¬ Int64.ofInt x = Int64.ofInt y := fun q => by have := h3.mp q; omega
      simp only [lg_cmp]
      first | (rw [if_neg a1, if_neg a2]; rfl) | (rw [if_pos (h1.mpr h)]; rfl) | simp [a1, a2, h1.mpr h]
    · subst h
      refine ⟨0, Or.inr (Or.inl ⟨rfl, rfl⟩), ?_⟩
      simp [lg_cmp]
    · refine ⟨1, Or.inr (Or.inr ⟨h, rfl⟩), ?_⟩
      simp [lg_cmp, h2.mpr h]
  obtain ⟨z, hz1, hz2⟩ := hz
  refine AW.go (fun _ h _ => zok1i (zokt (zokt h))) ?_ (kk z hz1)
  intro g p e s m args below meth c H locs ls Q hC hW hS hlv host h
  subst hp
  refine W.lcmp hC.1 hC.2.1 hd ?_
  rw [hz2]
  exact h
end
end
section
/-! ===== rows: answers, calls ===== -/
section
variable {l : Launch} {X : zD} {T : zT} {pc pc' : Nat} {lv lv' : List (Nat × zV)} {st st' : List zV} {M M' : zM}
theorem zlk2 {dflt a b x : Int} : Op.lookupswitch.offset [((0 : Int), a), (1, b)] dflt x = if x = 0 then a else if x = 1 then b else dflt := by
  by_cases h0 : x = 0
  · subst h0; rfl
  · by_cases h1 : x = 1
    · subst h1; rfl
    · rw [if_neg h0, if_neg h1]
      have e0 : ¬ (0 : Int) = x := fun h => h0 h.symm
      have e1 : ¬ (1 : Int) = x := fun h => h1 h.symm
      simp [Op.lookupswitch.offset, h0, h1, e0, e1]
theorem aw_lookup2 {dflt a b x : Int} {len ta tb td : Nat} (hd : dec X pc = .ok (.lookupswitch dflt #[(0, a), (1, b)], len)) (hx : zI x) (ha : (pc : Int) + a = (ta : Int)) (hb : (pc : Int) + b = (tb : Int)) (hdf : (pc : Int) + dflt = (td : Int))
    (k0 : x = 0 → AW l X T ta lv st M) (k1 : x = 1 → AW l X T tb lv st M) (kd : (x ≠ 0 ∧ x ≠ 1) → AW l X T td lv st M) : AW l X T pc lv (zi x :: st) M := by
  refine aw_lookup hd hx rfl ?_
  rw [zlk2]
  by_cases h0 : x = 0
  · rw [if_pos h0]; exact ⟨ta, ha, k0 h0⟩
  · by_cases h1 : x = 1
    · rw [if_neg h0, if_pos h1]; exact ⟨tb, hb, k1 h1⟩
    · rw [if_neg h0, if_neg h1]; exact ⟨td, hdf, kd ⟨h0, h1⟩⟩
end
-- a method's contract
def zQc (g : zG) (Q : Option zV → zM → Prop) : Array Value → State → Outcome → State → Prop := fun _ st o t => (∃ (g' : zG) (r : Option zV) (M' : zM), zX g g' ∧ o = .returned (r.map (zcv g')) ∧ (∀ v, r = some v → zok g' v) ∧ Q r M' ∧ zW g' M' t.heap) ∧ va_F (zA g) st t
abbrev zRn (X : zD) (mc ms : Nat) : Room := { frames := X.2.2.2.2.1, cells := mc, slots := ms, locals := X.2.2.2.2.2 }
/-- with room for mc cells, ms slots, of which c, n are taken -/
def zTn (X : zD) (mc ms c n : Nat) (Q : Option zV → zM → Prop) : zT := (zRn X mc ms, c, n, fun g s args below => MQ below (zQc g Q) args s mc ms (zA g))
def zTm (X : zD) (Q : Option zV → zM → Prop) : zT := zTn X 0 0 0 0 Q
/-- more is taken -/
def zT2 (T : zT) (c n : Nat) : zT := (T.1, T.2.1 + c, T.2.2.1 + n, T.2.2.2)
def zargs : Nat → List zV → List (Nat × zV)
  | _, [] => []
  | i, v :: vs => (i, v) :: zargs (if zcat v = 2 then i + 2 else i + 1) vs
def zsz : List zV → Nat
  | [] => 0
  | v :: vs => zcat v + zsz vs
def CWn (l : Launch) (X : zD) (mc ms : Nat) (args : List zV) (M : zM) (Q : Option zV → zM → Prop) : Prop := AW l X (zTn X mc ms 0 0 Q) 0 (zargs 0 args) [] M
def CW (l : Launch) (X : zD) (args : List zV) (M : zM) (Q : Option zV → zM → Prop) : Prop := AW l X (zTm X Q) 0 (zargs 0 args) [] M
theorem MQ_mono {below : List Frame} {Qc Qc' : Array Value → State → Outcome → State → Prop} {a : Array Value} {s : State} {mc ms : Nat} {free : Addr → Prop} (h : ∀ a st o t, Qc a st o t → Qc' a st o t) {t : State} (k : MQ below Qc a s mc ms free t) : MQ below Qc' a s mc ms free t := by
  obtain ⟨o, h1, h2, h3, h4⟩ := k
  exact ⟨o, h1, h2, h _ _ _ _ h3, h4⟩
theorem zQc.of {g g' : zG} {Q : Option zV → zM → Prop} (h : zX g g') {a : Array Value} {st : State} {o : Outcome} {t : State} (k : zQc g' Q a st o t) : zQc g Q a st o t := by
  obtain ⟨⟨g2, r, M', h1, h2⟩, h3⟩ := k
  refine ⟨⟨g2, r, M', h.tr h1, h2⟩, ?_⟩
  rw [← h.A]
  exact h3
theorem zPo.met {X : zD} {mc ms c n : Nat} {Q : Option zV → zM → Prop} {g : zG} {s : State} {args : Array Value} {below : List Frame} {t : State} (k : zPo (zTn X mc ms c n Q) g s args below t) : MQ below (zQc g Q) args s mc ms (zA g) t := by
  obtain ⟨g', hx, o, h1, h2, h3, L, h4, h5⟩ := k
  refine ⟨o, h1, h2, h3.of hx, L, h4, ?_⟩
  rw [← hx.A]
  exact h5
theorem AW_mono {l : Launch} {X : zD} {mc ms c n : Nat} {Q Q' : Option zV → zM → Prop} {pc : Nat} {lv : List (Nat × zV)} {st : List zV} {M : zM} (k : AW l X (zTn X mc ms c n Q) pc lv st M) (h : ∀ r M', Q r M' → Q' r M') : AW l X (zTn X mc ms c n Q') pc lv st M := by
  intro g p e s m args below meth cc H locs ls hC hW hS hlv hol host T hT hX
  obtain ⟨t, h1, g', hx, h2⟩ := k g p e s m args below meth cc H locs ls hC hW hS hlv hol host T hT hX
  refine ⟨t, h1, g', hx, MQ_mono (fun a st o t hq => ?_) h2⟩
  obtain ⟨⟨g2, r, M', e0, e1, e2, e3, e4⟩, e5⟩ := hq
  exact ⟨⟨g2, r, M', e0, e1, e2, h _ _ e3, e4⟩, e5⟩
theorem CW.mono {l : Launch} {X : zD} {Q Q' : Option zV → zM → Prop} {args : List zV} {M : zM} (k : CW l X args M Q) (h : ∀ r M', Q r M' → Q' r M') : CW l X args M Q' := AW_mono k h
theorem CWn.mono {l : Launch} {X : zD} {mc ms : Nat} {Q Q' : Option zV → zM → Prop} {args : List zV} {M : zM} (k : CWn l X mc ms args M Q) (h : ∀ r M', Q r M' → Q' r M') : CWn l X mc ms args M Q' := AW_mono k h
theorem zlv_args (g : zG) : ∀ (vs : List zV) (i : Nat), lv_args i (vs.map (zcv g)) = zlv g (zargs i vs)
  | [], _ => rfl
  | v :: vs, i => by
    rw [List.map_cons, lv_args, zargs, zlv, List.map_cons, zcat_cv]
    exact congrArg _ (zlv_args g vs _)
theorem zsl_len (g : zG) : ∀ vs : List zV, (lg_sl (vs.map (zcv g))).length = zsz vs
  | [] => rfl
  | v :: vs => by
    have ih := zsl_len g vs
    have hc : zcat v = 1 ∨ zcat v = 2 := by
      rcases v with x | x | x | x
      · exact Or.inl rfl
      · exact Or.inr rfl
      · exact Or.inr rfl
      · exact Or.inl rfl
    simp only [lg_sl, List.map_cons, List.flatMap_cons, List.length_append, zsz, zcat_cv] at ih ⊢
    rw [ih]
    rcases hc with h | h <;> simp [h]
theorem znest_tab : znest.all (fun w => w.onTables) = true := by decide +kernel
theorem zK.same {g : zG} {s U : State} {H : Heap} (hv : s.vm = U.vm) (h : zK g s H) : zK g U H := by
  have ha : s.vm.Alike U.vm := by rw [hv]; exact Vm.Alike.refl U.vm
  exact h.mv ha (fun w hw => va_Nw.same (List.all_eq_true.mp znest_tab w hw) hv (h.2.1 w hw)) (fun q hq => vk_R.same hv.symm (h.2.2.2.1 q hq)) (Nat.le_refl _) (fun _ _ _ => rfl)
def zPc (g : zG) (args : List zV) (M : zM) : Array Value → State → Prop := fun a U => a = (args.map (zcv g)).toArray ∧ zW g M U.heap ∧ zK g U U.heap ∧ zgn g ≤ U.heap.size
def zwd (Y : zD) : List Cond := .code Y.1 Y.2.1 Y.2.2.1 Y.2.2.2.1 :: zTB
theorem CWn.met {l : Launch} {Y : zD} {mc ms : Nat} {args : List zV} {M : zM} {Q : Option zV → zM → Prop} (k : CWn l Y mc ms args M Q) (hpl : plainName Y.1.cls = true) (hsz : zsz args ≤ Y.2.2.1) (g : zG) (hok : ∀ v ∈ args, zok g v) : Met l Y.1 (zwd Y) (zRn Y mc ms) (zPc g args M) (zQc g Q) mc ms (zA g) := by
  refine Met.ofW (cc := Y.2.1) (maxL := Y.2.2.1) (ret := Y.2.2.2.1) hpl rfl ?_
  intro p e s m args' below meth c s₁ B hml hP
  obtain ⟨rfl, hW, hK, hz⟩ := hP
  have hts := atoms_spec (ws := zwd Y) B.pre
  have hentry := lv_entry (args.map (zcv g)) (n := Y.2.2.1) (by rw [zsl_len]; exact hsz)
  rw [zlv_args] at hentry
  rw [lg_entry_eq]
  have hok2 : ∀ (vs : List zV) (i : Nat), (∀ v ∈ vs, zok g v) → ∀ q ∈ zargs i vs, zok g q.2 := by
    intro vs
    induction vs with
    | nil => intro i _ q hq; cases hq
    | cons v vs ih =>
      intro i h q hq
      rcases List.mem_cons.mp hq with rfl | hq
      · exact h v List.mem_cons_self
      · exact ih _ (fun w hw => h w (List.mem_cons_of_mem _ hw)) q hq
  exact zWm (k g p e s m _ below meth c s.heap [] _ ⟨B.exec, B.bytes, hml, findClass_of_methodNamed B.named, fun w hw => hts w (List.mem_cons_of_mem _ hw), B.returns, B.notSynchronized, hK, ⟨(name_of_methodNamed B.named B.method).1, hz⟩, Nat.zero_le _, Nat.zero_le _⟩ hW va_S.rf hentry (hok2 args 0 hok) (fun v hv => by cases hv)) (fun t ht => zPo.met ht)
theorem zPc_blind (g : zG) (args : List zV) (M : zM) : FrameBlind (zPc g args M) := by
  intro a U f mk h
  exact ⟨h.1, h.2.1, zK.same (s := U) (U := U.calling f mk a) rfl h.2.2.1, h.2.2.2⟩
/-- the pool entry ix of own is the method Y -/
def zCB (own : String) (ix : Nat) (Y : zD) (n : Nat) : Prop :=
  plainName Y.1.cls = true ∧ Cond.code Y.1 Y.2.1 Y.2.2.1 Y.2.2.2.1 ∈ zTB ∧ Cond.initialized Y.1.cls ∈ zTB ∧
  (Y.1.cls ≠ "java/lang/invoke/MethodHandle" ∧ Y.1.cls ≠ "java/lang/invoke/VarHandle") ∧ (parseMethodDescriptor Y.1.desc).map (fun d => d.parameters.length) = some n ∧
  (Cond.methodLink own ix Y.1 ∈ zTB ∨ ∃ host, Cond.methodLinkNest own ix Y.1 host ∈ znest)
def zCV (own : String) (ix : Nat) (Y : zD) (n kd : Nat) : Prop := zCB own ix Y n ∧ Cond.instanceMethod Y.1 ∈ zTB ∧ Cond.selects Y.1.cls Y.1 Y.1 ∈ zTB ∧ zob kd ∧ ∃ (TT : u_T) (N : Nat), vwCl[zci kd]? = some (Y.1.cls, TT, N)
def zCS (own : String) (ix : Nat) (Y : zD) (n : Nat) : Prop := zCB own ix Y n ∧ Cond.static Y.1 ∈ zTB
theorem zgood {w : Cond} (h : w ∈ zTB) : (w.onTables && w.keeps) = true ∨ ∃ ty, w = .arrayClass ty := good_of_word (List.mem_filter.mp h).2
theorem zgoodIn {Y : zD} (hc : Cond.code Y.1 Y.2.1 Y.2.2.1 Y.2.2.2.1 ∈ zTB) : GoodIn zTB (zwd Y) := by
  intro w hw
  rcases List.mem_cons.mp hw with rfl | hw
  · exact ⟨hc, zgood hc⟩
  · exact ⟨hw, zgood hw⟩
section
variable {l : Launch} {X : zD} {T : zT} {pc pc' : Nat} {lv lv' : List (Nat × zV)} {st st' : List zV} {M M' : zM}
theorem zC.of2 {g : zG} {p : Program} {s : State} {m : MethodId} {args : Array Value} {meth : Method} {c : Code} {mc ms : Nat} (hC : zC X T g p s m args meth c) (h : T.2.1 + mc ≤ T.1.cells ∧ T.2.2.1 + ms ≤ T.1.slots) : zC X (zT2 T mc ms) g p s m args meth c := by
  obtain ⟨h1, h2, h3, h4, h5, h6, h7, h8, h9, h10, h11⟩ := hC
  exact ⟨h1, h2, h3, h4, h5, h6, h7, h8, h9, h.1, h.2⟩
theorem zrun {g : zG} {p : Program} {e : Jvm.Env} {s : State} {m : MethodId} {args : Array Value} {below : List Frame} {meth : Method} {c : Code} {H : Heap} {locs : List Loc} {ls : Array Slot} {Q : Option zV → zM → Prop} {A : Array Value} {st0 : List Value} {mc ms : Nat}
    (hC : zC X T g p s m args meth c) (hS : va_S (zA g) s.heap H locs) (hlv : lv_has ls X.2.2.1 (zlv g lv)) (hol : ∀ q ∈ lv, zok g q.2) (host : ∀ v ∈ st, zok g v) (hrm : T.2.1 + mc ≤ T.1.cells ∧ T.2.2.1 + ms ≤ T.1.slots)
    (hr : va_Run p l e T.1 s m args below meth c H locs T.2.1 T.2.2.1 mc ms (F0 m pc ls st0) (st.map (zcv g)) (zQc g Q A) (zA g))
    (kk : ∀ r M', Q r M' → AW l X (zT2 T mc ms) (pc + 3) lv (r.toList ++ st) M') : W p l e T.1 s m args below meth c H locs T.2.1 T.2.2.1 (zPo T g s args below) (F0 m pc ls st0) := by
  intro U hU hX
  obtain ⟨v, st₀, t, T', L, h0, X', hL, e1, e2, ⟨⟨g', r, M', hx, hv, hok, hq, hw⟩, hz, hk⟩, st1⟩ := hr U hU hX
  cases hv
  rw [h0] at hz hk
  have hS' : va_S (zA g) s.heap T'.heap (locs ++ L) := ⟨Nat.le_trans hS.1 (by rw [e1]; exact hz), fun q h1 h2 => by rw [e1, hk q (Nat.lt_of_lt_of_le h1 hS.1) h2]; exact hS.2.1 q h1 h2, fun q hq => by
      rcases List.mem_append.mp hq with h | h
      · exact hS.2.2 q h
      · exact hL q h⟩
  have hko : ∀ v ∈ r.toList ++ st, zok g' v := fun v hv => (List.mem_append.mp hv).elim (fun h => hok v (Option.mem_toList.mp h)) (fun h => hx.ok (host v h))
  obtain ⟨t2, a1, b1⟩ := kk r M' hq g' p e s m args below meth c T'.heap (locs ++ L) ls (zC.of2 (hx.C hC) hrm) (by rw [e1]; exact hw) (by rw [hx.A]; exact hS') (by rw [hx.lv hol]; exact hlv) (fun q hq => hx.ok (hol q hq)) hko T' rfl X'
  refine ⟨t2, st1 t2 ?_, zPo.of hx t2 b1⟩
  have e3 : (r.map (zcv g')).toList ++ st.map (zcv g) = (r.toList ++ st).map (zcv g') := by rw [List.map_append, hx.st host]; cases r <;> simp
  show Steps p.tables e below (T'.setTop (F0 m (pc + 3) ls ((r.map (zcv g')).toList ++ st.map (zcv g)))) t2
  rw [e3]
  exact a1
theorem zst_cat (g : zG) (st : List zV) : ((st.map (zcv g)).map fun v => v.category).sum = zsz st := by
  induction st with
  | nil => rfl
  | cons v st ih => simp only [List.map_cons, List.sum_cons, zsz, zcat_cv, ih]
theorem aw_callVn {Y : zD} {ix n kd i mc ms : Nat} {As st0 : List zV} {Q : Option zV → zM → Prop} (hd : dec X pc = .ok (.invokevirtual ix, 3)) (hp : pc + 3 = pc') (hc : zCV X.1.cls ix Y n kd) (hroom : Y.2.2.2.2.1 + 1 ≤ T.1.frames ∧ 8 + (Y.2.2.1 + 11) + Y.2.2.2.2.2 ≤ T.1.locals)
    (hrm : T.2.1 + mc ≤ T.1.cells ∧ T.2.2.1 + ms ≤ T.1.slots) (hst : As.reverse ++ zr kd i :: st = st0) (hn : As.length = n) (hsz : zsz (zr kd i :: As) ≤ Y.2.2.1) (hcat : zsz st ≤ 8) (hcall : CWn l Y mc ms (zr kd i :: As) M Q) (kk : ∀ r M', Q r M' → AW l X (zT2 T mc ms) pc' lv (r.toList ++ st) M') : AW l X T pc lv st0 M := by
  subst hp; subst hst
  intro g p e s m args below meth c H locs ls hC hW hS hlv hol host
  obtain ⟨⟨hpl, hcode, hini, hy, hdesc, hlink⟩, hinst, hsel, hkd, TT, N, hcl⟩ := hc
  have hn0 := zob_n hkd
  have hargs : ∀ v ∈ zr kd i :: As, zok g v := fun v hv => by
    rcases List.mem_cons.mp hv with rfl | hv
    · exact host _ (List.mem_append_right _ List.mem_cons_self)
    · exact host _ (List.mem_append_left _ (List.mem_reverse.mpr hv))
  have hM := hcall.met hpl hsz g hargs
  obtain ⟨hx, hb, hml, hown, hts, hr, hlo, hK, hnm, hcl1, hsl1⟩ := id hC
  obtain ⟨n', hn'⟩ := zws_at hn0.1 (hargs (zr kd i) List.mem_cons_self)
  have he : (zws g M)[n']? = some (g.2.1 kd i, .inr (zci kd, zfl g M kd i)) := by rw [zws_get hn', zent_ob hkd]
  have hrecv := va_recv hK.1 hW.1 hcl he
  have hstack : ((As.reverse ++ zr kd i :: st).map (zcv g)) = (As.map (zcv g)).reverse ++ .ref (g.2.1 kd i) :: st.map (zcv g) := by
    rw [List.map_append, List.map_reverse, List.map_cons, zcv_r hn0.2]
  rw [hstack]
  have hPre : PreV s H Y.1.cls (g.2.1 kd i) (zPc g (zr kd i :: As) M) (As.map (zcv g)) := ⟨zPc_blind _ _ _, hrecv, fun U hU hW' => ⟨by rw [List.map_cons, zcv_r hn0.2], by rw [hU]; exact hW, by rw [hU]; exact hK.go hW' hS, by rw [hU]; exact Nat.le_trans hnm.2 hS.1⟩⟩
  have hokst : ∀ v ∈ st, zok g v := fun v hv => host v (List.mem_append_right _ (List.mem_cons_of_mem _ hv))
  have hD : Y.1.cls = Y.1.cls ∧ Y.1.cls ≠ "java/lang/invoke/MethodHandle" ∧ Y.1.cls ≠ "java/lang/invoke/VarHandle" ∧ (parseMethodDescriptor Y.1.desc).map (fun d => d.parameters.length) = some n := ⟨rfl, hy.1, hy.2, hdesc⟩
  rcases hlink with hlink | ⟨hst', hlink⟩
  · refine zrun hC hS hlv hol hokst hrm (va_runV (As := As.map (zcv g)) (rest := st.map (zcv g)) ⟨hx, hb, hml, hown, hts⟩ hM (cwV (ws' := zTB) n hts ?_ rfl rfl rfl hD hroom) hPre rfl (by rw [List.length_map]; exact hn) hlv.1 rfl (lv_room (by rw [zst_cat]; exact hcat)) hd hrm) kk
    intro w hw
    rcases List.mem_append.mp hw with hw | hw
    · have : w ∈ zTB := by
        simp only [List.mem_cons, List.not_mem_nil, or_false] at hw
        rcases hw with rfl | rfl | rfl | rfl <;> assumption
      exact ⟨this, zgood this⟩
    · exact zgoodIn hcode w hw
  · exact zrun hC hS hlv hol hokst hrm (va_runVN (As := As.map (zcv g)) (rest := st.map (zcv g)) (Ts := zTB) (own := X.1.cls) ⟨hx, hb, hml, hown, hts⟩ hM ⟨va_cnB (ws' := zTB) n hts (zgoodIn hcode) rfl rfl rfl (hK.2.1 _ hlink) (hts _ hini) ⟨hy.1, hy.2, hdesc⟩ hroom, hts _ hinst, hts _ hsel⟩ hPre rfl (by rw [List.length_map]; exact hn) hlv.1 rfl (lv_room (by rw [zst_cat]; exact hcat)) hd hrm) kk
theorem aw_callV {Y : zD} {ix n kd i : Nat} {As st0 : List zV} {Q : Option zV → zM → Prop} (hd : dec X pc = .ok (.invokevirtual ix, 3)) (hp : pc + 3 = pc') (hc : zCV X.1.cls ix Y n kd) (hroom : Y.2.2.2.2.1 + 1 ≤ T.1.frames ∧ 8 + (Y.2.2.1 + 11) + Y.2.2.2.2.2 ≤ T.1.locals)
    (hst : As.reverse ++ zr kd i :: st = st0) (hn : As.length = n) (hsz : zsz (zr kd i :: As) ≤ Y.2.2.1) (hcat : zsz st ≤ 8) (hcall : CW l Y (zr kd i :: As) M Q) (kk : ∀ r M', Q r M' → AW l X T pc' lv (r.toList ++ st) M') : AW l X T pc lv st0 M :=
  fun g p e s m args below meth c H locs ls hC => aw_callVn (mc := 0) (ms := 0) hd hp hc hroom ⟨hC.2.2.2.2.2.2.2.2.2.1, hC.2.2.2.2.2.2.2.2.2.2⟩ hst hn hsz hcat hcall kk g p e s m args below meth c H locs ls hC
theorem aw_callSn {Y : zD} {ix n mc ms : Nat} {As st0 : List zV} {Q : Option zV → zM → Prop} (hd : dec X pc = .ok (.invokestatic ix, 3)) (hp : pc + 3 = pc') (hc : zCS X.1.cls ix Y n) (hroom : Y.2.2.2.2.1 + 1 ≤ T.1.frames ∧ 8 + (Y.2.2.1 + 11) + Y.2.2.2.2.2 ≤ T.1.locals)
    (hrm : T.2.1 + mc ≤ T.1.cells ∧ T.2.2.1 + ms ≤ T.1.slots) (hst : As.reverse ++ st = st0) (hn : As.length = n) (hsz : zsz As ≤ Y.2.2.1) (hcat : zsz st ≤ 8) (hcall : CWn l Y mc ms As M Q) (kk : ∀ r M', Q r M' → AW l X (zT2 T mc ms) pc' lv (r.toList ++ st) M') : AW l X T pc lv st0 M := by
  subst hp; subst hst
  intro g p e s m args below meth c H locs ls hC hW hS hlv hol host
  obtain ⟨⟨hpl, hcode, hini, hy, hdesc, hlink⟩, hstat⟩ := hc
  have hargs : ∀ v ∈ As, zok g v := fun v hv => host _ (List.mem_append_left _ (List.mem_reverse.mpr hv))
  have hM := hcall.met hpl hsz g hargs
  obtain ⟨hx, hb, hml, hown, hts, hr, hlo, hK, hnm, hcl1, hsl1⟩ := id hC
  have hstack : ((As.reverse ++ st).map (zcv g)) = (As.map (zcv g)).reverse ++ st.map (zcv g) := by
    rw [List.map_append, List.map_reverse]
  rw [hstack]
  have hPre : PreS s H (zPc g As M) (As.map (zcv g)) := ⟨zPc_blind _ _ _, fun U hU hW' => ⟨rfl, by rw [hU]; exact hW, by rw [hU]; exact hK.go hW' hS, by rw [hU]; exact Nat.le_trans hnm.2 hS.1⟩⟩
  have hokst : ∀ v ∈ st, zok g v := fun v hv => host v (List.mem_append_right _ hv)
  rcases hlink with hlink | ⟨hst', hlink⟩
  · refine zrun hC hS hlv hol hokst hrm (va_runS (As := As.map (zcv g)) (rest := st.map (zcv g)) (Ts := zTB) (own := X.1.cls) ⟨hx, hb, hml, hown, hts⟩ hM ⟨callB_of (ws' := zTB) n hts (zgoodIn hcode) rfl rfl rfl (hts _ hini) (hts _ hlink) ⟨hy.1, hy.2, hdesc⟩ hroom, hts _ hstat⟩ hPre rfl (by rw [List.length_map]; exact hn) hlv.1 rfl (lv_room (by rw [zst_cat]; exact hcat)) hd hrm) kk
  · exact zrun hC hS hlv hol hokst hrm (va_runSN (As := As.map (zcv g)) (rest := st.map (zcv g)) (Ts := zTB) (own := X.1.cls) ⟨hx, hb, hml, hown, hts⟩ hM ⟨va_cnB (ws' := zTB) n hts (zgoodIn hcode) rfl rfl rfl (hK.2.1 _ hlink) (hts _ hini) ⟨hy.1, hy.2, hdesc⟩ hroom, hts _ hstat, trivial⟩ hPre rfl (by rw [List.length_map]; exact hn) hlv.1 rfl (lv_room (by rw [zst_cat]; exact hcat)) hd hrm) kk
theorem aw_callS {Y : zD} {ix n : Nat} {As st0 : List zV} {Q : Option zV → zM → Prop} (hd : dec X pc = .ok (.invokestatic ix, 3)) (hp : pc + 3 = pc') (hc : zCS X.1.cls ix Y n) (hroom : Y.2.2.2.2.1 + 1 ≤ T.1.frames ∧ 8 + (Y.2.2.1 + 11) + Y.2.2.2.2.2 ≤ T.1.locals)
    (hst : As.reverse ++ st = st0) (hn : As.length = n) (hsz : zsz As ≤ Y.2.2.1) (hcat : zsz st ≤ 8) (hcall : CW l Y As M Q) (kk : ∀ r M', Q r M' → AW l X T pc' lv (r.toList ++ st) M') : AW l X T pc lv st0 M :=
  fun g p e s m args below meth c H locs ls hC => aw_callSn (mc := 0) (ms := 0) hd hp hc hroom ⟨hC.2.2.2.2.2.2.2.2.2.1, hC.2.2.2.2.2.2.2.2.2.2⟩ hst hn hsz hcat hcall kk g p e s m args below meth c H locs ls hC
/-- a constructor of a nest mate or another class, run on an object -/
theorem aw_callIn {Y : zD} {ix n kd i mc ms : Nat} {As st0 : List zV} {Q : Option zV → zM → Prop} (hd : dec X pc = .ok (.invokespecial ix, 3)) (hp : pc + 3 = pc') (hc : zCB X.1.cls ix Y n ∧ Cond.instanceMethod Y.1 ∈ zTB ∧ Y.1.name = "<init>" ∧ Y.2.2.2.1 = none ∧ kd ≠ 63) (hroom : Y.2.2.2.2.1 + 1 ≤ T.1.frames ∧ 8 + (Y.2.2.1 + 11) + Y.2.2.2.2.2 ≤ T.1.locals)
    (hrm : T.2.1 + mc ≤ T.1.cells ∧ T.2.2.1 + ms ≤ T.1.slots) (hst : As.reverse ++ zr kd i :: st = st0) (hn : As.length = n) (hsz : zsz (zr kd i :: As) ≤ Y.2.2.1) (hcat : zsz st ≤ 8) (hcall : CWn l Y mc ms (zr kd i :: As) M Q) (kk : ∀ r M', Q r M' → AW l X (zT2 T mc ms) pc' lv (r.toList ++ st) M') : AW l X T pc lv st0 M := by
  subst hp; subst hst
  intro g p e s m args below meth c H locs ls hC hW hS hlv hol host
  obtain ⟨⟨hpl, hcode, hini, hy, hdesc, hlink⟩, hinst, hname, hret, hn0⟩ := hc
  have hargs : ∀ v ∈ zr kd i :: As, zok g v := fun v hv => by
    rcases List.mem_cons.mp hv with rfl | hv
    · exact host _ (List.mem_append_right _ List.mem_cons_self)
    · exact host _ (List.mem_append_left _ (List.mem_reverse.mpr hv))
  have hM := hcall.met hpl hsz g hargs
  obtain ⟨hx, hb, hml, hown, hts, hr, hlo, hK, hnm, hcl1, hsl1⟩ := id hC
  have hstack : ((As.reverse ++ zr kd i :: st).map (zcv g)) = (As.map (zcv g)).reverse ++ .ref (g.2.1 kd i) :: st.map (zcv g) := by
    rw [List.map_append, List.map_reverse, List.map_cons, zcv_r hn0]
  rw [hstack]
  have hPre : PreS s H (zPc g (zr kd i :: As) M) (.ref (g.2.1 kd i) :: As.map (zcv g)) := ⟨zPc_blind _ _ _, fun U hU hW' => ⟨by rw [List.map_cons, zcv_r hn0], by rw [hU]; exact hW, by rw [hU]; exact hK.go hW' hS, by rw [hU]; exact Nat.le_trans hnm.2 hS.1⟩⟩
  have hokst : ∀ v ∈ st, zok g v := fun v hv => host v (List.mem_append_right _ (List.mem_cons_of_mem _ hv))
  have hG := zgoodIn hcode
  have hwd : zwd Y = .code Y.1 Y.2.1 Y.2.2.1 none :: zTB := by unfold zwd; rw [hret]
  rcases hlink with hlink | ⟨hst', hlink⟩
  · exact zrun hC hS hlv hol hokst hrm (va_runI (As := As.map (zcv g)) (rest := st.map (zcv g)) (Ts := zTB) (own := X.1.cls) ⟨hx, hb, hml, hown, hts⟩ hM ⟨callB_of (ws' := zTB) n hts hG hwd rfl rfl (hts _ hini) (hts _ hlink) ⟨hy.1, hy.2, hdesc⟩ hroom, hname, hts _ hinst⟩ hPre rfl (by rw [List.length_map]; exact hn) hlv.1 rfl (lv_room (by rw [zst_cat]; exact hcat)) hd hrm) kk
  · exact zrun hC hS hlv hol hokst hrm (va_runIN (As := As.map (zcv g)) (rest := st.map (zcv g)) (Ts := zTB) (own := X.1.cls) ⟨hx, hb, hml, hown, hts⟩ hM ⟨va_cnB (ws' := zTB) n hts hG hwd rfl rfl (hK.2.1 _ hlink) (hts _ hini) ⟨hy.1, hy.2, hdesc⟩ hroom, hname, hts _ hinst⟩ hPre rfl (by rw [List.length_map]; exact hn) hlv.1 rfl (lv_room (by rw [zst_cat]; exact hcat)) hd hrm) kk
-- answers
variable {mc ms c0 n0 : Nat}
theorem aw_ireturn {Q : Option zV → zM → Prop} {x : Int} (hd : dec X pc = .ok (.ireturn, 1)) (hr : X.2.2.2.1 = some .int) (h : Q (some (zi x)) M) : AW l X (zTn X mc ms c0 n0 Q) pc lv [zi x] M := by
  intro g p e s m args below meth c H locs ls hC hW hS hlv hol host
  obtain ⟨hx, hb, hml, hown, hts, hr', hlo, hK, hnm, hcl1, hsl1⟩ := id hC
  refine W.widen (k := mc) (n := ms) hcl1 hsl1 (zWm ?_ (fun t ht => ⟨g, zX.rf, ht⟩))
  exact W.iret hx hb (hr'.trans hr) (fun t ht hW' => ⟨⟨g, some (zi x), M, zX.rf, rfl, fun v hv => by cases hv; trivial, h, by rw [ht]; exact hW⟩, hS.F ht⟩) hS.2.2 hd hlo
theorem aw_zreturn {Q : Option zV → zM → Prop} {x : Int} (hd : dec X pc = .ok (.ireturn, 1)) (hr : X.2.2.2.1 = some .boolean) (hz : x = 0 ∨ x = 1) (h : Q (some (zi x)) M) : AW l X (zTn X mc ms c0 n0 Q) pc lv [zi x] M := by
  intro g p e s m args below meth c H locs ls hC hW hS hlv hol host
  obtain ⟨hx, hb, hml, hown, hts, hr', hlo, hK, hnm, hcl1, hsl1⟩ := id hC
  refine W.widen (k := mc) (n := ms) hcl1 hsl1 (zWm ?_ (fun t ht => ⟨g, zX.rf, ht⟩))
  exact W.zret hx hb (hr'.trans hr) (by rcases hz with rfl | rfl <;> decide) (fun t ht hW' => ⟨⟨g, some (zi x), M, zX.rf, rfl, fun v hv => by cases hv; trivial, h, by rw [ht]; exact hW⟩, hS.F ht⟩) hS.2.2 hd hlo
theorem aw_creturn {Q : Option zV → zM → Prop} {x : Int} (hd : dec X pc = .ok (.ireturn, 1)) (hr : X.2.2.2.1 = some .char) (hz : narrow .char (.int (Int32.ofInt x)) = .int (Int32.ofInt x)) (h : Q (some (zi x)) M) : AW l X (zTn X mc ms c0 n0 Q) pc lv [zi x] M := by
  intro g p e s m args below meth c H locs ls hC hW hS hlv hol host
  obtain ⟨hx, hb, hml, hown, hts, hr', hlo, hK, hnm, hcl1, hsl1⟩ := id hC
  refine W.widen (k := mc) (n := ms) hcl1 hsl1 (zWm ?_ (fun t ht => ⟨g, zX.rf, ht⟩))
  exact W.zret hx hb (hr'.trans hr) hz (fun t ht hW' => ⟨⟨g, some (zi x), M, zX.rf, rfl, fun v hv => by cases hv; trivial, h, by rw [ht]; exact hW⟩, hS.F ht⟩) hS.2.2 hd hlo
theorem aw_breturn {Q : Option zV → zM → Prop} {x : Int} (hd : dec X pc = .ok (.ireturn, 1)) (hr : X.2.2.2.1 = some .byte) (hz : narrow .byte (.int (Int32.ofInt x)) = .int (Int32.ofInt x)) (h : Q (some (zi x)) M) : AW l X (zTn X mc ms c0 n0 Q) pc lv [zi x] M := by
  intro g p e s m args below meth c H locs ls hC hW hS hlv hol host
  obtain ⟨hx, hb, hml, hown, hts, hr', hlo, hK, hnm, hcl1, hsl1⟩ := id hC
  refine W.widen (k := mc) (n := ms) hcl1 hsl1 (zWm ?_ (fun t ht => ⟨g, zX.rf, ht⟩))
  exact W.zret hx hb (hr'.trans hr) hz (fun t ht hW' => ⟨⟨g, some (zi x), M, zX.rf, rfl, fun v hv => by cases hv; trivial, h, by rw [ht]; exact hW⟩, hS.F ht⟩) hS.2.2 hd hlo
theorem aw_lreturn {Q : Option zV → zM → Prop} {x : Int} (hd : dec X pc = .ok (.lreturn, 1)) (hr : X.2.2.2.1 = some .long) (h : Q (some (zl x)) M) : AW l X (zTn X mc ms c0 n0 Q) pc lv [zl x] M := by
  intro g p e s m args below meth c H locs ls hC hW hS hlv hol host
  obtain ⟨hx, hb, hml, hown, hts, hr', hlo, hK, hnm, hcl1, hsl1⟩ := id hC
  refine W.widen (k := mc) (n := ms) hcl1 hsl1 (zWm ?_ (fun t ht => ⟨g, zX.rf, ht⟩))
  exact W.lret hx hb (hr'.trans hr) (fun t ht hW' => ⟨⟨g, some (zl x), M, zX.rf, rfl, fun v hv => by cases hv; trivial, h, by rw [ht]; exact hW⟩, hS.F ht⟩) hS.2.2 hd hlo
theorem aw_return {Q : Option zV → zM → Prop} (hd : dec X pc = .ok (.return_, 1)) (hr : X.2.2.2.1 = none) (h : Q none M) : AW l X (zTn X mc ms c0 n0 Q) pc lv [] M := by
  intro g p e s m args below meth c H locs ls hC hW hS hlv hol host
  obtain ⟨hx, hb, hml, hown, hts, hr', hlo, hK, hnm, hcl1, hsl1⟩ := id hC
  refine W.widen (k := mc) (n := ms) hcl1 hsl1 (zWm ?_ (fun t ht => ⟨g, zX.rf, ht⟩))
  exact W.vret hx hb (hr'.trans hr) (fun t ht hW' => ⟨⟨g, none, M, zX.rf, rfl, fun v hv => (by cases hv), h, by rw [ht]; exact hW⟩, hS.F ht⟩) hS.2.2 hd hlo
theorem aw_areturnG {Q : Option zV → zM → Prop} {k i : Nat} {ty : FieldType} (hd : dec X pc = .ok (.areturn, 1)) (hr : X.2.2.2.1 = some ty) (hty : (∃ n, ty = .object n) ∨ ∃ t, ty = .array t) (hk : k ≠ 63) (h : Q (some (zr k i)) M) : AW l X (zTn X mc ms c0 n0 Q) pc lv [zr k i] M := by
  intro g p e s m args below meth c H locs ls hC hW hS hlv hol host
  obtain ⟨hx, hb, hml, hown, hts, hr', hlo, hK, hnm, hcl1, hsl1⟩ := id hC
  refine W.widen (k := mc) (n := ms) hcl1 hsl1 (zWm ?_ (fun t ht => ⟨g, zX.rf, ht⟩))
  rw [List.map_cons, zcv_r hk, List.map_nil]
  exact W.aret hx hb (hr'.trans hr) hty (Or.inr ⟨_, rfl⟩) (fun t ht hW' => ⟨⟨g, some (zr k i), M, zX.rf, by rw [Option.map_some, zcv_r hk], fun v hv => by cases hv; exact host _ List.mem_cons_self, h, by rw [ht]; exact hW⟩, hS.F ht⟩) hS.2.2 hd hlo
theorem aw_areturn {Q : Option zV → zM → Prop} {k i : Nat} {nm : String} (hd : dec X pc = .ok (.areturn, 1)) (hr : X.2.2.2.1 = some (.object nm)) (hk : k ≠ 63) (h : Q (some (zr k i)) M) : AW l X (zTn X mc ms c0 n0 Q) pc lv [zr k i] M := aw_areturnG hd hr (Or.inl ⟨nm, rfl⟩) hk h
-- references against null
theorem aw_ifnonnull {off : Int} {k i : Nat} (hd : dec X pc = .ok (.ifnonnull off, 3)) (ht : (pc : Int) + off = (pc' : Int)) (hk : k ≠ 63) (kk : AW l X T pc' lv st M) : AW l X T pc lv (zr k i :: st) M := by
  refine AW.go (fun _ h _ => zokt h) ?_ kk
  intro g p e s m args below meth c H locs ls Q hC hW hS hlv host h
  rw [List.map_cons, zcv_r hk]
  exact lv_ifnonnull hC.1 hC.2.1 hd ht h
theorem aw_ifnull {off : Int} {k i : Nat} (hd : dec X pc = .ok (.ifnull off, 3)) (hp : pc + 3 = pc') (hk : k ≠ 63) (kk : AW l X T pc' lv st M) : AW l X T pc lv (zr k i :: st) M := by
  subst hp
  refine AW.go (fun _ h _ => zokt h) ?_ kk
  intro g p e s m args below meth c H locs ls Q hC hW hS hlv host h
  rw [List.map_cons, zcv_r hk]
  exact lv_ifnull hC.1 hC.2.1 hd h
-- strings
theorem aw_ldcS {ix i : Nat} {tx : String} (hd : dec X pc = .ok (.ldc ix, 2)) (hp : pc + 2 = pc') (h : (X.1.cls, ix, tx, i) ∈ zsRefs) (hi : i < zsN) (kk : AW l X T pc' lv (zr 61 i :: st) M) : AW l X T pc lv st M := by
  subst hp
  refine AW.go (fun _ h _ => zok1 (v := zr 61 i) (zok_n (by decide) hi) h) ?_ kk
  intro g p e s m args below meth c H locs ls Q hC hW hS hlv host hk
  rw [List.map_cons, zcv_r (by decide)] at hk
  exact va_ldcS hC.1 hC.2.1 hC.2.2.2.1 (hC.2.2.2.2.2.2.2.1.2.2.2.1 _ h) hd hk
-- Math
theorem zmax_i {x y : Int} (hx : zI x) (hy : zI y) : (if Int32.ofInt x < Int32.ofInt y then Int32.ofInt y else Int32.ofInt x) = Int32.ofInt (max x y) := by
  by_cases h : x < y
  · rw [if_pos ((zI_lt hx hy).mpr h), Int.max_eq_right (by omega)]
  · rw [if_neg (fun q => h ((zI_lt hx hy).mp q)), Int.max_eq_left (by omega)]
/-- Math.max of two ints is the pool entry ix of own -/
def zMx (own : String) (ix : Nat) : Prop := Cond.methodLink own ix Lib.Math.max.name ∈ zTB ∧ Cond.static Lib.Math.max.name ∈ zTB ∧ Cond.initialized "java/lang/Math" ∈ zTB ∧ Cond.code Lib.Math.max.name Lib.Math.max.code 2 (some .int) ∈ zTB
def zMn (own : String) (ix : Nat) : Prop := Cond.methodLink own ix Lib.Math.min.name ∈ zTB ∧ Cond.static Lib.Math.min.name ∈ zTB ∧ Cond.initialized "java/lang/Math" ∈ zTB ∧ Cond.code Lib.Math.min.name Lib.Math.min.code 2 (some .int) ∈ zTB
theorem aw_max {ix : Nat} {x y : Int} (hd : dec X pc = .ok (.invokestatic ix, 3)) (hp : pc + 3 = pc') (hc : zMx X.1.cls ix) (hroom : 1 ≤ T.1.frames ∧ zsz st + 13 ≤ T.1.locals) (hx : zI x) (hy : zI y) (kk : AW l X T pc' lv (zi (max x y) :: st) M) : AW l X T pc lv (zi y :: zi x :: st) M := by
  subst hp
  refine AW.go (fun _ h _ => zok1i (zokt (zokt h))) ?_ kk
  intro g p e s m args below meth c H locs ls Q hC hW hS hlv host hk
  obtain ⟨hx', hb, hml, hown, hts, hr', hlo, hK, hnm, hcl1, hsl1⟩ := id hC
  refine va_mmax hx' hb (hml.trans hlv.1.symm) hown (hts _ hc.1) (hts _ hc.2.1) (hts _ hc.2.2.1) (hts _ hc.2.2.2) hroom.1 (by rw [zst_cat]; exact hroom.2) hcl1 hsl1 hd ?_
  rw [zmax_i hx hy]
  exact hk
end
end
section
/-! ===== rows: Math, block moves, strings, the script ===== -/
section
variable {l : Launch} {X : zD} {T : zT} {pc pc' : Nat} {lv lv' : List (Nat × zV)} {st st' : List zV} {M M' : zM}
theorem zmin_i {x y : Int} (hx : zI x) (hy : zI y) : (if Int32.ofInt y < Int32.ofInt x then Int32.ofInt y else Int32.ofInt x) = Int32.ofInt (min x y) := by
  by_cases h : y < x
  · rw [if_pos ((zI_lt hy hx).mpr h), Int.min_eq_right (by omega)]
  · rw [if_neg (fun q => h ((zI_lt hy hx).mp q)), Int.min_eq_left (by omega)]
theorem zmin_l {x y : Int} (hx : zJ x) (hy : zJ y) : (if Int64.ofInt y < Int64.ofInt x then Int64.ofInt y else Int64.ofInt x) = Int64.ofInt (min x y) := by
  by_cases h : y < x
  · rw [if_pos ((zJ_lt hy hx).mpr h), Int.min_eq_right (by omega)]
  · rw [if_neg (fun q => h ((zJ_lt hy hx).mp q)), Int.min_eq_left (by omega)]
theorem aw_min {ix : Nat} {x y : Int} (hd : dec X pc = .ok (.invokestatic ix, 3)) (hp : pc + 3 = pc') (hc : zMn X.1.cls ix) (hroom : 1 ≤ T.1.frames ∧ zsz st + 13 ≤ T.1.locals) (hx : zI x) (hy : zI y) (kk : AW l X T pc' lv (zi (min x y) :: st) M) : AW l X T pc lv (zi y :: zi x :: st) M := by
  subst hp
  refine AW.go (fun _ h _ => zok1i (zokt (zokt h))) ?_ kk
  intro g p e s m args below meth c H locs ls Q hC hW hS hlv host hk
  obtain ⟨hx', hb, hml, hown, hts, hr', hlo, hK, hnm, hcl1, hsl1⟩ := id hC
  refine va_mmin hx' hb (hml.trans hlv.1.symm) hown (hts _ hc.1) (hts _ hc.2.1) (hts _ hc.2.2.1) (hts _ hc.2.2.2) hroom.1 (by rw [zst_cat]; exact hroom.2) hcl1 hsl1 hd ?_
  rw [zmin_i hx hy]
  exact hk
def zMnL (own : String) (ix : Nat) : Prop := Cond.methodLink own ix Lib.MathLoose.min_long.x ∈ zTB ∧ Cond.static Lib.MathLoose.min_long.x ∈ zTB ∧ Cond.initialized "java/lang/Math" ∈ zTB ∧ Cond.code Lib.MathLoose.min_long.x Lib.MathLoose.min_long.code 4 (some .long) ∈ zTB
theorem zlen_sm (k : Nat) : zlen k ≤ 1000000 := by
  have h : ∀ n ∈ zlenL, n ≤ 1000000 := by decide
  unfold zlen
  rw [List.getD_eq_getElem?_getD]
  cases hq : zlenL[k]? with
  | none => simp
  | some n => exact h n (List.mem_of_getElem? hq)
theorem aw_minL {ix : Nat} {x y : Int} (hd : dec X pc = .ok (.invokestatic ix, 3)) (hp : pc + 3 = pc') (hc : zMnL X.1.cls ix) (hroom : 1 ≤ T.1.frames ∧ zsz st + 15 ≤ T.1.locals) (hx : zJ x) (hy : zJ y) (kk : AW l X T pc' lv (zl (min x y) :: st) M) : AW l X T pc lv (zl y :: zl x :: st) M := by
  subst hp
  refine AW.go (fun _ h _ => zok1l (zokt (zokt h))) ?_ kk
  intro g p e s m args below meth c H locs ls Q hC hW hS hlv host hk
  obtain ⟨hx', hb, hml, hown, hts, hr', hlo, hK, hnm, hcl1, hsl1⟩ := id hC
  refine va_mmin_long hx' hb (hml.trans hlv.1.symm) hown (hts _ hc.1) (hts _ hc.2.1) (hts _ hc.2.2.1) (hts _ hc.2.2.2) hroom.1 (by rw [zst_cat]; exact hroom.2) hcl1 hsl1 hd ?_
  rw [zmin_l hx hy]
  exact hk
-- System.arraycopy of int arrays, from 0 to 0
def zCp (own : String) (ix : Nat) : Prop := Cond.methodLink own ix arraycopyName ∈ zTB ∧ Cond.native arraycopyName ∈ zTB ∧ Cond.static arraycopyName ∈ zTB ∧ Cond.initialized "java/lang/System" ∈ zTB
/-- a block of an array moved, from s0 on, to d0 on -/
def zcq (M : zM) (k0 i0 : Nat) (s0 : Int) (k1 i1 : Nat) (d0 n : Int) : zM := fun k i j => if k = k1 ∧ i = i1 ∧ d0 ≤ j ∧ j < d0 + n then M k0 i0 (s0 + (j - d0)) else M k i j
theorem zcq_o {M : zM} {k0 i0 k1 i1 : Nat} {s0 d0 n : Int} : ∀ k' i', ¬ (k' = k1 ∧ i' = i1) → zcq M k0 i0 s0 k1 i1 d0 n k' i' = M k' i' := by
  intro k' i' h
  funext j
  exact if_neg fun q => h ⟨q.1, q.2.1⟩
theorem zcp_q {M : zM} {k0 i0 k1 i1 : Nat} {n : Int} : zcp M k0 i0 k1 i1 n = zcq M k0 i0 0 k1 i1 0 n := by
  funext k i j
  unfold zcp zcq
  simp only [Int.zero_add, Int.sub_zero]
theorem zcq_O {g : zG} {M : zM} {k0 i0 k1 i1 : Nat} {s0 d0 n : Int} (hO : zO g M) (hk : k1 ≠ 97) (hr : ∀ j, zrp k1 j = none) : zO g (zcq M k0 i0 s0 k1 i1 d0 n) := by
  have e : ∀ q, zcq M k0 i0 s0 k1 i1 d0 n 97 0 q = M 97 0 q := fun q => if_neg fun z => hk z.1.symm
  refine hO.u (fun q => e q) ?_
  intro k i j k' h1 h2 h3 h4
  rw [e] at h2 ⊢
  by_cases c : k = k1
  · rw [c, hr] at h4; cases h4
  · rw [show zcq M k0 i0 s0 k1 i1 d0 n k i j = M k i j from if_neg fun z => c z.1]
    exact hO.2.2.1 k i j k' h1 h2 h3 h4
/-- what an int, boolean, byte array may hold -/
def zft (t : Nat) (x : Int) : Prop := t = 0 ∨ (t = 1 ∧ (x = 0 ∨ x = 1)) ∨ (t = 2 ∧ -128 ≤ x ∧ x < 128)
theorem zft_b {x : Int} (h : -128 ≤ x ∧ x < 128) : fits .byte (.int (Int32.ofInt x)) = true := by
  show (decide (-128 ≤ Int32.ofInt x) && decide (Int32.ofInt x ≤ 127)) = true
  rw [Bool.and_eq_true, decide_eq_true_eq, decide_eq_true_eq, Int32.le_iff_toInt_le, Int32.le_iff_toInt_le, Int32.toInt_ofInt_of_le (by omega) (by omega)]
  have e1 : (-128 : Int32).toInt = -128 := by decide
  have e2 : (127 : Int32).toInt = 127 := by decide
  omega
/-- System.arraycopy between int, boolean or byte arrays -/
theorem aw_copyG {ix k0 i0 k1 i1 t : Nat} {s0 d0 n : Int} (hd : dec X pc = .ok (.invokestatic ix, 3)) (hp : pc + 3 = pc') (hc : zCp X.1.cls ix) (hroom : 1 ≤ T.1.frames ∧ zsz st + 18 ≤ T.1.locals) (ht : t < 3) (hk0 : zaG k0 t) (hk1 : zaG k1 t) (hn : 0 ≤ n ∧ 0 ≤ s0 ∧ 0 ≤ d0 ∧ s0 + n ≤ (zln M k0 i0 : Nat) ∧ d0 + n ≤ (zln M k1 i1 : Nat)) (hl0 : zln M k0 i0 ≤ 1000000) (hl1 : zln M k1 i1 ≤ 1000000) (hft : ∀ j : Int, s0 ≤ j → j < s0 + n → zft t (M k0 i0 j)) (kk : AW l X T pc' lv st (zcq M k0 i0 s0 k1 i1 d0 n)) : AW l X T pc lv (zi n :: zi d0 :: zr k1 i1 :: zi s0 :: zr k0 i0 :: st) M := by
  subst hp
  intro g p e s m args below meth c H locs ls hC hW hS hlv hol host
  obtain ⟨hx', hb, hml, hown, hts, hr', hlo, hK, hnm, hcl1, hsl1⟩ := id hC
  obtain ⟨q1, hq1⟩ := zws_at hk1.1.1 (host (zr k1 i1) (by simp))
  obtain ⟨q0, hq0⟩ := zws_at hk0.1.1 (host (zr k0 i0) (by simp))
  have he0 := zws_get (g := g) (M := M) hq0
  have he1 := zws_get (g := g) (M := M) hq1
  have z0 := hk0.2
  have z1 := hk1.2
  rw [zent_arr hk0.1.2.2, zarr_i (by omega), hk0.2] at he0
  rw [zent_arr hk1.1.2.2, zarr_i (by omega), hk1.2] at he1
  have cl : ∀ x : Int, 0 ≤ x → x ≤ 1000000 → (((Int32.ofInt x).toNatClampNeg : Nat) : Int) = x := fun x h1 h2 => by
    rw [Int32.toNatClampNeg_ofInt_of_le (by omega) (by omega)]
    omega
  have en := cl n (by omega) (by omega)
  have es := cl s0 (by omega) (by omega)
  have ed := cl d0 (by omega) (by omega)
  have ng : ∀ x : Int, 0 ≤ x → x ≤ 1000000 → ¬ Int32.ofInt x < 0 := fun x h1 h2 h => by
    rw [Int32.lt_iff_toInt_lt, Int32.toInt_ofInt_of_le (by omega) (by omega)] at h
    have : (0 : Int32).toInt = 0 := rfl
    omega
  have hln : zln (zcq M k0 i0 s0 k1 i1 d0 n) k1 i1 = zln M k1 i1 := by
    unfold zln
    rw [show zcq M k0 i0 s0 k1 i1 d0 n k1 i1 (-1) = M k1 i1 (-1) from if_neg fun z => by omega]
  have hs := zws_set (g := g) hW.2.2 hq1 (M := M) (M' := zcq M k0 i0 s0 k1 i1 d0 n) zcq_o
  rw [zent_arr hk1.1.2.2, zarr_i (by omega), hk1.2, hln] at hs
  have hcpy : (va_cpy (fun j : Nat => Int32.ofInt (M k0 i0 (j : Int))) (fun j : Nat => Int32.ofInt (M k1 i1 (j : Int))) (Int32.ofInt s0).toNatClampNeg (Int32.ofInt d0).toNatClampNeg (Int32.ofInt n).toNatClampNeg) = fun j : Nat => Int32.ofInt (zcq M k0 i0 s0 k1 i1 d0 n k1 i1 (j : Int)) := by
    funext j
    unfold va_cpy zcq
    by_cases h : d0 ≤ (j : Int) ∧ (j : Int) < d0 + n
    · rw [if_pos (by omega), if_pos ⟨rfl, rfl, h.1, h.2⟩]
      refine congrArg (fun q : Int => Int32.ofInt (M k0 i0 q)) ?_
      omega
    · rw [if_neg (by omega), if_neg (by rintro ⟨-, -, q⟩; exact h q)]
  rw [List.map_cons, List.map_cons, List.map_cons, List.map_cons, List.map_cons, zcv_r (by omega), zcv_r (by omega)]
  obtain ⟨ty, hty⟩ : ∃ ty, (ztys g)[t]? = some (g.2.2.1 t, ty) ∧ ((t = 0 ∧ ty = .int) ∨ (t = 1 ∧ ty = .boolean) ∨ (t = 2 ∧ ty = .byte)) := by
    match t, ht with
    | 0, _ => exact ⟨_, rfl, Or.inl ⟨rfl, rfl⟩⟩
    | 1, _ => exact ⟨_, rfl, Or.inr (Or.inl ⟨rfl, rfl⟩)⟩
    | 2, _ => exact ⟨_, rfl, Or.inr (Or.inr ⟨rfl, rfl⟩)⟩
  refine va_copyi (sp := Int32.ofInt s0) (dp := Int32.ofInt d0) (n := Int32.ofInt n) (ty := ty) hx' hb (hml.trans hlv.1.symm) hown (hts _ hc.1) (hts _ hc.2.1) (hts _ hc.2.2.1) (hts _ hc.2.2.2) hK.1 hW.1 hW.2.1 hS q0 q1 t t he0 he1 hty.1 hty.1 (by rcases hty.2 with ⟨-, h⟩ | ⟨-, h⟩ | ⟨-, h⟩ <;> rw [h] <;> rfl) (ng _ (by omega) (by omega)) (ng _ (by omega) (by omega)) (ng _ (by omega) (by omega)) ?_ ?_ (fun i hi => ?_) hroom.1 (by rw [zst_cat]; exact hroom.2) hd (fun H1 locs1 h1 h2 h3 => ?_)
  · omega
  · omega
  · have h := hft ((((Int32.ofInt s0).toNatClampNeg + i : Nat)) : Int) (by omega) (by omega)
    rcases hty.2 with ⟨h1, h2⟩ | ⟨h1, h2⟩ | ⟨h1, h2⟩ <;> rw [h2]
    · rfl
    · have : M k0 i0 (((Int32.ofInt s0).toNatClampNeg + i : Nat) : Int) = 0 ∨ M k0 i0 (((Int32.ofInt s0).toNatClampNeg + i : Nat) : Int) = 1 := by unfold zft at h; omega
      rcases this with e | e <;> rw [e] <;> decide
    · exact zft_b (by unfold zft at h; omega)
  · rw [hcpy, hs] at h1 h2
    exact kk g p e s m args below meth c H1 locs1 ls hC ⟨h1, h2, zcq_O hW.2.2 hk1.1.2.1 (fun j => zrp_na hk1.1.2.2 (by omega))⟩ h3 hlv hol (zokt (zokt (zokt (zokt (zokt host)))))
theorem aw_copy {ix k0 i0 k1 i1 : Nat} {n : Int} (hd : dec X pc = .ok (.invokestatic ix, 3)) (hp : pc + 3 = pc') (hc : zCp X.1.cls ix) (hroom : 1 ≤ T.1.frames ∧ zsz st + 18 ≤ T.1.locals) (hk0 : zar k0 0) (hk1 : zar k1 0) (hn : 0 < n ∧ n ≤ (zlen k0 : Nat) ∧ n ≤ (zlen k1 : Nat)) (kk : AW l X T pc' lv st (zcp M k0 i0 k1 i1 n)) : AW l X T pc lv (zi n :: zi 0 :: zr k1 i1 :: zi 0 :: zr k0 i0 :: st) M := by
  have l0 := zlen_sm k0
  have l1 := zlen_sm k1
  have e0 : zln M k0 i0 = zlen k0 := zln_s (by omega)
  have e1 : zln M k1 i1 = zlen k1 := zln_s (by omega)
  refine aw_copyG hd hp hc hroom (by decide : 0 < 3) hk0.G hk1.G (by rw [e0, e1]; omega) (by omega) (by omega) (fun _ _ _ => Or.inl rfl) ?_
  rw [← zcp_q]
  exact kk
-- strings: their bytes
theorem aw_compact {ix : Nat} (hd : dec X pc = .ok (.getstatic ix, 3)) (hp : pc + 3 = pc') (hc : Cond.fieldLink X.1.cls ix "java/lang/String" "COMPACT_STRINGS" "Z" ∈ zTB) (kk : AW l X T pc' lv (zi 1 :: st) M) : AW l X T pc lv st M := by
  subst hp
  refine AW.go (fun _ h _ => zok1i h) ?_ kk
  intro g p e s m args below meth c H locs ls Q hC hW hS hlv host hk
  obtain ⟨hx', hb, hml, hown, hts, hr', hlo, hK, hnm, hcl1, hsl1⟩ := id hC
  exact va_gets hx' hb hK.2.2.2.2.1 hS hown (hts _ hc) (fun x h => h) hd hk
theorem aw_former {ix : Nat} (hd : dec X pc = .ok (.getstatic ix, 3)) (hp : pc + 3 = pc') (hc : Cond.fieldLink X.1.cls ix "jdk/internal/util/Preconditions" "SIOOBE_FORMATTER" "Ljava/util/function/BiFunction;" ∈ zTB) (kk : AW l X T pc' lv (zr 63 0 :: st) M) : AW l X T pc lv st M := by
  subst hp
  refine AW.go (fun _ h _ => zok1 (v := zr 63 0) (zok_n (by decide) (show 0 < zcnt 63 by decide)) h) ?_ kk
  intro g p e s m args below meth c H locs ls Q hC hW hS hlv host hk
  obtain ⟨hx', hb, hml, hown, hts, hr', hlo, hK, hnm, hcl1, hsl1⟩ := id hC
  rw [List.map_cons] at hk
  exact va_gets hx' hb hK.2.2.2.2.2.2.1 hS hown (hts _ hc) (fun x h => h) hd hk
theorem zok_m {g : zG} {k i : Nat} (hk : 60 ≤ k ∧ k < 64) (h : zok g (zr k i)) : i < zcnt k := by
  have h' : if 60 ≤ k ∧ k < 64 then i < zcnt k else (k, i) ∈ zall g := h
  rwa [if_pos hk] at h'
theorem zs_lt {g : zG} {i : Nat} {st : List zV} (h : ∀ v ∈ zr 61 i :: st, zok g v) : i < zsN := zok_m (by decide) (h _ List.mem_cons_self)
theorem aw_coder {ix i : Nat} (hd : dec X pc = .ok (.getfield ix, 3)) (hp : pc + 3 = pc') (hc : Cond.fieldLink X.1.cls ix "java/lang/String" "coder" "B" ∈ zTB) (kk : AW l X T pc' lv (zi 0 :: st) M) : AW l X T pc lv (zr 61 i :: st) M := by
  subst hp
  refine AW.go (fun _ h _ => zok1i (zokt h)) ?_ kk
  intro g p e s m args below meth c H locs ls Q hC hW hS hlv host hk
  obtain ⟨hx', hb, hml, hown, hts, hr', hlo, hK, hnm, hcl1, hsl1⟩ := id hC
  rw [List.map_cons, zcv_r (by decide)]
  exact vk_getf hx' hb (hK.2.2.1.1 i (zs_lt host)).2.1 hS hown (hts _ hc) (fun x h => h) hd hk
theorem aw_value {ix i : Nat} (hd : dec X pc = .ok (.getfield ix, 3)) (hp : pc + 3 = pc') (hc : Cond.fieldLink X.1.cls ix "java/lang/String" "value" "[B" ∈ zTB) (kk : AW l X T pc' lv (zr 62 i :: st) M) : AW l X T pc lv (zr 61 i :: st) M := by
  subst hp
  refine AW.go (fun _ h _ => zok1 (v := zr 62 i) (zok_n (by decide) (show i < zcnt 62 from zs_lt h)) (zokt h)) ?_ kk
  intro g p e s m args below meth c H locs ls Q hC hW hS hlv host hk
  obtain ⟨hx', hb, hml, hown, hts, hr', hlo, hK, hnm, hcl1, hsl1⟩ := id hC
  rw [List.map_cons, zcv_r (by decide)] at hk
  rw [List.map_cons, zcv_r (by decide)]
  exact vk_getf hx' hb (hK.2.2.1.1 i (zs_lt host)).2.2.1 hS hown (hts _ hc) (fun x h => h) hd hk
theorem aw_slen {i : Nat} (hd : dec X pc = .ok (.arraylength, 1)) (hp : pc + 1 = pc') (kk : AW l X T pc' lv (zi (zsLen.getD i 0 : Nat) :: st) M) : AW l X T pc lv (zr 62 i :: st) M := by
  subst hp
  refine AW.go (fun _ h _ => zok1i (zokt h)) ?_ kk
  intro g p e s m args below meth c H locs ls Q hC hW hS hlv host hk
  obtain ⟨hx', hb, hml, hown, hts, hr', hlo, hK, hnm, hcl1, hsl1⟩ := id hC
  rw [List.map_cons, zcv_r (by decide)]
  have hi : i < zsN := zok_m (k := 62) (by decide) (host _ List.mem_cons_self)
  exact va_tlen hx' hb (hK.2.2.1.1 i hi).2.2.2 hS (by rw [← Int32.ofInt_eq_ofNat]) hd hk
theorem aw_sbyte {i : Nat} {j z : Int} (hd : dec X pc = .ok (.baload, 1)) (hp : pc + 1 = pc') (hj : 0 ≤ j ∧ j < (zsLen.getD i 0 : Nat)) (hz : (zsByt.getD i []).getD j.toNat 0 = Int32.ofInt z) (hs : zsLen.getD i 0 < 2000000000) (kk : AW l X T pc' lv (zi z :: st) M) : AW l X T pc lv (zi j :: zr 62 i :: st) M := by
  subst hp
  refine AW.go (fun _ h _ => zok1i (zokt (zokt h))) ?_ kk
  intro g p e s m args below meth c H locs ls Q hC hW hS hlv host hk
  obtain ⟨hx', hb, hml, hown, hts, hr', hlo, hK, hnm, hcl1, hsl1⟩ := id hC
  rw [List.map_cons, List.map_cons, zcv_r (by decide)]
  have hi : i < zsN := zok_m (k := 62) (by decide) (host (zr 62 i) (List.mem_cons_of_mem _ List.mem_cons_self))
  have e := zcl_of (j := j) (by omega)
  refine va_tb hx' hb (hK.2.2.1.1 i hi).2.2.2 hS (zin_of (by omega) hj) (v := .int (Int32.ofInt z)) ?_ hd hk
  show Value.int _ = _
  rw [show (Int32.ofInt j).toNatClampNeg = j.toNat by omega, hz]
theorem aw_callT {Y : zD} {ix n i : Nat} {As st0 : List zV} {Q : Option zV → zM → Prop} (hd : dec X pc = .ok (.invokevirtual ix, 3)) (hp : pc + 3 = pc') (hc : zCB X.1.cls ix Y n ∧ Cond.instanceMethod Y.1 ∈ zTB ∧ Cond.selects Y.1.cls Y.1 Y.1 ∈ zTB ∧ Y.1.cls = "java/lang/String") (hroom : Y.2.2.2.2.1 + 1 ≤ T.1.frames ∧ 8 + (Y.2.2.1 + 11) + Y.2.2.2.2.2 ≤ T.1.locals)
    (hst : As.reverse ++ zr 61 i :: st = st0) (hn : As.length = n) (hsz : zsz (zr 61 i :: As) ≤ Y.2.2.1) (hcat : zsz st ≤ 8) (hcall : CW l Y (zr 61 i :: As) M Q) (kk : ∀ r M', Q r M' → AW l X T pc' lv (r.toList ++ st) M') : AW l X T pc lv st0 M := by
  subst hp; subst hst
  intro g p e s m args below meth c H locs ls hC hW hS hlv hol host
  obtain ⟨⟨hpl, hcode, hini, hy, hdesc, hlink⟩, hinst, hsel, hstr⟩ := hc
  have hargs : ∀ v ∈ zr 61 i :: As, zok g v := fun v hv => by
    rcases List.mem_cons.mp hv with rfl | hv
    · exact host _ (List.mem_append_right _ List.mem_cons_self)
    · exact host _ (List.mem_append_left _ (List.mem_reverse.mpr hv))
  have hM := CWn.met (mc := 0) (ms := 0) hcall hpl hsz g hargs
  obtain ⟨hx, hb, hml, hown, hts, hr, hlo, hK, hnm, hcl1, hsl1⟩ := id hC
  have hrecv := vk_recv hK.2.2.1 (zs_lt hargs) hS
  rw [← hstr] at hrecv
  have hstack : ((As.reverse ++ zr 61 i :: st).map (zcv g)) = (As.map (zcv g)).reverse ++ .ref (g.2.1 61 i) :: st.map (zcv g) := by
    rw [List.map_append, List.map_reverse, List.map_cons, zcv_r (by omega)]
  rw [hstack]
  have hPre : PreV s H Y.1.cls (g.2.1 61 i) (zPc g (zr 61 i :: As) M) (As.map (zcv g)) := ⟨zPc_blind _ _ _, hrecv, fun U hU hW' => ⟨by rw [List.map_cons, zcv_r (by omega)], by rw [hU]; exact hW, by rw [hU]; exact hK.go hW' hS, by rw [hU]; exact Nat.le_trans hnm.2 hS.1⟩⟩
  have hokst : ∀ v ∈ st, zok g v := fun v hv => host v (List.mem_append_right _ (List.mem_cons_of_mem _ hv))
  have hD : Y.1.cls = Y.1.cls ∧ Y.1.cls ≠ "java/lang/invoke/MethodHandle" ∧ Y.1.cls ≠ "java/lang/invoke/VarHandle" ∧ (parseMethodDescriptor Y.1.desc).map (fun d => d.parameters.length) = some n := ⟨rfl, hy.1, hy.2, hdesc⟩
  rcases hlink with hlink | ⟨hst', hlink⟩
  · refine zrun hC hS hlv hol hokst ⟨hcl1, hsl1⟩ (va_runV (As := As.map (zcv g)) (rest := st.map (zcv g)) ⟨hx, hb, hml, hown, hts⟩ hM (cwV (ws' := zTB) n hts ?_ rfl rfl rfl hD hroom) hPre rfl (by rw [List.length_map]; exact hn) hlv.1 rfl (lv_room (by rw [zst_cat]; exact hcat)) hd ⟨hcl1, hsl1⟩) kk
    intro w hw
    rcases List.mem_append.mp hw with hw | hw
    · have : w ∈ zTB := by
        simp only [List.mem_cons, List.not_mem_nil, or_false] at hw
        rcases hw with rfl | rfl | rfl | rfl <;> assumption
      exact ⟨this, zgood this⟩
    · exact zgoodIn hcode w hw
  · exact zrun hC hS hlv hol hokst ⟨hcl1, hsl1⟩ (va_runVN (As := As.map (zcv g)) (rest := st.map (zcv g)) (Ts := zTB) (own := X.1.cls) ⟨hx, hb, hml, hown, hts⟩ hM ⟨va_cnB (ws' := zTB) n hts (zgoodIn hcode) rfl rfl rfl (hK.2.1 _ hlink) (hts _ hini) ⟨hy.1, hy.2, hdesc⟩ hroom, hts _ hinst, hts _ hsel⟩ hPre rfl (by rw [List.length_map]; exact hn) hlv.1 rfl (lv_room (by rw [zst_cat]; exact hcat)) hd ⟨hcl1, hsl1⟩) kk
theorem aw_i2c {x : Int} (hd : dec X pc = .ok (.i2c, 1)) (hp : pc + 1 = pc') (hx : 0 ≤ x ∧ x < 65536) (kk : AW l X T pc' lv (zi x :: st) M) : AW l X T pc lv (zi x :: st) M := by
  subst hp
  refine AW.go (fun _ h _ => h) ?_ kk
  intro g p e s m args below meth c H locs ls Q hC hW hS hlv host hk
  refine lv_i2c (v := Int32.ofInt x) hC.1 hC.2.1 hd ?_ hk
  obtain ⟨n, rfl⟩ := Int.eq_ofNat_of_zero_le hx.1
  have hn : n < 65536 := by omega
  show ((Int32.ofInt (n : Int)).toUInt32 % 65536).toInt32 = Int32.ofInt (n : Int)
  rw [Int32.ofInt_eq_ofNat]
  have h1 := pk_char (nI n)
  rw [show (nI n).toBitVec.toNat = n from pk_tn (by omega), Nat.mod_eq_of_lt hn] at h1
  exact h1
-- the script
theorem aw_sld {j z : Int} (hd : dec X pc = .ok (.iaload, 1)) (hp : pc + 1 = pc') (P : zG → Prop) (hP : ∀ g, P g → 0 ≤ j ∧ j < (g.2.2.2.1 : Nat) ∧ g.2.2.2.1 < 2000000000 ∧ g.2.2.2.2.1 j.toNat = Int32.ofInt z)
    (hT : ∀ g p s m args meth c, zC X T g p s m args meth c → P g) (kk : AW l X T pc' lv (zi z :: st) M) : AW l X T pc lv (zi j :: zr 60 0 :: st) M := by
  subst hp
  refine AW.go (fun _ h _ => zok1i (zokt (zokt h))) ?_ kk
  intro g p e s m args below meth c H locs ls Q hC hW hS hlv host hk
  obtain ⟨h1, h2, h3, h4⟩ := hP g (hT _ _ _ _ _ _ _ hC)
  obtain ⟨hx', hb, hml, hown, hts, hr', hlo, hK, hnm, hcl1, hsl1⟩ := id hC
  rw [List.map_cons, List.map_cons, zcv_r (by decide)]
  have e := zcl_of (j := j) (by omega)
  refine va_sld hx' hb hK.2.2.2.2.2.1 hK.2.2.2.2.2.2.2.1 hK.2.2.2.2.2.2.2.2.1 hS (zin_of (by omega) ⟨h1, h2⟩) hd ?_
  rw [show (Int32.ofInt j).toNatClampNeg = j.toNat by omega, h4]
  exact hk
end
end
