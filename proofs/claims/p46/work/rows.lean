section
-- ===== PART A: goes FIRST, ahead of the names: the tables' words, and 'selects' of the private methods out of them =====
/-- a private method of a class that the tables say can be made, by its rows of tables_1 -/
def lw_okq (q : MethodName × Nat) : Prop := (q.1.cls ≠ "java/lang/invoke/MethodHandle" ∧ q.1.cls ≠ "java/lang/invoke/VarHandle") ∧ Cond.instantiable q.1.cls q.2 ∈ tables_1 ∧ Cond.privateMethod q.1 ∈ tables_1 ∧ Cond.instanceMethod q.1 ∈ tables_1
theorem lw_p0 : lw_okq (⟨"TradeHall$Tape", "skipBlanks", "()V"⟩, 7) := ⟨⟨by decide +kernel, by decide +kernel⟩, List.mem_of_getElem? (i := 94) (by decide +kernel), List.mem_of_getElem? (i := 295) (by decide +kernel), List.mem_of_getElem? (i := 296) (by decide +kernel)⟩
theorem lw_p1 : lw_okq (⟨"TradeHall$Tape", "byteAt", "(I)I"⟩, 7) := ⟨⟨by decide +kernel, by decide +kernel⟩, List.mem_of_getElem? (i := 94) (by decide +kernel), List.mem_of_getElem? (i := 299) (by decide +kernel), List.mem_of_getElem? (i := 300) (by decide +kernel)⟩
theorem lw_p2 : lw_okq (⟨"TradeHall$Tape", "readPart", "()V"⟩, 7) := ⟨⟨by decide +kernel, by decide +kernel⟩, List.mem_of_getElem? (i := 94) (by decide +kernel), List.mem_of_getElem? (i := 303) (by decide +kernel), List.mem_of_getElem? (i := 304) (by decide +kernel)⟩
theorem lw_p3 : lw_okq (⟨"TradeHall$Tape", "skipWord", "()V"⟩, 7) := ⟨⟨by decide +kernel, by decide +kernel⟩, List.mem_of_getElem? (i := 94) (by decide +kernel), List.mem_of_getElem? (i := 307) (by decide +kernel), List.mem_of_getElem? (i := 308) (by decide +kernel)⟩
theorem lw_p4 : lw_okq (⟨"TradeHall$Tape", "isWord", "(ILjava/lang/String;)Z"⟩, 7) := ⟨⟨by decide +kernel, by decide +kernel⟩, List.mem_of_getElem? (i := 94) (by decide +kernel), List.mem_of_getElem? (i := 315) (by decide +kernel), List.mem_of_getElem? (i := 316) (by decide +kernel)⟩
theorem lw_p5 : lw_okq (⟨"TradeHall$Tape", "readTrader", "(IZ)V"⟩, 7) := ⟨⟨by decide +kernel, by decide +kernel⟩, List.mem_of_getElem? (i := 94) (by decide +kernel), List.mem_of_getElem? (i := 367) (by decide +kernel), List.mem_of_getElem? (i := 368) (by decide +kernel)⟩
theorem lw_p6 : lw_okq (⟨"TradeHall$Tape", "note", "(II)V"⟩, 7) := ⟨⟨by decide +kernel, by decide +kernel⟩, List.mem_of_getElem? (i := 94) (by decide +kernel), List.mem_of_getElem? (i := 371) (by decide +kernel), List.mem_of_getElem? (i := 372) (by decide +kernel)⟩
theorem lw_p7 : lw_okq (⟨"TradeHall$Tape", "readNumber", "(I)I"⟩, 7) := ⟨⟨by decide +kernel, by decide +kernel⟩, List.mem_of_getElem? (i := 94) (by decide +kernel), List.mem_of_getElem? (i := 375) (by decide +kernel), List.mem_of_getElem? (i := 376) (by decide +kernel)⟩
theorem lw_p8 : lw_okq (⟨"TradeHall$Tape", "readFee", "(I)V"⟩, 7) := ⟨⟨by decide +kernel, by decide +kernel⟩, List.mem_of_getElem? (i := 94) (by decide +kernel), List.mem_of_getElem? (i := 426) (by decide +kernel), List.mem_of_getElem? (i := 427) (by decide +kernel)⟩
theorem lw_p9 : lw_okq (⟨"TradeHall$Tape", "readLaw", "(I)V"⟩, 7) := ⟨⟨by decide +kernel, by decide +kernel⟩, List.mem_of_getElem? (i := 94) (by decide +kernel), List.mem_of_getElem? (i := 431) (by decide +kernel), List.mem_of_getElem? (i := 432) (by decide +kernel)⟩
theorem lw_p10 : lw_okq (⟨"TradeHall$History", "at", "(I)LTradeHall$Hall;"⟩, 3) := ⟨⟨by decide +kernel, by decide +kernel⟩, List.mem_of_getElem? (i := 126) (by decide +kernel), List.mem_of_getElem? (i := 465) (by decide +kernel), List.mem_of_getElem? (i := 466) (by decide +kernel)⟩
theorem lw_p11 : lw_okq (⟨"TradeHall", "settleGrade", "(I)V"⟩, 11) := ⟨⟨by decide +kernel, by decide +kernel⟩, List.mem_of_getElem? (i := 24) (by decide +kernel), List.mem_of_getElem? (i := 516) (by decide +kernel), List.mem_of_getElem? (i := 517) (by decide +kernel)⟩
theorem lw_p12 : lw_okq (⟨"TradeHall$Book", "priceForAll", "()I"⟩, 11) := ⟨⟨by decide +kernel, by decide +kernel⟩, List.mem_of_getElem? (i := 176) (by decide +kernel), List.mem_of_getElem? (i := 558) (by decide +kernel), List.mem_of_getElem? (i := 559) (by decide +kernel)⟩
theorem lw_p13 : lw_okq (⟨"TradeHall$Book", "slotAt", "(ZI)I"⟩, 11) := ⟨⟨by decide +kernel, by decide +kernel⟩, List.mem_of_getElem? (i := 176) (by decide +kernel), List.mem_of_getElem? (i := 579) (by decide +kernel), List.mem_of_getElem? (i := 580) (by decide +kernel)⟩
theorem lw_p14 : lw_okq (⟨"TradeHall$Book", "amountsDone", "(ZI)I"⟩, 11) := ⟨⟨by decide +kernel, by decide +kernel⟩, List.mem_of_getElem? (i := 176) (by decide +kernel), List.mem_of_getElem? (i := 588) (by decide +kernel), List.mem_of_getElem? (i := 589) (by decide +kernel)⟩
theorem lw_p15 : lw_okq (⟨"TradeHall$Book", "amount", "(ZI)I"⟩, 11) := ⟨⟨by decide +kernel, by decide +kernel⟩, List.mem_of_getElem? (i := 176) (by decide +kernel), List.mem_of_getElem? (i := 592) (by decide +kernel), List.mem_of_getElem? (i := 593) (by decide +kernel)⟩
def lw_privs_1 : List (MethodName × Nat) := [(⟨"TradeHall$Tape", "skipBlanks", "()V"⟩, 7), (⟨"TradeHall$Tape", "byteAt", "(I)I"⟩, 7), (⟨"TradeHall$Tape", "readPart", "()V"⟩, 7), (⟨"TradeHall$Tape", "skipWord", "()V"⟩, 7), (⟨"TradeHall$Tape", "isWord", "(ILjava/lang/String;)Z"⟩, 7), (⟨"TradeHall$Tape", "readTrader", "(IZ)V"⟩, 7), (⟨"TradeHall$Tape", "note", "(II)V"⟩, 7), (⟨"TradeHall$Tape", "readNumber", "(I)I"⟩, 7), (⟨"TradeHall$Tape", "readFee", "(I)V"⟩, 7), (⟨"TradeHall$Tape", "readLaw", "(I)V"⟩, 7), (⟨"TradeHall$History", "at", "(I)LTradeHall$Hall;"⟩, 3), (⟨"TradeHall", "settleGrade", "(I)V"⟩, 11), (⟨"TradeHall$Book", "priceForAll", "()I"⟩, 11), (⟨"TradeHall$Book", "slotAt", "(ZI)I"⟩, 11), (⟨"TradeHall$Book", "amountsDone", "(ZI)I"⟩, 11), (⟨"TradeHall$Book", "amount", "(ZI)I"⟩, 11)]
theorem lw_r1 : ∀ q ∈ lw_privs_1, lw_okq q := List.forall_mem_cons.mpr ⟨lw_p0, List.forall_mem_cons.mpr ⟨lw_p1, List.forall_mem_cons.mpr ⟨lw_p2, List.forall_mem_cons.mpr ⟨lw_p3, List.forall_mem_cons.mpr ⟨lw_p4, List.forall_mem_cons.mpr ⟨lw_p5, List.forall_mem_cons.mpr ⟨lw_p6, List.forall_mem_cons.mpr ⟨lw_p7, List.forall_mem_cons.mpr ⟨lw_p8, List.forall_mem_cons.mpr ⟨lw_p9, List.forall_mem_cons.mpr ⟨lw_p10, List.forall_mem_cons.mpr ⟨lw_p11, List.forall_mem_cons.mpr ⟨lw_p12, List.forall_mem_cons.mpr ⟨lw_p13, List.forall_mem_cons.mpr ⟨lw_p14, List.forall_mem_cons.mpr ⟨lw_p15, fun _ h => absurd h List.not_mem_nil⟩⟩⟩⟩⟩⟩⟩⟩⟩⟩⟩⟩⟩⟩⟩⟩
theorem lw_p16 : lw_okq (⟨"TradeHall$Shelves", "at", "(I)LTradeHall$Hall;"⟩, 2) := ⟨⟨by decide +kernel, by decide +kernel⟩, List.mem_of_getElem? (i := 146) (by decide +kernel), List.mem_of_getElem? (i := 633) (by decide +kernel), List.mem_of_getElem? (i := 634) (by decide +kernel)⟩
theorem lw_p17 : lw_okq (⟨"TradeHall", "gradesWithTrades", "()I"⟩, 11) := ⟨⟨by decide +kernel, by decide +kernel⟩, List.mem_of_getElem? (i := 24) (by decide +kernel), List.mem_of_getElem? (i := 660) (by decide +kernel), List.mem_of_getElem? (i := 661) (by decide +kernel)⟩
theorem lw_p18 : lw_okq (⟨"TradeHall", "worthOfAll", "()I"⟩, 11) := ⟨⟨by decide +kernel, by decide +kernel⟩, List.mem_of_getElem? (i := 24) (by decide +kernel), List.mem_of_getElem? (i := 664) (by decide +kernel), List.mem_of_getElem? (i := 665) (by decide +kernel)⟩
theorem lw_p19 : lw_okq (⟨"TradeHall", "worthOf", "(II)I"⟩, 11) := ⟨⟨by decide +kernel, by decide +kernel⟩, List.mem_of_getElem? (i := 24) (by decide +kernel), List.mem_of_getElem? (i := 668) (by decide +kernel), List.mem_of_getElem? (i := 669) (by decide +kernel)⟩
theorem lw_p20 : lw_okq (⟨"TradeHall$Letters", "beginPart", "(Ljava/lang/String;)V"⟩, 2) := ⟨⟨by decide +kernel, by decide +kernel⟩, List.mem_of_getElem? (i := 162) (by decide +kernel), List.mem_of_getElem? (i := 1069) (by decide +kernel), List.mem_of_getElem? (i := 1070) (by decide +kernel)⟩
theorem lw_p21 : lw_okq (⟨"TradeHall$Letters", "put", "(I)V"⟩, 2) := ⟨⟨by decide +kernel, by decide +kernel⟩, List.mem_of_getElem? (i := 162) (by decide +kernel), List.mem_of_getElem? (i := 1073) (by decide +kernel), List.mem_of_getElem? (i := 1074) (by decide +kernel)⟩
theorem lw_p22 : lw_okq (⟨"TradeHall$Letters", "putWord", "(Ljava/lang/String;)V"⟩, 2) := ⟨⟨by decide +kernel, by decide +kernel⟩, List.mem_of_getElem? (i := 162) (by decide +kernel), List.mem_of_getElem? (i := 1077) (by decide +kernel), List.mem_of_getElem? (i := 1078) (by decide +kernel)⟩
theorem lw_p23 : lw_okq (⟨"TradeHall$Letters", "putNumber", "(I)V"⟩, 2) := ⟨⟨by decide +kernel, by decide +kernel⟩, List.mem_of_getElem? (i := 162) (by decide +kernel), List.mem_of_getElem? (i := 1084) (by decide +kernel), List.mem_of_getElem? (i := 1085) (by decide +kernel)⟩
def lw_privs_2 : List (MethodName × Nat) := [(⟨"TradeHall$Shelves", "at", "(I)LTradeHall$Hall;"⟩, 2), (⟨"TradeHall", "gradesWithTrades", "()I"⟩, 11), (⟨"TradeHall", "worthOfAll", "()I"⟩, 11), (⟨"TradeHall", "worthOf", "(II)I"⟩, 11), (⟨"TradeHall$Letters", "beginPart", "(Ljava/lang/String;)V"⟩, 2), (⟨"TradeHall$Letters", "put", "(I)V"⟩, 2), (⟨"TradeHall$Letters", "putWord", "(Ljava/lang/String;)V"⟩, 2), (⟨"TradeHall$Letters", "putNumber", "(I)V"⟩, 2)]
theorem lw_r2 : ∀ q ∈ lw_privs_2, lw_okq q := List.forall_mem_cons.mpr ⟨lw_p16, List.forall_mem_cons.mpr ⟨lw_p17, List.forall_mem_cons.mpr ⟨lw_p18, List.forall_mem_cons.mpr ⟨lw_p19, List.forall_mem_cons.mpr ⟨lw_p20, List.forall_mem_cons.mpr ⟨lw_p21, List.forall_mem_cons.mpr ⟨lw_p22, List.forall_mem_cons.mpr ⟨lw_p23, fun _ h => absurd h List.not_mem_nil⟩⟩⟩⟩⟩⟩⟩⟩
def lw_privs : List (MethodName × Nat) := lw_privs_1 ++ (lw_privs_2)
def lw_tbl : List Cond := k2_sels lw_privs ++ tables_1
theorem lw_privs_ok : ∀ q ∈ lw_privs, lw_okq q := by
  show ∀ q ∈ lw_privs_1 ++ (lw_privs_2), lw_okq q
  exact List.forall_mem_append.mpr ⟨lw_r1, lw_r2⟩
def RX0 : String := "TradeHall$Book"
def TX0 : u_T := fun k => match k with
  | 0 => ("TradeHall$Book", "bids", "[I", true)
  | 1 => ("TradeHall$Book", "asks", "[I", true)
  | 2 => ("TradeHall$Book", "bidCount", "I", false)
  | 3 => ("TradeHall$Book", "askCount", "I", false)
  | 4 => ("TradeHall$Book", "fee", "I", false)
  | 5 => ("TradeHall$Book", "law", "I", false)
  | 6 => ("TradeHall$Book", "trades", "I", false)
  | 7 => ("TradeHall$Book", "worth", "I", false)
  | 8 => ("TradeHall$Book", "done", "I", false)
  | 9 => ("TradeHall$Book", "buyerPays", "I", false)
  | _ => ("TradeHall$Book", "sellerHas", "I", false)
def tyX0 : Nat → FieldType := fun k => match k with
  | 0 => .array .int
  | 1 => .array .int
  | 2 => .int
  | 3 => .int
  | 4 => .int
  | 5 => .int
  | 6 => .int
  | 7 => .int
  | 8 => .int
  | 9 => .int
  | _ => .int
abbrev wsX00 : List Cond := u_ws RX0 TX0 11
theorem nmX0 : ∀ a, a < 11 → ∀ b, b < 11 → a ≠ b → (TX0 a).2.1 ≠ (TX0 b).2.1 := by decide +kernel
theorem tyX0_ok : ∀ k, k < 11 → parseFieldDescriptor (TX0 k).2.2.1 = some (tyX0 k) := by decide +kernel
abbrev cX0_init : ByteArray := prog_2_method_1_code
def yX0_init : MethodName := ⟨RX0, "<init>", "()V"⟩
abbrev cX0_take : ByteArray := prog_2_method_2_code
def yX0_take : MethodName := ⟨RX0, "take", "(LTradeHall$Hall;II)V"⟩
abbrev cX0_takeTrader : ByteArray := prog_2_method_3_code
def yX0_takeTrader : MethodName := ⟨RX0, "takeTrader", "(LTradeHall$Hall;II)V"⟩
abbrev cX0_insert : ByteArray := prog_2_method_5_code
def yX0_insert : MethodName := ⟨RX0, "insert", "([III)I"⟩
abbrev cX0_traderAt : ByteArray := prog_2_method_6_code
def yX0_traderAt : MethodName := ⟨RX0, "traderAt", "(ZI)I"⟩
abbrev cX0_slotAt : ByteArray := prog_2_method_8_code
def yX0_slotAt : MethodName := ⟨RX0, "slotAt", "(ZI)I"⟩
abbrev cX0_bid : ByteArray := prog_2_method_9_code
def yX0_bid : MethodName := ⟨RX0, "bid", "(I)I"⟩
abbrev cX0_ask : ByteArray := prog_2_method_10_code
def yX0_ask : MethodName := ⟨RX0, "ask", "(I)I"⟩
abbrev cX0_amount : ByteArray := prog_2_method_11_code
def yX0_amount : MethodName := ⟨RX0, "amount", "(ZI)I"⟩
abbrev cX0_lastBid : ByteArray := prog_2_method_12_code
def yX0_lastBid : MethodName := ⟨RX0, "lastBid", "()I"⟩
abbrev cX0_lastAsk : ByteArray := prog_2_method_13_code
def yX0_lastAsk : MethodName := ⟨RX0, "lastAsk", "()I"⟩
abbrev cX0_settle : ByteArray := prog_2_method_14_code
def yX0_settle : MethodName := ⟨RX0, "settle", "(II)V"⟩
abbrev cX0_priceForAll : ByteArray := prog_2_method_15_code
def yX0_priceForAll : MethodName := ⟨RX0, "priceForAll", "()I"⟩
abbrev cX0_worthWithout : ByteArray := prog_2_method_19_code
def yX0_worthWithout : MethodName := ⟨RX0, "worthWithout", "(I)I"⟩
abbrev cX0_doneOf : ByteArray := prog_2_method_20_code
def yX0_doneOf : MethodName := ⟨RX0, "doneOf", "(ZI)I"⟩
abbrev cX0_moneyOf : ByteArray := prog_2_method_21_code
def yX0_moneyOf : MethodName := ⟨RX0, "moneyOf", "(ZI)I"⟩
abbrev cX0_amountsDone : ByteArray := prog_2_method_22_code
def yX0_amountsDone : MethodName := ⟨RX0, "amountsDone", "(ZI)I"⟩
abbrev cX0_takings : ByteArray := prog_2_method_23_code
def yX0_takings : MethodName := ⟨RX0, "takings", "()I"⟩
def RX1 : String := "TradeHall$Hall"
def TX1 : u_T := fun k => match k with
  | 0 => ("TradeHall$Hall", "sells", "[Z", true)
  | 1 => ("TradeHall$Hall", "grades", "[I", true)
  | 2 => ("TradeHall$Hall", "units", "[I", true)
  | 3 => ("TradeHall$Hall", "says", "[I", true)
  | 4 => ("TradeHall$Hall", "purses", "[I", true)
  | 5 => ("TradeHall$Hall", "traded", "[I", true)
  | 6 => ("TradeHall$Hall", "size", "I", false)
  | 7 => ("TradeHall$Hall", "fee", "I", false)
  | 8 => ("TradeHall$Hall", "law", "I", false)
  | 9 => ("TradeHall$Hall", "chest", "I", false)
  | 10 => ("TradeHall$Hall", "tradesClosed", "I", false)
  | 11 => ("TradeHall$Hall", "closes", "I", false)
  | _ => ("TradeHall$Hall", "mostTaken", "I", false)
def tyX1 : Nat → FieldType := fun k => match k with
  | 0 => .array .boolean
  | 1 => .array .int
  | 2 => .array .int
  | 3 => .array .int
  | 4 => .array .int
  | 5 => .array .int
  | 6 => .int
  | 7 => .int
  | 8 => .int
  | 9 => .int
  | 10 => .int
  | 11 => .int
  | _ => .int
abbrev wsX10 : List Cond := u_ws RX1 TX1 13
theorem nmX1 : ∀ a, a < 13 → ∀ b, b < 13 → a ≠ b → (TX1 a).2.1 ≠ (TX1 b).2.1 := by decide +kernel
theorem tyX1_ok : ∀ k, k < 13 → parseFieldDescriptor (TX1 k).2.2.1 = some (tyX1 k) := by decide +kernel
abbrev cX1_init : ByteArray := prog_3_method_1_code
def yX1_init : MethodName := ⟨RX1, "<init>", "()V"⟩
abbrev cX1_clear : ByteArray := prog_3_method_2_code
def yX1_clear : MethodName := ⟨RX1, "clear", "()V"⟩
abbrev cX1_copyFrom : ByteArray := prog_3_method_3_code
def yX1_copyFrom : MethodName := ⟨RX1, "copyFrom", "(LTradeHall$Hall;)V"⟩
abbrev cX1_has : ByteArray := prog_3_method_4_code
def yX1_has : MethodName := ⟨RX1, "has", "(I)Z"⟩
abbrev cX1_hasUnit : ByteArray := prog_3_method_5_code
def yX1_hasUnit : MethodName := ⟨RX1, "hasUnit", "(II)Z"⟩
abbrev cX1_isSeller : ByteArray := prog_3_method_6_code
def yX1_isSeller : MethodName := ⟨RX1, "isSeller", "(I)Z"⟩
abbrev cX1_gradeOf : ByteArray := prog_3_method_7_code
def yX1_gradeOf : MethodName := ⟨RX1, "gradeOf", "(I)I"⟩
abbrev cX1_unitsOf : ByteArray := prog_3_method_8_code
def yX1_unitsOf : MethodName := ⟨RX1, "unitsOf", "(I)I"⟩
abbrev cX1_purseOf : ByteArray := prog_3_method_9_code
def yX1_purseOf : MethodName := ⟨RX1, "purseOf", "(I)I"⟩
abbrev cX1_tradedOf : ByteArray := prog_3_method_10_code
def yX1_tradedOf : MethodName := ⟨RX1, "tradedOf", "(I)I"⟩
abbrev cX1_said : ByteArray := prog_3_method_11_code
def yX1_said : MethodName := ⟨RX1, "said", "(II)I"⟩
abbrev cX1_setSaid : ByteArray := prog_3_method_12_code
def yX1_setSaid : MethodName := ⟨RX1, "setSaid", "(III)V"⟩
abbrev cX1_fits : ByteArray := prog_3_method_14_code
def yX1_fits : MethodName := ⟨RX1, "fits", "(III)Z"⟩
abbrev cX1_inOrder : ByteArray := prog_3_method_15_code
def yX1_inOrder : MethodName := ⟨RX1, "inOrder", "(ZII)Z"⟩
abbrev cX1_enter : ByteArray := prog_3_method_16_code
def yX1_enter : MethodName := ⟨RX1, "enter", "(ZI)I"⟩
abbrev cX1_append : ByteArray := prog_3_method_17_code
def yX1_append : MethodName := ⟨RX1, "append", "(II)I"⟩
abbrev cX1_dropFirst : ByteArray := prog_3_method_18_code
def yX1_dropFirst : MethodName := ⟨RX1, "dropFirst", "(II)V"⟩
abbrev cX1_trade : ByteArray := prog_3_method_19_code
def yX1_trade : MethodName := ⟨RX1, "trade", "(III)V"⟩
abbrev cX1_noteClose : ByteArray := prog_3_method_20_code
def yX1_noteClose : MethodName := ⟨RX1, "noteClose", "(II)V"⟩
abbrev cX1_allUnits : ByteArray := prog_3_method_21_code
def yX1_allUnits : MethodName := ⟨RX1, "allUnits", "()I"⟩
abbrev cX1_allPurses : ByteArray := prog_3_method_22_code
def yX1_allPurses : MethodName := ⟨RX1, "allPurses", "()I"⟩
abbrev cX1_richest : ByteArray := prog_3_method_23_code
def yX1_richest : MethodName := ⟨RX1, "richest", "()I"⟩
def RX2 : String := "TradeHall$History"
def TX2 : u_T := fun k => match k with
  | 0 => ("TradeHall$History", "past", "[LTradeHall$Hall;", true)
  | 1 => ("TradeHall$History", "next", "I", false)
  | _ => ("TradeHall$History", "size", "I", false)
def tyX2 : Nat → FieldType := fun k => match k with
  | 0 => .array (.object "TradeHall$Hall")
  | 1 => .int
  | _ => .int
abbrev wsX20 : List Cond := u_ws RX2 TX2 3
theorem nmX2 : ∀ a, a < 3 → ∀ b, b < 3 → a ≠ b → (TX2 a).2.1 ≠ (TX2 b).2.1 := by decide +kernel
theorem tyX2_ok : ∀ k, k < 3 → parseFieldDescriptor (TX2 k).2.2.1 = some (tyX2 k) := by decide +kernel
abbrev cX2_init : ByteArray := prog_4_method_1_code
def yX2_init : MethodName := ⟨RX2, "<init>", "()V"⟩
abbrev cX2_forget : ByteArray := prog_4_method_2_code
def yX2_forget : MethodName := ⟨RX2, "forget", "()V"⟩
abbrev cX2_remember : ByteArray := prog_4_method_3_code
def yX2_remember : MethodName := ⟨RX2, "remember", "(LTradeHall$Hall;)V"⟩
abbrev cX2_takeBack : ByteArray := prog_4_method_4_code
def yX2_takeBack : MethodName := ⟨RX2, "takeBack", "(LTradeHall$Hall;)I"⟩
abbrev cX2_at : ByteArray := prog_4_method_5_code
def yX2_at : MethodName := ⟨RX2, "at", "(I)LTradeHall$Hall;"⟩
def RX3 : String := "TradeHall$Letters"
def TX3 : u_T := fun k => match k with
  | 0 => ("TradeHall$Letters", "bytes", "[I", true)
  | _ => ("TradeHall$Letters", "size", "I", false)
def tyX3 : Nat → FieldType := fun k => match k with
  | 0 => .array .int
  | _ => .int
abbrev wsX30 : List Cond := u_ws RX3 TX3 2
theorem nmX3 : ∀ a, a < 2 → ∀ b, b < 2 → a ≠ b → (TX3 a).2.1 ≠ (TX3 b).2.1 := by decide +kernel
theorem tyX3_ok : ∀ k, k < 2 → parseFieldDescriptor (TX3 k).2.2.1 = some (tyX3 k) := by decide +kernel
abbrev cX3_init : ByteArray := prog_5_method_1_code
def yX3_init : MethodName := ⟨RX3, "<init>", "()V"⟩
abbrev cX3_at : ByteArray := prog_5_method_2_code
def yX3_at : MethodName := ⟨RX3, "at", "(I)I"⟩
abbrev cX3_write : ByteArray := prog_5_method_3_code
def yX3_write : MethodName := ⟨RX3, "write", "(LTradeHall$Hall;)V"⟩
abbrev cX3_beginPart : ByteArray := prog_5_method_4_code
def yX3_beginPart : MethodName := ⟨RX3, "beginPart", "(Ljava/lang/String;)V"⟩
abbrev cX3_putWord : ByteArray := prog_5_method_5_code
def yX3_putWord : MethodName := ⟨RX3, "putWord", "(Ljava/lang/String;)V"⟩
abbrev cX3_putNumber : ByteArray := prog_5_method_6_code
def yX3_putNumber : MethodName := ⟨RX3, "putNumber", "(I)V"⟩
abbrev cX3_put : ByteArray := prog_5_method_7_code
def yX3_put : MethodName := ⟨RX3, "put", "(I)V"⟩
def RX4 : String := "TradeHall$Ranking"
def TX4 : u_T := fun k => match k with
  | 0 => ("TradeHall$Ranking", "order", "[I", true)
  | 1 => ("TradeHall$Ranking", "gains", "[I", true)
  | _ => ("TradeHall$Ranking", "size", "I", false)
def tyX4 : Nat → FieldType := fun k => match k with
  | 0 => .array .int
  | 1 => .array .int
  | _ => .int
abbrev wsX40 : List Cond := u_ws RX4 TX4 3
theorem nmX4 : ∀ a, a < 3 → ∀ b, b < 3 → a ≠ b → (TX4 a).2.1 ≠ (TX4 b).2.1 := by decide +kernel
theorem tyX4_ok : ∀ k, k < 3 → parseFieldDescriptor (TX4 k).2.2.1 = some (tyX4 k) := by decide +kernel
abbrev cX4_init : ByteArray := prog_6_method_1_code
def yX4_init : MethodName := ⟨RX4, "<init>", "()V"⟩
def RX5 : String := "TradeHall$Serving"
def TX5 : u_T := fun k => match k with
  | 0 => ("TradeHall$Serving", "most", "[I", true)
  | 1 => ("TradeHall$Serving", "value", "I", false)
  | _ => ("TradeHall$Serving", "pairs", "I", false)
def tyX5 : Nat → FieldType := fun k => match k with
  | 0 => .array .int
  | 1 => .int
  | _ => .int
abbrev wsX50 : List Cond := u_ws RX5 TX5 3
theorem nmX5 : ∀ a, a < 3 → ∀ b, b < 3 → a ≠ b → (TX5 a).2.1 ≠ (TX5 b).2.1 := by decide +kernel
theorem tyX5_ok : ∀ k, k < 3 → parseFieldDescriptor (TX5 k).2.2.1 = some (tyX5 k) := by decide +kernel
abbrev cX5_init : ByteArray := prog_7_method_1_code
def yX5_init : MethodName := ⟨RX5, "<init>", "()V"⟩
def RX6 : String := "TradeHall$Shelves"
def TX6 : u_T := fun k => match k with
  | 0 => ("TradeHall$Shelves", "halls", "[LTradeHall$Hall;", true)
  | _ => ("TradeHall$Shelves", "kept", "I", false)
def tyX6 : Nat → FieldType := fun k => match k with
  | 0 => .array (.object "TradeHall$Hall")
  | _ => .int
abbrev wsX60 : List Cond := u_ws RX6 TX6 2
theorem nmX6 : ∀ a, a < 2 → ∀ b, b < 2 → a ≠ b → (TX6 a).2.1 ≠ (TX6 b).2.1 := by decide +kernel
theorem tyX6_ok : ∀ k, k < 2 → parseFieldDescriptor (TX6 k).2.2.1 = some (tyX6 k) := by decide +kernel
abbrev cX6_init : ByteArray := prog_8_method_1_code
def yX6_init : MethodName := ⟨RX6, "<init>", "()V"⟩
abbrev cX6_holds : ByteArray := prog_8_method_2_code
def yX6_holds : MethodName := ⟨RX6, "holds", "(I)Z"⟩
abbrev cX6_put : ByteArray := prog_8_method_3_code
def yX6_put : MethodName := ⟨RX6, "put", "(ILTradeHall$Hall;)V"⟩
abbrev cX6_fetch : ByteArray := prog_8_method_4_code
def yX6_fetch : MethodName := ⟨RX6, "fetch", "(ILTradeHall$Hall;)V"⟩
abbrev cX6_at : ByteArray := prog_8_method_5_code
def yX6_at : MethodName := ⟨RX6, "at", "(I)LTradeHall$Hall;"⟩
def RX7 : String := "TradeHall$Tape"
def TX7 : u_T := fun k => match k with
  | 0 => ("TradeHall$Tape", "bytes", "[I", true)
  | 1 => ("TradeHall$Tape", "told", "LTradeHall$Hall;", true)
  | 2 => ("TradeHall$Tape", "size", "I", false)
  | 3 => ("TradeHall$Tape", "place", "I", false)
  | 4 => ("TradeHall$Tape", "fault", "I", false)
  | 5 => ("TradeHall$Tape", "hasFee", "Z", false)
  | _ => ("TradeHall$Tape", "hasLaw", "Z", false)
def tyX7 : Nat → FieldType := fun k => match k with
  | 0 => .array .int
  | 1 => .object "TradeHall$Hall"
  | 2 => .int
  | 3 => .int
  | 4 => .int
  | 5 => .boolean
  | _ => .boolean
abbrev wsX70 : List Cond := u_ws RX7 TX7 7
theorem nmX7 : ∀ a, a < 7 → ∀ b, b < 7 → a ≠ b → (TX7 a).2.1 ≠ (TX7 b).2.1 := by decide +kernel
theorem tyX7_ok : ∀ k, k < 7 → parseFieldDescriptor (TX7 k).2.2.1 = some (tyX7 k) := by decide +kernel
abbrev cX7_init : ByteArray := prog_9_method_1_code
def yX7_init : MethodName := ⟨RX7, "<init>", "()V"⟩
abbrev cX7_append : ByteArray := prog_9_method_2_code
def yX7_append : MethodName := ⟨RX7, "append", "(I)V"⟩
abbrev cX7_read : ByteArray := prog_9_method_3_code
def yX7_read : MethodName := ⟨RX7, "read", "()I"⟩
abbrev cX7_readPart : ByteArray := prog_9_method_4_code
def yX7_readPart : MethodName := ⟨RX7, "readPart", "()V"⟩
abbrev cX7_readTrader : ByteArray := prog_9_method_5_code
def yX7_readTrader : MethodName := ⟨RX7, "readTrader", "(IZ)V"⟩
abbrev cX7_readFee : ByteArray := prog_9_method_6_code
def yX7_readFee : MethodName := ⟨RX7, "readFee", "(I)V"⟩
abbrev cX7_readLaw : ByteArray := prog_9_method_7_code
def yX7_readLaw : MethodName := ⟨RX7, "readLaw", "(I)V"⟩
abbrev cX7_readNumber : ByteArray := prog_9_method_8_code
def yX7_readNumber : MethodName := ⟨RX7, "readNumber", "(I)I"⟩
abbrev cX7_note : ByteArray := prog_9_method_9_code
def yX7_note : MethodName := ⟨RX7, "note", "(II)V"⟩
abbrev cX7_skipBlanks : ByteArray := prog_9_method_10_code
def yX7_skipBlanks : MethodName := ⟨RX7, "skipBlanks", "()V"⟩
abbrev cX7_skipWord : ByteArray := prog_9_method_11_code
def yX7_skipWord : MethodName := ⟨RX7, "skipWord", "()V"⟩
abbrev cX7_isWord : ByteArray := prog_9_method_12_code
def yX7_isWord : MethodName := ⟨RX7, "isWord", "(ILjava/lang/String;)Z"⟩
abbrev cX7_byteAt : ByteArray := prog_9_method_13_code
def yX7_byteAt : MethodName := ⟨RX7, "byteAt", "(I)I"⟩
abbrev cX7_isDigit : ByteArray := prog_9_method_14_code
def yX7_isDigit : MethodName := ⟨RX7, "isDigit", "(I)Z"⟩
abbrev cX7_isSmallLetter : ByteArray := prog_9_method_15_code
def yX7_isSmallLetter : MethodName := ⟨RX7, "isSmallLetter", "(I)Z"⟩
def RX8 : String := "TradeHall"
def TX8 : u_T := fun k => match k with
  | 0 => ("TradeHall", "hall", "LTradeHall$Hall;", true)
  | 1 => ("TradeHall", "tape", "LTradeHall$Tape;", true)
  | 2 => ("TradeHall", "history", "LTradeHall$History;", true)
  | 3 => ("TradeHall", "shelves", "LTradeHall$Shelves;", true)
  | 4 => ("TradeHall", "letters", "LTradeHall$Letters;", true)
  | 5 => ("TradeHall", "book", "LTradeHall$Book;", true)
  | 6 => ("TradeHall", "others", "LTradeHall$Book;", true)
  | 7 => ("TradeHall", "ranking", "LTradeHall$Ranking;", true)
  | 8 => ("TradeHall", "serving", "LTradeHall$Serving;", true)
  | 9 => ("TradeHall", "takingsByFee", "[I", true)
  | _ => ("TradeHall", "waysRow", "[J", true)
def tyX8 : Nat → FieldType := fun k => match k with
  | 0 => .object "TradeHall$Hall"
  | 1 => .object "TradeHall$Tape"
  | 2 => .object "TradeHall$History"
  | 3 => .object "TradeHall$Shelves"
  | 4 => .object "TradeHall$Letters"
  | 5 => .object "TradeHall$Book"
  | 6 => .object "TradeHall$Book"
  | 7 => .object "TradeHall$Ranking"
  | 8 => .object "TradeHall$Serving"
  | 9 => .array .int
  | _ => .array .long
abbrev wsX80 : List Cond := u_ws RX8 TX8 11
theorem nmX8 : ∀ a, a < 11 → ∀ b, b < 11 → a ≠ b → (TX8 a).2.1 ≠ (TX8 b).2.1 := by decide +kernel
theorem tyX8_ok : ∀ k, k < 11 → parseFieldDescriptor (TX8 k).2.2.1 = some (tyX8 k) := by decide +kernel
abbrev cX8_init : ByteArray := prog_1_method_1_code
def yX8_init : MethodName := ⟨RX8, "<init>", "()V"⟩
abbrev cX8_feed : ByteArray := prog_1_method_2_code
def yX8_feed : MethodName := ⟨RX8, "feed", "(IIIII)I"⟩
abbrev cX8_end : ByteArray := prog_1_method_3_code
def yX8_end : MethodName := ⟨RX8, "end", "(I)I"⟩
abbrev cX8_tell : ByteArray := prog_1_method_4_code
def yX8_tell : MethodName := ⟨RX8, "tell", "()I"⟩
abbrev cX8_come : ByteArray := prog_1_method_5_code
def yX8_come : MethodName := ⟨RX8, "come", "(ZI)I"⟩
abbrev cX8_add : ByteArray := prog_1_method_6_code
def yX8_add : MethodName := ⟨RX8, "add", "(II)I"⟩
abbrev cX8_say : ByteArray := prog_1_method_7_code
def yX8_say : MethodName := ⟨RX8, "say", "(III)I"⟩
abbrev cX8_leave : ByteArray := prog_1_method_8_code
def yX8_leave : MethodName := ⟨RX8, "leave", "(I)I"⟩
abbrev cX8_fee : ByteArray := prog_1_method_9_code
def yX8_fee : MethodName := ⟨RX8, "fee", "(I)I"⟩
abbrev cX8_law : ByteArray := prog_1_method_10_code
def yX8_law : MethodName := ⟨RX8, "law", "(I)I"⟩
abbrev cX8_close : ByteArray := prog_1_method_11_code
def yX8_close : MethodName := ⟨RX8, "close", "(I)I"⟩
abbrev cX8_undo : ByteArray := prog_1_method_12_code
def yX8_undo : MethodName := ⟨RX8, "undo", "()I"⟩
abbrev cX8_keep : ByteArray := prog_1_method_13_code
def yX8_keep : MethodName := ⟨RX8, "keep", "(I)I"⟩
abbrev cX8_back : ByteArray := prog_1_method_14_code
def yX8_back : MethodName := ⟨RX8, "back", "(I)I"⟩
abbrev cX8_trader : ByteArray := prog_1_method_15_code
def yX8_trader : MethodName := ⟨RX8, "trader", "(II)I"⟩
abbrev cX8_audit : ByteArray := prog_1_method_29_code
def yX8_audit : MethodName := ⟨RX8, "audit", "(I)I"⟩
abbrev cX8_letter : ByteArray := prog_1_method_31_code
def yX8_letter : MethodName := ⟨RX8, "letter", "(I)I"⟩
abbrev cX8_count : ByteArray := prog_1_method_44_code
def yX8_count : MethodName := ⟨RX8, "count", "(I)I"⟩
abbrev cX8_isGrade : ByteArray := prog_1_method_45_code
def yX8_isGrade : MethodName := ⟨RX8, "isGrade", "(I)Z"⟩
abbrev cX8_isValue : ByteArray := prog_1_method_46_code
def yX8_isValue : MethodName := ⟨RX8, "isValue", "(I)Z"⟩
abbrev cX8_isFee : ByteArray := prog_1_method_47_code
def yX8_isFee : MethodName := ⟨RX8, "isFee", "(I)Z"⟩
abbrev cX8_isLaw : ByteArray := prog_1_method_48_code
def yX8_isLaw : MethodName := ⟨RX8, "isLaw", "(I)Z"⟩
abbrev cX8_isShelf : ByteArray := prog_1_method_49_code
def yX8_isShelf : MethodName := ⟨RX8, "isShelf", "(I)Z"⟩
abbrev cX8_bit : ByteArray := prog_1_method_51_code
def yX8_bit : MethodName := ⟨RX8, "bit", "(I)I"⟩
abbrev cX8_lawWord : ByteArray := prog_1_method_52_code
def yX8_lawWord : MethodName := ⟨RX8, "lawWord", "(I)Ljava/lang/String;"⟩
abbrev cX8_settleGrade : ByteArray := prog_1_method_55_code
def yX8_settleGrade : MethodName := ⟨RX8, "settleGrade", "(I)V"⟩
abbrev cX8_worthOf : ByteArray := prog_1_method_56_code
def yX8_worthOf : MethodName := ⟨RX8, "worthOf", "(II)I"⟩
abbrev cX8_worthOfAll : ByteArray := prog_1_method_57_code
def yX8_worthOfAll : MethodName := ⟨RX8, "worthOfAll", "()I"⟩
abbrev cX8_gradesWithTrades : ByteArray := prog_1_method_58_code
def yX8_gradesWithTrades : MethodName := ⟨RX8, "gradesWithTrades", "()I"⟩
def RX9 : String := "TradeHallLaw$Hall"
def TX9 : u_T := fun k => match k with
  | 0 => ("TradeHallLaw$Hall", "many", "I", false)
  | 1 => ("TradeHallLaw$Hall", "fee", "I", false)
  | 2 => ("TradeHallLaw$Hall", "law", "I", false)
  | 3 => ("TradeHallLaw$Hall", "chest", "I", false)
  | 4 => ("TradeHallLaw$Hall", "closed", "I", false)
  | 5 => ("TradeHallLaw$Hall", "closes", "I", false)
  | 6 => ("TradeHallLaw$Hall", "greatest", "I", false)
  | 7 => ("TradeHallLaw$Hall", "sells", "[Z", true)
  | 8 => ("TradeHallLaw$Hall", "grade", "[I", true)
  | 9 => ("TradeHallLaw$Hall", "purse", "[I", true)
  | 10 => ("TradeHallLaw$Hall", "traded", "[I", true)
  | _ => ("TradeHallLaw$Hall", "units", "[[I", false)
def tyX9 : Nat → FieldType := fun k => match k with
  | 0 => .int
  | 1 => .int
  | 2 => .int
  | 3 => .int
  | 4 => .int
  | 5 => .int
  | 6 => .int
  | 7 => .array .boolean
  | 8 => .array .int
  | 9 => .array .int
  | 10 => .array .int
  | _ => .array (.array .int)
abbrev wsX90 : List Cond := u_ws RX9 TX9 12
theorem nmX9 : ∀ a, a < 12 → ∀ b, b < 12 → a ≠ b → (TX9 a).2.1 ≠ (TX9 b).2.1 := by decide +kernel
theorem tyX9_ok : ∀ k, k < 12 → parseFieldDescriptor (TX9 k).2.2.1 = some (tyX9 k) := by decide +kernel
abbrev cX9_init : ByteArray := prog_11_method_1_code
def yX9_init : MethodName := ⟨RX9, "<init>", "()V"⟩
abbrev cX9_copy : ByteArray := prog_11_method_2_code
def yX9_copy : MethodName := ⟨RX9, "copy", "()LTradeHallLaw$Hall;"⟩
abbrev cX9_comes : ByteArray := prog_11_method_3_code
def yX9_comes : MethodName := ⟨RX9, "comes", "(ZI[I)V"⟩
abbrev cX9_told : ByteArray := prog_11_method_4_code
def yX9_told : MethodName := ⟨RX9, "told", "()Ljava/lang/String;"⟩
abbrev cX9_some : ByteArray := prog_11_method_5_code
def yX9_some : MethodName := ⟨RX9, "some", "([IIII)LTradeHallLaw$Hall;"⟩
def RX10 : String := "TradeHallLaw$Market"
def TX10 : u_T := fun k => match k with
  | 0 => ("TradeHallLaw$Market", "bid", "[[I", true)
  | 1 => ("TradeHallLaw$Market", "ask", "[[I", true)
  | 2 => ("TradeHallLaw$Market", "bids", "I", false)
  | 3 => ("TradeHallLaw$Market", "asks", "I", false)
  | 4 => ("TradeHallLaw$Market", "trades", "I", false)
  | 5 => ("TradeHallLaw$Market", "worth", "I", false)
  | 6 => ("TradeHallLaw$Market", "done", "I", false)
  | 7 => ("TradeHallLaw$Market", "pays", "I", false)
  | _ => ("TradeHallLaw$Market", "gets", "I", false)
def tyX10 : Nat → FieldType := fun k => match k with
  | 0 => .array (.array .int)
  | 1 => .array (.array .int)
  | 2 => .int
  | 3 => .int
  | 4 => .int
  | 5 => .int
  | 6 => .int
  | 7 => .int
  | _ => .int
abbrev wsX100 : List Cond := u_ws RX10 TX10 9
theorem nmX10 : ∀ a, a < 9 → ∀ b, b < 9 → a ≠ b → (TX10 a).2.1 ≠ (TX10 b).2.1 := by decide +kernel
theorem tyX10_ok : ∀ k, k < 9 → parseFieldDescriptor (TX10 k).2.2.1 = some (tyX10 k) := by decide +kernel
abbrev cX10_init : ByteArray := prog_12_method_1_code
def yX10_init : MethodName := ⟨RX10, "<init>", "(LTradeHallLaw$Hall;II)V"⟩
abbrev cX10_orders : ByteArray := prog_12_method_2_code
def yX10_orders : MethodName := ⟨RX10, "orders", "([[III)V"⟩
abbrev cX10_by : ByteArray := prog_12_method_3_code
def yX10_by : MethodName := ⟨RX10, "by", "(II)LTradeHallLaw$Market;"⟩
abbrev cX10_doneOf : ByteArray := prog_12_method_4_code
def yX10_doneOf : MethodName := ⟨RX10, "doneOf", "(I)I"⟩
def RX11 : String := "TradeHallModel"
def TX11 : u_T := fun k => match k with
  | _ => ("", "", "", false)
def tyX11 : Nat → FieldType := fun k => match k with
  | _ => .int
abbrev wsX110 : List Cond := u_ws RX11 TX11 0
theorem nmX11 : ∀ a, a < 0 → ∀ b, b < 0 → a ≠ b → (TX11 a).2.1 ≠ (TX11 b).2.1 := by decide +kernel
theorem tyX11_ok : ∀ k, k < 0 → parseFieldDescriptor (TX11 k).2.2.1 = some (tyX11 k) := by decide +kernel
def RJ5 : String := "java/lang/AbstractStringBuilder"
def TJ5 : u_T := fun k => match k with
  | _ => ("", "", "", false)
def tyJ5 : Nat → FieldType := fun k => match k with
  | _ => .int
abbrev wsJ50 : List Cond := u_ws RJ5 TJ5 0
theorem nmJ5 : ∀ a, a < 0 → ∀ b, b < 0 → a ≠ b → (TJ5 a).2.1 ≠ (TJ5 b).2.1 := by decide +kernel
theorem tyJ5_ok : ∀ k, k < 0 → parseFieldDescriptor (TJ5 k).2.2.1 = some (tyJ5 k) := by decide +kernel
abbrev cJ5_init_d00df : ByteArray := prog_14_method_2_code
def yJ5_init_d00df : MethodName := ⟨RJ5, "<init>", "(I)V"⟩
abbrev cJ5_length_8abf5 : ByteArray := prog_14_method_6_code
def yJ5_length_8abf5 : MethodName := ⟨RJ5, "length", "()I"⟩
abbrev cJ5_ensureCapacityInternal_d00df : ByteArray := prog_14_method_9_code
def yJ5_ensureCapacityInternal_d00df : MethodName := ⟨RJ5, "ensureCapacityInternal", "(I)V"⟩
abbrev cJ5_newCapacity_0f7a4 : ByteArray := prog_14_method_10_code
def yJ5_newCapacity_0f7a4 : MethodName := ⟨RJ5, "newCapacity", "(I)I"⟩
abbrev cJ5_inflate_da8c8 : ByteArray := prog_14_method_11_code
def yJ5_inflate_da8c8 : MethodName := ⟨RJ5, "inflate", "()V"⟩
abbrev cJ5_charAt_5068e : ByteArray := prog_14_method_14_code
def yJ5_charAt_5068e : MethodName := ⟨RJ5, "charAt", "(I)C"⟩
abbrev cJ5_append_cf1ce : ByteArray := prog_14_method_22_code
def yJ5_append_cf1ce : MethodName := ⟨RJ5, "append", "(Ljava/lang/String;)Ljava/lang/AbstractStringBuilder;"⟩
abbrev cJ5_appendNull_278bc : ByteArray := prog_14_method_26_code
def yJ5_appendNull_278bc : MethodName := ⟨RJ5, "appendNull", "()Ljava/lang/AbstractStringBuilder;"⟩
abbrev cJ5_append_3fe6f : ByteArray := prog_14_method_31_code
def yJ5_append_3fe6f : MethodName := ⟨RJ5, "append", "(C)Ljava/lang/AbstractStringBuilder;"⟩
abbrev cJ5_append_c97b9 : ByteArray := prog_14_method_32_code
def yJ5_append_c97b9 : MethodName := ⟨RJ5, "append", "(I)Ljava/lang/AbstractStringBuilder;"⟩
abbrev cJ5_getValue_6d5f1 : ByteArray := prog_14_method_64_code
def yJ5_getValue_6d5f1 : MethodName := ⟨RJ5, "getValue", "()[B"⟩
abbrev cJ5_isLatin1_aae02 : ByteArray := prog_14_method_68_code
def yJ5_isLatin1_aae02 : MethodName := ⟨RJ5, "isLatin1", "()Z"⟩
abbrev cJ5_inflateIfNeededFor_a7421 : ByteArray := prog_14_method_71_code
def yJ5_inflateIfNeededFor_a7421 : MethodName := ⟨RJ5, "inflateIfNeededFor", "(Ljava/lang/String;)V"⟩
abbrev cJ5_putStringAt_47b60 : ByteArray := prog_14_method_73_code
def yJ5_putStringAt_47b60 : MethodName := ⟨RJ5, "putStringAt", "(ILjava/lang/String;)V"⟩
def RJ6 : String := "java/lang/Integer"
def TJ6 : u_T := fun k => match k with
  | _ => ("", "", "", false)
def tyJ6 : Nat → FieldType := fun k => match k with
  | _ => .int
abbrev wsJ60 : List Cond := u_ws RJ6 TJ6 0
theorem nmJ6 : ∀ a, a < 0 → ∀ b, b < 0 → a ≠ b → (TJ6 a).2.1 ≠ (TJ6 b).2.1 := by decide +kernel
theorem tyJ6_ok : ∀ k, k < 0 → parseFieldDescriptor (TJ6 k).2.2.1 = some (tyJ6 k) := by decide +kernel
abbrev cJ6_getChars_ba4f3 : ByteArray := prog_17_method_12_code
def yJ6_getChars_ba4f3 : MethodName := ⟨RJ6, "getChars", "(II[B)I"⟩
abbrev cJ6_stringSize_0f7a4 : ByteArray := prog_17_method_13_code
def yJ6_stringSize_0f7a4 : MethodName := ⟨RJ6, "stringSize", "(I)I"⟩
def RJ9 : String := "java/lang/Math"
def TJ9 : u_T := fun k => match k with
  | _ => ("", "", "", false)
def tyJ9 : Nat → FieldType := fun k => match k with
  | _ => .int
abbrev wsJ90 : List Cond := u_ws RJ9 TJ9 0
theorem nmJ9 : ∀ a, a < 0 → ∀ b, b < 0 → a ≠ b → (TJ9 a).2.1 ≠ (TJ9 b).2.1 := by decide +kernel
theorem tyJ9_ok : ∀ k, k < 0 → parseFieldDescriptor (TJ9 k).2.2.1 = some (tyJ9 k) := by decide +kernel
abbrev cJ9_max_7cf53 : ByteArray := prog_18_method_65_code
def yJ9_max_7cf53 : MethodName := ⟨RJ9, "max", "(II)I"⟩
abbrev cJ9_min_7cf53 : ByteArray := prog_18_method_69_code
def yJ9_min_7cf53 : MethodName := ⟨RJ9, "min", "(II)I"⟩
def RJ0 : String := "java/lang/String"
def TJ0 : u_T := fun k => match k with
  | 0 => ("java/lang/String", "value", "[B", true)
  | 1 => ("java/lang/String", "coder", "B", true)
  | 2 => ("java/lang/String", "hash", "I", false)
  | _ => ("java/lang/String", "hashIsZero", "Z", false)
def tyJ0 : Nat → FieldType := fun k => match k with
  | 0 => .array .byte
  | 1 => .byte
  | 2 => .int
  | _ => .boolean
abbrev wsJ00 : List Cond := u_ws RJ0 TJ0 4
theorem nmJ0 : ∀ a, a < 4 → ∀ b, b < 4 → a ≠ b → (TJ0 a).2.1 ≠ (TJ0 b).2.1 := by decide +kernel
theorem tyJ0_ok : ∀ k, k < 4 → parseFieldDescriptor (TJ0 k).2.2.1 = some (tyJ0 k) := by decide +kernel
abbrev cJ0_init_81219 : ByteArray := prog_19_method_53_code
def yJ0_init_81219 : MethodName := ⟨RJ0, "<init>", "(Ljava/lang/StringBuilder;)V"⟩
abbrev cJ0_length_8abf5 : ByteArray := prog_19_method_54_code
def yJ0_length_8abf5 : MethodName := ⟨RJ0, "length", "()I"⟩
abbrev cJ0_charAt_5068e : ByteArray := prog_19_method_56_code
def yJ0_charAt_5068e : MethodName := ⟨RJ0, "charAt", "(I)C"⟩
abbrev cJ0_getBytes_840e7 : ByteArray := prog_19_method_147_code
def yJ0_getBytes_840e7 : MethodName := ⟨RJ0, "getBytes", "([BIB)V"⟩
abbrev cJ0_init_db425 : ByteArray := prog_19_method_150_code
def yJ0_init_db425 : MethodName := ⟨RJ0, "<init>", "(Ljava/lang/AbstractStringBuilder;Ljava/lang/Void;)V"⟩
abbrev cJ0_coder_7d493 : ByteArray := prog_19_method_152_code
def yJ0_coder_7d493 : MethodName := ⟨RJ0, "coder", "()B"⟩
abbrev cJ0_isLatin1_aae02 : ByteArray := prog_19_method_154_code
def yJ0_isLatin1_aae02 : MethodName := ⟨RJ0, "isLatin1", "()Z"⟩
abbrev cJ0_checkIndex_df160 : ByteArray := prog_19_method_155_code
def yJ0_checkIndex_df160 : MethodName := ⟨RJ0, "checkIndex", "(II)V"⟩
abbrev cJ0_checkBoundsOffCount_cabcc : ByteArray := prog_19_method_157_code
def yJ0_checkBoundsOffCount_cabcc : MethodName := ⟨RJ0, "checkBoundsOffCount", "(III)I"⟩
abbrev cJ0_checkBoundsBeginEnd_23922 : ByteArray := prog_19_method_158_code
def yJ0_checkBoundsBeginEnd_23922 : MethodName := ⟨RJ0, "checkBoundsBeginEnd", "(III)V"⟩
def RJ4 : String := "java/lang/StringBuilder"
def TJ4 : u_T := fun k => match k with
  | 0 => ("java/lang/AbstractStringBuilder", "value", "[B", false)
  | 1 => ("java/lang/AbstractStringBuilder", "coder", "B", false)
  | 2 => ("java/lang/AbstractStringBuilder", "maybeLatin1", "Z", false)
  | _ => ("java/lang/AbstractStringBuilder", "count", "I", false)
def tyJ4 : Nat → FieldType := fun k => match k with
  | 0 => .array .byte
  | 1 => .byte
  | 2 => .boolean
  | _ => .int
abbrev wsJ40 : List Cond := u_ws RJ4 TJ4 4
theorem nmJ4 : ∀ a, a < 4 → ∀ b, b < 4 → a ≠ b → (TJ4 a).2.1 ≠ (TJ4 b).2.1 := by decide +kernel
theorem tyJ4_ok : ∀ k, k < 4 → parseFieldDescriptor (TJ4 k).2.2.1 = some (tyJ4 k) := by decide +kernel
abbrev cJ4_init_d00df : ByteArray := prog_20_method_2_code
def yJ4_init_d00df : MethodName := ⟨RJ4, "<init>", "(I)V"⟩
abbrev cJ4_append_15ec4 : ByteArray := prog_20_method_7_code
def yJ4_append_15ec4 : MethodName := ⟨RJ4, "append", "(Ljava/lang/String;)Ljava/lang/StringBuilder;"⟩
abbrev cJ4_append_cf468 : ByteArray := prog_20_method_14_code
def yJ4_append_cf468 : MethodName := ⟨RJ4, "append", "(C)Ljava/lang/StringBuilder;"⟩
abbrev cJ4_append_bf812 : ByteArray := prog_20_method_15_code
def yJ4_append_bf812 : MethodName := ⟨RJ4, "append", "(I)Ljava/lang/StringBuilder;"⟩
abbrev cJ4_toString_0e30d : ByteArray := prog_20_method_42_code
def yJ4_toString_0e30d : MethodName := ⟨RJ4, "toString", "()Ljava/lang/String;"⟩
abbrev cJ4_charAt_5068e : ByteArray := prog_20_method_88_code
def yJ4_charAt_5068e : MethodName := ⟨RJ4, "charAt", "(I)C"⟩
abbrev cJ4_length_8abf5 : ByteArray := prog_20_method_93_code
def yJ4_length_8abf5 : MethodName := ⟨RJ4, "length", "()I"⟩
def RJ1 : String := "java/lang/StringLatin1"
def TJ1 : u_T := fun k => match k with
  | _ => ("", "", "", false)
def tyJ1 : Nat → FieldType := fun k => match k with
  | _ => .int
abbrev wsJ10 : List Cond := u_ws RJ1 TJ1 0
theorem nmJ1 : ∀ a, a < 0 → ∀ b, b < 0 → a ≠ b → (TJ1 a).2.1 ≠ (TJ1 b).2.1 := by decide +kernel
theorem tyJ1_ok : ∀ k, k < 0 → parseFieldDescriptor (TJ1 k).2.2.1 = some (tyJ1 k) := by decide +kernel
abbrev cJ1_charAt_3b067 : ByteArray := prog_21_method_2_code
def yJ1_charAt_3b067 : MethodName := ⟨RJ1, "charAt", "([BI)C"⟩
abbrev cJ1_canEncode_fc78d : ByteArray := prog_21_method_3_code
def yJ1_canEncode_fc78d : MethodName := ⟨RJ1, "canEncode", "(C)Z"⟩
abbrev cJ1_inflate_0e8fd : ByteArray := prog_21_method_50_code
def yJ1_inflate_0e8fd : MethodName := ⟨RJ1, "inflate", "([BI[BII)V"⟩
def RJ2 : String := "java/lang/StringUTF16"
def TJ2 : u_T := fun k => match k with
  | _ => ("", "", "", false)
def tyJ2 : Nat → FieldType := fun k => match k with
  | _ => .int
abbrev wsJ20 : List Cond := u_ws RJ2 TJ2 0
theorem nmJ2 : ∀ a, a < 0 → ∀ b, b < 0 → a ≠ b → (TJ2 a).2.1 ≠ (TJ2 b).2.1 := by decide +kernel
theorem tyJ2_ok : ∀ k, k < 0 → parseFieldDescriptor (TJ2 k).2.2.1 = some (tyJ2 k) := by decide +kernel
abbrev cJ2_newBytesFor_77867 : ByteArray := prog_22_method_2_code
def yJ2_newBytesFor_77867 : MethodName := ⟨RJ2, "newBytesFor", "(I)[B"⟩
abbrev cJ2_newBytesLength_0f7a4 : ByteArray := prog_22_method_3_code
def yJ2_newBytesLength_0f7a4 : MethodName := ⟨RJ2, "newBytesLength", "(I)I"⟩
abbrev cJ2_putChar_b72d1 : ByteArray := prog_22_method_4_code
def yJ2_putChar_b72d1 : MethodName := ⟨RJ2, "putChar", "([BII)V"⟩
abbrev cJ2_getChar_3b067 : ByteArray := prog_22_method_5_code
def yJ2_getChar_3b067 : MethodName := ⟨RJ2, "getChar", "([BI)C"⟩
abbrev cJ2_length_9d52b : ByteArray := prog_22_method_6_code
def yJ2_length_9d52b : MethodName := ⟨RJ2, "length", "([B)I"⟩
abbrev cJ2_coderFromArrayLen_85cad : ByteArray := prog_22_method_15_code
def yJ2_coderFromArrayLen_85cad : MethodName := ⟨RJ2, "coderFromArrayLen", "([BI)B"⟩
abbrev cJ2_compress_39247 : ByteArray := prog_22_method_17_code
def yJ2_compress_39247 : MethodName := ⟨RJ2, "compress", "([BII)[B"⟩
abbrev cJ2_compress_5af95 : ByteArray := prog_22_method_22_code
def yJ2_compress_5af95 : MethodName := ⟨RJ2, "compress", "([BI[BII)I"⟩
abbrev cJ2_putCharSB_b72d1 : ByteArray := prog_22_method_71_code
def yJ2_putCharSB_b72d1 : MethodName := ⟨RJ2, "putCharSB", "([BII)V"⟩
abbrev cJ2_getChars_46870 : ByteArray := prog_22_method_77_code
def yJ2_getChars_46870 : MethodName := ⟨RJ2, "getChars", "(III[B)I"⟩
abbrev cJ2_putCharsAt_cd4e5 : ByteArray := prog_22_method_81_code
def yJ2_putCharsAt_cd4e5 : MethodName := ⟨RJ2, "putCharsAt", "([BICCCC)I"⟩
abbrev cJ2_charAt_3b067 : ByteArray := prog_22_method_83_code
def yJ2_charAt_3b067 : MethodName := ⟨RJ2, "charAt", "([BI)C"⟩
abbrev cJ2_inflate_0e8fd : ByteArray := prog_22_method_86_code
def yJ2_inflate_0e8fd : MethodName := ⟨RJ2, "inflate", "([BI[BII)V"⟩
abbrev cJ2_getChars_ba4f3 : ByteArray := prog_22_method_89_code
def yJ2_getChars_ba4f3 : MethodName := ⟨RJ2, "getChars", "(II[B)I"⟩
abbrev cJ2_checkIndex_2214a : ByteArray := prog_22_method_91_code
def yJ2_checkIndex_2214a : MethodName := ⟨RJ2, "checkIndex", "(I[B)V"⟩
abbrev cJ2_checkBoundsBeginEnd_d044e : ByteArray := prog_22_method_93_code
def yJ2_checkBoundsBeginEnd_d044e : MethodName := ⟨RJ2, "checkBoundsBeginEnd", "(II[B)V"⟩
abbrev cJ2_checkBoundsOffCount_d044e : ByteArray := prog_22_method_94_code
def yJ2_checkBoundsOffCount_d044e : MethodName := ⟨RJ2, "checkBoundsOffCount", "(II[B)V"⟩
def RJ10 : String := "java/lang/System"
def TJ10 : u_T := fun k => match k with
  | _ => ("", "", "", false)
def tyJ10 : Nat → FieldType := fun k => match k with
  | _ => .int
abbrev wsJ100 : List Cond := u_ws RJ10 TJ10 0
theorem nmJ10 : ∀ a, a < 0 → ∀ b, b < 0 → a ≠ b → (TJ10 a).2.1 ≠ (TJ10 b).2.1 := by decide +kernel
theorem tyJ10_ok : ∀ k, k < 0 → parseFieldDescriptor (TJ10 k).2.2.1 = some (tyJ10 k) := by decide +kernel
def RJ7 : String := "java/util/Arrays"
def TJ7 : u_T := fun k => match k with
  | _ => ("", "", "", false)
def tyJ7 : Nat → FieldType := fun k => match k with
  | _ => .int
abbrev wsJ70 : List Cond := u_ws RJ7 TJ7 0
theorem nmJ7 : ∀ a, a < 0 → ∀ b, b < 0 → a ≠ b → (TJ7 a).2.1 ≠ (TJ7 b).2.1 := by decide +kernel
theorem tyJ7_ok : ∀ k, k < 0 → parseFieldDescriptor (TJ7 k).2.2.1 = some (tyJ7 k) := by decide +kernel
abbrev cJ7_copyOf_9075b : ByteArray := prog_24_method_121_code
def yJ7_copyOf_9075b : MethodName := ⟨RJ7, "copyOf", "([BI)[B"⟩
abbrev cJ7_checkLength_df160 : ByteArray := prog_24_method_131_code
def yJ7_checkLength_df160 : MethodName := ⟨RJ7, "checkLength", "(II)V"⟩
abbrev cJ7_copyOfRange_39247 : ByteArray := prog_24_method_132_code
def yJ7_copyOfRange_39247 : MethodName := ⟨RJ7, "copyOfRange", "([BII)[B"⟩
abbrev cJ7_copyOfRangeByte_39247 : ByteArray := prog_24_method_133_code
def yJ7_copyOfRangeByte_39247 : MethodName := ⟨RJ7, "copyOfRangeByte", "([BII)[B"⟩
def RJ8 : String := "jdk/internal/util/ArraysSupport"
def TJ8 : u_T := fun k => match k with
  | _ => ("", "", "", false)
def tyJ8 : Nat → FieldType := fun k => match k with
  | _ => .int
abbrev wsJ80 : List Cond := u_ws RJ8 TJ8 0
theorem nmJ8 : ∀ a, a < 0 → ∀ b, b < 0 → a ≠ b → (TJ8 a).2.1 ≠ (TJ8 b).2.1 := by decide +kernel
theorem tyJ8_ok : ∀ k, k < 0 → parseFieldDescriptor (TJ8 k).2.2.1 = some (tyJ8 k) := by decide +kernel
abbrev cJ8_newLength_cabcc : ByteArray := prog_25_method_27_code
def yJ8_newLength_cabcc : MethodName := ⟨RJ8, "newLength", "(III)I"⟩
abbrev cJ8_hugeLength_7cf53 : ByteArray := prog_25_method_28_code
def yJ8_hugeLength_7cf53 : MethodName := ⟨RJ8, "hugeLength", "(II)I"⟩
def RJ3 : String := "jdk/internal/util/Preconditions"
def TJ3 : u_T := fun k => match k with
  | _ => ("", "", "", false)
def tyJ3 : Nat → FieldType := fun k => match k with
  | _ => .int
abbrev wsJ30 : List Cond := u_ws RJ3 TJ3 0
theorem nmJ3 : ∀ a, a < 0 → ∀ b, b < 0 → a ≠ b → (TJ3 a).2.1 ≠ (TJ3 b).2.1 := by decide +kernel
theorem tyJ3_ok : ∀ k, k < 0 → parseFieldDescriptor (TJ3 k).2.2.1 = some (tyJ3 k) := by decide +kernel
abbrev cJ3_checkIndex_8e157 : ByteArray := prog_26_method_11_code
def yJ3_checkIndex_8e157 : MethodName := ⟨RJ3, "checkIndex", "(IILjava/util/function/BiFunction;)I"⟩
abbrev cJ3_checkFromToIndex_8c36e : ByteArray := prog_26_method_12_code
def yJ3_checkFromToIndex_8c36e : MethodName := ⟨RJ3, "checkFromToIndex", "(IIILjava/util/function/BiFunction;)I"⟩
abbrev cJ3_checkFromIndexSize_8c36e : ByteArray := prog_26_method_13_code
def yJ3_checkFromIndexSize_8c36e : MethodName := ⟨RJ3, "checkFromIndexSize", "(IIILjava/util/function/BiFunction;)I"⟩
def RL : String := "TradeHallLaw"
abbrev cL_cell : ByteArray := method_2_code
def yL_cell : MethodName := ⟨RL, "cell", "([II)I"⟩
abbrev cL_says : ByteArray := method_3_code
def yL_says : MethodName := ⟨RL, "says", "(LTradeHall;Ljava/lang/CharSequence;)Z"⟩
abbrev cL_deal : ByteArray := method_4_code
def yL_deal : MethodName := ⟨RL, "deal", "(LTradeHallLaw$Hall;III)I"⟩
abbrev cL_takings : ByteArray := method_6_code
def yL_takings : MethodName := ⟨RL, "takings", "(LTradeHallLaw$Hall;II)I"⟩
abbrev cL_same : ByteArray := method_7_code
def yL_same : MethodName := ⟨RL, "same", "(LTradeHall;LTradeHallLaw$Hall;)Z"⟩
abbrev cL_closes : ByteArray := method_8_code
def yL_closes : MethodName := ⟨RL, "closes", "(LTradeHallLaw$Hall;I)I"⟩
abbrev cL_goesOn : ByteArray := method_9_code
def yL_goesOn : MethodName := ⟨RL, "goesOn", "(ZII)Z"⟩
abbrev cL_law : ByteArray := code
def yL_law : MethodName := ⟨RL, "law", "([I)Z"⟩
abbrev vwCl : List vw_C := [(RX0, TX0, 11), (RX1, TX1, 13), (RX2, TX2, 3), (RX3, TX3, 2), (RX4, TX4, 3), (RX5, TX5, 3), (RX6, TX6, 2), (RX7, TX7, 7), (RX8, TX8, 11), (RX9, TX9, 12), (RX10, TX10, 9), (RJ0, TJ0, 4), (RJ4, TJ4, 4)]
end
section
/-! ===== values, memory, world: the abstract machine's words ===== -/
abbrev zV : Type := Int ⊕ (Int ⊕ (UInt64 ⊕ (Nat × Nat)))
abbrev zi (x : Int) : zV := .inl x
abbrev zl (x : Int) : zV := .inr (.inl x)
abbrev zd (x : UInt64) : zV := .inr (.inr (.inl x))
abbrev zr (k i : Nat) : zV := .inr (.inr (.inr (k, i)))
abbrev zn : zV := zr 63 1
abbrev zM : Type := Nat → Nat → Int → Int
def zu (M : zM) (k i : Nat) (j : Int) (x : Int) : zM := fun k' i' j' => if k' = k ∧ i' = i ∧ j' = j then x else M k' i' j'
theorem zu_s (M : zM) (k i : Nat) (j : Int) (x : Int) : zu M k i j x k i j = x := if_pos ⟨rfl, rfl, rfl⟩
theorem zu_n {M : zM} {k i k' i' : Nat} {j j' : Int} {x : Int} (h : ¬ (k' = k ∧ i' = i ∧ j' = j)) : zu M k i j x k' i' j' = M k' i' j' := if_neg h
-- a method: its name, code, locals, answer, frames and locals' words that it asks below it
abbrev zD : Type := MethodName × ByteArray × Nat × Option FieldType × Nat × Nat
-- a launch: classes, addresses, arrays' classes, the script, what was made behind the fixed cells, the first own address
abbrev zG : Type := va_G × (Nat → Nat → Nat) × (Nat → ClassId) × Nat × (Nat → Int32) × List (Nat × Nat) × Nat
abbrev zgo (g : zG) : List (Nat × Nat) := g.2.2.2.2.2.1
abbrev zgn (g : zG) : Nat := g.2.2.2.2.2.2
def dec (X : zD) (pc : Nat) : Except DecodeError (Instr × Nat) := decode X.2.1 pc
def zcntL : List Nat := [2, 14, 1, 1, 1, 1, 1, 1, 1, 0, 2, 2, 14, 14, 14, 14, 14, 14, 1, 1, 1, 1, 1, 1, 1, 1, 1, 0, 0, 0, 0, 0, 0, 0, 0, 0, 0, 0, 0, 0, 0, 0, 0, 0, 0, 0, 0, 0, 0, 0, 0, 0, 0, 0, 0, 0, 0, 0, 0, 0, 4, 16, 16, 2]
def zlayL : List (List (Option (Nat × Nat × Nat))) := [[some (10, 1, 0), some (11, 1, 0), none, none, none, none, none, none, none, none, none], [some (12, 1, 0), some (13, 1, 0), some (14, 1, 0), some (15, 1, 0), some (16, 1, 0), some (17, 1, 0), none, none, none, none, none, none, none], [some (18, 0, 0), none, none], [some (19, 0, 0), none], [some (20, 0, 0), some (21, 0, 0), none], [some (22, 0, 0), none, none], [some (23, 0, 0), none], [some (24, 0, 0), some (1, 0, 1), none, none, none, none, none], [some (1, 0, 0), some (7, 0, 0), some (2, 0, 0), some (6, 0, 0), some (3, 0, 0), some (0, 0, 0), some (0, 0, 1), some (4, 0, 0), some (5, 0, 0), some (25, 0, 0), some (26, 0, 0)], [], [], [], [], [], [], [], [], [], [], [], [], [], [], [], [], [], [], [], [], [], [], [], [], [], [], [], [], [], [], [], [], [], [], [], [], [], [], [], [], [], [], [], [], [], [], [], [], [], [], [], [], [], [], [], [none, none, none, none, none, none, none, some (70, 2, 0), some (71, 2, 0), some (72, 2, 0), some (73, 2, 0), some (74, 2, 0)], [some (76, 2, 0), some (76, 2, 0), none, none, none, none, none, none, none], [some (80, 2, 0), none, none, none], [some (80, 2, 0), none, none, none], [], [], [], [], [], [], [], [], [], [], [], [], []]
def zetyL : List Nat := [0, 0, 0, 0, 0, 0, 0, 0, 0, 0, 0, 0, 1, 0, 0, 0, 0, 0, 4, 0, 0, 0, 0, 4, 0, 0, 3, 0, 0, 0, 0, 0, 0, 0, 0, 0, 0, 0, 0, 0, 0, 0, 0, 0, 0, 0, 0, 0, 0, 0, 0, 0, 0, 0, 0, 0, 0, 0, 0, 0, 0, 0, 0, 0, 0, 0, 0, 0, 0, 0, 1, 0, 0, 0, 5, 0, 5, 0, 0, 0, 2]
def zlenL : List Nat := [0, 0, 0, 0, 0, 0, 0, 0, 0, 0, 80, 80, 20, 20, 20, 80, 20, 20, 10, 640, 20, 20, 81, 2, 400, 501, 81, 0, 0, 0, 0, 0, 0, 0, 0, 0, 0, 0, 0, 0, 0, 0, 0, 0, 0, 0, 0, 0, 0, 0, 0, 0, 0, 0, 0, 0, 0, 0, 0, 0, 0, 0, 0, 0, 0, 0, 0, 0, 0, 0, 21, 21, 21, 21, 21, 0, 81, 3, 21, 5, 0]
def zelL : List Nat := [0, 0, 0, 0, 0, 0, 0, 0, 0, 0, 0, 0, 0, 0, 0, 0, 0, 0, 0, 0, 0, 0, 0, 0, 0, 0, 0, 0, 0, 0, 0, 0, 0, 0, 0, 0, 0, 0, 0, 0, 0, 0, 0, 0, 0, 0, 0, 0, 0, 0, 0, 0, 0, 0, 0, 0, 0, 0, 0, 0, 0, 0, 0, 0, 0, 0, 0, 0, 0, 0, 0, 0, 0, 0, 75, 0, 77, 0, 0, 0, 0]
abbrev zkPast : Nat := 18
abbrev zsN : Nat := 16
def zsLen : List Nat := [5, 6, 3, 3, 3, 6, 4, 5, 6, 7, 4, 4, 1, 0, 5, 5]
def zsByt : List (List Int32) := [[98, 117, 121, 101, 114], [115, 101, 108, 108, 101, 114], [102, 101, 101], [108, 97, 119], [99, 117, 116], [109, 105, 100, 100, 108, 101], [108, 101, 115, 115], [97, 112, 97, 114, 116], [98, 117, 121, 101, 114, 32], [115, 101, 108, 108, 101, 114, 32], [102, 101, 101, 32], [108, 97, 119, 32], [59], [], [59, 102, 101, 101, 32], [59, 108, 97, 119, 32]]
def zsRefs : List (String × Nat × String × Nat) := [("TradeHall", 403, "middle", 5), ("TradeHall", 405, "less", 6), ("TradeHall", 407, "apart", 7), ("TradeHall", 409, "cut", 4), ("TradeHall$Letters", 26, "seller", 1), ("TradeHall$Letters", 28, "buyer", 0), ("TradeHall$Letters", 52, "fee", 2), ("TradeHall$Letters", 56, "law", 3), ("TradeHall$Tape", 59, "buyer", 0), ("TradeHall$Tape", 69, "seller", 1), ("TradeHall$Tape", 71, "fee", 2), ("TradeHall$Tape", 77, "law", 3), ("TradeHallLaw$Hall", 67, ";", 12), ("TradeHallLaw$Hall", 69, "", 13), ("TradeHallLaw$Hall", 75, "seller ", 9), ("TradeHallLaw$Hall", 77, "buyer ", 8), ("TradeHallLaw$Hall", 89, ";fee ", 14), ("TradeHallLaw$Hall", 91, "fee ", 10), ("TradeHallLaw$Hall", 93, ";law ", 15), ("TradeHallLaw$Hall", 95, "law ", 11), ("TradeHallLaw$Hall", 97, "middle", 5), ("TradeHallLaw$Hall", 99, "less", 6), ("TradeHallLaw$Hall", 101, "apart", 7)]
def zDigs : List (String × Nat × (Nat → Int)) := [("DigitTens", 2, fun j => 48 + (j : Int) / 10), ("DigitOnes", 3, fun j => 48 + (j : Int) % 10)]
abbrev k_bids : Nat := 10
abbrev k_asks : Nat := 11
abbrev k_hSells : Nat := 12
abbrev k_hGrades : Nat := 13
abbrev k_hUnits : Nat := 14
abbrev k_hSays : Nat := 15
abbrev k_hPurses : Nat := 16
abbrev k_hTraded : Nat := 17
abbrev k_past : Nat := 18
abbrev k_lBytes : Nat := 19
abbrev k_rOrder : Nat := 20
abbrev k_rGains : Nat := 21
abbrev k_sMost : Nat := 22
abbrev k_shHalls : Nat := 23
abbrev k_tBytes : Nat := 24
abbrev k_byFee : Nat := 25
abbrev k_ways : Nat := 26
def zcnt (k : Nat) : Nat := zcntL.getD k 0
def zlay (k : Nat) : List (Option (Nat × Nat × Nat)) := zlayL.getD k []
/-- element kinds: 0 int, 1 boolean, 2 byte, 3 long, 4 halls, 5 rows of ints -/
def zety (k : Nat) : Nat := zetyL.getD k 0
def zlen (k : Nat) : Nat := zlenL.getD k 0
def zel (k : Nat) : Nat := zelL.getD k 0
def zoff (k : Nat) : Nat := if k = zkPast then 2 else 12
/-- kinds of objects; their place among the classes -/
abbrev zob (k : Nat) : Prop := k < 10 ∨ (64 ≤ k ∧ k < 68)
def zci (k : Nat) : Nat := if k < 10 then k else k - 55
/-- how long an array is -/
def zln (M : zM) (k i : Nat) : Nat := if zlen k = 0 then (M k i (-1)).toNat else zlen k
def zlocs : List (Nat × Nat) := (List.range 60).flatMap fun k => (List.range (zcnt k)).map fun i => (k, i)
theorem zlocs_mem {k i : Nat} : (k, i) ∈ zlocs ↔ k < 60 ∧ i < zcnt k := by
  simp [zlocs, List.mem_flatMap]
theorem zlocs_nodup : zlocs.Nodup := by decide +kernel
abbrev zall (g : zG) : List (Nat × Nat) := zlocs ++ zgo g
def zcv (g : zG) : zV → Value
  | .inl x => .int (Int32.ofInt x)
  | .inr (.inl x) => .long (Int64.ofInt x)
  | .inr (.inr (.inl x)) => .double x
  | .inr (.inr (.inr (k, i))) => if k = 63 then (if i = 0 then (if g.2.1 63 0 = 0 then .null else .ref (g.2.1 60 1)) else .null) else .ref (g.2.1 k i)
def zok (g : zG) : zV → Prop
  | .inr (.inr (.inr (k, i))) => if 60 ≤ k ∧ k < 64 then i < zcnt k else (k, i) ∈ zall g
  | _ => True
/-- a reference kept as a number: its place in its kind, below 0 null -/
def zdo (g : zG) (k : Nat) (r : Int) : Option Nat := if r < 0 then none else some (g.2.1 k r.toNat)
def zfv (g : zG) (M : zM) (k i j : Nat) (o : Option (Nat × Nat × Nat)) : Value := match o with
  | none => .int (Int32.ofInt (M k i j))
  | some (k', a, b) => if a = 2 then va_rf (zdo g k' (M k i j)) else .ref (g.2.1 k' (a * i + b))
def zfl (g : zG) (M : zM) (k i : Nat) : List Value := (zlay k).mapIdx (fun j o => zfv g M k i j o)
def zarr (g : zG) (M : zM) (k i : Nat) : (Nat → Int32) ⊕ (Nat → Int64) ⊕ (Nat → UInt32) ⊕ (Nat → UInt64) ⊕ (Nat → Option Nat) :=
  if zety k = 3 then .inr (.inl fun j => Int64.ofInt (M k i j)) else if zety k = 4 then .inr (.inr (.inr (.inr fun j => some (g.2.1 1 (j + zoff k))))) else
  if zety k = 5 then .inr (.inr (.inr (.inr fun j => zdo g (zel k) (M k i j)))) else .inl fun j => Int32.ofInt (M k i j)
def zent (g : zG) (M : zM) (k i : Nat) : va_E := if zob k then .inr (zci k, zfl g M k i) else .inl (g.2.2.1 (zety k), zln M k i, zarr g M k i)
def zws (g : zG) (M : zM) : va_W := (zall g).map fun q => (g.2.1 q.1 q.2, zent g M q.1 q.2)
def zA (g : zG) (q : Nat) : Prop := zgn g ≤ q
def ztys (g : zG) : List (ClassId × FieldType) := [(g.2.2.1 0, .int), (g.2.2.1 1, .boolean), (g.2.2.1 2, .byte), (g.2.2.1 3, .long), (g.2.2.1 4, .object "TradeHall$Hall"), (g.2.2.1 5, .array .int)]
/-- places that hold references as numbers: the kind that they mean -/
def zrp (k : Nat) (j : Int) : Option Nat := if zety k = 5 then some (zel k) else match (zlay k)[j.toNat]? with
  | some (some (k', a, _)) => if a = 2 then some k' else none
  | _ => none
/-- such numbers are below their kind's count -/
def zRV (M : zM) : Prop := ∀ (k i : Nat) (j : Int) (k' : Nat), (64 ≤ k ∧ k < 96) → (i : Int) < M 97 0 k → 0 ≤ j → zrp k j = some k' → M k i j < M 97 0 k'
/-- what was made: each kind's in a row from 0 on; row 97 counts them -/
def zO (g : zG) (M : zM) : Prop := (zgo g).Nodup ∧ (∀ k i : Nat, (k, i) ∈ zgo g ↔ ((64 ≤ k ∧ k < 96) ∧ (i : Int) < M 97 0 k)) ∧ zRV M ∧ ∀ k : Nat, 0 ≤ M 97 0 k
def zW (g : zG) (M : zM) (H : Heap) : Prop := va_P g.1 vwCl (zws g M) H ∧ va_D (zA g) (zws g M) ∧ zO g M
def zTB : List Cond := lw_tbl.filter goodWord
theorem zin {w : Cond} (h : w ∈ lw_tbl) (hg : goodWord w = true) : w ∈ zTB := List.mem_filter.mpr ⟨h, hg⟩
theorem zin_t {w : Cond} (h : w ∈ tables_1) (hg : goodWord w = true) : w ∈ zTB := zin (List.mem_append_right _ h) hg
theorem zin_p {w : Cond} (h : w ∈ k2_sels lw_privs) (hg : goodWord w = true) : w ∈ zTB := zin (List.mem_append_left _ h) hg
-- nest mates' words, words on casts and faces, strings
def zisN : Cond → Bool
  | .fieldLinkNest .. => true
  | .methodLinkNest .. => true
  | .castable .. => true
  | _ => false
def znest : List Cond := tables_1.filter zisN
theorem znest_warm {s U : State} (hW : s.WarmedH U.vm) (h : ∀ w ∈ znest, va_Nw w s) : ∀ w ∈ znest, va_Nw w U := by
  intro w hw
  have h1 := h w hw
  have h2 := (List.mem_filter.mp hw).2
  cases w <;> first | (cases h2; done) | exact va_Nw.warmF hW h1 | exact va_Nw.warmM hW h1 | exact va_Nw.warmC hW h1
abbrev zsA (g : zG) : Nat → Nat := g.2.1 61
abbrev zsV (g : zG) : Nat → Nat := g.2.1 62
/-- arrays of int rows can be made -/
def zAI (U : State) : Prop := ∃ (comp c : ClassId) (k : Class), U.vm.findClass "[I" = some comp ∧ (U.vm.classes.findIdx? fun (x : Class) => match x.kind with | .array component _ => component == comp | _ => false) = some c ∧ U.vm.classes[c]? = some k ∧ k.kind = .array comp (.array .int) ∧ U.vm.findClass "[[I" = some c
/-- the faces of a text -/
def zFc (U : State) : Prop := va_Fw "java/lang/String" ⟨"java/lang/CharSequence", "length", "()I"⟩ yJ0_length_8abf5 U ∧ va_Fw "java/lang/String" ⟨"java/lang/CharSequence", "charAt", "(I)C"⟩ yJ0_charAt_5068e U
theorem zFc.moved {u U : State} (hvm : u.vm.Alike U.vm) (h : zFc u) : zFc U := ⟨va_Fw.moved (by decide +kernel) hvm h.1, va_Fw.moved (by decide +kernel) hvm h.2⟩
/-- what stands beside the world: classes, words, strings, the script, the faces of texts, the digits -/
def zK (g : zG) (U : State) (H : Heap) : Prop :=
  va_K g.1 vwCl (ztys g) U ∧ (∀ w ∈ znest, va_Nw w U) ∧ vk_S zsN zsLen zsByt (zsA g) (zsV g) (zA g) U H ∧ (∀ q ∈ zsRefs, vk_R q.1 q.2.1 q.2.2.1 (zsA g q.2.2.2) U) ∧
  va_Z "java/lang/String" "COMPACT_STRINGS" "Z" (.int 1) (zA g) U H ∧
  va_X (g.2.1 60 0) g.2.2.2.1 g.2.2.2.2.1 U H ∧ va_Z "jdk/internal/util/Preconditions" "SIOOBE_FORMATTER" "Ljava/util/function/BiFunction;" (zcv g (zr 63 0)) (zA g) U H ∧ g.2.1 60 0 < H.size ∧ ¬ zA g (g.2.1 60 0) ∧
  zAI U ∧ zFc U ∧
  (∀ q ∈ zDigs, va_Z "java/lang/Integer" q.1 "[B" (.ref (g.2.1 60 q.2.1)) (zA g) U H ∧ va_T .byte (g.2.1 60 q.2.1) 100 (fun j => .int (Int32.ofInt (q.2.2 j))) (zA g) U H)
theorem zAI.moved {u U : State} (hvm : u.vm.Alike U.vm) (h : zAI u) : zAI U := by
  obtain ⟨comp, c, k, h1, h2, h3, h4, h5⟩ := h
  obtain ⟨k', hk', he⟩ := hvm.2.2 _ _ h3
  refine ⟨comp, c, k', by rw [hvm.findClass]; exact h1, ?_, hk', by rw [he]; exact h4, by rw [hvm.findClass]; exact h5⟩
  rw [hvm.findIdx?_eq _ (fun _ => rfl)]
  exact h2
theorem zK.mv {g : zG} {s U : State} {H0 H : Heap} (h : zK g s H0) (ha : s.vm.Alike U.vm) (hN : ∀ w ∈ znest, va_Nw w U) (hR : ∀ q ∈ zsRefs, vk_R q.1 q.2.1 q.2.2.1 (zsA g q.2.2.2) U) (hz : H0.size ≤ H.size) (hS : ∀ q : Nat, q < H0.size → ¬ zA g q → H[q]? = H0[q]?) : zK g U H := by
  obtain ⟨h1, -, h3, -, h5, h6, h7, h8, h9, h10, h11, h12⟩ := h
  exact ⟨h1.moved ha, hN, (h3.moved ha).kept hS, hR, (h5.moved ha).kept hS, (h6.moved ha).kept (hS _ h8 h9), (h7.moved ha).kept hS, Nat.lt_of_lt_of_le h8 hz, h9, h10.moved ha, h11.moved ha, fun q hq => ⟨((h12 q hq).1.moved ha).kept hS, ((h12 q hq).2.moved ha).kept hS⟩⟩
theorem zK.go {g : zG} {s U : State} {H0 H : Heap} {locs : List Loc} (h : zK g s H0) (hW : s.WarmedH U.vm) (hS : va_S (zA g) H0 H locs) : zK g U H :=
  h.mv hW.alike (znest_warm hW h.2.1) (fun q hq => vk_R.warm hW (h.2.2.2.1 q hq)) hS.1 hS.2.1
/-- more was made -/
def zX (g g' : zG) : Prop := g'.1 = g.1 ∧ g'.2.2.1 = g.2.2.1 ∧ g'.2.2.2.1 = g.2.2.2.1 ∧ g'.2.2.2.2.1 = g.2.2.2.2.1 ∧ zgn g' = zgn g ∧ (∀ x ∈ zgo g, x ∈ zgo g') ∧ ∀ k i : Nat, (k < 64 ∨ (k, i) ∈ zgo g) → g'.2.1 k i = g.2.1 k i
theorem zX.rf {g : zG} : zX g g := ⟨rfl, rfl, rfl, rfl, rfl, fun _ h => h, fun _ _ _ => rfl⟩
theorem zX.tr {g g1 g2 : zG} (a : zX g g1) (b : zX g1 g2) : zX g g2 := by
  obtain ⟨a1, a2, a3, a4, a5, a6, a7⟩ := a
  obtain ⟨b1, b2, b3, b4, b5, b6, b7⟩ := b
  exact ⟨b1.trans a1, b2.trans a2, b3.trans a3, b4.trans a4, b5.trans a5, fun x h => b6 x (a6 x h), fun k i h => (b7 k i (h.imp_right (a6 _))).trans (a7 k i h)⟩
theorem zX.A {g g' : zG} (h : zX g g') : zA g' = zA g := by
  funext q
  unfold zA
  rw [h.2.2.2.2.1]
theorem zX.ok {g g' : zG} (h : zX g g') {v : zV} (hv : zok g v) : zok g' v := by
  rcases v with x | x | x | ⟨k, i⟩
  · trivial
  · trivial
  · trivial
  · show if 60 ≤ k ∧ k < 64 then i < zcnt k else (k, i) ∈ zall g'
    have hv' : if 60 ≤ k ∧ k < 64 then i < zcnt k else (k, i) ∈ zall g := hv
    split
    · next c => rw [if_pos c] at hv'; exact hv'
    · next c =>
      rw [if_neg c] at hv'
      rcases List.mem_append.mp hv' with q | q
      · exact List.mem_append_left _ q
      · exact List.mem_append_right _ (h.2.2.2.2.2.1 _ q)
theorem zX.cv {g g' : zG} (h : zX g g') {v : zV} (hv : zok g v) : zcv g' v = zcv g v := by
  rcases v with x | x | x | ⟨k, i⟩
  · rfl
  · rfl
  · rfl
  · have e := h.2.2.2.2.2.2
    show (if k = 63 then (if i = 0 then (if g'.2.1 63 0 = 0 then Value.null else Value.ref (g'.2.1 60 1)) else Value.null) else Value.ref (g'.2.1 k i)) = (if k = 63 then (if i = 0 then (if g.2.1 63 0 = 0 then Value.null else Value.ref (g.2.1 60 1)) else Value.null) else Value.ref (g.2.1 k i))
    rw [e 63 0 (.inl (by decide)), e 60 1 (.inl (by decide))]
    by_cases c : k = 63
    · rw [if_pos c, if_pos c]
    · rw [if_neg c, if_neg c]
      have hv' : if 60 ≤ k ∧ k < 64 then i < zcnt k else (k, i) ∈ zall g := hv
      by_cases c2 : k < 64
      · rw [e k i (.inl c2)]
      · rw [if_neg (by omega)] at hv'
        rcases List.mem_append.mp hv' with q | q
        · exact absurd (zlocs_mem.mp q).1 (by omega)
        · rw [e k i (.inr q)]
theorem zX.K {g g' : zG} (h : zX g g') {U : State} {H : Heap} (k : zK g U H) : zK g' U H := by
  have eA := h.A
  obtain ⟨a1, a2, a3, a4, a5, a6, a7⟩ := h
  have e61 : zsA g' = zsA g := by funext i; exact a7 61 i (.inl (by decide))
  have e62 : zsV g' = zsV g := by funext i; exact a7 62 i (.inl (by decide))
  have e63 : zcv g' (zr 63 0) = zcv g (zr 63 0) := by
    show (if g'.2.1 63 0 = 0 then Value.null else Value.ref (g'.2.1 60 1)) = (if g.2.1 63 0 = 0 then Value.null else Value.ref (g.2.1 60 1))
    rw [a7 63 0 (.inl (by decide)), a7 60 1 (.inl (by decide))]
  have et : ztys g' = ztys g := by unfold ztys; rw [a2]
  unfold zK at k ⊢
  have e60 : ∀ q ∈ zDigs, g'.2.1 60 q.2.1 = g.2.1 60 q.2.1 := fun q _ => a7 60 q.2.1 (.inl (by decide))
  rw [a1, et, e61, e62, e63, eA, a3, a4, a7 60 0 (.inl (by decide))]
  obtain ⟨k1, k2, k3, k4, k5, k6, k7, k8, k9, k10, k11, k12⟩ := k
  exact ⟨k1, k2, k3, k4, k5, k6, k7, k8, k9, k10, k11, fun q hq => by rw [e60 q hq]; exact k12 q hq⟩
-- the judgement
abbrev zT : Type := Room × Nat × Nat × (zG → State → Array Value → List Frame → State → Prop)
def zPo (T : zT) (g : zG) (s : State) (args : Array Value) (below : List Frame) : State → Prop := fun t => ∃ g', zX g g' ∧ T.2.2.2 g' s args below t
def zC (X : zD) (T : zT) (g : zG) (p : Program) (s : State) (m : MethodId) (args : Array Value) (meth : Method) (c : Code) : Prop :=
  p.tables.exec = Jvm.exec ∧ c.code = X.2.1 ∧ c.maxLocals = X.2.2.1 ∧ s.vm.findClass X.1.cls = some m.cls ∧ (∀ w ∈ zTB, w.before args s = true) ∧ meth.sig.returnType = X.2.2.2.1 ∧ meth.locks = false ∧ zK g s s.heap ∧ (meth.name = X.1.name ∧ zgn g ≤ s.heap.size) ∧ T.2.1 ≤ T.1.cells ∧ T.2.2.1 ≤ T.1.slots
def zlv (g : zG) (lv : List (Nat × zV)) : List (Nat × Value) := lv.map fun q => (q.1, zcv g q.2)
def AW (l : Launch) (X : zD) (T : zT) (pc : Nat) (lv : List (Nat × zV)) (st : List zV) (M : zM) : Prop :=
  ∀ (g : zG) (p : Program) (e : Jvm.Env) (s : State) (m : MethodId) (args : Array Value) (below : List Frame) (meth : Method) (c : Code) (H : Heap) (locs : List Loc) (ls : Array Slot),
    zC X T g p s m args meth c → zW g M H → va_S (zA g) s.heap H locs → lv_has ls X.2.2.1 (zlv g lv) → (∀ q ∈ lv, zok g q.2) → (∀ v ∈ st, zok g v) →
    W p l e T.1 s m args below meth c H locs T.2.1 T.2.2.1 (zPo T g s args below) (F0 m pc ls (st.map (zcv g)))
theorem zWm {p : Program} {l : Launch} {e : Jvm.Env} {R : Room} {s : State} {m : MethodId} {args : Array Value} {below : List Frame} {meth : Method} {c : Code} {H : Heap} {locs : List Loc} {cells slots : Nat} {Q Q' : State → Prop} {f : JFrame} (k : W p l e R s m args below meth c H locs cells slots Q f) (h : ∀ t, Q t → Q' t) : W p l e R s m args below meth c H locs cells slots Q' f := by
  intro T hT hX
  obtain ⟨t, a, b⟩ := k T hT hX
  exact ⟨t, a, h t b⟩
theorem zX.lv {g g' : zG} (h : zX g g') {lv : List (Nat × zV)} (ho : ∀ q ∈ lv, zok g q.2) : zlv g' lv = zlv g lv := by
  unfold zlv
  refine List.map_congr_left fun q hq => ?_
  rw [h.cv (ho q hq)]
theorem zX.st {g g' : zG} (h : zX g g') {st : List zV} (ho : ∀ v ∈ st, zok g v) : st.map (zcv g') = st.map (zcv g) :=
  List.map_congr_left fun v hv => h.cv (ho v hv)
theorem zX.C {g g' : zG} (h : zX g g') {X : zD} {T : zT} {p : Program} {s : State} {m : MethodId} {args : Array Value} {meth : Method} {c : Code} (k : zC X T g p s m args meth c) : zC X T g' p s m args meth c := by
  obtain ⟨h1, h2, h3, h4, h5, h6, h7, h8, h9, h10⟩ := k
  exact ⟨h1, h2, h3, h4, h5, h6, h7, h.K h8, ⟨h9.1, by rw [h.2.2.2.2.1]; exact h9.2⟩, h10⟩
/-- the walk goes on where more was made -/
theorem zPo.of {T : zT} {g g' : zG} {s : State} {args : Array Value} {below : List Frame} (h : zX g g') : ∀ t, zPo T g' s args below t → zPo T g s args below t := by
  rintro t ⟨g2, h2, k⟩
  exact ⟨g2, h.tr h2, k⟩
end
section
/-! ===== rows: fields ===== -/
theorem zO_nd {g : zG} {M : zM} (h : zO g M) : (zall g).Nodup := by
  rw [List.nodup_append]
  refine ⟨zlocs_nodup, h.1, ?_⟩
  rintro ⟨k, i⟩ h1 ⟨k2, i2⟩ h2 e
  cases e
  have a := (zlocs_mem.mp h1).1
  have b := ((h.2.1 k i).mp h2).1
  omega
theorem zRV.u {M : zM} {k i : Nat} {j x : Int} (h : zRV M) (hk : k ≠ 97) (hx : ∀ k', zrp k j = some k' → x < M 97 0 k') : zRV (zu M k i j x) := by
  intro k2 i2 j2 k' h1 h2 h3 h4
  have e : ∀ q : Int, zu M k i j x 97 0 q = M 97 0 q := fun q => if_neg fun z => hk z.1.symm
  rw [e] at h2 ⊢
  by_cases c : k2 = k ∧ i2 = i ∧ j2 = j
  · obtain ⟨rfl, rfl, rfl⟩ := c
    rw [zu_s]
    exact hx k' h4
  · rw [zu_n c]
    exact h k2 i2 j2 k' h1 h2 h3 h4
theorem zO.u {g : zG} {M M' : zM} (h : zO g M) (e : ∀ k, M' 97 0 k = M 97 0 k) (hv : zRV M') : zO g M' := ⟨h.1, fun k i => by rw [e]; exact h.2.1 k i, hv, fun k => by rw [e]; exact h.2.2.2 k⟩
theorem zO.uu {g : zG} {M : zM} {k i : Nat} {j x : Int} (h : zO g M) (hk : k ≠ 97) (hx : ∀ k', zrp k j = some k' → x < M 97 0 k') : zO g (zu M k i j x) := h.u (fun q => if_neg fun z => hk z.1.symm) (h.2.2.1.u hk hx)
theorem zlay_na {k : Nat} (h : ¬ zob k) : zlay k = [] := by
  have h1 : ∀ n, n < 81 → (n < 10 ∨ (64 ≤ n ∧ n < 68)) ∨ zlayL.getD n [] = [] := by decide +kernel
  by_cases c : k < 81
  · exact (h1 k c).resolve_left h
  · unfold zlay
    rw [List.getD_eq_getElem?_getD, List.getElem?_eq_none (by have : zlayL.length = 81 := by decide +kernel
                                                              omega)]
    rfl
theorem zety_ob {k : Nat} (h : zob k) : zety k ≠ 5 := by
  have h1 : ∀ n, n < 68 → zetyL.getD n 0 ≠ 5 := by decide +kernel
  exact h1 k (by unfold zob at h; omega)
theorem zrp_na {k : Nat} {j : Int} (h : ¬ zob k) (h5 : zety k ≠ 5) : zrp k j = none := by
  unfold zrp
  rw [if_neg h5, zlay_na h]
  rfl
theorem zrp_no {k : Nat} {j : Nat} (h : zob k) (hl : (zlay k)[j]? = some none) : zrp k (j : Int) = none := by
  unfold zrp
  rw [if_neg (zety_ob h), Int.toNat_natCast, hl]
theorem zrp_r {k j k' b : Nat} (h : zob k) (hl : (zlay k)[j]? = some (some (k', 2, b))) : zrp k (j : Int) = some k' := by
  unfold zrp
  rw [if_neg (zety_ob h), Int.toNat_natCast, hl]
  rfl
theorem zok_in {g : zG} {k i : Nat} (hk : ¬ (60 ≤ k ∧ k < 64)) (h : zok g (zr k i)) : (k, i) ∈ zall g := by
  have h' : if 60 ≤ k ∧ k < 64 then i < zcnt k else (k, i) ∈ zall g := h
  rwa [if_neg hk] at h'
theorem zok_of {g : zG} {k i : Nat} (hk : ¬ (60 ≤ k ∧ k < 64)) (h : (k, i) ∈ zall g) : zok g (zr k i) := by
  show if 60 ≤ k ∧ k < 64 then i < zcnt k else (k, i) ∈ zall g
  rw [if_neg hk]; exact h
theorem zok_s {g : zG} {k i : Nat} (hk : k < 60) (h : i < zcnt k) : zok g (zr k i) := zok_of (by omega) (List.mem_append_left _ (zlocs_mem.mpr ⟨hk, h⟩))
theorem zok_n {g : zG} {k i : Nat} (hk : 60 ≤ k ∧ k < 64) (h : i < zcnt k) : zok g (zr k i) := by
  show if 60 ≤ k ∧ k < 64 then i < zcnt k else (k, i) ∈ zall g
  rw [if_pos hk]; exact h
theorem zok_c {g : zG} {M : zM} (hO : zO g M) {k i : Nat} (hk : k < 60) (h : zok g (zr k i)) : i < zcnt k := by
  rcases List.mem_append.mp (zok_in (by omega) h) with q | q
  · exact (zlocs_mem.mp q).2
  · have := ((hO.2.1 k i).mp q).1; omega
theorem zok_d {g : zG} {M : zM} (hO : zO g M) {k : Nat} {r : Int} (hk : 64 ≤ k ∧ k < 96) (h : 0 ≤ r ∧ r < M 97 0 k) : zok g (zr k r.toNat) := by
  refine zok_of (by omega) (List.mem_append_right _ ((hO.2.1 k r.toNat).mpr ⟨hk, ?_⟩))
  rw [Int.toNat_of_nonneg h.1]; exact h.2
theorem zws_at {g : zG} {k i : Nat} (hk : ¬ (60 ≤ k ∧ k < 64)) (h : zok g (zr k i)) : ∃ n : Nat, (zall g)[n]? = some (k, i) := List.getElem?_of_mem (zok_in hk h)
theorem zws_get {g : zG} {M : zM} {k i n : Nat} (h : (zall g)[n]? = some (k, i)) : (zws g M)[n]? = some (g.2.1 k i, zent g M k i) := by
  unfold zws
  rw [List.getElem?_map, h]
  rfl
theorem zent_congr {g : zG} {M M' : zM} {k i : Nat} (h : M k i = M' k i) : zent g M k i = zent g M' k i := by
  unfold zent zfl zarr zfv zln
  rw [h]
theorem zws_set {g : zG} {M M' : zM} {k i n : Nat} (hO : zO g M) (h : (zall g)[n]? = some (k, i)) (hM : ∀ k' i', ¬ (k' = k ∧ i' = i) → M' k' i' = M k' i') : (zws g M).set n (g.2.1 k i, zent g M' k i) = zws g M' := by
  refine List.ext_getElem? fun n' => ?_
  have hlt : n < (zall g).length := (List.getElem?_eq_some_iff.mp h).1
  by_cases hn : n' = n
  · subst hn
    rw [List.getElem?_set_self (by unfold zws; rw [List.length_map]; exact hlt), zws_get h]
  · rw [List.getElem?_set_ne (Ne.symm hn)]
    cases hq : (zall g)[n']? with
    | none => unfold zws; rw [List.getElem?_map, List.getElem?_map, hq]; rfl
    | some q =>
      obtain ⟨k', i'⟩ := q
      rw [zws_get hq, zws_get hq]
      have hne : ¬ (k' = k ∧ i' = i) := by
        rintro ⟨rfl, rfl⟩
        have hl' : n' < (zall g).length := (List.getElem?_eq_some_iff.mp hq).1
        have e1 := (List.getElem?_eq_some_iff.mp hq).2
        have e2 := (List.getElem?_eq_some_iff.mp h).2
        exact hn ((List.getElem_inj (zO_nd hO)).mp (e1.trans e2.symm))
      rw [zent_congr (hM k' i' hne).symm]
theorem zu_o {M : zM} {k i : Nat} {j x : Int} : ∀ k' i', ¬ (k' = k ∧ i' = i) → zu M k i j x k' i' = M k' i' := by
  intro k' i' h
  funext j'
  exact if_neg fun q => h ⟨q.1, q.2.1⟩
theorem zu_97 {M : zM} {k i : Nat} {j x : Int} (hk : k ≠ 97) : ∀ k', zu M k i j x 97 0 k' = M 97 0 k' := fun _ => if_neg fun q => hk q.1.symm
theorem zcv_r {g : zG} {k i : Nat} (h : k ≠ 63) : zcv g (zr k i) = .ref (g.2.1 k i) := if_neg h
theorem zk_ne {k : Nat} (h : k < 60) : k ≠ 63 := by omega
theorem zci_lt {k : Nat} (h : k < 10) : zci k = k := if_pos h
theorem zent_ob {g : zG} {M : zM} {k i : Nat} (hk : zob k) : zent g M k i = .inr (zci k, zfl g M k i) := if_pos hk
/-- the pool entry ix of the class own is the field k of the class kd -/
def zFL (own : String) (ix kd k : Nat) : Prop := ∃ (C : String) (T : u_T) (N : Nat), vwCl[zci kd]? = some (C, T, N) ∧ zob kd ∧ k < N ∧ (∀ w ∈ u_ws C T N, w ∈ zTB) ∧
  (Cond.fieldLink own ix (T k).1 (T k).2.1 (T k).2.2.1 ∈ zTB ∨ ∃ host, Cond.fieldLinkNest own ix (T k).1 (T k).2.1 (T k).2.2.1 host ∈ znest)
/-- it may be written; ty: its type -/
def zFP (own : String) (ix kd k : Nat) (ty : FieldType) : Prop := ∃ (C : String) (T : u_T) (N : Nat) (ty0 : Nat → FieldType), vwCl[zci kd]? = some (C, T, N) ∧ zob kd ∧ k < N ∧ (∀ w ∈ u_ws C T N, w ∈ zTB) ∧
  (Cond.fieldLink own ix (T k).1 (T k).2.1 (T k).2.2.1 ∈ zTB ∨ ∃ host, Cond.fieldLinkNest own ix (T k).1 (T k).2.1 (T k).2.2.1 host ∈ znest) ∧ (T k).2.2.2 = false ∧ parseFieldDescriptor (T k).2.2.1 = some ty ∧
  (∀ k, k < N → parseFieldDescriptor (T k).2.2.1 = some (ty0 k)) ∧ (∀ a, a < N → ∀ b, b < N → a ≠ b → (T a).2.1 ≠ (T b).2.1)
/-- a final field, written in the constructor -/
def zFF (own : String) (ix kd k : Nat) (ty : FieldType) : Prop := ∃ (C : String) (T : u_T) (N : Nat) (ty0 : Nat → FieldType), vwCl[zci kd]? = some (C, T, N) ∧ zob kd ∧ k < N ∧ (∀ w ∈ u_ws C T N, w ∈ zTB) ∧
  Cond.fieldLink own ix (T k).1 (T k).2.1 (T k).2.2.1 ∈ zTB ∧ (T k).2.2.2 = true ∧ (T k).1 = own ∧ parseFieldDescriptor (T k).2.2.1 = some ty ∧
  (∀ k, k < N → parseFieldDescriptor (T k).2.2.1 = some (ty0 k)) ∧ (∀ a, a < N → ∀ b, b < N → a ≠ b → (T a).2.1 ≠ (T b).2.1)
section
variable {l : Launch} {X : zD} {T : zT} {pc pc' : Nat} {lv lv' : List (Nat × zV)} {st st' : List zV} {M M' : zM}
/-- a step that changes neither heap nor locals -/
theorem AW.go (hok : ∀ g, (∀ v ∈ st, zok g v) → (∀ q ∈ lv, zok g q.2) → ∀ v ∈ st', zok g v)
    (h : ∀ (g : zG) (p : Program) (e : Jvm.Env) (s : State) (m : MethodId) (args : Array Value) (below : List Frame) (meth : Method) (c : Code) (H : Heap) (locs : List Loc) (ls : Array Slot) (Q : State → Prop),
      zC X T g p s m args meth c → zW g M H → va_S (zA g) s.heap H locs → lv_has ls X.2.2.1 (zlv g lv) → (∀ v ∈ st, zok g v) → W p l e T.1 s m args below meth c H locs T.2.1 T.2.2.1 Q (F0 m pc' ls (st'.map (zcv g))) → W p l e T.1 s m args below meth c H locs T.2.1 T.2.2.1 Q (F0 m pc ls (st.map (zcv g))))
    (kk : AW l X T pc' lv st' M) : AW l X T pc lv st M := by
  intro g p e s m args below meth c H locs ls hC hW hS hlv hol host
  exact h g p e s m args below meth c H locs ls _ hC hW hS hlv host (kk g p e s m args below meth c H locs ls hC hW hS hlv hol (hok g host hol))
theorem zob_n {k : Nat} (h : zob k) : ¬ (60 ≤ k ∧ k < 64) ∧ k ≠ 63 := by unfold zob at h; omega
/-- a field read: whatever it holds -/
theorem aw_getv {ix kd k i : Nat} {v : zV} {o : Option (Nat × Nat × Nat)} (hd : dec X pc = .ok (.getfield ix, 3)) (hp : pc + 3 = pc') (hf : zFL X.1.cls ix kd k) (hl : (zlay kd)[k]? = some o)
    (hv : ∀ g, zO g M → zok g (zr kd i) → zfv g M kd i k o = zcv g v ∧ zok g v) (kk : AW l X T pc' lv (v :: st) M) : AW l X T pc lv (zr kd i :: st) M := by
  subst hp
  intro g p e s m args below meth c H locs ls hC hW hS hlv hol host
  have hkk := kk g p e s m args below meth c H locs ls hC hW hS hlv hol (fun w hw => (List.mem_cons.mp hw).elim (fun q => q ▸ (hv g hW.2.2 (host _ List.mem_cons_self)).2) (fun q => host w (List.mem_cons_of_mem _ q)))
  obtain ⟨C, TT, N, hc, hkd, hkN, hin, hlink⟩ := hf
  have hn0 := zob_n hkd
  obtain ⟨n, hn⟩ := zws_at hn0.1 (host (zr kd i) List.mem_cons_self)
  have he : (zws g M)[n]? = some (g.2.1 kd i, .inr (zci kd, zfl g M kd i)) := by rw [zws_get hn, zent_ob hkd]
  have hv2 : (zfl g M kd i)[k]? = some (zcv g v) := by
    rw [← (hv g hW.2.2 (host _ List.mem_cons_self)).1]
    simp [zfl, List.getElem?_mapIdx, hl]
  obtain ⟨hx, hb, hml, hown, hts, -, -, hK, -⟩ := hC
  rw [List.map_cons, zcv_r hn0.2]
  rcases hlink with hlink | ⟨host', hlink⟩
  · exact va_get (T := TT) (N := N) (ref := (TT k).1) hx hb hts hin hown hK.1 hW.1 n he hc k hkN (hts _ hlink) (fun x h => h) hv2 hd hkk
  · exact va_getN (T := TT) (N := N) (ref := (TT k).1) (host := host') hx hb hts hin hown hK.1 hW.1 n he hc k hkN (va_Nw.use rfl (hK.2.1 _ hlink)) (fun x h => h) hv2 hd hkk
theorem aw_getI {ix kd k i : Nat} {kc : Int} (hd : dec X pc = .ok (.getfield ix, 3)) (hp : pc + 3 = pc') (hf : zFL X.1.cls ix kd k) (hl : (zlay kd)[k]? = some none) (hkc : (k : Int) = kc) (kk : AW l X T pc' lv (zi (M kd i kc) :: st) M) : AW l X T pc lv (zr kd i :: st) M := by
  subst hkc
  exact aw_getv (v := zi (M kd i k)) hd hp hf hl (fun g _ _ => ⟨rfl, trivial⟩) kk
theorem aw_getR {ix kd k i k' a b j : Nat} (hd : dec X pc = .ok (.getfield ix, 3)) (hp : pc + 3 = pc') (hf : zFL X.1.cls ix kd k) (hl : (zlay kd)[k]? = some (some (k', a, b))) (hj : a * i + b = j) (hz : k' < 60 ∧ (i < zcnt kd → j < zcnt k')) (ha : a ≠ 2 ∧ kd < 60) (kk : AW l X T pc' lv (zr k' j :: st) M) : AW l X T pc lv (zr kd i :: st) M := by
  refine aw_getv hd hp hf hl (fun g hO ho => ⟨?_, ?_⟩) kk
  · rw [zcv_r (by omega), zfv, if_neg ha.1, hj]
  · exact zok_s hz.1 (hz.2 (zok_c hO ha.2 ho))
/-- a reference that is kept as a number -/
theorem aw_getD {ix kd k i k' b : Nat} {kc : Int} (hd : dec X pc = .ok (.getfield ix, 3)) (hp : pc + 3 = pc') (hf : zFL X.1.cls ix kd k) (hl : (zlay kd)[k]? = some (some (k', 2, b))) (hkc : (k : Int) = kc) (hk : 64 ≤ k' ∧ k' < 96) (hr : 0 ≤ M kd i kc ∧ M kd i kc < M 97 0 k') (kk : AW l X T pc' lv (zr k' (M kd i kc).toNat :: st) M) : AW l X T pc lv (zr kd i :: st) M := by
  subst hkc
  refine aw_getv hd hp hf hl (fun g hO ho => ⟨?_, zok_d hO hk hr⟩) kk
  rw [zcv_r (by omega), zfv, if_pos rfl, zdo, if_neg (by omega)]
  rfl
theorem zfl_set {g : zG} {M : zM} {kd i k : Nat} {x : Int} {o : Option (Nat × Nat × Nat)} {v : Value} (hl : (zlay kd)[k]? = some o) (hv : zfv g (zu M kd i k x) kd i k o = v) : (zfl g M kd i).set k v = zfl g (zu M kd i k x) kd i := by
  refine List.ext_getElem? fun n => ?_
  have hlt : k < (zlay kd).length := (List.getElem?_eq_some_iff.mp hl).1
  by_cases hn : n = k
  · subst hn
    rw [List.getElem?_set_self (by simpa [zfl] using hlt)]
    simp [zfl, List.getElem?_mapIdx, hl, hv]
  · rw [List.getElem?_set_ne (Ne.symm hn)]
    simp only [zfl, List.getElem?_mapIdx]
    cases hq : (zlay kd)[n]? with
    | none => rfl
    | some o =>
      have e : zu M kd i k x kd i n = M kd i n := zu_n (by rintro ⟨-, -, h⟩; exact hn (by omega))
      cases o with
      | none => simp [zfv, e]
      | some r => simp [zfv, e]
theorem aw_putv {ix kd k i : Nat} {x kc : Int} {ty : FieldType} {v : zV} {o : Option (Nat × Nat × Nat)} (hd : dec X pc = .ok (.putfield ix, 3)) (hp : pc + 3 = pc') (hf : zFP X.1.cls ix kd k ty ∨ (zFF X.1.cls ix kd k ty ∧ X.1.name = "<init>")) (hl : (zlay kd)[k]? = some o) (hkc : (k : Int) = kc)
    (hxx : zob kd → ∀ g, zO g M → zok g v → ∀ k', zrp kd kc = some k' → x < M 97 0 k')
    (hv : ∀ g, zO g M → zok g v → zfv g (zu M kd i kc x) kd i k o = zcv g v ∧ narrow ty (zcv g v) = zcv g v ∧ fits ty (zcv g v) = true) (kk : AW l X T pc' lv st (zu M kd i kc x)) : AW l X T pc lv (v :: zr kd i :: st) M := by
  subst hp; subst hkc
  intro g p e s m args below meth c H locs ls hC hW hS hlv hol host
  have hkd : zob kd := by
    rcases hf with ⟨_, _, _, _, _, h, _⟩ | ⟨⟨_, _, _, _, _, h, _⟩, _⟩ <;> exact h
  have hn0 := zob_n hkd
  obtain ⟨hv1, hv2, hv3⟩ := hv g hW.2.2 (host _ List.mem_cons_self)
  obtain ⟨n, hn'⟩ := zws_at hn0.1 (host (zr kd i) (List.mem_cons_of_mem _ List.mem_cons_self))
  have he : (zws g M)[n]? = some (g.2.1 kd i, .inr (zci kd, zfl g M kd i)) := by rw [zws_get hn', zent_ob hkd]
  have hst : (zws g M).set n (g.2.1 kd i, .inr (zci kd, (zfl g M kd i).set k (zcv g v))) = zws g (zu M kd i k x) := by
    rw [← zws_set hW.2.2 hn' (M' := zu M kd i k x) zu_o, zfl_set hl hv1, zent_ob hkd]
  have hlen : k < (zfl g M kd i).length := by simpa [zfl] using (List.getElem?_eq_some_iff.mp hl).1
  obtain ⟨hx, hb, hml, hown, hts, hr, hlo, hK, hnm, hcl, hsl⟩ := id hC
  rw [List.map_cons, List.map_cons, zcv_r hn0.2]
  have key : ∀ (H1 : Heap) (locs1 : List Loc), va_P g.1 vwCl ((zws g M).set n (g.2.1 kd i, .inr (zci kd, (zfl g M kd i).set k (zcv g v)))) H1 → va_D (zA g) ((zws g M).set n (g.2.1 kd i, .inr (zci kd, (zfl g M kd i).set k (zcv g v)))) → va_S (zA g) s.heap H1 locs1 → W p l e T.1 s m args below meth c H1 locs1 T.2.1 T.2.2.1 (zPo T g s args below) (F0 m (pc + 3) ls (st.map (zcv g))) := by
    intro H1 locs1 h1 h2 h3
    rw [hst] at h1 h2
    exact kk g p e s m args below meth c H1 locs1 ls hC ⟨h1, h2, hW.2.2.uu (by unfold zob at hkd; omega) (hxx hkd g hW.2.2 (host _ List.mem_cons_self))⟩ h3 hlv hol (fun v hv => host v (List.mem_cons_of_mem _ (List.mem_cons_of_mem _ hv)))
  rcases hf with ⟨C, TT, N, ty0, hc, -, hkN, hin, hlink, hfin, hty, hty0, hnm2⟩ | ⟨⟨C, TT, N, ty0, hc, -, hkN, hin, hlink, hfin, hdecl, hty, hty0, hnm2⟩, hi⟩
  · rcases hlink with hlink | ⟨host', hlink⟩
    · exact va_put (T := TT) (N := N) (ref := (TT k).1) hx hb hts hin ty0 hty0 hnm2 hown hK.1 hW.1 hW.2.1 hS n he hc k hkN (hts _ hlink) (fun x h => h) hfin hty hv2 hv3 hlen hd key
    · exact va_putN (T := TT) (N := N) (ref := (TT k).1) (host := host') hx hb hts hin ty0 hty0 hnm2 hown hK.1 hW.1 hW.2.1 hS n he hc k hkN (va_Nw.use rfl (hK.2.1 _ hlink)) (fun x h => h) hfin hty hv2 hv3 hlen hd key
  · exact va_putF (T := TT) (N := N) (ref := (TT k).1) hx hb hts hin ty0 hty0 hnm2 hown hK.1 hW.1 hW.2.1 hS n he hc k hkN (hts _ hlink) (fun x h => h) hfin (hnm.1.trans hi) hdecl hty hv2 hv3 hlen hd key
theorem aw_put {ix kd k i : Nat} {x kc : Int} {ty : FieldType} (hd : dec X pc = .ok (.putfield ix, 3)) (hp : pc + 3 = pc') (hf : zFP X.1.cls ix kd k ty) (hl : (zlay kd)[k]? = some none) (hkc : (k : Int) = kc) (hn : narrow ty (.int (Int32.ofInt x)) = .int (Int32.ofInt x)) (hfit : fits ty (.int (Int32.ofInt x)) = true) (kk : AW l X T pc' lv st (zu M kd i kc x)) : AW l X T pc lv (zi x :: zr kd i :: st) M := by
  refine aw_putv hd hp (.inl hf) hl hkc (fun ho g _ _ k' h => ?_) (fun g _ _ => ⟨?_, hn, hfit⟩) kk
  · rw [← hkc, zrp_no ho hl] at h
    cases h
  rw [zfv, hkc, zu_s]
  rfl
/-- the number of a reference is written -/
theorem aw_putD {ix kd k i k' b j : Nat} {kc : Int} {ty : FieldType} (hd : dec X pc = .ok (.putfield ix, 3)) (hp : pc + 3 = pc') (hf : zFP X.1.cls ix kd k ty ∨ (zFF X.1.cls ix kd k ty ∧ X.1.name = "<init>")) (hl : (zlay kd)[k]? = some (some (k', 2, b))) (hkc : (k : Int) = kc) (hk : 64 ≤ k' ∧ k' < 96) (hn : ∀ q : Nat, narrow ty (.ref q) = .ref q ∧ fits ty (.ref q) = true) (kk : AW l X T pc' lv st (zu M kd i kc (j : Int))) : AW l X T pc lv (zr k' j :: zr kd i :: st) M := by
  refine aw_putv hd hp hf hl hkc (fun ho g hO hv k2 h => ?_) (fun g _ _ => ?_) kk
  · rw [← hkc, zrp_r ho hl] at h
    cases h
    rcases List.mem_append.mp (zok_in (by omega) hv) with q | q
    · have := (zlocs_mem.mp q).1; omega
    · exact ((hO.2.1 _ _).mp q).2
  rw [zcv_r (by omega)]
  refine ⟨?_, hn _⟩
  rw [zfv, if_pos rfl, hkc, zu_s, zdo, if_neg (by omega)]
  show Value.ref (g.2.1 k' ((j : Int)).toNat) = _
  rw [Int.toNat_natCast]
end
end
section
/-! ===== rows: constants, locals, arithmetic, branches ===== -/
abbrev zI (x : Int) : Prop := -2147483648 ≤ x ∧ x < 2147483648
abbrev zJ (x : Int) : Prop := -9223372036854775808 ≤ x ∧ x < 9223372036854775808
theorem zI_lt {x y : Int} (hx : zI x) (hy : zI y) : Int32.ofInt x < Int32.ofInt y ↔ x < y := by
  rw [Int32.lt_iff_toInt_lt, Int32.toInt_ofInt_of_le (by omega) (by omega), Int32.toInt_ofInt_of_le (by omega) (by omega)]
theorem zI_le {x y : Int} (hx : zI x) (hy : zI y) : Int32.ofInt x ≤ Int32.ofInt y ↔ x ≤ y := by
  rw [Int32.le_iff_toInt_le, Int32.toInt_ofInt_of_le (by omega) (by omega), Int32.toInt_ofInt_of_le (by omega) (by omega)]
theorem zI_eq {x y : Int} (hx : zI x) (hy : zI y) : Int32.ofInt x = Int32.ofInt y ↔ x = y := by
  rw [← Int32.toInt_inj, Int32.toInt_ofInt_of_le (by omega) (by omega), Int32.toInt_ofInt_of_le (by omega) (by omega)]
theorem zJ_lt {x y : Int} (hx : zJ x) (hy : zJ y) : Int64.ofInt x < Int64.ofInt y ↔ x < y := by
  rw [Int64.lt_iff_toInt_lt, Int64.toInt_ofInt_of_le (by omega) (by omega), Int64.toInt_ofInt_of_le (by omega) (by omega)]
theorem zJ_eq {x y : Int} (hx : zJ x) (hy : zJ y) : Int64.ofInt x = Int64.ofInt y ↔ x = y := by
  rw [← Int64.toInt_inj, Int64.toInt_ofInt_of_le (by omega) (by omega), Int64.toInt_ofInt_of_le (by omega) (by omega)]
theorem zI0 : zI 0 := by omega
theorem zi0 : Int32.ofInt 0 = 0 := rfl
theorem zin_of {j : Int} {n : Nat} (hn : n ≤ 2000000000) (h : 0 ≤ j ∧ j < n) : vp_in (Int32.ofInt j) n := by
  rw [vp_in_iff, Int32.toInt_ofInt_of_le (by omega) (by omega)]
  exact h
theorem zcl_of {j : Int} (h : 0 ≤ j ∧ j < 2000000000) : (((Int32.ofInt j).toNatClampNeg : Nat) : Int) = j := by
  rw [Int32.toNatClampNeg_ofInt_of_le (by omega) (by omega)]
  omega
def zcat : zV → Nat
  | .inr (.inl _) => 2
  | .inr (.inr (.inl _)) => 2
  | _ => 1
theorem zcat_cv (g : zG) (v : zV) : (zcv g v).category = zcat v := by
  rcases v with x | x | x | ⟨k, i⟩
  · rfl
  · rfl
  · rfl
  · show (if k = 63 then (if i = 0 then (if g.2.1 63 0 = 0 then Value.null else Value.ref (g.2.1 60 1)) else Value.null) else Value.ref (g.2.1 k i)).category = 1
    by_cases h : k = 63
    · rw [if_pos h]
      by_cases h3 : i = 0
      · rw [if_pos h3]
        by_cases h2 : g.2.1 63 0 = 0
        · rw [if_pos h2]; rfl
        · rw [if_neg h2]; rfl
      · rw [if_neg h3]; rfl
    · rw [if_neg h]; rfl
/-- a store into the listed locals -/
def zst (lv : List (Nat × zV)) (i : Nat) (v : zV) : List (Nat × zV) := (i, v) :: lv.filter fun q => !(q.1 == i) && !(q.1 + 1 == i && zcat q.2 == 2) && !(zcat v == 2 && q.1 == i + 1)
theorem zst_lv1 {g : zG} {lv : List (Nat × zV)} {i : Nat} {v : zV} (h : zcat v = 1) : (i, zcv g v) :: (zlv g lv).filter (fun q => !(q.1 == i) && !(q.1 + 1 == i && q.2.category == 2)) = zlv g (zst lv i v) := by
  simp only [zlv, zst, List.map_cons, List.filter_map, List.cons.injEq, true_and]
  refine congrArg _ (List.filter_congr fun q _ => ?_)
  simp [zcat_cv, h, Function.comp]
theorem zst_lv2 {g : zG} {lv : List (Nat × zV)} {i : Nat} {v : zV} (h : zcat v = 2) : (i, zcv g v) :: (zlv g lv).filter (fun q => !(q.1 == i) && (!(q.1 == i + 1) && !(q.1 + 1 == i && q.2.category == 2))) = zlv g (zst lv i v) := by
  simp only [zlv, zst, List.map_cons, List.filter_map, List.cons.injEq, true_and]
  refine congrArg _ (List.filter_congr fun q _ => ?_)
  simp only [Function.comp, zcat_cv, h]
  cases q.1 == i <;> cases q.1 + 1 == i <;> cases q.1 == i + 1 <;> cases zcat q.2 == 2 <;> rfl
theorem zst_ok {g : zG} {lv : List (Nat × zV)} {i : Nat} {v : zV} (hv : zok g v) (h : ∀ q ∈ lv, zok g q.2) : ∀ q ∈ zst lv i v, zok g q.2 := by
  intro q hq
  rcases List.mem_cons.mp hq with rfl | hq
  · exact hv
  · exact h q (List.mem_filter.mp hq).1
theorem zlv_at {g : zG} {lv : List (Nat × zV)} {n i : Nat} {v : zV} (h : lv[n]? = some (i, v)) : (zlv g lv)[n]? = some (i, zcv g v) := by simp [zlv, h]
theorem zok1 {g : zG} {v : zV} {st : List zV} (hv : zok g v) (h : ∀ v ∈ st, zok g v) : ∀ w ∈ v :: st, zok g w := fun w hw => (List.mem_cons.mp hw).elim (fun e => e ▸ hv) (h w)
theorem zokt {g : zG} {v : zV} {st : List zV} (h : ∀ w ∈ v :: st, zok g w) : ∀ w ∈ st, zok g w := fun w hw => h w (List.mem_cons_of_mem _ hw)
section
variable {l : Launch} {X : zD} {T : zT} {pc pc' : Nat} {lv lv' : List (Nat × zV)} {st st' : List zV} {M M' : zM}
theorem zok1i {g : zG} {x : Int} {st : List zV} (h : ∀ v ∈ st, zok g v) : ∀ w ∈ zi x :: st, zok g w := zok1 (v := zi x) trivial h
theorem zok1l {g : zG} {x : Int} {st : List zV} (h : ∀ v ∈ st, zok g v) : ∀ w ∈ zl x :: st, zok g w := zok1 (v := zl x) trivial h
theorem zok1d {g : zG} {x : UInt64} {st : List zV} (h : ∀ v ∈ st, zok g v) : ∀ w ∈ zd x :: st, zok g w := zok1 (v := zd x) trivial h
/-- fewer of the locals -/
theorem aw_sub (ks : List Nat) (h : ks.filterMap (fun k => lv[k]?) = lv') (kk : AW l X T pc lv' st M) : AW l X T pc lv st M := by
  intro g p e s m args below meth c H locs ls hC hW hS hlv hol host
  refine kk g p e s m args below meth c H locs ls hC hW hS (lv_sub hlv ks ?_) (fun q hq => ?_) host
  · subst h
    simp only [lv_pick, zlv, List.map_filterMap, List.getElem?_map]
  · subst h
    obtain ⟨k, -, hk⟩ := List.mem_filterMap.mp hq
    exact hol q (List.mem_of_getElem? hk)
theorem aw_memeq (h : M = M') (kk : AW l X T pc lv st M') : AW l X T pc lv st M := h ▸ kk
theorem aw_topeq {x y : Int} (h : x = y) (kk : AW l X T pc lv (zi y :: st) M) : AW l X T pc lv (zi x :: st) M := h ▸ kk
/-- an int is what it is modulo 2^32 -/
theorem aw_wrap {x y : Int} (h : (x - y) % 4294967296 = 0) (kk : AW l X T pc lv (zi y :: st) M) : AW l X T pc lv (zi x :: st) M := by
  intro g p e s m args below meth c H locs ls hC hW hS hlv hol host
  have e1 : Int32.ofInt x = Int32.ofInt y := by
    obtain ⟨k, hk⟩ : ∃ k : Int, x = y + 4294967296 * k := ⟨(x - y) / 4294967296, by omega⟩
    rw [hk, Int32.ofInt_add, Int32.ofInt_mul, show Int32.ofInt 4294967296 = 0 by decide, Int32.zero_mul, Int32.add_zero]
  have k1 := kk g p e s m args below meth c H locs ls hC hW hS hlv hol (zok1i (zokt host))
  simp only [List.map_cons, zcv] at k1 ⊢
  rw [e1]
  exact k1

theorem aw_iconst {n : Int} (hd : dec X pc = .ok (.iconst n, 1)) (hp : pc + 1 = pc') (kk : AW l X T pc' lv (zi n :: st) M) : AW l X T pc lv (st) M := by
  subst hp
  refine AW.go (fun _ h _ => zok1i h) ?_ kk
  intro g p e s m args below meth c H locs ls Q hC hW hS hlv host hk
  exact lv_iconst hC.1 hC.2.1 hd rfl hk
theorem aw_bipush {n : Int} (hd : dec X pc = .ok (.bipush n, 2)) (hp : pc + 2 = pc') (hv : (Int8.ofInt n).toInt32 = Int32.ofInt n) (kk : AW l X T pc' lv (zi n :: st) M) : AW l X T pc lv (st) M := by
  subst hp
  refine AW.go (fun _ h _ => zok1i h) ?_ kk
  intro g p e s m args below meth c H locs ls Q hC hW hS hlv host hk
  exact lv_bipush (v := Int32.ofInt n) hC.1 hC.2.1 hd hv hk
theorem aw_sipush {n : Int} (hd : dec X pc = .ok (.sipush n, 3)) (hp : pc + 3 = pc') (hv : (Int16.ofInt n).toInt32 = Int32.ofInt n) (kk : AW l X T pc' lv (zi n :: st) M) : AW l X T pc lv (st) M := by
  subst hp
  refine AW.go (fun _ h _ => zok1i h) ?_ kk
  intro g p e s m args below meth c H locs ls Q hC hW hS hlv host hk
  exact lv_sipush (v := Int32.ofInt n) hC.1 hC.2.1 hd hv hk
theorem aw_ldc {ix : Nat} {n : Int} (hd : dec X pc = .ok (.ldc ix, 2)) (hp : pc + 2 = pc') (hc : Cond.constant X.1.cls ix (Int32.ofInt n) ∈ zTB) (kk : AW l X T pc' lv (zi n :: st) M) : AW l X T pc lv (st) M := by
  subst hp
  refine AW.go (fun _ h _ => zok1i h) ?_ kk
  intro g p e s m args below meth c H locs ls Q hC hW hS hlv host hk
  exact lv_ldc hC.1 hC.2.1 hC.2.2.2.1 (hC.2.2.2.2.1 _ hc) hd hk
theorem aw_ldc2 {ix : Nat} {n : Int} (hd : dec X pc = .ok (.ldc2_w ix, 3)) (hp : pc + 3 = pc') (hc : Cond.constantLong X.1.cls ix (Int64.ofInt n) ∈ zTB) (kk : AW l X T pc' lv (zl n :: st) M) : AW l X T pc lv (st) M := by
  subst hp
  refine AW.go (fun _ h _ => zok1l h) ?_ kk
  intro g p e s m args below meth c H locs ls Q hC hW hS hlv host hk
  exact lv_ldc2 hC.1 hC.2.1 hC.2.2.2.1 (hC.2.2.2.2.1 _ hc) hd hk
theorem aw_ldc2d {ix : Nat} {n : UInt64} (hd : dec X pc = .ok (.ldc2_w ix, 3)) (hp : pc + 3 = pc') (hc : Cond.constantDouble X.1.cls ix n ∈ zTB) (kk : AW l X T pc' lv (zd n :: st) M) : AW l X T pc lv (st) M := by
  subst hp
  refine AW.go (fun _ h _ => zok1d h) ?_ kk
  intro g p e s m args below meth c H locs ls Q hC hW hS hlv host hk
  exact lv_ldc2d hC.1 hC.2.1 hC.2.2.2.1 (hC.2.2.2.2.1 _ hc) hd hk
theorem aw_lconst {n : Fin 2} {x : Int} (hd : dec X pc = .ok (.lconst n, 1)) (hp : pc + 1 = pc') (hv : Int64.ofNat (n : Nat) = Int64.ofInt x) (kk : AW l X T pc' lv (zl x :: st) M) : AW l X T pc lv (st) M := by
  subst hp
  refine AW.go (fun _ h _ => zok1l h) ?_ kk
  intro g p e s m args below meth c H locs ls Q hC hW hS hlv host hk
  exact lv_lconst hC.1 hC.2.1 hd hv hk
theorem aw_iload {i : Nat} {x : Int} (hd : dec X pc = .ok (.iload i, 2)) (hp : pc + 2 = pc') (n : Nat) (hl : lv[n]? = some (i, zi x)) (kk : AW l X T pc' lv (zi x :: st) M) : AW l X T pc lv (st) M := by
  subst hp
  refine AW.go (fun _ h _ => zok1i h) ?_ kk
  intro g p e s m args below meth c H locs ls Q hC hW hS hlv host hk
  exact lv_iload hC.1 hC.2.1 hd (lv_at hlv n (zlv_at hl)) hk
theorem aw_iload_n {i : Nat} {x : Int} {f : Fin 4} (hd : dec X pc = .ok (.iload_n f, 1)) (hp : pc + 1 = pc') (hi : (f : Nat) = i) (n : Nat) (hl : lv[n]? = some (i, zi x)) (kk : AW l X T pc' lv (zi x :: st) M) : AW l X T pc lv (st) M := by
  subst hp
  refine AW.go (fun _ h _ => zok1i h) ?_ kk
  intro g p e s m args below meth c H locs ls Q hC hW hS hlv host hk
  exact lv_iload_n hC.1 hC.2.1 hd hi (lv_at hlv n (zlv_at hl)) hk
theorem aw_aload {i k j : Nat} (hd : dec X pc = .ok (.aload i, 2)) (hp : pc + 2 = pc') (n : Nat) (hl : lv[n]? = some (i, zr k j)) (hk0 : k ≠ 63) (kk : AW l X T pc' lv (zr k j :: st) M) : AW l X T pc lv (st) M := by
  subst hp
  refine AW.go (fun _ h hl0 => zok1 (hl0 _ (List.mem_of_getElem? hl)) h) ?_ kk
  intro g p e s m args below meth c H locs ls Q hC hW hS hlv host hk
  rw [List.map_cons, zcv_r hk0] at hk
  exact lv_aload hC.1 hC.2.1 hd (lv_at hlv n ((zlv_at hl).trans (by rw [zcv_r hk0]))) hk
theorem aw_aload_n {i k j : Nat} {f : Fin 4} (hd : dec X pc = .ok (.aload_n f, 1)) (hp : pc + 1 = pc') (hi : (f : Nat) = i) (n : Nat) (hl : lv[n]? = some (i, zr k j)) (hk0 : k ≠ 63) (kk : AW l X T pc' lv (zr k j :: st) M) : AW l X T pc lv (st) M := by
  subst hp
  refine AW.go (fun _ h hl0 => zok1 (hl0 _ (List.mem_of_getElem? hl)) h) ?_ kk
  intro g p e s m args below meth c H locs ls Q hC hW hS hlv host hk
  rw [List.map_cons, zcv_r hk0] at hk
  exact lv_aload_n hC.1 hC.2.1 hd hi (lv_at hlv n ((zlv_at hl).trans (by rw [zcv_r hk0]))) hk
theorem aw_lload {i : Nat} {x : Int} (hd : dec X pc = .ok (.lload i, 2)) (hp : pc + 2 = pc') (n : Nat) (hl : lv[n]? = some (i, zl x)) (kk : AW l X T pc' lv (zl x :: st) M) : AW l X T pc lv (st) M := by
  subst hp
  refine AW.go (fun _ h _ => zok1l h) ?_ kk
  intro g p e s m args below meth c H locs ls Q hC hW hS hlv host hk
  exact lv_lload hC.1 hC.2.1 hd (lv_at hlv n (zlv_at hl)) hk
theorem aw_lload_n {i : Nat} {x : Int} {f : Fin 4} (hd : dec X pc = .ok (.lload_n f, 1)) (hp : pc + 1 = pc') (hi : (f : Nat) = i) (n : Nat) (hl : lv[n]? = some (i, zl x)) (kk : AW l X T pc' lv (zl x :: st) M) : AW l X T pc lv (st) M := by
  subst hp
  refine AW.go (fun _ h _ => zok1l h) ?_ kk
  intro g p e s m args below meth c H locs ls Q hC hW hS hlv host hk
  exact lv_lload_n hC.1 hC.2.1 hd hi (lv_at hlv n (zlv_at hl)) hk
theorem aw_dload_n {i : Nat} {x : UInt64} {f : Fin 4} (hd : dec X pc = .ok (.dload_n f, 1)) (hp : pc + 1 = pc') (hi : (f : Nat) = i) (n : Nat) (hl : lv[n]? = some (i, zd x)) (kk : AW l X T pc' lv (zd x :: st) M) : AW l X T pc lv (st) M := by
  subst hp
  refine AW.go (fun _ h _ => zok1d h) ?_ kk
  intro g p e s m args below meth c H locs ls Q hC hW hS hlv host hk
  exact lv_dload_n hC.1 hC.2.1 hd hi (lv_at hlv n (zlv_at hl)) hk
theorem aw_istore {i : Nat} {x : Int} (hd : dec X pc = .ok (.istore i, 2)) (hp : pc + 2 = pc') (hn : i < X.2.2.1) (hl : zst lv i (zi x) = lv') (kk : AW l X T pc' lv' st M) : AW l X T pc lv (zi x :: st) M := by
  subst hp; subst hl
  intro g p e s m args below meth c H locs ls hC hW hS hlv hol host
  exact lv_istore hC.1 hC.2.1 hd hlv hn (zst_lv1 (v := zi x) rfl) (fun ls' hls' => kk g p e s m args below meth c H locs ls' hC hW hS hls' (zst_ok (by trivial) hol) (zokt host))
theorem aw_istore_n {i : Nat} {x : Int} {f : Fin 4} (hd : dec X pc = .ok (.istore_n f, 1)) (hp : pc + 1 = pc') (hi : (f : Nat) = i) (hn : i < X.2.2.1) (hl : zst lv i (zi x) = lv') (kk : AW l X T pc' lv' st M) : AW l X T pc lv (zi x :: st) M := by
  subst hp; subst hl
  intro g p e s m args below meth c H locs ls hC hW hS hlv hol host
  exact lv_istore_n hC.1 hC.2.1 hd hi hlv hn (zst_lv1 (v := zi x) rfl) (fun ls' hls' => kk g p e s m args below meth c H locs ls' hC hW hS hls' (zst_ok (by trivial) hol) (zokt host))
theorem aw_lstore {i : Nat} {x : Int} (hd : dec X pc = .ok (.lstore i, 2)) (hp : pc + 2 = pc') (hn : i + 1 < X.2.2.1) (hl : zst lv i (zl x) = lv') (kk : AW l X T pc' lv' st M) : AW l X T pc lv (zl x :: st) M := by
  subst hp; subst hl
  intro g p e s m args below meth c H locs ls hC hW hS hlv hol host
  exact lv_lstore hC.1 hC.2.1 hd hlv hn (zst_lv2 (v := zl x) rfl) (fun ls' hls' => kk g p e s m args below meth c H locs ls' hC hW hS hls' (zst_ok (by trivial) hol) (zokt host))
theorem aw_lstore_n {i : Nat} {x : Int} {f : Fin 4} (hd : dec X pc = .ok (.lstore_n f, 1)) (hp : pc + 1 = pc') (hi : (f : Nat) = i) (hn : i + 1 < X.2.2.1) (hl : zst lv i (zl x) = lv') (kk : AW l X T pc' lv' st M) : AW l X T pc lv (zl x :: st) M := by
  subst hp; subst hl
  intro g p e s m args below meth c H locs ls hC hW hS hlv hol host
  exact lv_lstore_n hC.1 hC.2.1 hd hi hlv hn (zst_lv2 (v := zl x) rfl) (fun ls' hls' => kk g p e s m args below meth c H locs ls' hC hW hS hls' (zst_ok (by trivial) hol) (zokt host))
theorem aw_dstore_n {i : Nat} {x : UInt64} {f : Fin 4} (hd : dec X pc = .ok (.dstore_n f, 1)) (hp : pc + 1 = pc') (hi : (f : Nat) = i) (hn : i + 1 < X.2.2.1) (hl : zst lv i (zd x) = lv') (kk : AW l X T pc' lv' st M) : AW l X T pc lv (zd x :: st) M := by
  subst hp; subst hl
  intro g p e s m args below meth c H locs ls hC hW hS hlv hol host
  exact lv_dstore_n hC.1 hC.2.1 hd hi hlv hn (zst_lv2 (v := zd x) rfl) (fun ls' hls' => kk g p e s m args below meth c H locs ls' hC hW hS hls' (zst_ok (by trivial) hol) (zokt host))
theorem aw_astore_n {i : Nat} {k j : Nat} {f : Fin 4} (hk0 : k ≠ 63) (hd : dec X pc = .ok (.astore_n f, 1)) (hp : pc + 1 = pc') (hi : (f : Nat) = i) (hn : i < X.2.2.1) (hl : zst lv i (zr k j) = lv') (kk : AW l X T pc' lv' st M) : AW l X T pc lv (zr k j :: st) M := by
  subst hp; subst hl
  intro g p e s m args below meth c H locs ls hC hW hS hlv hol host
  rw [List.map_cons, zcv_r hk0]
  exact lv_astore_n hC.1 hC.2.1 hd hi hlv hn (by rw [← zst_lv1 rfl, zcv_r hk0]) (fun ls' hls' => kk g p e s m args below meth c H locs ls' hC hW hS hls' (zst_ok (host _ List.mem_cons_self) hol) (zokt host))
theorem aw_iinc {i : Nat} {x d y : Int} (hd : dec X pc = .ok (.iinc i d, 3)) (hp : pc + 3 = pc') (n : Nat) (hl : lv[n]? = some (i, zi x)) (hn : i < X.2.2.1) (hy : x + d = y) (hl' : zst lv i (zi y) = lv') (kk : AW l X T pc' lv' st M) : AW l X T pc lv st M := by
  subst hp; subst hl'; subst hy
  intro g p e s m args below meth c H locs ls hC hW hS hlv hol host
  exact lv_iinc (v := Int32.ofInt (x + d)) hC.1 hC.2.1 hd hlv (zlv_at hl) (by rw [Int32.ofInt_add]) hn (zst_lv1 (v := zi (x + d)) rfl) (fun ls' hls' => kk g p e s m args below meth c H locs ls' hC hW hS hls' (zst_ok (by trivial) hol) host)
theorem aw_iadd {x y : Int} (hd : dec X pc = .ok (.iadd, 1)) (hp : pc + 1 = pc') (kk : AW l X T pc' lv (zi (x + y) :: st) M) : AW l X T pc lv (zi y :: zi x :: st) M := by
  subst hp
  refine AW.go (fun _ h _ => zok1i (zokt (zokt h))) ?_ kk
  intro g p e s m args below meth c H locs ls Q hC hW hS hlv host hk
  refine lv_iadd hC.1 hC.2.1 hd ?_
  rw [List.map_cons, zcv, Int32.ofInt_add] at hk
  exact hk
theorem aw_isub {x y : Int} (hd : dec X pc = .ok (.isub, 1)) (hp : pc + 1 = pc') (kk : AW l X T pc' lv (zi (x - y) :: st) M) : AW l X T pc lv (zi y :: zi x :: st) M := by
  subst hp
  refine AW.go (fun _ h _ => zok1i (zokt (zokt h))) ?_ kk
  intro g p e s m args below meth c H locs ls Q hC hW hS hlv host hk
  refine lv_isub hC.1 hC.2.1 hd ?_
  rw [List.map_cons, zcv, Int32.ofInt_sub] at hk
  exact hk
theorem aw_imul {x y : Int} (hd : dec X pc = .ok (.imul, 1)) (hp : pc + 1 = pc') (kk : AW l X T pc' lv (zi (x * y) :: st) M) : AW l X T pc lv (zi y :: zi x :: st) M := by
  subst hp
  refine AW.go (fun _ h _ => zok1i (zokt (zokt h))) ?_ kk
  intro g p e s m args below meth c H locs ls Q hC hW hS hlv host hk
  refine lv_imul hC.1 hC.2.1 hd ?_
  rw [List.map_cons, zcv, Int32.ofInt_mul] at hk
  exact hk
theorem aw_ladd {x y : Int} (hd : dec X pc = .ok (.ladd, 1)) (hp : pc + 1 = pc') (kk : AW l X T pc' lv (zl (x + y) :: st) M) : AW l X T pc lv (zl y :: zl x :: st) M := by
  subst hp
  refine AW.go (fun _ h _ => zok1l (zokt (zokt h))) ?_ kk
  intro g p e s m args below meth c H locs ls Q hC hW hS hlv host hk
  refine lv_ladd hC.1 hC.2.1 hd ?_
  rw [List.map_cons, zcv, Int64.ofInt_add] at hk
  exact hk
theorem aw_lsub {x y : Int} (hd : dec X pc = .ok (.lsub, 1)) (hp : pc + 1 = pc') (kk : AW l X T pc' lv (zl (x - y) :: st) M) : AW l X T pc lv (zl y :: zl x :: st) M := by
  subst hp
  refine AW.go (fun _ h _ => zok1l (zokt (zokt h))) ?_ kk
  intro g p e s m args below meth c H locs ls Q hC hW hS hlv host hk
  refine lv_lsub hC.1 hC.2.1 hd ?_
  rw [List.map_cons, zcv, Int64.ofInt_sub] at hk
  exact hk
theorem aw_lmul {x y : Int} (hd : dec X pc = .ok (.lmul, 1)) (hp : pc + 1 = pc') (kk : AW l X T pc' lv (zl (x * y) :: st) M) : AW l X T pc lv (zl y :: zl x :: st) M := by
  subst hp
  refine AW.go (fun _ h _ => zok1l (zokt (zokt h))) ?_ kk
  intro g p e s m args below meth c H locs ls Q hC hW hS hlv host hk
  refine lv_lmul hC.1 hC.2.1 hd ?_
  rw [List.map_cons, zcv, Int64.ofInt_mul] at hk
  exact hk
theorem aw_ineg {x : Int} (hd : dec X pc = .ok (.ineg, 1)) (hp : pc + 1 = pc') (kk : AW l X T pc' lv (zi (-x) :: st) M) : AW l X T pc lv (zi x :: st) M := by
  subst hp
  refine AW.go (fun _ h _ => zok1i (zokt h)) ?_ kk
  intro g p e s m args below meth c H locs ls Q hC hW hS hlv host hk
  refine lv_ineg hC.1 hC.2.1 hd ?_
  rw [List.map_cons, zcv, Int32.ofInt_neg] at hk
  exact hk
theorem zne0 {y : Int} (hy : zI y) (h0 : y ≠ 0) : ¬ Int32.ofInt y = 0 := fun h => h0 ((zI_eq hy zI0).mp h)
theorem zne0J {y : Int} (hy : zJ y) (h0 : y ≠ 0) : ¬ Int64.ofInt y = 0 := fun h => h0 ((zJ_eq hy (by omega)).mp h)
theorem aw_idiv {x y : Int} (hd : dec X pc = .ok (.idiv, 1)) (hp : pc + 1 = pc') (hx : zI x) (hy : zI y) (h0 : y ≠ 0) (kk : AW l X T pc' lv (zi (x.tdiv y) :: st) M) : AW l X T pc lv (zi y :: zi x :: st) M := by
  subst hp
  refine AW.go (fun _ h _ => zok1i (zokt (zokt h))) ?_ kk
  intro g p e s m args below meth c H locs ls Q hC hW hS hlv host hk
  refine lv_idiv hC.1 hC.2.1 hd (zne0 hy h0) ?_
  rw [List.map_cons, zcv, Int32.ofInt_tdiv (by show -2147483648 ≤ x; omega) (by show x ≤ 2147483647; omega) (by show -2147483648 ≤ y; omega) (by show y ≤ 2147483647; omega)] at hk
  exact hk
theorem aw_irem {x y : Int} (hd : dec X pc = .ok (.irem, 1)) (hp : pc + 1 = pc') (hx : zI x) (hy : zI y) (h0 : y ≠ 0) (kk : AW l X T pc' lv (zi (x.tmod y) :: st) M) : AW l X T pc lv (zi y :: zi x :: st) M := by
  subst hp
  refine AW.go (fun _ h _ => zok1i (zokt (zokt h))) ?_ kk
  intro g p e s m args below meth c H locs ls Q hC hW hS hlv host hk
  refine lv_irem hC.1 hC.2.1 hd (zne0 hy h0) ?_
  rw [List.map_cons, zcv, show x.tmod y = x - x.tdiv y * y by rw [Int.tmod_def, Int.mul_comm], Int32.ofInt_sub, Int32.ofInt_mul, Int32.ofInt_tdiv (by show -2147483648 ≤ x; omega) (by show x ≤ 2147483647; omega) (by show -2147483648 ≤ y; omega) (by show y ≤ 2147483647; omega)] at hk
  exact hk
theorem aw_ldiv {x y : Int} (hd : dec X pc = .ok (.ldiv, 1)) (hp : pc + 1 = pc') (hx : zJ x) (hy : zJ y) (h0 : y ≠ 0) (kk : AW l X T pc' lv (zl (x.tdiv y) :: st) M) : AW l X T pc lv (zl y :: zl x :: st) M := by
  subst hp
  refine AW.go (fun _ h _ => zok1l (zokt (zokt h))) ?_ kk
  intro g p e s m args below meth c H locs ls Q hC hW hS hlv host hk
  refine lv_ldiv hC.1 hC.2.1 hd (zne0J hy h0) ?_
  rw [List.map_cons, zcv, Int64.ofInt_tdiv (by show -9223372036854775808 ≤ x; omega) (by show x ≤ 9223372036854775807; omega) (by show -9223372036854775808 ≤ y; omega) (by show y ≤ 9223372036854775807; omega)] at hk
  exact hk
theorem aw_lrem {x y : Int} (hd : dec X pc = .ok (.lrem, 1)) (hp : pc + 1 = pc') (hx : zJ x) (hy : zJ y) (h0 : y ≠ 0) (kk : AW l X T pc' lv (zl (x.tmod y) :: st) M) : AW l X T pc lv (zl y :: zl x :: st) M := by
  subst hp
  refine AW.go (fun _ h _ => zok1l (zokt (zokt h))) ?_ kk
  intro g p e s m args below meth c H locs ls Q hC hW hS hlv host hk
  refine lv_lrem hC.1 hC.2.1 hd (zne0J hy h0) ?_
  rw [List.map_cons, zcv, show x.tmod y = x - x.tdiv y * y by rw [Int.tmod_def, Int.mul_comm], Int64.ofInt_sub, Int64.ofInt_mul, Int64.ofInt_tdiv (by show -9223372036854775808 ≤ x; omega) (by show x ≤ 9223372036854775807; omega) (by show -9223372036854775808 ≤ y; omega) (by show y ≤ 9223372036854775807; omega)] at hk
  exact hk
theorem aw_i2l {x : Int} (hd : dec X pc = .ok (.i2l, 1)) (hp : pc + 1 = pc') (hx : zI x) (kk : AW l X T pc' lv (zl x :: st) M) : AW l X T pc lv (zi x :: st) M := by
  subst hp
  refine AW.go (fun _ h _ => zok1l (zokt h)) ?_ kk
  intro g p e s m args below meth c H locs ls Q hC hW hS hlv host hk
  refine lv_i2l (v := Int64.ofInt x) hC.1 hC.2.1 hd ?_ hk
  exact Int32.toInt64_ofInt (by show -2147483648 ≤ x; omega) (by show x ≤ 2147483647; omega)
theorem aw_i2b {x y : Int} (hd : dec X pc = .ok (.i2b, 1)) (hp : pc + 1 = pc') (hv : (Int32.ofInt x).toInt8.toInt32 = Int32.ofInt y) (kk : AW l X T pc' lv (zi y :: st) M) : AW l X T pc lv (zi x :: st) M := by
  subst hp
  refine AW.go (fun _ h _ => zok1i (zokt h)) ?_ kk
  intro g p e s m args below meth c H locs ls Q hC hW hS hlv host hk
  exact lv_i2b (v := Int32.ofInt y) hC.1 hC.2.1 hd hv hk
theorem aw_iand {x y z : Int} (hd : dec X pc = .ok (.iand, 1)) (hp : pc + 1 = pc') (hv : Int32.ofInt x &&& Int32.ofInt y = Int32.ofInt z) (kk : AW l X T pc' lv (zi z :: st) M) : AW l X T pc lv (zi y :: zi x :: st) M := by
  subst hp
  refine AW.go (fun _ h _ => zok1i (zokt (zokt h))) ?_ kk
  intro g p e s m args below meth c H locs ls Q hC hW hS hlv host hk
  refine lv_iand hC.1 hC.2.1 hd ?_
  rw [List.map_cons, zcv, ← hv] at hk
  exact hk
theorem aw_ior {x y z : Int} (hd : dec X pc = .ok (.ior, 1)) (hp : pc + 1 = pc') (hv : Int32.ofInt x ||| Int32.ofInt y = Int32.ofInt z) (kk : AW l X T pc' lv (zi z :: st) M) : AW l X T pc lv (zi y :: zi x :: st) M := by
  subst hp
  refine AW.go (fun _ h _ => zok1i (zokt (zokt h))) ?_ kk
  intro g p e s m args below meth c H locs ls Q hC hW hS hlv host hk
  refine lv_ior hC.1 hC.2.1 hd ?_
  rw [List.map_cons, zcv, ← hv] at hk
  exact hk
theorem aw_ishl {x y z : Int} (hd : dec X pc = .ok (.ishl, 1)) (hp : pc + 1 = pc') (hv : Int32.ofInt x <<< (Int32.ofInt y &&& 31) = Int32.ofInt z) (kk : AW l X T pc' lv (zi z :: st) M) : AW l X T pc lv (zi y :: zi x :: st) M := by
  subst hp
  refine AW.go (fun _ h _ => zok1i (zokt (zokt h))) ?_ kk
  intro g p e s m args below meth c H locs ls Q hC hW hS hlv host hk
  refine lv_ishl hC.1 hC.2.1 hd ?_
  rw [List.map_cons, zcv, ← hv] at hk
  exact hk
theorem aw_ishr {x y z : Int} (hd : dec X pc = .ok (.ishr, 1)) (hp : pc + 1 = pc') (hv : Int32.ofInt x >>> (Int32.ofInt y &&& 31) = Int32.ofInt z) (kk : AW l X T pc' lv (zi z :: st) M) : AW l X T pc lv (zi y :: zi x :: st) M := by
  subst hp
  refine AW.go (fun _ h _ => zok1i (zokt (zokt h))) ?_ kk
  intro g p e s m args below meth c H locs ls Q hC hW hS hlv host hk
  refine lv_ishr hC.1 hC.2.1 hd ?_
  rw [List.map_cons, zcv, ← hv] at hk
  exact hk
theorem aw_iushr {x y z : Int} (hd : dec X pc = .ok (.iushr, 1)) (hp : pc + 1 = pc') (hv : ((Int32.ofInt x).toUInt32 >>> ((Int32.ofInt y).toUInt32 &&& Int32.toUInt32 31)).toInt32 = Int32.ofInt z) (kk : AW l X T pc' lv (zi z :: st) M) : AW l X T pc lv (zi y :: zi x :: st) M := by
  subst hp
  refine AW.go (fun _ h _ => zok1i (zokt (zokt h))) ?_ kk
  intro g p e s m args below meth c H locs ls Q hC hW hS hlv host hk
  exact lv_iushr (v := Int32.ofInt z) hC.1 hC.2.1 hd hv hk
theorem aw_lor {x y z : Int} (hd : dec X pc = .ok (.lor, 1)) (hp : pc + 1 = pc') (hv : Int64.ofInt x ||| Int64.ofInt y = Int64.ofInt z) (kk : AW l X T pc' lv (zl z :: st) M) : AW l X T pc lv (zl y :: zl x :: st) M := by
  subst hp
  refine AW.go (fun _ h _ => zok1l (zokt (zokt h))) ?_ kk
  intro g p e s m args below meth c H locs ls Q hC hW hS hlv host hk
  refine lv_lor hC.1 hC.2.1 hd ?_
  rw [List.map_cons, zcv, ← hv] at hk
  exact hk
theorem aw_lshl {x y z : Int} (hd : dec X pc = .ok (.lshl, 1)) (hp : pc + 1 = pc') (hv : Int64.ofInt x <<< ((Int32.ofInt y).toInt64 &&& 63) = Int64.ofInt z) (kk : AW l X T pc' lv (zl z :: st) M) : AW l X T pc lv (zi y :: zl x :: st) M := by
  subst hp
  refine AW.go (fun _ h _ => zok1l (zokt (zokt h))) ?_ kk
  intro g p e s m args below meth c H locs ls Q hC hW hS hlv host hk
  exact lv_lshl (v := Int64.ofInt z) hC.1 hC.2.1 hd hv hk
theorem aw_i2d {x : Int} (hd : dec X pc = .ok (.i2d, 1)) (hp : pc + 1 = pc') (kk : AW l X T pc' lv (zd (FP.i2d (Int32.ofInt x)) :: st) M) : AW l X T pc lv (zi x :: st) M := by
  subst hp
  refine AW.go (fun _ h _ => zok1d (zokt h)) ?_ kk
  intro g p e s m args below meth c H locs ls Q hC hW hS hlv host hk
  exact lv_i2d hC.1 hC.2.1 hd hk
theorem aw_d2l {x : UInt64} {y : Int} (hd : dec X pc = .ok (.d2l, 1)) (hp : pc + 1 = pc') (hv : FP.d2l x = Int64.ofInt y) (kk : AW l X T pc' lv (zl y :: st) M) : AW l X T pc lv (zd x :: st) M := by
  subst hp
  refine AW.go (fun _ h _ => zok1l (zokt h)) ?_ kk
  intro g p e s m args below meth c H locs ls Q hC hW hS hlv host hk
  refine lv_d2l hC.1 hC.2.1 hd ?_
  rw [hv]
  exact hk
theorem aw_ddiv {x y z : UInt64} (hd : dec X pc = .ok (.ddiv, 1)) (hp : pc + 1 = pc') (hv : FP.ddiv x y = z) (hn : vf_n64 (FP.ddiv x y)) (kk : AW l X T pc' lv (zd z :: st) M) : AW l X T pc lv (zd y :: zd x :: st) M := by
  subst hp
  refine AW.go (fun _ h _ => zok1d (zokt (zokt h))) ?_ kk
  intro g p e s m args below meth c H locs ls Q hC hW hS hlv host hk
  subst hv
  exact lv_ddiv hC.1 hC.2.1 hd hn hk
theorem aw_dmul {x y z : UInt64} (hd : dec X pc = .ok (.dmul, 1)) (hp : pc + 1 = pc') (hv : FP.dmul x y = z) (hn : vf_n64 (FP.dmul x y)) (kk : AW l X T pc' lv (zd z :: st) M) : AW l X T pc lv (zd y :: zd x :: st) M := by
  subst hp
  refine AW.go (fun _ h _ => zok1d (zokt (zokt h))) ?_ kk
  intro g p e s m args below meth c H locs ls Q hC hW hS hlv host hk
  subst hv
  exact lv_dmul hC.1 hC.2.1 hd hn hk
theorem aw_dsub {x y z : UInt64} (hd : dec X pc = .ok (.dsub, 1)) (hp : pc + 1 = pc') (hv : FP.dsub x y = z) (hn : vf_n64 (FP.dsub x y)) (kk : AW l X T pc' lv (zd z :: st) M) : AW l X T pc lv (zd y :: zd x :: st) M := by
  subst hp
  refine AW.go (fun _ h _ => zok1d (zokt (zokt h))) ?_ kk
  intro g p e s m args below meth c H locs ls Q hC hW hS hlv host hk
  subst hv
  exact lv_dsub hC.1 hC.2.1 hd hn hk
theorem aw_dcmp {op : CmpOp} {x y : UInt64} {z : Int} (hd : dec X pc = .ok (.dcmp op, 1)) (hp : pc + 1 = pc') (hv : Op.cmpValue (FP.dcmp x y) op = Int32.ofInt z) (kk : AW l X T pc' lv (zi z :: st) M) : AW l X T pc lv (zd y :: zd x :: st) M := by
  subst hp
  refine AW.go (fun _ h _ => zok1i (zokt (zokt h))) ?_ kk
  intro g p e s m args below meth c H locs ls Q hC hW hS hlv host hk
  refine lv_dcmp hC.1 hC.2.1 hd ?_
  rw [hv]
  exact hk
theorem aw_pop {v : zV} (hd : dec X pc = .ok (.pop, 1)) (hp : pc + 1 = pc') (hv : zcat v = 1) (kk : AW l X T pc' lv (st) M) : AW l X T pc lv (v :: st) M := by
  subst hp
  refine AW.go (fun _ h _ => zokt h) ?_ kk
  intro g p e s m args below meth c H locs ls Q hC hW hS hlv host hk
  refine lv_pop hC.1 hC.2.1 hd ?_ hk
  rw [zcat_cv]; exact hv
theorem aw_dup {v : zV} (hd : dec X pc = .ok (.dup, 1)) (hp : pc + 1 = pc') (hv : zcat v = 1) (kk : AW l X T pc' lv (v :: v :: st) M) : AW l X T pc lv (v :: st) M := by
  subst hp
  refine AW.go (fun _ h _ => zok1 (h v List.mem_cons_self) h) ?_ kk
  intro g p e s m args below meth c H locs ls Q hC hW hS hlv host hk
  refine lv_dup hC.1 hC.2.1 hd ?_ hk
  rw [zcat_cv]; exact hv
theorem aw_goto {off : Int} (hd : dec X pc = .ok (.goto off, 3)) (ht : (pc : Int) + off = (pc' : Int)) (kk : AW l X T pc' lv st M) : AW l X T pc lv st M := by
  refine AW.go (fun _ h _ => h) ?_ kk
  intro g p e s m args below meth c H locs ls Q hC hW hS hlv host hk
  exact lv_goto hC.1 hC.2.1 hd ht hk
theorem aw_icmp_eq {off : Int} {tgt : Nat} {x y : Int} (hd : dec X pc = .ok (.if_icmp .eq off, 3)) (ht : (pc : Int) + off = (tgt : Int)) (hp : pc + 3 = pc') (hx : zI x) (hy : zI y) (kt : x = y → AW l X T tgt lv st M) (kf : x ≠ y → AW l X T pc' lv st M) : AW l X T pc lv (zi y :: zi x :: st) M := by
  subst hp
  intro g p e s m args below meth c H locs ls hC hW hS hlv hol host
  exact lv_icmp_eq hC.1 hC.2.1 hd ht (fun h => kt ((zI_eq hx hy).mp h) g p e s m args below meth c H locs ls hC hW hS hlv hol (zokt (zokt host))) (fun h => kf (fun q => h ((zI_eq hx hy).mpr q)) g p e s m args below meth c H locs ls hC hW hS hlv hol (zokt (zokt host)))
theorem aw_if_eq {off : Int} {tgt : Nat} {x : Int} (hd : dec X pc = .ok (.ifCond .eq off, 3)) (ht : (pc : Int) + off = (tgt : Int)) (hp : pc + 3 = pc') (hx : zI x) (kt : x = 0 → AW l X T tgt lv st M) (kf : x ≠ 0 → AW l X T pc' lv st M) : AW l X T pc lv (zi x :: st) M := by
  subst hp
  intro g p e s m args below meth c H locs ls hC hW hS hlv hol host
  have hy := zI0
  exact lv_if_eq hC.1 hC.2.1 hd ht (fun h => kt ((zI_eq hx hy).mp h) g p e s m args below meth c H locs ls hC hW hS hlv hol (zokt host)) (fun h => kf (fun q => h ((zI_eq hx hy).mpr q)) g p e s m args below meth c H locs ls hC hW hS hlv hol (zokt host))
theorem aw_icmp_ne {off : Int} {tgt : Nat} {x y : Int} (hd : dec X pc = .ok (.if_icmp .ne off, 3)) (ht : (pc : Int) + off = (tgt : Int)) (hp : pc + 3 = pc') (hx : zI x) (hy : zI y) (kt : x ≠ y → AW l X T tgt lv st M) (kf : x = y → AW l X T pc' lv st M) : AW l X T pc lv (zi y :: zi x :: st) M := by
  subst hp
  intro g p e s m args below meth c H locs ls hC hW hS hlv hol host
  exact lv_icmp_ne hC.1 hC.2.1 hd ht (fun h => kt (fun q => h ((zI_eq hx hy).mpr q)) g p e s m args below meth c H locs ls hC hW hS hlv hol (zokt (zokt host))) (fun h => kf ((zI_eq hx hy).mp h) g p e s m args below meth c H locs ls hC hW hS hlv hol (zokt (zokt host)))
theorem aw_if_ne {off : Int} {tgt : Nat} {x : Int} (hd : dec X pc = .ok (.ifCond .ne off, 3)) (ht : (pc : Int) + off = (tgt : Int)) (hp : pc + 3 = pc') (hx : zI x) (kt : x ≠ 0 → AW l X T tgt lv st M) (kf : x = 0 → AW l X T pc' lv st M) : AW l X T pc lv (zi x :: st) M := by
  subst hp
  intro g p e s m args below meth c H locs ls hC hW hS hlv hol host
  have hy := zI0
  exact lv_if_ne hC.1 hC.2.1 hd ht (fun h => kt (fun q => h ((zI_eq hx hy).mpr q)) g p e s m args below meth c H locs ls hC hW hS hlv hol (zokt host)) (fun h => kf ((zI_eq hx hy).mp h) g p e s m args below meth c H locs ls hC hW hS hlv hol (zokt host))
theorem aw_icmp_lt {off : Int} {tgt : Nat} {x y : Int} (hd : dec X pc = .ok (.if_icmp .lt off, 3)) (ht : (pc : Int) + off = (tgt : Int)) (hp : pc + 3 = pc') (hx : zI x) (hy : zI y) (kt : x < y → AW l X T tgt lv st M) (kf : y ≤ x → AW l X T pc' lv st M) : AW l X T pc lv (zi y :: zi x :: st) M := by
  subst hp
  intro g p e s m args below meth c H locs ls hC hW hS hlv hol host
  exact lv_icmp_lt hC.1 hC.2.1 hd ht (fun h => kt ((zI_lt hx hy).mp h) g p e s m args below meth c H locs ls hC hW hS hlv hol (zokt (zokt host))) (fun h => kf (by have := mt (zI_lt hx hy).mpr h; omega) g p e s m args below meth c H locs ls hC hW hS hlv hol (zokt (zokt host)))
theorem aw_if_lt {off : Int} {tgt : Nat} {x : Int} (hd : dec X pc = .ok (.ifCond .lt off, 3)) (ht : (pc : Int) + off = (tgt : Int)) (hp : pc + 3 = pc') (hx : zI x) (kt : x < 0 → AW l X T tgt lv st M) (kf : 0 ≤ x → AW l X T pc' lv st M) : AW l X T pc lv (zi x :: st) M := by
  subst hp
  intro g p e s m args below meth c H locs ls hC hW hS hlv hol host
  have hy := zI0
  exact lv_if_lt hC.1 hC.2.1 hd ht (fun h => kt ((zI_lt hx hy).mp h) g p e s m args below meth c H locs ls hC hW hS hlv hol (zokt host)) (fun h => kf (by have := mt (zI_lt hx hy).mpr h; omega) g p e s m args below meth c H locs ls hC hW hS hlv hol (zokt host))
theorem aw_icmp_ge {off : Int} {tgt : Nat} {x y : Int} (hd : dec X pc = .ok (.if_icmp .ge off, 3)) (ht : (pc : Int) + off = (tgt : Int)) (hp : pc + 3 = pc') (hx : zI x) (hy : zI y) (kt : y ≤ x → AW l X T tgt lv st M) (kf : x < y → AW l X T pc' lv st M) : AW l X T pc lv (zi y :: zi x :: st) M := by
  subst hp
  intro g p e s m args below meth c H locs ls hC hW hS hlv hol host
  exact lv_icmp_ge hC.1 hC.2.1 hd ht (fun h => kt ((zI_le hy hx).mp h) g p e s m args below meth c H locs ls hC hW hS hlv hol (zokt (zokt host))) (fun h => kf (by have := mt (zI_le hy hx).mpr h; omega) g p e s m args below meth c H locs ls hC hW hS hlv hol (zokt (zokt host)))
theorem aw_if_ge {off : Int} {tgt : Nat} {x : Int} (hd : dec X pc = .ok (.ifCond .ge off, 3)) (ht : (pc : Int) + off = (tgt : Int)) (hp : pc + 3 = pc') (hx : zI x) (kt : 0 ≤ x → AW l X T tgt lv st M) (kf : x < 0 → AW l X T pc' lv st M) : AW l X T pc lv (zi x :: st) M := by
  subst hp
  intro g p e s m args below meth c H locs ls hC hW hS hlv hol host
  have hy := zI0
  exact lv_if_ge hC.1 hC.2.1 hd ht (fun h => kt ((zI_le hy hx).mp h) g p e s m args below meth c H locs ls hC hW hS hlv hol (zokt host)) (fun h => kf (by have := mt (zI_le hy hx).mpr h; omega) g p e s m args below meth c H locs ls hC hW hS hlv hol (zokt host))
theorem aw_icmp_gt {off : Int} {tgt : Nat} {x y : Int} (hd : dec X pc = .ok (.if_icmp .gt off, 3)) (ht : (pc : Int) + off = (tgt : Int)) (hp : pc + 3 = pc') (hx : zI x) (hy : zI y) (kt : y < x → AW l X T tgt lv st M) (kf : x ≤ y → AW l X T pc' lv st M) : AW l X T pc lv (zi y :: zi x :: st) M := by
  subst hp
  intro g p e s m args below meth c H locs ls hC hW hS hlv hol host
  exact lv_icmp_gt hC.1 hC.2.1 hd ht (fun h => kt ((zI_lt hy hx).mp h) g p e s m args below meth c H locs ls hC hW hS hlv hol (zokt (zokt host))) (fun h => kf (by have := mt (zI_lt hy hx).mpr h; omega) g p e s m args below meth c H locs ls hC hW hS hlv hol (zokt (zokt host)))
theorem aw_if_gt {off : Int} {tgt : Nat} {x : Int} (hd : dec X pc = .ok (.ifCond .gt off, 3)) (ht : (pc : Int) + off = (tgt : Int)) (hp : pc + 3 = pc') (hx : zI x) (kt : 0 < x → AW l X T tgt lv st M) (kf : x ≤ 0 → AW l X T pc' lv st M) : AW l X T pc lv (zi x :: st) M := by
  subst hp
  intro g p e s m args below meth c H locs ls hC hW hS hlv hol host
  have hy := zI0
  exact lv_if_gt hC.1 hC.2.1 hd ht (fun h => kt ((zI_lt hy hx).mp h) g p e s m args below meth c H locs ls hC hW hS hlv hol (zokt host)) (fun h => kf (by have := mt (zI_lt hy hx).mpr h; omega) g p e s m args below meth c H locs ls hC hW hS hlv hol (zokt host))
theorem aw_icmp_le {off : Int} {tgt : Nat} {x y : Int} (hd : dec X pc = .ok (.if_icmp .le off, 3)) (ht : (pc : Int) + off = (tgt : Int)) (hp : pc + 3 = pc') (hx : zI x) (hy : zI y) (kt : x ≤ y → AW l X T tgt lv st M) (kf : y < x → AW l X T pc' lv st M) : AW l X T pc lv (zi y :: zi x :: st) M := by
  subst hp
  intro g p e s m args below meth c H locs ls hC hW hS hlv hol host
  exact lv_icmp_le hC.1 hC.2.1 hd ht (fun h => kt ((zI_le hx hy).mp h) g p e s m args below meth c H locs ls hC hW hS hlv hol (zokt (zokt host))) (fun h => kf (by have := mt (zI_le hx hy).mpr h; omega) g p e s m args below meth c H locs ls hC hW hS hlv hol (zokt (zokt host)))
theorem aw_if_le {off : Int} {tgt : Nat} {x : Int} (hd : dec X pc = .ok (.ifCond .le off, 3)) (ht : (pc : Int) + off = (tgt : Int)) (hp : pc + 3 = pc') (hx : zI x) (kt : x ≤ 0 → AW l X T tgt lv st M) (kf : 0 < x → AW l X T pc' lv st M) : AW l X T pc lv (zi x :: st) M := by
  subst hp
  intro g p e s m args below meth c H locs ls hC hW hS hlv hol host
  have hy := zI0
  exact lv_if_le hC.1 hC.2.1 hd ht (fun h => kt ((zI_le hx hy).mp h) g p e s m args below meth c H locs ls hC hW hS hlv hol (zokt host)) (fun h => kf (by have := mt (zI_le hx hy).mpr h; omega) g p e s m args below meth c H locs ls hC hW hS hlv hol (zokt host))
end
end
section
/-! ===== rows: arrays, switches ===== -/
abbrev zaG (k t : Nat) : Prop := (¬ (60 ≤ k ∧ k < 64) ∧ k ≠ 97 ∧ ¬ zob k) ∧ zety k = t
/-- kind k is an array of element kind t, one of the fixed ones; one of those that are made -/
abbrev zar (k t : Nat) : Prop := k < 60 ∧ ¬ k < 10 ∧ zety k = t
abbrev zad (k t : Nat) : Prop := (68 ≤ k ∧ k < 96) ∧ zety k = t
theorem zar.G {k t : Nat} (h : zar k t) : zaG k t := ⟨⟨by omega, by omega, by unfold zob; omega⟩, h.2.2⟩
theorem zst_na {k t : Nat} {j x : Int} {M : zM} (hk : zaG k t) (ht : t ≠ 5 := by decide) : ∀ k', zrp k j = some k' → x < M 97 0 k' := by
  intro k' h
  rw [zrp_na hk.1.2.2 (by rw [hk.2]; exact ht)] at h
  cases h
theorem zad.G {k t : Nat} (h : zad k t) : zaG k t := ⟨⟨by omega, by omega, by unfold zob; omega⟩, h.2⟩
theorem zent_arr {g : zG} {M : zM} {k i : Nat} (hk : ¬ zob k) : zent g M k i = .inl (g.2.2.1 (zety k), zln M k i, zarr g M k i) := if_neg hk
theorem zarr_i {g : zG} {M : zM} {k i : Nat} (h : zety k < 3) : zarr g M k i = .inl fun j : Nat => Int32.ofInt (M k i (j : Int)) := by
  unfold zarr
  rw [if_neg (by omega), if_neg (by omega), if_neg (by omega)]
theorem zarr_l {g : zG} {M : zM} {k i : Nat} (h : zety k = 3) : zarr g M k i = .inr (.inl fun j : Nat => Int64.ofInt (M k i (j : Int))) := by
  unfold zarr
  rw [if_pos h]
theorem zarr_q {g : zG} {M : zM} {k i : Nat} (h : zety k = 4) : zarr g M k i = .inr (.inr (.inr (.inr fun j => some (g.2.1 1 (j + zoff k))))) := by
  unfold zarr
  rw [if_neg (by omega), if_pos h]
theorem zarr_r {g : zG} {M : zM} {k i : Nat} (h : zety k = 5) : zarr g M k i = .inr (.inr (.inr (.inr fun j : Nat => zdo g (zel k) (M k i (j : Int))))) := by
  unfold zarr
  rw [if_neg (by omega), if_neg (by omega), if_pos h]
theorem zupd {M : zM} {k i : Nat} {j x : Int} (h : 0 ≤ j ∧ j < 2000000000) : (upd (fun j : Nat => Int32.ofInt (M k i (j : Int))) (Int32.ofInt j).toNatClampNeg (Int32.ofInt x)) = fun n : Nat => Int32.ofInt (zu M k i j x k i (n : Int)) := by
  funext n
  have e := zcl_of h
  by_cases hn : n = (Int32.ofInt j).toNatClampNeg
  · rw [hn]
    rw [pk_us, e, zu_s]
  · rw [pk_un hn, zu_n (by rintro ⟨-, -, h3⟩; exact hn (by omega))]
theorem zupdL {M : zM} {k i : Nat} {j x : Int} (h : 0 ≤ j ∧ j < 2000000000) : (vp_updL (fun j : Nat => Int64.ofInt (M k i (j : Int))) (Int32.ofInt j).toNatClampNeg (Int64.ofInt x)) = fun n : Nat => Int64.ofInt (zu M k i j x k i (n : Int)) := by
  funext n
  have e := zcl_of h
  by_cases hn : n = (Int32.ofInt j).toNatClampNeg
  · rw [hn]
    rw [pk_uLs, e, zu_s]
  · rw [pk_uLn hn, zu_n (by rintro ⟨-, -, h3⟩; exact hn (by omega))]
theorem zupdR {g : zG} {M : zM} {k i k' r : Nat} {j : Int} (h : 0 ≤ j ∧ j < 2000000000) : (va_up (fun j : Nat => zdo g k' (M k i (j : Int))) (Int32.ofInt j).toNatClampNeg (some (g.2.1 k' r))) = fun n : Nat => zdo g k' (zu M k i j (r : Int) k i (n : Int)) := by
  funext n
  have e := zcl_of h
  unfold va_up
  by_cases hn : n = (Int32.ofInt j).toNatClampNeg
  · rw [if_pos hn, hn, e, zu_s, zdo, if_neg (by omega), Int.toNat_natCast]
  · rw [if_neg hn, zu_n (by rintro ⟨-, -, h3⟩; exact hn (by omega))]
theorem zlen_small (k : Nat) : zlen k ≤ 2000000000 := by
  have h : ∀ n ∈ zlenL, n ≤ 2000000000 := by decide
  unfold zlen
  rw [List.getD_eq_getElem?_getD]
  cases hq : zlenL[k]? with
  | none => simp
  | some n => exact h n (List.mem_of_getElem? hq)
theorem zln_s {M : zM} {k i : Nat} (h : zlen k ≠ 0) : zln M k i = zlen k := if_neg h
theorem zln_d {M : zM} {k i : Nat} (h : zlen k = 0) : zln M k i = (M k i (-1)).toNat := if_pos h
theorem zln_u {M : zM} {k i k' i' : Nat} {j x : Int} (hj : 0 ≤ j) : zln (zu M k i j x) k' i' = zln M k' i' := by
  unfold zln
  rw [zu_n (by rintro ⟨-, -, h⟩; omega)]
/-- an index that fits -/
def zix (M : zM) (k i : Nat) (j : Int) : Prop := (0 ≤ j ∧ j < (zln M k i : Nat)) ∧ zln M k i ≤ 2000000000
theorem zix_s {M : zM} {k i : Nat} {j : Int} (h : 0 ≤ j ∧ j < (zlen k : Nat)) : zix M k i j := by
  have := zlen_small k
  unfold zix
  rw [zln_s (by omega)]
  exact ⟨h, this⟩
theorem zix_d {M : zM} {k i : Nat} {j : Int} (hk : zlen k = 0) (h : 0 ≤ j ∧ j < M k i (-1) ∧ M k i (-1) ≤ 1000000) : zix M k i j := by
  unfold zix
  rw [zln_d hk]
  omega
theorem zix.u {M : zM} {k i k' i' : Nat} {j j' x : Int} (h : zix M k i j) (hj : 0 ≤ j') : zix (zu M k' i' j' x) k i j := by
  unfold zix at h ⊢
  rw [zln_u hj]
  exact h
/-- a block of an array moved -/
def zcp (M : zM) (k0 i0 k1 i1 : Nat) (n : Int) : zM := fun k i j => if k = k1 ∧ i = i1 ∧ 0 ≤ j ∧ j < n then M k0 i0 j else M k i j
theorem zty_at {g : zG} {t : Nat} (h : t < 6) : ∃ ty, (ztys g)[t]? = some (g.2.2.1 t, ty) := by
  match t, h with
  | 0, _ => exact ⟨_, rfl⟩
  | 1, _ => exact ⟨_, rfl⟩
  | 2, _ => exact ⟨_, rfl⟩
  | 3, _ => exact ⟨_, rfl⟩
  | 4, _ => exact ⟨_, rfl⟩
  | 5, _ => exact ⟨_, rfl⟩
theorem zasg {vm : Vm} {c : ClassId} : vm.assignable c c = true := by
  show vm.assignableAux (255 + 1) c c = true
  rw [Vm.assignableAux]
  simp
section
variable {l : Launch} {X : zD} {T : zT} {pc pc' : Nat} {lv lv' : List (Nat × zV)} {st st' : List zV} {M M' : zM}
theorem aw_ialdG {k i : Nat} {j : Int} (hd : dec X pc = .ok (.iaload, 1)) (hp : pc + 1 = pc') (hk : zaG k 0) (hj : zix M k i j) (kk : AW l X T pc' lv (zi (M k i j) :: st) M) : AW l X T pc lv (zi j :: zr k i :: st) M := by
  subst hp
  refine AW.go (fun _ h _ => zok1i (zokt (zokt h))) ?_ kk
  intro g p e s m args below meth c H locs ls Q hC hW hS hlv host h
  obtain ⟨n, hn⟩ := zws_at hk.1.1 (host (zr k i) (List.mem_cons_of_mem _ List.mem_cons_self))
  obtain ⟨hj, hl⟩ := hj
  have he := zws_get (g := g) (M := M) hn
  rw [zent_arr hk.1.2.2, zarr_i (by omega), hk.2] at he
  rw [List.map_cons, List.map_cons, zcv_r (by omega)]
  refine va_iald hC.1 hC.2.1 hC.2.2.2.2.2.2.2.1.1 hW.1 n 0 he rfl (zin_of hl hj) hd ?_
  rw [zcl_of (by omega)]
  exact h
theorem aw_iald {k i : Nat} {j : Int} (hd : dec X pc = .ok (.iaload, 1)) (hp : pc + 1 = pc') (hk : zar k 0) (hj : 0 ≤ j ∧ j < (zlen k : Nat)) (kk : AW l X T pc' lv (zi (M k i j) :: st) M) : AW l X T pc lv (zi j :: zr k i :: st) M := aw_ialdG hd hp hk.G (zix_s hj) kk
theorem aw_zaldG {k i : Nat} {j : Int} (hd : dec X pc = .ok (.baload, 1)) (hp : pc + 1 = pc') (hk : zaG k 1) (hj : zix M k i j) (kk : AW l X T pc' lv (zi (M k i j) :: st) M) : AW l X T pc lv (zi j :: zr k i :: st) M := by
  subst hp
  refine AW.go (fun _ h _ => zok1i (zokt (zokt h))) ?_ kk
  intro g p e s m args below meth c H locs ls Q hC hW hS hlv host h
  obtain ⟨n, hn⟩ := zws_at hk.1.1 (host (zr k i) (List.mem_cons_of_mem _ List.mem_cons_self))
  obtain ⟨hj, hl⟩ := hj
  have he := zws_get (g := g) (M := M) hn
  rw [zent_arr hk.1.2.2, zarr_i (by omega), hk.2] at he
  rw [List.map_cons, List.map_cons, zcv_r (by omega)]
  refine va_zald hC.1 hC.2.1 hC.2.2.2.2.2.2.2.1.1 hW.1 n 1 he rfl (zin_of hl hj) hd ?_
  rw [zcl_of (by omega)]
  exact h
theorem aw_zald {k i : Nat} {j : Int} (hd : dec X pc = .ok (.baload, 1)) (hp : pc + 1 = pc') (hk : zar k 1) (hj : 0 ≤ j ∧ j < (zlen k : Nat)) (kk : AW l X T pc' lv (zi (M k i j) :: st) M) : AW l X T pc lv (zi j :: zr k i :: st) M := aw_zaldG hd hp hk.G (zix_s hj) kk
theorem aw_baldG {k i : Nat} {j : Int} (hd : dec X pc = .ok (.baload, 1)) (hp : pc + 1 = pc') (hk : zaG k 2) (hj : zix M k i j) (kk : AW l X T pc' lv (zi (M k i j) :: st) M) : AW l X T pc lv (zi j :: zr k i :: st) M := by
  subst hp
  refine AW.go (fun _ h _ => zok1i (zokt (zokt h))) ?_ kk
  intro g p e s m args below meth c H locs ls Q hC hW hS hlv host h
  obtain ⟨n, hn⟩ := zws_at hk.1.1 (host (zr k i) (List.mem_cons_of_mem _ List.mem_cons_self))
  obtain ⟨hj, hl⟩ := hj
  have he := zws_get (g := g) (M := M) hn
  rw [zent_arr hk.1.2.2, zarr_i (by omega), hk.2] at he
  rw [List.map_cons, List.map_cons, zcv_r (by omega)]
  refine va_bald hC.1 hC.2.1 hC.2.2.2.2.2.2.2.1.1 hW.1 n 2 he rfl (zin_of hl hj) hd ?_
  rw [zcl_of (by omega)]
  exact h
theorem aw_bald {k i : Nat} {j : Int} (hd : dec X pc = .ok (.baload, 1)) (hp : pc + 1 = pc') (hk : zar k 2) (hj : 0 ≤ j ∧ j < (zlen k : Nat)) (kk : AW l X T pc' lv (zi (M k i j) :: st) M) : AW l X T pc lv (zi j :: zr k i :: st) M := aw_baldG hd hp hk.G (zix_s hj) kk
theorem aw_laldG {k i : Nat} {j : Int} (hd : dec X pc = .ok (.laload, 1)) (hp : pc + 1 = pc') (hk : zaG k 3) (hj : zix M k i j) (kk : AW l X T pc' lv (zl (M k i j) :: st) M) : AW l X T pc lv (zi j :: zr k i :: st) M := by
  subst hp
  refine AW.go (fun _ h _ => zok1l (zokt (zokt h))) ?_ kk
  intro g p e s m args below meth c H locs ls Q hC hW hS hlv host h
  obtain ⟨n, hn⟩ := zws_at hk.1.1 (host (zr k i) (List.mem_cons_of_mem _ List.mem_cons_self))
  obtain ⟨hj, hl⟩ := hj
  have he := zws_get (g := g) (M := M) hn
  rw [zent_arr hk.1.2.2, zarr_l hk.2, hk.2] at he
  rw [List.map_cons, List.map_cons, zcv_r (by omega)]
  refine va_lald hC.1 hC.2.1 hC.2.2.2.2.2.2.2.1.1 hW.1 n 3 he rfl (zin_of hl hj) hd ?_
  rw [zcl_of (by omega)]
  exact h
theorem aw_lald {k i : Nat} {j : Int} (hd : dec X pc = .ok (.laload, 1)) (hp : pc + 1 = pc') (hk : zar k 3) (hj : 0 ≤ j ∧ j < (zlen k : Nat)) (kk : AW l X T pc' lv (zl (M k i j) :: st) M) : AW l X T pc lv (zi j :: zr k i :: st) M := aw_laldG hd hp hk.G (zix_s hj) kk
theorem aw_qald {k i : Nat} {j : Int} (hd : dec X pc = .ok (.aaload, 1)) (hp : pc + 1 = pc') (hk : zar k 4) (hj : 0 ≤ j ∧ j < (zlen k : Nat)) (hc : j.toNat + zoff k < 14) (kk : AW l X T pc' lv (zr 1 (j.toNat + zoff k) :: st) M) : AW l X T pc lv (zi j :: zr k i :: st) M := by
  subst hp
  refine AW.go (fun _ h _ => zok1 (v := zr 1 (j.toNat + zoff k)) (zok_s (by decide) hc) (zokt (zokt h))) ?_ kk
  intro g p e s m args below meth c H locs ls Q hC hW hS hlv host h
  obtain ⟨n, hn⟩ := zws_at hk.G.1.1 (host (zr k i) (List.mem_cons_of_mem _ List.mem_cons_self))
  obtain ⟨hj, hl⟩ := zix_s (M := M) (i := i) hj
  have he := zws_get (g := g) (M := M) hn
  rw [zent_arr hk.G.1.2.2, zarr_q hk.2.2, hk.2.2] at he
  rw [List.map_cons, List.map_cons, zcv_r (by omega)]
  refine va_aldq hC.1 hC.2.1 hC.2.2.2.2.2.2.2.1.1 hW.1 n 4 he rfl (zin_of hl hj) hd ?_
  have e := zcl_of (j := j) (by omega)
  rw [show (Int32.ofInt j).toNatClampNeg = j.toNat by omega]
  exact h
/-- a row out of an array of rows -/
theorem aw_rald {k i : Nat} {j : Int} (hd : dec X pc = .ok (.aaload, 1)) (hp : pc + 1 = pc') (hk : zaG k 5) (hz : 64 ≤ zel k ∧ zel k < 96) (hj : zix M k i j) (hr : 0 ≤ M k i j ∧ M k i j < M 97 0 (zel k)) (kk : AW l X T pc' lv (zr (zel k) (M k i j).toNat :: st) M) : AW l X T pc lv (zi j :: zr k i :: st) M := by
  subst hp
  intro g p e s m args below meth c H locs ls hC hW hS hlv hol host
  have h := kk g p e s m args below meth c H locs ls hC hW hS hlv hol (fun w hw => (List.mem_cons.mp hw).elim (fun q => q ▸ zok_d hW.2.2 hz hr) (fun q => host w (List.mem_cons_of_mem _ (List.mem_cons_of_mem _ q))))
  obtain ⟨n, hn⟩ := zws_at hk.1.1 (host (zr k i) (List.mem_cons_of_mem _ List.mem_cons_self))
  obtain ⟨hj, hl⟩ := hj
  have he := zws_get (g := g) (M := M) hn
  rw [zent_arr hk.1.2.2, zarr_r hk.2, hk.2] at he
  rw [List.map_cons, List.map_cons, zcv_r (by omega)]
  have hlt : (Int32.ofInt j).toNatClampNeg < zln M k i := Nat.not_le.mp fun q => zin_of hl hj (Or.inr q)
  have e1 := zcl_of (j := j) (by omega)
  refine W.aald (v := .ref (g.2.1 (zel k) (M k i j).toNat)) (ty := .array .int) hC.1 hC.2.1 (hW.1 n _ he) ((hC.2.2.2.2.2.2.2.1.1.2 5 _ rfl).1 (zln M k i) (fun q => va_rf (zdo g (zel k) (M k i (q : Int))))) rfl (fun q => by cases q) (by show ¬ (Int32.ofInt j < 0 ∨ (arrV _ _ _).slots.size ≤ _); rw [arrV_size]; exact zin_of hl hj) (by
    show (arrV _ _ _).slots[_]? = _
    rw [arrV_read _ _ hlt]
    show some (va_rf (zdo g (zel k) (M k i (((Int32.ofInt j).toNatClampNeg : Nat) : Int)))) = _
    rw [e1, zdo, if_neg (by omega)]
    rfl) rfl rfl hd ?_
  rw [List.map_cons, zcv_r (by omega)] at h
  exact h
theorem aw_alenG {k i : Nat} {x : Int} (hd : dec X pc = .ok (.arraylength, 1)) (hp : pc + 1 = pc') (hk : ¬ (60 ≤ k ∧ k < 64) ∧ ¬ zob k ∧ zety k < 6) (hx : ((zln M k i : Nat) : Int) = x) (kk : AW l X T pc' lv (zi x :: st) M) : AW l X T pc lv (zr k i :: st) M := by
  subst hp; subst hx
  refine AW.go (fun _ h _ => zok1i (zokt h)) ?_ kk
  intro g p e s m args below meth c H locs ls Q hC hW hS hlv host h
  obtain ⟨n, hn⟩ := zws_at hk.1 (host (zr k i) List.mem_cons_self)
  have he := zws_get (g := g) (M := M) hn
  rw [zent_arr hk.2.1] at he
  rw [List.map_cons, zcv_r (by omega)]
  obtain ⟨ty, ht⟩ := zty_at (g := g) hk.2.2
  exact va_alen (x := (zln M k i, zarr g M k i)) hC.1 hC.2.1 hC.2.2.2.2.2.2.2.1.1 hW.1 n (zety k) he ht (by rw [← Int32.ofInt_eq_ofNat]) hd h
theorem aw_alen {k i : Nat} {x : Int} (hd : dec X pc = .ok (.arraylength, 1)) (hp : pc + 1 = pc') (hk : k < 60 ∧ ¬ k < 10 ∧ zety k < 4) (hx : ((zlen k : Nat) : Int) = x) (hz : zlen k ≠ 0) (kk : AW l X T pc' lv (zi x :: st) M) : AW l X T pc lv (zr k i :: st) M :=
  aw_alenG hd hp ⟨by omega, by unfold zob; omega, by omega⟩ (by rw [zln_s hz]; exact hx) kk
theorem aw_iastG {k i : Nat} {j x : Int} (hd : dec X pc = .ok (.iastore, 1)) (hp : pc + 1 = pc') (hk : zaG k 0) (hj : zix M k i j) (kk : AW l X T pc' lv st (zu M k i j x)) : AW l X T pc lv (zi x :: zi j :: zr k i :: st) M := by
  subst hp
  intro g p e s m args below meth c H locs ls hC hW hS hlv hol host
  obtain ⟨n, hn⟩ := zws_at hk.1.1 (host (zr k i) (List.mem_cons_of_mem _ (List.mem_cons_of_mem _ List.mem_cons_self)))
  obtain ⟨hj, hl⟩ := hj
  have he := zws_get (g := g) (M := M) hn
  rw [zent_arr hk.1.2.2, zarr_i (by omega), hk.2] at he
  rw [List.map_cons, List.map_cons, List.map_cons, zcv_r (by omega)]
  have hs := zws_set (g := g) hW.2.2 hn (M := M) (M' := zu M k i j x) zu_o
  rw [zent_arr hk.1.2.2, zarr_i (by omega), hk.2, zln_u hj.1, ← zupd (by omega)] at hs
  refine va_iast hC.1 hC.2.1 hC.2.2.2.2.2.2.2.1.1 hW.1 hW.2.1 hS n 0 he rfl (zin_of hl hj) hd (fun H1 locs1 h1 h2 h3 => ?_)
  rw [hs] at h1 h2
  exact kk g p e s m args below meth c H1 locs1 ls hC ⟨h1, h2, hW.2.2.uu hk.1.2.1 (zst_na hk)⟩ h3 hlv hol (zokt (zokt (zokt host)))
theorem aw_iast {k i : Nat} {j x : Int} (hd : dec X pc = .ok (.iastore, 1)) (hp : pc + 1 = pc') (hk : zar k 0) (hj : 0 ≤ j ∧ j < (zlen k : Nat)) (kk : AW l X T pc' lv st (zu M k i j x)) : AW l X T pc lv (zi x :: zi j :: zr k i :: st) M := aw_iastG hd hp hk.G (zix_s hj) kk
theorem aw_zastG {k i : Nat} {j x : Int} (hd : dec X pc = .ok (.bastore, 1)) (hp : pc + 1 = pc') (hk : zaG k 1) (hj : zix M k i j) (hx : x = 0 ∨ x = 1) (kk : AW l X T pc' lv st (zu M k i j x)) : AW l X T pc lv (zi x :: zi j :: zr k i :: st) M := by
  subst hp
  intro g p e s m args below meth c H locs ls hC hW hS hlv hol host
  obtain ⟨n, hn⟩ := zws_at hk.1.1 (host (zr k i) (List.mem_cons_of_mem _ (List.mem_cons_of_mem _ List.mem_cons_self)))
  obtain ⟨hj, hl⟩ := hj
  have he := zws_get (g := g) (M := M) hn
  rw [zent_arr hk.1.2.2, zarr_i (by omega), hk.2] at he
  rw [List.map_cons, List.map_cons, List.map_cons, zcv_r (by omega)]
  have hs := zws_set (g := g) hW.2.2 hn (M := M) (M' := zu M k i j x) zu_o
  rw [zent_arr hk.1.2.2, zarr_i (by omega), hk.2, zln_u hj.1, ← zupd (by omega)] at hs
  have hnar : vp_nar .boolean (Int32.ofInt x) = Int32.ofInt x := by rcases hx with rfl | rfl <;> decide
  refine va_zast hC.1 hC.2.1 hC.2.2.2.2.2.2.2.1.1 hW.1 hW.2.1 hS n 1 he rfl (zin_of hl hj) hd (fun H1 locs1 h1 h2 h3 => ?_)
  rw [hnar, hs] at h1 h2
  exact kk g p e s m args below meth c H1 locs1 ls hC ⟨h1, h2, hW.2.2.uu hk.1.2.1 (zst_na hk)⟩ h3 hlv hol (zokt (zokt (zokt host)))
theorem aw_zast {k i : Nat} {j x : Int} (hd : dec X pc = .ok (.bastore, 1)) (hp : pc + 1 = pc') (hk : zar k 1) (hj : 0 ≤ j ∧ j < (zlen k : Nat)) (hx : x = 0 ∨ x = 1) (kk : AW l X T pc' lv st (zu M k i j x)) : AW l X T pc lv (zi x :: zi j :: zr k i :: st) M := aw_zastG hd hp hk.G (zix_s hj) hx kk
theorem aw_bastG {k i : Nat} {j x : Int} (hd : dec X pc = .ok (.bastore, 1)) (hp : pc + 1 = pc') (hk : zaG k 2) (hj : zix M k i j) (hx : -128 ≤ x ∧ x < 128) (kk : AW l X T pc' lv st (zu M k i j x)) : AW l X T pc lv (zi x :: zi j :: zr k i :: st) M := by
  subst hp
  intro g p e s m args below meth c H locs ls hC hW hS hlv hol host
  obtain ⟨n, hn⟩ := zws_at hk.1.1 (host (zr k i) (List.mem_cons_of_mem _ (List.mem_cons_of_mem _ List.mem_cons_self)))
  obtain ⟨hj, hl⟩ := hj
  have he := zws_get (g := g) (M := M) hn
  rw [zent_arr hk.1.2.2, zarr_i (by omega), hk.2] at he
  rw [List.map_cons, List.map_cons, List.map_cons, zcv_r (by omega)]
  have hs := zws_set (g := g) hW.2.2 hn (M := M) (M' := zu M k i j x) zu_o
  rw [zent_arr hk.1.2.2, zarr_i (by omega), hk.2, zln_u hj.1, ← zupd (by omega)] at hs
  have hnar : vp_nar .byte (Int32.ofInt x) = Int32.ofInt x := by
    rw [vp_nar_byte, ← Int32.toInt_inj, Int8.toInt_toInt32, Int32.toInt_toInt8, Int32.toInt_ofInt_of_le (by omega) (by omega)]
    exact Int.bmod_eq_of_le (by omega) (by omega)
  refine va_bast hC.1 hC.2.1 hC.2.2.2.2.2.2.2.1.1 hW.1 hW.2.1 hS n 2 he rfl (zin_of hl hj) hd (fun H1 locs1 h1 h2 h3 => ?_)
  rw [hnar, hs] at h1 h2
  exact kk g p e s m args below meth c H1 locs1 ls hC ⟨h1, h2, hW.2.2.uu hk.1.2.1 (zst_na hk)⟩ h3 hlv hol (zokt (zokt (zokt host)))
theorem aw_bast {k i : Nat} {j x : Int} (hd : dec X pc = .ok (.bastore, 1)) (hp : pc + 1 = pc') (hk : zar k 2) (hj : 0 ≤ j ∧ j < (zlen k : Nat)) (hx : -128 ≤ x ∧ x < 128) (kk : AW l X T pc' lv st (zu M k i j x)) : AW l X T pc lv (zi x :: zi j :: zr k i :: st) M := aw_bastG hd hp hk.G (zix_s hj) hx kk
theorem aw_lastG {k i : Nat} {j x : Int} (hd : dec X pc = .ok (.lastore, 1)) (hp : pc + 1 = pc') (hk : zaG k 3) (hj : zix M k i j) (kk : AW l X T pc' lv st (zu M k i j x)) : AW l X T pc lv (zl x :: zi j :: zr k i :: st) M := by
  subst hp
  intro g p e s m args below meth c H locs ls hC hW hS hlv hol host
  obtain ⟨n, hn⟩ := zws_at hk.1.1 (host (zr k i) (List.mem_cons_of_mem _ (List.mem_cons_of_mem _ List.mem_cons_self)))
  obtain ⟨hj, hl⟩ := hj
  have he := zws_get (g := g) (M := M) hn
  rw [zent_arr hk.1.2.2, zarr_l hk.2, hk.2] at he
  rw [List.map_cons, List.map_cons, List.map_cons, zcv_r (by omega)]
  have hs := zws_set (g := g) hW.2.2 hn (M := M) (M' := zu M k i j x) zu_o
  rw [zent_arr hk.1.2.2, zarr_l hk.2, hk.2, zln_u hj.1, ← zupdL (by omega)] at hs
  refine va_last hC.1 hC.2.1 hC.2.2.2.2.2.2.2.1.1 hW.1 hW.2.1 hS n 3 he rfl (zin_of hl hj) hd (fun H1 locs1 h1 h2 h3 => ?_)
  rw [hs] at h1 h2
  exact kk g p e s m args below meth c H1 locs1 ls hC ⟨h1, h2, hW.2.2.uu hk.1.2.1 (zst_na hk)⟩ h3 hlv hol (zokt (zokt (zokt host)))
theorem aw_last {k i : Nat} {j x : Int} (hd : dec X pc = .ok (.lastore, 1)) (hp : pc + 1 = pc') (hk : zar k 3) (hj : 0 ≤ j ∧ j < (zlen k : Nat)) (kk : AW l X T pc' lv st (zu M k i j x)) : AW l X T pc lv (zl x :: zi j :: zr k i :: st) M := aw_lastG hd hp hk.G (zix_s hj) kk
/-- a row put into an array of rows -/
theorem aw_rast {k i r : Nat} {j : Int} (hd : dec X pc = .ok (.aastore, 1)) (hp : pc + 1 = pc') (hk : zaG k 5) (he' : zaG (zel k) 0) (hz : 64 ≤ zel k ∧ zel k < 96) (hj : zix M k i j) (kk : AW l X T pc' lv st (zu M k i j (r : Int))) : AW l X T pc lv (zr (zel k) r :: zi j :: zr k i :: st) M := by
  subst hp
  intro g p e s m args below meth c H locs ls hC hW hS hlv hol host
  obtain ⟨n, hn⟩ := zws_at hk.1.1 (host (zr k i) (List.mem_cons_of_mem _ (List.mem_cons_of_mem _ List.mem_cons_self)))
  obtain ⟨n1, hn1⟩ := zws_at he'.1.1 (host (zr (zel k) r) List.mem_cons_self)
  obtain ⟨hj, hl⟩ := hj
  have he := zws_get (g := g) (M := M) hn
  rw [zent_arr hk.1.2.2, zarr_r hk.2, hk.2] at he
  have he1 := zws_get (g := g) (M := M) hn1
  rw [zent_arr he'.1.2.2, zarr_i (by omega), he'.2] at he1
  have hs := zws_set (g := g) hW.2.2 hn (M := M) (M' := zu M k i j (r : Int)) zu_o
  rw [zent_arr hk.1.2.2, zarr_r hk.2, hk.2, zln_u hj.1, ← zupdR (by omega)] at hs
  rw [List.map_cons, List.map_cons, List.map_cons, zcv_r (by omega), zcv_r (by omega)]
  have hlt : (Int32.ofInt j).toNatClampNeg < zln M k i := Nat.not_le.mp fun q => zin_of hl hj (Or.inr q)
  have h0 : ¬ Int32.ofInt j < 0 := fun q => zin_of hl hj (Or.inl q)
  obtain ⟨hx, hb, hml, hown, hts, hr, hlo, hK, hnm, hcl, hsl⟩ := id hC
  obtain ⟨comp, cc, kA, f1, -, f3, f4, f5⟩ := hK.2.2.2.2.2.2.2.2.2.1
  have c5 : s.vm.findClass ("[" ++ (FieldType.array .int).toString) = some (g.2.2.1 5) := (hK.1.2 5 _ rfl).2
  have c0 : s.vm.findClass ("[" ++ FieldType.int.toString) = some (g.2.2.1 0) := (hK.1.2 0 _ rfl).2
  have e5 : cc = g.2.2.1 5 := Option.some.inj (f5.symm.trans c5)
  have e0 : comp = g.2.2.1 0 := Option.some.inj (f1.symm.trans c0)
  subst e5; subst e0
  obtain ⟨kC, hkC, -⟩ := Vm.findClass_spec c0
  refine W.aast (t := .array .int) hx hb (hW.1 n _ he) (fun q h => by cases h) (fun h => by cases h) f3 f4 rfl hkC ⟨h0, by show _ < (arrV _ _ _).slots.size; rw [arrV_size]; exact hlt⟩ (hW.1 n1 _ he1) (fun q h => by cases h) hkC zasg rfl rfl hd fun H1 e1 z oq => ?_
  have hat : va_at g.1 vwCl (g.2.1 k i, .inl (g.2.2.1 5, zln M k i, .inr (.inr (.inr (.inr (va_up (fun j : Nat => zdo g (zel k) (M k i (j : Int))) (Int32.ofInt j).toNatClampNeg (some (g.2.1 (zel k) r)))))))) H1 := by
    show H1[g.2.1 k i]? = some (vp_cell _ _)
    rw [e1]
    rw [vp_cell_q, vp_cell_q, arrV_store]
    congr 2
    funext q
    by_cases hq : q = (Int32.ofInt j).toNatClampNeg
    · subst hq
      simp [updV, va_up, va_rf]
    · simp [updV, va_up, hq]
  have h1 := hW.1.set hW.2.1 he hat oq
  have h2 := hW.2.1.set (e := .inl (g.2.2.1 5, zln M k i, .inr (.inr (.inr (.inr (va_up (fun j : Nat => zdo g (zel k) (M k i (j : Int))) (Int32.ofInt j).toNatClampNeg (some (g.2.1 (zel k) r)))))))) he
  rw [hs] at h1 h2
  have hO1 : zO g (zu M k i j (r : Int)) := hW.2.2.uu hk.1.2.1 (fun k2 h => by
    unfold zrp at h
    rw [if_pos hk.2] at h
    cases h
    rcases List.mem_append.mp (zok_in (by omega) (host (zr (zel k) r) List.mem_cons_self)) with q | q
    · have := (zlocs_mem.mp q).1; omega
    · exact ((hW.2.2.2.1 _ _).mp q).2)
  exact kk g p e s m args below meth c H1 _ ls hC ⟨h1, h2, hO1⟩ (hS.put z oq (hW.2.1.2 n _ he)) hlv hol (zokt (zokt (zokt host)))
-- switches
def zTabs (l : Launch) (X : zD) (T : zT) (pc : Nat) (lv : List (Nat × zV)) (st : List zV) (M : zM) (x : Int) : Int → List Int → Prop
  | _, [] => True
  | k, o :: os => (x = k → ∃ tgt : Nat, (pc : Int) + o = (tgt : Int) ∧ AW l X T tgt lv st M) ∧ zTabs l X T pc lv st M x (k + 1) os
theorem zTabs_at {x : Int} : ∀ (os : List Int) (k : Int) (n : Nat), zTabs l X T pc lv st M x k os → x = k + n → ∀ o, os[n]? = some o → ∃ tgt : Nat, (pc : Int) + o = (tgt : Int) ∧ AW l X T tgt lv st M := by
  intro os
  induction os with
  | nil => intro k n _ _ o h; simp at h
  | cons a os ih =>
    intro k n h hx o ho
    cases n with
    | zero =>
      rw [List.getElem?_cons_zero] at ho
      cases ho
      exact h.1 (by simpa using hx)
    | succ n =>
      rw [List.getElem?_cons_succ] at ho
      exact ih (k + 1) n h.2 (by omega) o ho
theorem aw_table {dflt lo hi x : Int} {offs : List Int} {len tgt : Nat} (hd : dec X pc = .ok (.tableswitch dflt lo hi ⟨offs⟩, len)) (ht : (pc : Int) + dflt = (tgt : Int)) (hx : zI x) (hlen : (offs.length : Int) = hi - lo + 1) (hin : zTabs l X T pc lv st M x lo offs) (hout : (x < lo ∨ hi < x) → AW l X T tgt lv st M) : AW l X T pc lv (zi x :: st) M := by
  intro g p e s m args below meth c H locs ls hC hW hS hlv hol host
  have ex : (Int32.ofInt x).toInt = x := Int32.toInt_ofInt_of_le (by omega) (by omega)
  by_cases hx1 : x < lo ∨ hi < x
  · exact lv_tableOut hC.1 hC.2.1 hd (by rw [ex]; exact hx1) ht (hout hx1 g p e s m args below meth c H locs ls hC hW hS hlv hol (zokt host))
  · have hn : (x - lo).toNat < offs.length := by omega
    obtain ⟨t2, h1, h2⟩ := zTabs_at offs lo (x - lo).toNat hin (by omega) _ (List.getElem?_eq_getElem hn)
    exact lv_tableIn hC.1 hC.2.1 hd (by rw [ex]; omega) (by rw [ex]; omega) (by rw [ex, List.getElem?_toArray]; exact List.getElem?_eq_getElem hn) h1 (h2 g p e s m args below meth c H locs ls hC hW hS hlv hol (zokt host))
theorem aw_lookup {dflt x : Int} {ps : List (Int × Int)} {len : Nat} (hd : dec X pc = .ok (.lookupswitch dflt ⟨ps⟩, len)) (hx : zI x) (hsort : (ps.zip (ps.drop 1)).all (fun (a, next) => a.1 < next.1) = true) (kk : ∃ tgt : Nat, (pc : Int) + Op.lookupswitch.offset ps dflt x = (tgt : Int) ∧ AW l X T tgt lv st M) : AW l X T pc lv (zi x :: st) M := by
  intro g p e s m args below meth c H locs ls hC hW hS hlv hol host
  have ex : (Int32.ofInt x).toInt = x := Int32.toInt_ofInt_of_le (by omega) (by omega)
  obtain ⟨tgt, h1, h2⟩ := kk
  exact lv_lookup (ps := ⟨ps⟩) hC.1 hC.2.1 hd hsort rfl (by rw [ex]; exact h1) (h2 g p e s m args below meth c H locs ls hC hW hS hlv hol (zokt host))
-- long compares
theorem aw_lcmp {x y : Int} (hd : dec X pc = .ok (.lcmp, 1)) (hp : pc + 1 = pc') (hx : zJ x) (hy : zJ y) (kk : ∀ z : Int, (x < y ∧ z = -1 ∨ x = y ∧ z = 0 ∨ y < x ∧ z = 1) → AW l X T pc' lv (zi z :: st) M) : AW l X T pc lv (zl y :: zl x :: st) M := by
  have h1 := zJ_lt hx hy
  have h2 := zJ_lt hy hx
  have h3 := zJ_eq hx hy
  have hz : ∃ z : Int, (x < y ∧ z = -1 ∨ x = y ∧ z = 0 ∨ y < x ∧ z = 1) ∧ lg_cmp (Int64.ofInt x) (Int64.ofInt y) = Int32.ofInt z := by
    rcases Int.lt_trichotomy x y with h | h | h
    · refine ⟨-1, Or.inl ⟨h, rfl⟩, ?_⟩
      have a1 : ¬ Int64.ofInt y < Int64.ofInt x := fun q => by have := h2.mp q; omega
      have a2 : ¬ Int64.ofInt x = Int64.ofInt y := fun q => by have := h3.mp q; omega
      simp only [lg_cmp]
      first | (rw [if_neg a1, if_neg a2]; rfl) | (rw [if_pos (h1.mpr h)]; rfl) | simp [a1, a2, h1.mpr h]
    · subst h
      refine ⟨0, Or.inr (Or.inl ⟨rfl, rfl⟩), ?_⟩
      simp [lg_cmp]
    · refine ⟨1, Or.inr (Or.inr ⟨h, rfl⟩), ?_⟩
      simp [lg_cmp, h2.mpr h]
  obtain ⟨z, hz1, hz2⟩ := hz
  refine AW.go (fun _ h _ => zok1i (zokt (zokt h))) ?_ (kk z hz1)
  intro g p e s m args below meth c H locs ls Q hC hW hS hlv host h
  subst hp
  refine W.lcmp hC.1 hC.2.1 hd ?_
  rw [hz2]
  exact h
end
end
section
/-! ===== rows: answers, calls ===== -/
section
variable {l : Launch} {X : zD} {T : zT} {pc pc' : Nat} {lv lv' : List (Nat × zV)} {st st' : List zV} {M M' : zM}
theorem zlk2 {dflt a b x : Int} : Op.lookupswitch.offset [((0 : Int), a), (1, b)] dflt x = if x = 0 then a else if x = 1 then b else dflt := by
  by_cases h0 : x = 0
  · subst h0; rfl
  · by_cases h1 : x = 1
    · subst h1; rfl
    · rw [if_neg h0, if_neg h1]
      have e0 : ¬ (0 : Int) = x := fun h => h0 h.symm
      have e1 : ¬ (1 : Int) = x := fun h => h1 h.symm
      simp [Op.lookupswitch.offset, h0, h1, e0, e1]
theorem aw_lookup2 {dflt a b x : Int} {len ta tb td : Nat} (hd : dec X pc = .ok (.lookupswitch dflt #[(0, a), (1, b)], len)) (hx : zI x) (ha : (pc : Int) + a = (ta : Int)) (hb : (pc : Int) + b = (tb : Int)) (hdf : (pc : Int) + dflt = (td : Int))
    (k0 : x = 0 → AW l X T ta lv st M) (k1 : x = 1 → AW l X T tb lv st M) (kd : (x ≠ 0 ∧ x ≠ 1) → AW l X T td lv st M) : AW l X T pc lv (zi x :: st) M := by
  refine aw_lookup hd hx rfl ?_
  rw [zlk2]
  by_cases h0 : x = 0
  · rw [if_pos h0]; exact ⟨ta, ha, k0 h0⟩
  · by_cases h1 : x = 1
    · rw [if_neg h0, if_pos h1]; exact ⟨tb, hb, k1 h1⟩
    · rw [if_neg h0, if_neg h1]; exact ⟨td, hdf, kd ⟨h0, h1⟩⟩
end
-- a method's contract
def zQc (g : zG) (Q : Option zV → zM → Prop) : Array Value → State → Outcome → State → Prop := fun _ st o t => (∃ (g' : zG) (r : Option zV) (M' : zM), zX g g' ∧ o = .returned (r.map (zcv g')) ∧ (∀ v, r = some v → zok g' v) ∧ Q r M' ∧ zW g' M' t.heap) ∧ va_F (zA g) st t
abbrev zRn (X : zD) (mc ms : Nat) : Room := { frames := X.2.2.2.2.1, cells := mc, slots := ms, locals := X.2.2.2.2.2 }
/-- with room for mc cells, ms slots, of which c, n are taken -/
def zTn (X : zD) (mc ms c n : Nat) (Q : Option zV → zM → Prop) : zT := (zRn X mc ms, c, n, fun g s args below => MQ below (zQc g Q) args s mc ms (zA g))
def zTm (X : zD) (Q : Option zV → zM → Prop) : zT := zTn X 0 0 0 0 Q
/-- more is taken -/
def zT2 (T : zT) (c n : Nat) : zT := (T.1, T.2.1 + c, T.2.2.1 + n, T.2.2.2)
def zargs : Nat → List zV → List (Nat × zV)
  | _, [] => []
  | i, v :: vs => (i, v) :: zargs (if zcat v = 2 then i + 2 else i + 1) vs
def zsz : List zV → Nat
  | [] => 0
  | v :: vs => zcat v + zsz vs
def CWn (l : Launch) (X : zD) (mc ms : Nat) (args : List zV) (M : zM) (Q : Option zV → zM → Prop) : Prop := AW l X (zTn X mc ms 0 0 Q) 0 (zargs 0 args) [] M
def CW (l : Launch) (X : zD) (args : List zV) (M : zM) (Q : Option zV → zM → Prop) : Prop := AW l X (zTm X Q) 0 (zargs 0 args) [] M
theorem MQ_mono {below : List Frame} {Qc Qc' : Array Value → State → Outcome → State → Prop} {a : Array Value} {s : State} {mc ms : Nat} {free : Addr → Prop} (h : ∀ a st o t, Qc a st o t → Qc' a st o t) {t : State} (k : MQ below Qc a s mc ms free t) : MQ below Qc' a s mc ms free t := by
  obtain ⟨o, h1, h2, h3, h4⟩ := k
  exact ⟨o, h1, h2, h _ _ _ _ h3, h4⟩
theorem zQc.of {g g' : zG} {Q : Option zV → zM → Prop} (h : zX g g') {a : Array Value} {st : State} {o : Outcome} {t : State} (k : zQc g' Q a st o t) : zQc g Q a st o t := by
  obtain ⟨⟨g2, r, M', h1, h2⟩, h3⟩ := k
  refine ⟨⟨g2, r, M', h.tr h1, h2⟩, ?_⟩
  rw [← h.A]
  exact h3
theorem zPo.met {X : zD} {mc ms c n : Nat} {Q : Option zV → zM → Prop} {g : zG} {s : State} {args : Array Value} {below : List Frame} {t : State} (k : zPo (zTn X mc ms c n Q) g s args below t) : MQ below (zQc g Q) args s mc ms (zA g) t := by
  obtain ⟨g', hx, o, h1, h2, h3, L, h4, h5⟩ := k
  refine ⟨o, h1, h2, h3.of hx, L, h4, ?_⟩
  rw [← hx.A]
  exact h5
theorem AW_mono {l : Launch} {X : zD} {mc ms c n : Nat} {Q Q' : Option zV → zM → Prop} {pc : Nat} {lv : List (Nat × zV)} {st : List zV} {M : zM} (k : AW l X (zTn X mc ms c n Q) pc lv st M) (h : ∀ r M', Q r M' → Q' r M') : AW l X (zTn X mc ms c n Q') pc lv st M := by
  intro g p e s m args below meth cc H locs ls hC hW hS hlv hol host T hT hX
  obtain ⟨t, h1, g', hx, h2⟩ := k g p e s m args below meth cc H locs ls hC hW hS hlv hol host T hT hX
  refine ⟨t, h1, g', hx, MQ_mono (fun a st o t hq => ?_) h2⟩
  obtain ⟨⟨g2, r, M', e0, e1, e2, e3, e4⟩, e5⟩ := hq
  exact ⟨⟨g2, r, M', e0, e1, e2, h _ _ e3, e4⟩, e5⟩
theorem CW.mono {l : Launch} {X : zD} {Q Q' : Option zV → zM → Prop} {args : List zV} {M : zM} (k : CW l X args M Q) (h : ∀ r M', Q r M' → Q' r M') : CW l X args M Q' := AW_mono k h
theorem CWn.mono {l : Launch} {X : zD} {mc ms : Nat} {Q Q' : Option zV → zM → Prop} {args : List zV} {M : zM} (k : CWn l X mc ms args M Q) (h : ∀ r M', Q r M' → Q' r M') : CWn l X mc ms args M Q' := AW_mono k h
theorem zlv_args (g : zG) : ∀ (vs : List zV) (i : Nat), lv_args i (vs.map (zcv g)) = zlv g (zargs i vs)
  | [], _ => rfl
  | v :: vs, i => by
    rw [List.map_cons, lv_args, zargs, zlv, List.map_cons, zcat_cv]
    exact congrArg _ (zlv_args g vs _)
theorem zsl_len (g : zG) : ∀ vs : List zV, (lg_sl (vs.map (zcv g))).length = zsz vs
  | [] => rfl
  | v :: vs => by
    have ih := zsl_len g vs
    have hc : zcat v = 1 ∨ zcat v = 2 := by
      rcases v with x | x | x | x
      · exact Or.inl rfl
      · exact Or.inr rfl
      · exact Or.inr rfl
      · exact Or.inl rfl
    simp only [lg_sl, List.map_cons, List.flatMap_cons, List.length_append, zsz, zcat_cv] at ih ⊢
    rw [ih]
    rcases hc with h | h <;> simp [h]
theorem znest_tab : znest.all (fun w => w.onTables) = true := by decide +kernel
theorem zK.same {g : zG} {s U : State} {H : Heap} (hv : s.vm = U.vm) (h : zK g s H) : zK g U H := by
  have ha : s.vm.Alike U.vm := by rw [hv]; exact Vm.Alike.refl U.vm
  exact h.mv ha (fun w hw => va_Nw.same (List.all_eq_true.mp znest_tab w hw) hv (h.2.1 w hw)) (fun q hq => vk_R.same hv.symm (h.2.2.2.1 q hq)) (Nat.le_refl _) (fun _ _ _ => rfl)
def zPc (g : zG) (args : List zV) (M : zM) : Array Value → State → Prop := fun a U => a = (args.map (zcv g)).toArray ∧ zW g M U.heap ∧ zK g U U.heap ∧ zgn g ≤ U.heap.size
def zwd (Y : zD) : List Cond := .code Y.1 Y.2.1 Y.2.2.1 Y.2.2.2.1 :: zTB
theorem CWn.met {l : Launch} {Y : zD} {mc ms : Nat} {args : List zV} {M : zM} {Q : Option zV → zM → Prop} (k : CWn l Y mc ms args M Q) (hpl : plainName Y.1.cls = true) (hsz : zsz args ≤ Y.2.2.1) (g : zG) (hok : ∀ v ∈ args, zok g v) : Met l Y.1 (zwd Y) (zRn Y mc ms) (zPc g args M) (zQc g Q) mc ms (zA g) := by
  refine Met.ofW (cc := Y.2.1) (maxL := Y.2.2.1) (ret := Y.2.2.2.1) hpl rfl ?_
  intro p e s m args' below meth c s₁ B hml hP
  obtain ⟨rfl, hW, hK, hz⟩ := hP
  have hts := atoms_spec (ws := zwd Y) B.pre
  have hentry := lv_entry (args.map (zcv g)) (n := Y.2.2.1) (by rw [zsl_len]; exact hsz)
  rw [zlv_args] at hentry
  rw [lg_entry_eq]
  have hok2 : ∀ (vs : List zV) (i : Nat), (∀ v ∈ vs, zok g v) → ∀ q ∈ zargs i vs, zok g q.2 := by
    intro vs
    induction vs with
    | nil => intro i _ q hq; cases hq
    | cons v vs ih =>
      intro i h q hq
      rcases List.mem_cons.mp hq with rfl | hq
      · exact h v List.mem_cons_self
      · exact ih _ (fun w hw => h w (List.mem_cons_of_mem _ hw)) q hq
  exact zWm (k g p e s m _ below meth c s.heap [] _ ⟨B.exec, B.bytes, hml, findClass_of_methodNamed B.named, fun w hw => hts w (List.mem_cons_of_mem _ hw), B.returns, B.notSynchronized, hK, ⟨(name_of_methodNamed B.named B.method).1, hz⟩, Nat.zero_le _, Nat.zero_le _⟩ hW va_S.rf hentry (hok2 args 0 hok) (fun v hv => by cases hv)) (fun t ht => zPo.met ht)
theorem zPc_blind (g : zG) (args : List zV) (M : zM) : FrameBlind (zPc g args M) := by
  intro a U f mk h
  exact ⟨h.1, h.2.1, zK.same (s := U) (U := U.calling f mk a) rfl h.2.2.1, h.2.2.2⟩
/-- the pool entry ix of own is the method Y -/
def zCB (own : String) (ix : Nat) (Y : zD) (n : Nat) : Prop :=
  plainName Y.1.cls = true ∧ Cond.code Y.1 Y.2.1 Y.2.2.1 Y.2.2.2.1 ∈ zTB ∧ Cond.initialized Y.1.cls ∈ zTB ∧
  (Y.1.cls ≠ "java/lang/invoke/MethodHandle" ∧ Y.1.cls ≠ "java/lang/invoke/VarHandle") ∧ (parseMethodDescriptor Y.1.desc).map (fun d => d.parameters.length) = some n ∧
  (Cond.methodLink own ix Y.1 ∈ zTB ∨ ∃ host, Cond.methodLinkNest own ix Y.1 host ∈ znest)
def zCV (own : String) (ix : Nat) (Y : zD) (n kd : Nat) : Prop := zCB own ix Y n ∧ Cond.instanceMethod Y.1 ∈ zTB ∧ Cond.selects Y.1.cls Y.1 Y.1 ∈ zTB ∧ zob kd ∧ ∃ (TT : u_T) (N : Nat), vwCl[zci kd]? = some (Y.1.cls, TT, N)
def zCS (own : String) (ix : Nat) (Y : zD) (n : Nat) : Prop := zCB own ix Y n ∧ Cond.static Y.1 ∈ zTB
theorem zgood {w : Cond} (h : w ∈ zTB) : (w.onTables && w.keeps) = true ∨ ∃ ty, w = .arrayClass ty := good_of_word (List.mem_filter.mp h).2
theorem zgoodIn {Y : zD} (hc : Cond.code Y.1 Y.2.1 Y.2.2.1 Y.2.2.2.1 ∈ zTB) : GoodIn zTB (zwd Y) := by
  intro w hw
  rcases List.mem_cons.mp hw with rfl | hw
  · exact ⟨hc, zgood hc⟩
  · exact ⟨hw, zgood hw⟩
section
variable {l : Launch} {X : zD} {T : zT} {pc pc' : Nat} {lv lv' : List (Nat × zV)} {st st' : List zV} {M M' : zM}
theorem zC.of2 {g : zG} {p : Program} {s : State} {m : MethodId} {args : Array Value} {meth : Method} {c : Code} {mc ms : Nat} (hC : zC X T g p s m args meth c) (h : T.2.1 + mc ≤ T.1.cells ∧ T.2.2.1 + ms ≤ T.1.slots) : zC X (zT2 T mc ms) g p s m args meth c := by
  obtain ⟨h1, h2, h3, h4, h5, h6, h7, h8, h9, h10, h11⟩ := hC
  exact ⟨h1, h2, h3, h4, h5, h6, h7, h8, h9, h.1, h.2⟩
theorem zrun {g : zG} {p : Program} {e : Jvm.Env} {s : State} {m : MethodId} {args : Array Value} {below : List Frame} {meth : Method} {c : Code} {H : Heap} {locs : List Loc} {ls : Array Slot} {Q : Option zV → zM → Prop} {A : Array Value} {st0 : List Value} {mc ms : Nat}
    (hC : zC X T g p s m args meth c) (hS : va_S (zA g) s.heap H locs) (hlv : lv_has ls X.2.2.1 (zlv g lv)) (hol : ∀ q ∈ lv, zok g q.2) (host : ∀ v ∈ st, zok g v) (hrm : T.2.1 + mc ≤ T.1.cells ∧ T.2.2.1 + ms ≤ T.1.slots)
    (hr : va_Run p l e T.1 s m args below meth c H locs T.2.1 T.2.2.1 mc ms (F0 m pc ls st0) (st.map (zcv g)) (zQc g Q A) (zA g))
    (kk : ∀ r M', Q r M' → AW l X (zT2 T mc ms) (pc + 3) lv (r.toList ++ st) M') : W p l e T.1 s m args below meth c H locs T.2.1 T.2.2.1 (zPo T g s args below) (F0 m pc ls st0) := by
  intro U hU hX
  obtain ⟨v, st₀, t, T', L, h0, X', hL, e1, e2, ⟨⟨g', r, M', hx, hv, hok, hq, hw⟩, hz, hk⟩, st1⟩ := hr U hU hX
  cases hv
  rw [h0] at hz hk
  have hS' : va_S (zA g) s.heap T'.heap (locs ++ L) := ⟨Nat.le_trans hS.1 (by rw [e1]; exact hz), fun q h1 h2 => by rw [e1, hk q (Nat.lt_of_lt_of_le h1 hS.1) h2]; exact hS.2.1 q h1 h2, fun q hq => by
      rcases List.mem_append.mp hq with h | h
      · exact hS.2.2 q h
      · exact hL q h⟩
  have hko : ∀ v ∈ r.toList ++ st, zok g' v := fun v hv => (List.mem_append.mp hv).elim (fun h => hok v (Option.mem_toList.mp h)) (fun h => hx.ok (host v h))
  obtain ⟨t2, a1, b1⟩ := kk r M' hq g' p e s m args below meth c T'.heap (locs ++ L) ls (zC.of2 (hx.C hC) hrm) (by rw [e1]; exact hw) (by rw [hx.A]; exact hS') (by rw [hx.lv hol]; exact hlv) (fun q hq => hx.ok (hol q hq)) hko T' rfl X'
  refine ⟨t2, st1 t2 ?_, zPo.of hx t2 b1⟩
  have e3 : (r.map (zcv g')).toList ++ st.map (zcv g) = (r.toList ++ st).map (zcv g') := by rw [List.map_append, hx.st host]; cases r <;> simp
  show Steps p.tables e below (T'.setTop (F0 m (pc + 3) ls ((r.map (zcv g')).toList ++ st.map (zcv g)))) t2
  rw [e3]
  exact a1
theorem zst_cat (g : zG) (st : List zV) : ((st.map (zcv g)).map fun v => v.category).sum = zsz st := by
  induction st with
  | nil => rfl
  | cons v st ih => simp only [List.map_cons, List.sum_cons, zsz, zcat_cv, ih]
theorem aw_callVn {Y : zD} {ix n kd i mc ms : Nat} {As st0 : List zV} {Q : Option zV → zM → Prop} (hd : dec X pc = .ok (.invokevirtual ix, 3)) (hp : pc + 3 = pc') (hc : zCV X.1.cls ix Y n kd) (hroom : Y.2.2.2.2.1 + 1 ≤ T.1.frames ∧ 8 + (Y.2.2.1 + 11) + Y.2.2.2.2.2 ≤ T.1.locals)
    (hrm : T.2.1 + mc ≤ T.1.cells ∧ T.2.2.1 + ms ≤ T.1.slots) (hst : As.reverse ++ zr kd i :: st = st0) (hn : As.length = n) (hsz : zsz (zr kd i :: As) ≤ Y.2.2.1) (hcat : zsz st ≤ 8) (hcall : CWn l Y mc ms (zr kd i :: As) M Q) (kk : ∀ r M', Q r M' → AW l X (zT2 T mc ms) pc' lv (r.toList ++ st) M') : AW l X T pc lv st0 M := by
  subst hp; subst hst
  intro g p e s m args below meth c H locs ls hC hW hS hlv hol host
  obtain ⟨⟨hpl, hcode, hini, hy, hdesc, hlink⟩, hinst, hsel, hkd, TT, N, hcl⟩ := hc
  have hn0 := zob_n hkd
  have hargs : ∀ v ∈ zr kd i :: As, zok g v := fun v hv => by
    rcases List.mem_cons.mp hv with rfl | hv
    · exact host _ (List.mem_append_right _ List.mem_cons_self)
    · exact host _ (List.mem_append_left _ (List.mem_reverse.mpr hv))
  have hM := hcall.met hpl hsz g hargs
  obtain ⟨hx, hb, hml, hown, hts, hr, hlo, hK, hnm, hcl1, hsl1⟩ := id hC
  obtain ⟨n', hn'⟩ := zws_at hn0.1 (hargs (zr kd i) List.mem_cons_self)
  have he : (zws g M)[n']? = some (g.2.1 kd i, .inr (zci kd, zfl g M kd i)) := by rw [zws_get hn', zent_ob hkd]
  have hrecv := va_recv hK.1 hW.1 hcl he
  have hstack : ((As.reverse ++ zr kd i :: st).map (zcv g)) = (As.map (zcv g)).reverse ++ .ref (g.2.1 kd i) :: st.map (zcv g) := by
    rw [List.map_append, List.map_reverse, List.map_cons, zcv_r hn0.2]
  rw [hstack]
  have hPre : PreV s H Y.1.cls (g.2.1 kd i) (zPc g (zr kd i :: As) M) (As.map (zcv g)) := ⟨zPc_blind _ _ _, hrecv, fun U hU hW' => ⟨by rw [List.map_cons, zcv_r hn0.2], by rw [hU]; exact hW, by rw [hU]; exact hK.go hW' hS, by rw [hU]; exact Nat.le_trans hnm.2 hS.1⟩⟩
  have hokst : ∀ v ∈ st, zok g v := fun v hv => host v (List.mem_append_right _ (List.mem_cons_of_mem _ hv))
  have hD : Y.1.cls = Y.1.cls ∧ Y.1.cls ≠ "java/lang/invoke/MethodHandle" ∧ Y.1.cls ≠ "java/lang/invoke/VarHandle" ∧ (parseMethodDescriptor Y.1.desc).map (fun d => d.parameters.length) = some n := ⟨rfl, hy.1, hy.2, hdesc⟩
  rcases hlink with hlink | ⟨hst', hlink⟩
  · refine zrun hC hS hlv hol hokst hrm (va_runV (As := As.map (zcv g)) (rest := st.map (zcv g)) ⟨hx, hb, hml, hown, hts⟩ hM (cwV (ws' := zTB) n hts ?_ rfl rfl rfl hD hroom) hPre rfl (by rw [List.length_map]; exact hn) hlv.1 rfl (lv_room (by rw [zst_cat]; exact hcat)) hd hrm) kk
    intro w hw
    rcases List.mem_append.mp hw with hw | hw
    · have : w ∈ zTB := by
        simp only [List.mem_cons, List.not_mem_nil, or_false] at hw
        rcases hw with rfl | rfl | rfl | rfl <;> assumption
      exact ⟨this, zgood this⟩
    · exact zgoodIn hcode w hw
  · exact zrun hC hS hlv hol hokst hrm (va_runVN (As := As.map (zcv g)) (rest := st.map (zcv g)) (Ts := zTB) (own := X.1.cls) ⟨hx, hb, hml, hown, hts⟩ hM ⟨va_cnB (ws' := zTB) n hts (zgoodIn hcode) rfl rfl rfl (hK.2.1 _ hlink) (hts _ hini) ⟨hy.1, hy.2, hdesc⟩ hroom, hts _ hinst, hts _ hsel⟩ hPre rfl (by rw [List.length_map]; exact hn) hlv.1 rfl (lv_room (by rw [zst_cat]; exact hcat)) hd hrm) kk
theorem aw_callV {Y : zD} {ix n kd i : Nat} {As st0 : List zV} {Q : Option zV → zM → Prop} (hd : dec X pc = .ok (.invokevirtual ix, 3)) (hp : pc + 3 = pc') (hc : zCV X.1.cls ix Y n kd) (hroom : Y.2.2.2.2.1 + 1 ≤ T.1.frames ∧ 8 + (Y.2.2.1 + 11) + Y.2.2.2.2.2 ≤ T.1.locals)
    (hst : As.reverse ++ zr kd i :: st = st0) (hn : As.length = n) (hsz : zsz (zr kd i :: As) ≤ Y.2.2.1) (hcat : zsz st ≤ 8) (hcall : CW l Y (zr kd i :: As) M Q) (kk : ∀ r M', Q r M' → AW l X T pc' lv (r.toList ++ st) M') : AW l X T pc lv st0 M :=
  fun g p e s m args below meth c H locs ls hC => aw_callVn (mc := 0) (ms := 0) hd hp hc hroom ⟨hC.2.2.2.2.2.2.2.2.2.1, hC.2.2.2.2.2.2.2.2.2.2⟩ hst hn hsz hcat hcall kk g p e s m args below meth c H locs ls hC
theorem aw_callSn {Y : zD} {ix n mc ms : Nat} {As st0 : List zV} {Q : Option zV → zM → Prop} (hd : dec X pc = .ok (.invokestatic ix, 3)) (hp : pc + 3 = pc') (hc : zCS X.1.cls ix Y n) (hroom : Y.2.2.2.2.1 + 1 ≤ T.1.frames ∧ 8 + (Y.2.2.1 + 11) + Y.2.2.2.2.2 ≤ T.1.locals)
    (hrm : T.2.1 + mc ≤ T.1.cells ∧ T.2.2.1 + ms ≤ T.1.slots) (hst : As.reverse ++ st = st0) (hn : As.length = n) (hsz : zsz As ≤ Y.2.2.1) (hcat : zsz st ≤ 8) (hcall : CWn l Y mc ms As M Q) (kk : ∀ r M', Q r M' → AW l X (zT2 T mc ms) pc' lv (r.toList ++ st) M') : AW l X T pc lv st0 M := by
  subst hp; subst hst
  intro g p e s m args below meth c H locs ls hC hW hS hlv hol host
  obtain ⟨⟨hpl, hcode, hini, hy, hdesc, hlink⟩, hstat⟩ := hc
  have hargs : ∀ v ∈ As, zok g v := fun v hv => host _ (List.mem_append_left _ (List.mem_reverse.mpr hv))
  have hM := hcall.met hpl hsz g hargs
  obtain ⟨hx, hb, hml, hown, hts, hr, hlo, hK, hnm, hcl1, hsl1⟩ := id hC
  have hstack : ((As.reverse ++ st).map (zcv g)) = (As.map (zcv g)).reverse ++ st.map (zcv g) := by
    rw [List.map_append, List.map_reverse]
  rw [hstack]
  have hPre : PreS s H (zPc g As M) (As.map (zcv g)) := ⟨zPc_blind _ _ _, fun U hU hW' => ⟨rfl, by rw [hU]; exact hW, by rw [hU]; exact hK.go hW' hS, by rw [hU]; exact Nat.le_trans hnm.2 hS.1⟩⟩
  have hokst : ∀ v ∈ st, zok g v := fun v hv => host v (List.mem_append_right _ hv)
  rcases hlink with hlink | ⟨hst', hlink⟩
  · refine zrun hC hS hlv hol hokst hrm (va_runS (As := As.map (zcv g)) (rest := st.map (zcv g)) (Ts := zTB) (own := X.1.cls) ⟨hx, hb, hml, hown, hts⟩ hM ⟨callB_of (ws' := zTB) n hts (zgoodIn hcode) rfl rfl rfl (hts _ hini) (hts _ hlink) ⟨hy.1, hy.2, hdesc⟩ hroom, hts _ hstat⟩ hPre rfl (by rw [List.length_map]; exact hn) hlv.1 rfl (lv_room (by rw [zst_cat]; exact hcat)) hd hrm) kk
  · exact zrun hC hS hlv hol hokst hrm (va_runSN (As := As.map (zcv g)) (rest := st.map (zcv g)) (Ts := zTB) (own := X.1.cls) ⟨hx, hb, hml, hown, hts⟩ hM ⟨va_cnB (ws' := zTB) n hts (zgoodIn hcode) rfl rfl rfl (hK.2.1 _ hlink) (hts _ hini) ⟨hy.1, hy.2, hdesc⟩ hroom, hts _ hstat, trivial⟩ hPre rfl (by rw [List.length_map]; exact hn) hlv.1 rfl (lv_room (by rw [zst_cat]; exact hcat)) hd hrm) kk
theorem aw_callS {Y : zD} {ix n : Nat} {As st0 : List zV} {Q : Option zV → zM → Prop} (hd : dec X pc = .ok (.invokestatic ix, 3)) (hp : pc + 3 = pc') (hc : zCS X.1.cls ix Y n) (hroom : Y.2.2.2.2.1 + 1 ≤ T.1.frames ∧ 8 + (Y.2.2.1 + 11) + Y.2.2.2.2.2 ≤ T.1.locals)
    (hst : As.reverse ++ st = st0) (hn : As.length = n) (hsz : zsz As ≤ Y.2.2.1) (hcat : zsz st ≤ 8) (hcall : CW l Y As M Q) (kk : ∀ r M', Q r M' → AW l X T pc' lv (r.toList ++ st) M') : AW l X T pc lv st0 M :=
  fun g p e s m args below meth c H locs ls hC => aw_callSn (mc := 0) (ms := 0) hd hp hc hroom ⟨hC.2.2.2.2.2.2.2.2.2.1, hC.2.2.2.2.2.2.2.2.2.2⟩ hst hn hsz hcat hcall kk g p e s m args below meth c H locs ls hC
/-- a constructor of a nest mate or another class, run on an object -/
theorem aw_callIn {Y : zD} {ix n kd i mc ms : Nat} {As st0 : List zV} {Q : Option zV → zM → Prop} (hd : dec X pc = .ok (.invokespecial ix, 3)) (hp : pc + 3 = pc') (hc : zCB X.1.cls ix Y n ∧ Cond.instanceMethod Y.1 ∈ zTB ∧ Y.1.name = "<init>" ∧ Y.2.2.2.1 = none ∧ kd ≠ 63) (hroom : Y.2.2.2.2.1 + 1 ≤ T.1.frames ∧ 8 + (Y.2.2.1 + 11) + Y.2.2.2.2.2 ≤ T.1.locals)
    (hrm : T.2.1 + mc ≤ T.1.cells ∧ T.2.2.1 + ms ≤ T.1.slots) (hst : As.reverse ++ zr kd i :: st = st0) (hn : As.length = n) (hsz : zsz (zr kd i :: As) ≤ Y.2.2.1) (hcat : zsz st ≤ 8) (hcall : CWn l Y mc ms (zr kd i :: As) M Q) (kk : ∀ r M', Q r M' → AW l X (zT2 T mc ms) pc' lv (r.toList ++ st) M') : AW l X T pc lv st0 M := by
  subst hp; subst hst
  intro g p e s m args below meth c H locs ls hC hW hS hlv hol host
  obtain ⟨⟨hpl, hcode, hini, hy, hdesc, hlink⟩, hinst, hname, hret, hn0⟩ := hc
  have hargs : ∀ v ∈ zr kd i :: As, zok g v := fun v hv => by
    rcases List.mem_cons.mp hv with rfl | hv
    · exact host _ (List.mem_append_right _ List.mem_cons_self)
    · exact host _ (List.mem_append_left _ (List.mem_reverse.mpr hv))
  have hM := hcall.met hpl hsz g hargs
  obtain ⟨hx, hb, hml, hown, hts, hr, hlo, hK, hnm, hcl1, hsl1⟩ := id hC
  have hstack : ((As.reverse ++ zr kd i :: st).map (zcv g)) = (As.map (zcv g)).reverse ++ .ref (g.2.1 kd i) :: st.map (zcv g) := by
    rw [List.map_append, List.map_reverse, List.map_cons, zcv_r hn0]
  rw [hstack]
  have hPre : PreS s H (zPc g (zr kd i :: As) M) (.ref (g.2.1 kd i) :: As.map (zcv g)) := ⟨zPc_blind _ _ _, fun U hU hW' => ⟨by rw [List.map_cons, zcv_r hn0], by rw [hU]; exact hW, by rw [hU]; exact hK.go hW' hS, by rw [hU]; exact Nat.le_trans hnm.2 hS.1⟩⟩
  have hokst : ∀ v ∈ st, zok g v := fun v hv => host v (List.mem_append_right _ (List.mem_cons_of_mem _ hv))
  have hG := zgoodIn hcode
  have hwd : zwd Y = .code Y.1 Y.2.1 Y.2.2.1 none :: zTB := by unfold zwd; rw [hret]
  rcases hlink with hlink | ⟨hst', hlink⟩
  · exact zrun hC hS hlv hol hokst hrm (va_runI (As := As.map (zcv g)) (rest := st.map (zcv g)) (Ts := zTB) (own := X.1.cls) ⟨hx, hb, hml, hown, hts⟩ hM ⟨callB_of (ws' := zTB) n hts hG hwd rfl rfl (hts _ hini) (hts _ hlink) ⟨hy.1, hy.2, hdesc⟩ hroom, hname, hts _ hinst⟩ hPre rfl (by rw [List.length_map]; exact hn) hlv.1 rfl (lv_room (by rw [zst_cat]; exact hcat)) hd hrm) kk
  · exact zrun hC hS hlv hol hokst hrm (va_runIN (As := As.map (zcv g)) (rest := st.map (zcv g)) (Ts := zTB) (own := X.1.cls) ⟨hx, hb, hml, hown, hts⟩ hM ⟨va_cnB (ws' := zTB) n hts hG hwd rfl rfl (hK.2.1 _ hlink) (hts _ hini) ⟨hy.1, hy.2, hdesc⟩ hroom, hname, hts _ hinst⟩ hPre rfl (by rw [List.length_map]; exact hn) hlv.1 rfl (lv_room (by rw [zst_cat]; exact hcat)) hd hrm) kk
-- answers
variable {mc ms c0 n0 : Nat}
theorem aw_ireturn {Q : Option zV → zM → Prop} {x : Int} (hd : dec X pc = .ok (.ireturn, 1)) (hr : X.2.2.2.1 = some .int) (h : Q (some (zi x)) M) : AW l X (zTn X mc ms c0 n0 Q) pc lv [zi x] M := by
  intro g p e s m args below meth c H locs ls hC hW hS hlv hol host
  obtain ⟨hx, hb, hml, hown, hts, hr', hlo, hK, hnm, hcl1, hsl1⟩ := id hC
  refine W.widen (k := mc) (n := ms) hcl1 hsl1 (zWm ?_ (fun t ht => ⟨g, zX.rf, ht⟩))
  exact W.iret hx hb (hr'.trans hr) (fun t ht hW' => ⟨⟨g, some (zi x), M, zX.rf, rfl, fun v hv => by cases hv; trivial, h, by rw [ht]; exact hW⟩, hS.F ht⟩) hS.2.2 hd hlo
theorem aw_zreturn {Q : Option zV → zM → Prop} {x : Int} (hd : dec X pc = .ok (.ireturn, 1)) (hr : X.2.2.2.1 = some .boolean) (hz : x = 0 ∨ x = 1) (h : Q (some (zi x)) M) : AW l X (zTn X mc ms c0 n0 Q) pc lv [zi x] M := by
  intro g p e s m args below meth c H locs ls hC hW hS hlv hol host
  obtain ⟨hx, hb, hml, hown, hts, hr', hlo, hK, hnm, hcl1, hsl1⟩ := id hC
  refine W.widen (k := mc) (n := ms) hcl1 hsl1 (zWm ?_ (fun t ht => ⟨g, zX.rf, ht⟩))
  exact W.zret hx hb (hr'.trans hr) (by rcases hz with rfl | rfl <;> decide) (fun t ht hW' => ⟨⟨g, some (zi x), M, zX.rf, rfl, fun v hv => by cases hv; trivial, h, by rw [ht]; exact hW⟩, hS.F ht⟩) hS.2.2 hd hlo
theorem aw_creturn {Q : Option zV → zM → Prop} {x : Int} (hd : dec X pc = .ok (.ireturn, 1)) (hr : X.2.2.2.1 = some .char) (hz : narrow .char (.int (Int32.ofInt x)) = .int (Int32.ofInt x)) (h : Q (some (zi x)) M) : AW l X (zTn X mc ms c0 n0 Q) pc lv [zi x] M := by
  intro g p e s m args below meth c H locs ls hC hW hS hlv hol host
  obtain ⟨hx, hb, hml, hown, hts, hr', hlo, hK, hnm, hcl1, hsl1⟩ := id hC
  refine W.widen (k := mc) (n := ms) hcl1 hsl1 (zWm ?_ (fun t ht => ⟨g, zX.rf, ht⟩))
  exact W.zret hx hb (hr'.trans hr) hz (fun t ht hW' => ⟨⟨g, some (zi x), M, zX.rf, rfl, fun v hv => by cases hv; trivial, h, by rw [ht]; exact hW⟩, hS.F ht⟩) hS.2.2 hd hlo
theorem aw_breturn {Q : Option zV → zM → Prop} {x : Int} (hd : dec X pc = .ok (.ireturn, 1)) (hr : X.2.2.2.1 = some .byte) (hz : narrow .byte (.int (Int32.ofInt x)) = .int (Int32.ofInt x)) (h : Q (some (zi x)) M) : AW l X (zTn X mc ms c0 n0 Q) pc lv [zi x] M := by
  intro g p e s m args below meth c H locs ls hC hW hS hlv hol host
  obtain ⟨hx, hb, hml, hown, hts, hr', hlo, hK, hnm, hcl1, hsl1⟩ := id hC
  refine W.widen (k := mc) (n := ms) hcl1 hsl1 (zWm ?_ (fun t ht => ⟨g, zX.rf, ht⟩))
  exact W.zret hx hb (hr'.trans hr) hz (fun t ht hW' => ⟨⟨g, some (zi x), M, zX.rf, rfl, fun v hv => by cases hv; trivial, h, by rw [ht]; exact hW⟩, hS.F ht⟩) hS.2.2 hd hlo
theorem aw_lreturn {Q : Option zV → zM → Prop} {x : Int} (hd : dec X pc = .ok (.lreturn, 1)) (hr : X.2.2.2.1 = some .long) (h : Q (some (zl x)) M) : AW l X (zTn X mc ms c0 n0 Q) pc lv [zl x] M := by
  intro g p e s m args below meth c H locs ls hC hW hS hlv hol host
  obtain ⟨hx, hb, hml, hown, hts, hr', hlo, hK, hnm, hcl1, hsl1⟩ := id hC
  refine W.widen (k := mc) (n := ms) hcl1 hsl1 (zWm ?_ (fun t ht => ⟨g, zX.rf, ht⟩))
  exact W.lret hx hb (hr'.trans hr) (fun t ht hW' => ⟨⟨g, some (zl x), M, zX.rf, rfl, fun v hv => by cases hv; trivial, h, by rw [ht]; exact hW⟩, hS.F ht⟩) hS.2.2 hd hlo
theorem aw_return {Q : Option zV → zM → Prop} (hd : dec X pc = .ok (.return_, 1)) (hr : X.2.2.2.1 = none) (h : Q none M) : AW l X (zTn X mc ms c0 n0 Q) pc lv [] M := by
  intro g p e s m args below meth c H locs ls hC hW hS hlv hol host
  obtain ⟨hx, hb, hml, hown, hts, hr', hlo, hK, hnm, hcl1, hsl1⟩ := id hC
  refine W.widen (k := mc) (n := ms) hcl1 hsl1 (zWm ?_ (fun t ht => ⟨g, zX.rf, ht⟩))
  exact W.vret hx hb (hr'.trans hr) (fun t ht hW' => ⟨⟨g, none, M, zX.rf, rfl, fun v hv => (by cases hv), h, by rw [ht]; exact hW⟩, hS.F ht⟩) hS.2.2 hd hlo
theorem aw_areturnG {Q : Option zV → zM → Prop} {k i : Nat} {ty : FieldType} (hd : dec X pc = .ok (.areturn, 1)) (hr : X.2.2.2.1 = some ty) (hty : (∃ n, ty = .object n) ∨ ∃ t, ty = .array t) (hk : k ≠ 63) (h : Q (some (zr k i)) M) : AW l X (zTn X mc ms c0 n0 Q) pc lv [zr k i] M := by
  intro g p e s m args below meth c H locs ls hC hW hS hlv hol host
  obtain ⟨hx, hb, hml, hown, hts, hr', hlo, hK, hnm, hcl1, hsl1⟩ := id hC
  refine W.widen (k := mc) (n := ms) hcl1 hsl1 (zWm ?_ (fun t ht => ⟨g, zX.rf, ht⟩))
  rw [List.map_cons, zcv_r hk, List.map_nil]
  exact W.aret hx hb (hr'.trans hr) hty (Or.inr ⟨_, rfl⟩) (fun t ht hW' => ⟨⟨g, some (zr k i), M, zX.rf, by rw [Option.map_some, zcv_r hk], fun v hv => by cases hv; exact host _ List.mem_cons_self, h, by rw [ht]; exact hW⟩, hS.F ht⟩) hS.2.2 hd hlo
theorem aw_areturn {Q : Option zV → zM → Prop} {k i : Nat} {nm : String} (hd : dec X pc = .ok (.areturn, 1)) (hr : X.2.2.2.1 = some (.object nm)) (hk : k ≠ 63) (h : Q (some (zr k i)) M) : AW l X (zTn X mc ms c0 n0 Q) pc lv [zr k i] M := aw_areturnG hd hr (Or.inl ⟨nm, rfl⟩) hk h
-- references against null
theorem aw_ifnonnull {off : Int} {k i : Nat} (hd : dec X pc = .ok (.ifnonnull off, 3)) (ht : (pc : Int) + off = (pc' : Int)) (hk : k ≠ 63) (kk : AW l X T pc' lv st M) : AW l X T pc lv (zr k i :: st) M := by
  refine AW.go (fun _ h _ => zokt h) ?_ kk
  intro g p e s m args below meth c H locs ls Q hC hW hS hlv host h
  rw [List.map_cons, zcv_r hk]
  exact lv_ifnonnull hC.1 hC.2.1 hd ht h
theorem aw_ifnull {off : Int} {k i : Nat} (hd : dec X pc = .ok (.ifnull off, 3)) (hp : pc + 3 = pc') (hk : k ≠ 63) (kk : AW l X T pc' lv st M) : AW l X T pc lv (zr k i :: st) M := by
  subst hp
  refine AW.go (fun _ h _ => zokt h) ?_ kk
  intro g p e s m args below meth c H locs ls Q hC hW hS hlv host h
  rw [List.map_cons, zcv_r hk]
  exact lv_ifnull hC.1 hC.2.1 hd h
-- strings
theorem aw_ldcS {ix i : Nat} {tx : String} (hd : dec X pc = .ok (.ldc ix, 2)) (hp : pc + 2 = pc') (h : (X.1.cls, ix, tx, i) ∈ zsRefs) (hi : i < zsN) (kk : AW l X T pc' lv (zr 61 i :: st) M) : AW l X T pc lv st M := by
  subst hp
  refine AW.go (fun _ h _ => zok1 (v := zr 61 i) (zok_n (by decide) hi) h) ?_ kk
  intro g p e s m args below meth c H locs ls Q hC hW hS hlv host hk
  rw [List.map_cons, zcv_r (by decide)] at hk
  exact va_ldcS hC.1 hC.2.1 hC.2.2.2.1 (hC.2.2.2.2.2.2.2.1.2.2.2.1 _ h) hd hk
-- Math
theorem zmax_i {x y : Int} (hx : zI x) (hy : zI y) : (if Int32.ofInt x < Int32.ofInt y then Int32.ofInt y else Int32.ofInt x) = Int32.ofInt (max x y) := by
  by_cases h : x < y
  · rw [if_pos ((zI_lt hx hy).mpr h), Int.max_eq_right (by omega)]
  · rw [if_neg (fun q => h ((zI_lt hx hy).mp q)), Int.max_eq_left (by omega)]
/-- Math.max of two ints is the pool entry ix of own -/
def zMx (own : String) (ix : Nat) : Prop := Cond.methodLink own ix Lib.Math.max.name ∈ zTB ∧ Cond.static Lib.Math.max.name ∈ zTB ∧ Cond.initialized "java/lang/Math" ∈ zTB ∧ Cond.code Lib.Math.max.name Lib.Math.max.code 2 (some .int) ∈ zTB
def zMn (own : String) (ix : Nat) : Prop := Cond.methodLink own ix Lib.Math.min.name ∈ zTB ∧ Cond.static Lib.Math.min.name ∈ zTB ∧ Cond.initialized "java/lang/Math" ∈ zTB ∧ Cond.code Lib.Math.min.name Lib.Math.min.code 2 (some .int) ∈ zTB
theorem aw_max {ix : Nat} {x y : Int} (hd : dec X pc = .ok (.invokestatic ix, 3)) (hp : pc + 3 = pc') (hc : zMx X.1.cls ix) (hroom : 1 ≤ T.1.frames ∧ zsz st + 13 ≤ T.1.locals) (hx : zI x) (hy : zI y) (kk : AW l X T pc' lv (zi (max x y) :: st) M) : AW l X T pc lv (zi y :: zi x :: st) M := by
  subst hp
  refine AW.go (fun _ h _ => zok1i (zokt (zokt h))) ?_ kk
  intro g p e s m args below meth c H locs ls Q hC hW hS hlv host hk
  obtain ⟨hx', hb, hml, hown, hts, hr', hlo, hK, hnm, hcl1, hsl1⟩ := id hC
  refine va_mmax hx' hb (hml.trans hlv.1.symm) hown (hts _ hc.1) (hts _ hc.2.1) (hts _ hc.2.2.1) (hts _ hc.2.2.2) hroom.1 (by rw [zst_cat]; exact hroom.2) hcl1 hsl1 hd ?_
  rw [zmax_i hx hy]
  exact hk
end
end
section
/-! ===== rows: Math, block moves, strings, the script ===== -/
section
variable {l : Launch} {X : zD} {T : zT} {pc pc' : Nat} {lv lv' : List (Nat × zV)} {st st' : List zV} {M M' : zM}
theorem zmin_i {x y : Int} (hx : zI x) (hy : zI y) : (if Int32.ofInt y < Int32.ofInt x then Int32.ofInt y else Int32.ofInt x) = Int32.ofInt (min x y) := by
  by_cases h : y < x
  · rw [if_pos ((zI_lt hy hx).mpr h), Int.min_eq_right (by omega)]
  · rw [if_neg (fun q => h ((zI_lt hy hx).mp q)), Int.min_eq_left (by omega)]
theorem zmin_l {x y : Int} (hx : zJ x) (hy : zJ y) : (if Int64.ofInt y < Int64.ofInt x then Int64.ofInt y else Int64.ofInt x) = Int64.ofInt (min x y) := by
  by_cases h : y < x
  · rw [if_pos ((zJ_lt hy hx).mpr h), Int.min_eq_right (by omega)]
  · rw [if_neg (fun q => h ((zJ_lt hy hx).mp q)), Int.min_eq_left (by omega)]
theorem aw_min {ix : Nat} {x y : Int} (hd : dec X pc = .ok (.invokestatic ix, 3)) (hp : pc + 3 = pc') (hc : zMn X.1.cls ix) (hroom : 1 ≤ T.1.frames ∧ zsz st + 13 ≤ T.1.locals) (hx : zI x) (hy : zI y) (kk : AW l X T pc' lv (zi (min x y) :: st) M) : AW l X T pc lv (zi y :: zi x :: st) M := by
  subst hp
  refine AW.go (fun _ h _ => zok1i (zokt (zokt h))) ?_ kk
  intro g p e s m args below meth c H locs ls Q hC hW hS hlv host hk
  obtain ⟨hx', hb, hml, hown, hts, hr', hlo, hK, hnm, hcl1, hsl1⟩ := id hC
  refine va_mmin hx' hb (hml.trans hlv.1.symm) hown (hts _ hc.1) (hts _ hc.2.1) (hts _ hc.2.2.1) (hts _ hc.2.2.2) hroom.1 (by rw [zst_cat]; exact hroom.2) hcl1 hsl1 hd ?_
  rw [zmin_i hx hy]
  exact hk
def zMnL (own : String) (ix : Nat) : Prop := Cond.methodLink own ix Lib.MathLoose.min_long.x ∈ zTB ∧ Cond.static Lib.MathLoose.min_long.x ∈ zTB ∧ Cond.initialized "java/lang/Math" ∈ zTB ∧ Cond.code Lib.MathLoose.min_long.x Lib.MathLoose.min_long.code 4 (some .long) ∈ zTB
theorem zlen_sm (k : Nat) : zlen k ≤ 1000000 := by
  have h : ∀ n ∈ zlenL, n ≤ 1000000 := by decide
  unfold zlen
  rw [List.getD_eq_getElem?_getD]
  cases hq : zlenL[k]? with
  | none => simp
  | some n => exact h n (List.mem_of_getElem? hq)
theorem aw_minL {ix : Nat} {x y : Int} (hd : dec X pc = .ok (.invokestatic ix, 3)) (hp : pc + 3 = pc') (hc : zMnL X.1.cls ix) (hroom : 1 ≤ T.1.frames ∧ zsz st + 15 ≤ T.1.locals) (hx : zJ x) (hy : zJ y) (kk : AW l X T pc' lv (zl (min x y) :: st) M) : AW l X T pc lv (zl y :: zl x :: st) M := by
  subst hp
  refine AW.go (fun _ h _ => zok1l (zokt (zokt h))) ?_ kk
  intro g p e s m args below meth c H locs ls Q hC hW hS hlv host hk
  obtain ⟨hx', hb, hml, hown, hts, hr', hlo, hK, hnm, hcl1, hsl1⟩ := id hC
  refine va_mmin_long hx' hb (hml.trans hlv.1.symm) hown (hts _ hc.1) (hts _ hc.2.1) (hts _ hc.2.2.1) (hts _ hc.2.2.2) hroom.1 (by rw [zst_cat]; exact hroom.2) hcl1 hsl1 hd ?_
  rw [zmin_l hx hy]
  exact hk
-- System.arraycopy of int arrays, from 0 to 0
def zCp (own : String) (ix : Nat) : Prop := Cond.methodLink own ix arraycopyName ∈ zTB ∧ Cond.native arraycopyName ∈ zTB ∧ Cond.static arraycopyName ∈ zTB ∧ Cond.initialized "java/lang/System" ∈ zTB
/-- a block of an array moved, from s0 on, to d0 on -/
def zcq (M : zM) (k0 i0 : Nat) (s0 : Int) (k1 i1 : Nat) (d0 n : Int) : zM := fun k i j => if k = k1 ∧ i = i1 ∧ d0 ≤ j ∧ j < d0 + n then M k0 i0 (s0 + (j - d0)) else M k i j
theorem zcq_o {M : zM} {k0 i0 k1 i1 : Nat} {s0 d0 n : Int} : ∀ k' i', ¬ (k' = k1 ∧ i' = i1) → zcq M k0 i0 s0 k1 i1 d0 n k' i' = M k' i' := by
  intro k' i' h
  funext j
  exact if_neg fun q => h ⟨q.1, q.2.1⟩
theorem zcp_q {M : zM} {k0 i0 k1 i1 : Nat} {n : Int} : zcp M k0 i0 k1 i1 n = zcq M k0 i0 0 k1 i1 0 n := by
  funext k i j
  unfold zcp zcq
  simp only [Int.zero_add, Int.sub_zero]
theorem zcq_O {g : zG} {M : zM} {k0 i0 k1 i1 : Nat} {s0 d0 n : Int} (hO : zO g M) (hk : k1 ≠ 97) (hr : ∀ j, zrp k1 j = none) : zO g (zcq M k0 i0 s0 k1 i1 d0 n) := by
  have e : ∀ q, zcq M k0 i0 s0 k1 i1 d0 n 97 0 q = M 97 0 q := fun q => if_neg fun z => hk z.1.symm
  refine hO.u (fun q => e q) ?_
  intro k i j k' h1 h2 h3 h4
  rw [e] at h2 ⊢
  by_cases c : k = k1
  · rw [c, hr] at h4; cases h4
  · rw [show zcq M k0 i0 s0 k1 i1 d0 n k i j = M k i j from if_neg fun z => c z.1]
    exact hO.2.2.1 k i j k' h1 h2 h3 h4
/-- what an int, boolean, byte array may hold -/
def zft (t : Nat) (x : Int) : Prop := t = 0 ∨ (t = 1 ∧ (x = 0 ∨ x = 1)) ∨ (t = 2 ∧ -128 ≤ x ∧ x < 128)
theorem zft_b {x : Int} (h : -128 ≤ x ∧ x < 128) : fits .byte (.int (Int32.ofInt x)) = true := by
  show (decide (-128 ≤ Int32.ofInt x) && decide (Int32.ofInt x ≤ 127)) = true
  rw [Bool.and_eq_true, decide_eq_true_eq, decide_eq_true_eq, Int32.le_iff_toInt_le, Int32.le_iff_toInt_le, Int32.toInt_ofInt_of_le (by omega) (by omega)]
  have e1 : (-128 : Int32).toInt = -128 := by decide
  have e2 : (127 : Int32).toInt = 127 := by decide
  omega
/-- System.arraycopy between int, boolean or byte arrays -/
theorem aw_copyG {ix k0 i0 k1 i1 t : Nat} {s0 d0 n : Int} (hd : dec X pc = .ok (.invokestatic ix, 3)) (hp : pc + 3 = pc') (hc : zCp X.1.cls ix) (hroom : 1 ≤ T.1.frames ∧ zsz st + 18 ≤ T.1.locals) (ht : t < 3) (hk0 : zaG k0 t) (hk1 : zaG k1 t) (hn : 0 ≤ n ∧ 0 ≤ s0 ∧ 0 ≤ d0 ∧ s0 + n ≤ (zln M k0 i0 : Nat) ∧ d0 + n ≤ (zln M k1 i1 : Nat)) (hl0 : zln M k0 i0 ≤ 1000000) (hl1 : zln M k1 i1 ≤ 1000000) (hft : ∀ j : Int, s0 ≤ j → j < s0 + n → zft t (M k0 i0 j)) (kk : AW l X T pc' lv st (zcq M k0 i0 s0 k1 i1 d0 n)) : AW l X T pc lv (zi n :: zi d0 :: zr k1 i1 :: zi s0 :: zr k0 i0 :: st) M := by
  subst hp
  intro g p e s m args below meth c H locs ls hC hW hS hlv hol host
  obtain ⟨hx', hb, hml, hown, hts, hr', hlo, hK, hnm, hcl1, hsl1⟩ := id hC
  obtain ⟨q1, hq1⟩ := zws_at hk1.1.1 (host (zr k1 i1) (by simp))
  obtain ⟨q0, hq0⟩ := zws_at hk0.1.1 (host (zr k0 i0) (by simp))
  have he0 := zws_get (g := g) (M := M) hq0
  have he1 := zws_get (g := g) (M := M) hq1
  have z0 := hk0.2
  have z1 := hk1.2
  rw [zent_arr hk0.1.2.2, zarr_i (by omega), hk0.2] at he0
  rw [zent_arr hk1.1.2.2, zarr_i (by omega), hk1.2] at he1
  have cl : ∀ x : Int, 0 ≤ x → x ≤ 1000000 → (((Int32.ofInt x).toNatClampNeg : Nat) : Int) = x := fun x h1 h2 => by
    rw [Int32.toNatClampNeg_ofInt_of_le (by omega) (by omega)]
    omega
  have en := cl n (by omega) (by omega)
  have es := cl s0 (by omega) (by omega)
  have ed := cl d0 (by omega) (by omega)
  have ng : ∀ x : Int, 0 ≤ x → x ≤ 1000000 → ¬ Int32.ofInt x < 0 := fun x h1 h2 h => by
    rw [Int32.lt_iff_toInt_lt, Int32.toInt_ofInt_of_le (by omega) (by omega)] at h
    have : (0 : Int32).toInt = 0 := rfl
    omega
  have hln : zln (zcq M k0 i0 s0 k1 i1 d0 n) k1 i1 = zln M k1 i1 := by
    unfold zln
    rw [show zcq M k0 i0 s0 k1 i1 d0 n k1 i1 (-1) = M k1 i1 (-1) from if_neg fun z => by omega]
  have hs := zws_set (g := g) hW.2.2 hq1 (M := M) (M' := zcq M k0 i0 s0 k1 i1 d0 n) zcq_o
  rw [zent_arr hk1.1.2.2, zarr_i (by omega), hk1.2, hln] at hs
  have hcpy : (va_cpy (fun j : Nat => Int32.ofInt (M k0 i0 (j : Int))) (fun j : Nat => Int32.ofInt (M k1 i1 (j : Int))) (Int32.ofInt s0).toNatClampNeg (Int32.ofInt d0).toNatClampNeg (Int32.ofInt n).toNatClampNeg) = fun j : Nat => Int32.ofInt (zcq M k0 i0 s0 k1 i1 d0 n k1 i1 (j : Int)) := by
    funext j
    unfold va_cpy zcq
    by_cases h : d0 ≤ (j : Int) ∧ (j : Int) < d0 + n
    · rw [if_pos (by omega), if_pos ⟨rfl, rfl, h.1, h.2⟩]
      refine congrArg (fun q : Int => Int32.ofInt (M k0 i0 q)) ?_
      omega
    · rw [if_neg (by omega), if_neg (by rintro ⟨-, -, q⟩; exact h q)]
  rw [List.map_cons, List.map_cons, List.map_cons, List.map_cons, List.map_cons, zcv_r (by omega), zcv_r (by omega)]
  obtain ⟨ty, hty⟩ : ∃ ty, (ztys g)[t]? = some (g.2.2.1 t, ty) ∧ ((t = 0 ∧ ty = .int) ∨ (t = 1 ∧ ty = .boolean) ∨ (t = 2 ∧ ty = .byte)) := by
    match t, ht with
    | 0, _ => exact ⟨_, rfl, Or.inl ⟨rfl, rfl⟩⟩
    | 1, _ => exact ⟨_, rfl, Or.inr (Or.inl ⟨rfl, rfl⟩)⟩
    | 2, _ => exact ⟨_, rfl, Or.inr (Or.inr ⟨rfl, rfl⟩)⟩
  refine va_copyi (sp := Int32.ofInt s0) (dp := Int32.ofInt d0) (n := Int32.ofInt n) (ty := ty) hx' hb (hml.trans hlv.1.symm) hown (hts _ hc.1) (hts _ hc.2.1) (hts _ hc.2.2.1) (hts _ hc.2.2.2) hK.1 hW.1 hW.2.1 hS q0 q1 t t he0 he1 hty.1 hty.1 (by rcases hty.2 with ⟨-, h⟩ | ⟨-, h⟩ | ⟨-, h⟩ <;> rw [h] <;> rfl) (ng _ (by omega) (by omega)) (ng _ (by omega) (by omega)) (ng _ (by omega) (by omega)) ?_ ?_ (fun i hi => ?_) hroom.1 (by rw [zst_cat]; exact hroom.2) hd (fun H1 locs1 h1 h2 h3 => ?_)
  · omega
  · omega
  · have h := hft ((((Int32.ofInt s0).toNatClampNeg + i : Nat)) : Int) (by omega) (by omega)
    rcases hty.2 with ⟨h1, h2⟩ | ⟨h1, h2⟩ | ⟨h1, h2⟩ <;> rw [h2]
    · rfl
    · have : M k0 i0 (((Int32.ofInt s0).toNatClampNeg + i : Nat) : Int) = 0 ∨ M k0 i0 (((Int32.ofInt s0).toNatClampNeg + i : Nat) : Int) = 1 := by unfold zft at h; omega
      rcases this with e | e <;> rw [e] <;> decide
    · exact zft_b (by unfold zft at h; omega)
  · rw [hcpy, hs] at h1 h2
    exact kk g p e s m args below meth c H1 locs1 ls hC ⟨h1, h2, zcq_O hW.2.2 hk1.1.2.1 (fun j => zrp_na hk1.1.2.2 (by omega))⟩ h3 hlv hol (zokt (zokt (zokt (zokt (zokt host)))))
theorem aw_copy {ix k0 i0 k1 i1 : Nat} {n : Int} (hd : dec X pc = .ok (.invokestatic ix, 3)) (hp : pc + 3 = pc') (hc : zCp X.1.cls ix) (hroom : 1 ≤ T.1.frames ∧ zsz st + 18 ≤ T.1.locals) (hk0 : zar k0 0) (hk1 : zar k1 0) (hn : 0 < n ∧ n ≤ (zlen k0 : Nat) ∧ n ≤ (zlen k1 : Nat)) (kk : AW l X T pc' lv st (zcp M k0 i0 k1 i1 n)) : AW l X T pc lv (zi n :: zi 0 :: zr k1 i1 :: zi 0 :: zr k0 i0 :: st) M := by
  have l0 := zlen_sm k0
  have l1 := zlen_sm k1
  have e0 : zln M k0 i0 = zlen k0 := zln_s (by omega)
  have e1 : zln M k1 i1 = zlen k1 := zln_s (by omega)
  refine aw_copyG hd hp hc hroom (by decide : 0 < 3) hk0.G hk1.G (by rw [e0, e1]; omega) (by omega) (by omega) (fun _ _ _ => Or.inl rfl) ?_
  rw [← zcp_q]
  exact kk
-- strings: their bytes
theorem aw_compact {ix : Nat} (hd : dec X pc = .ok (.getstatic ix, 3)) (hp : pc + 3 = pc') (hc : Cond.fieldLink X.1.cls ix "java/lang/String" "COMPACT_STRINGS" "Z" ∈ zTB) (kk : AW l X T pc' lv (zi 1 :: st) M) : AW l X T pc lv st M := by
  subst hp
  refine AW.go (fun _ h _ => zok1i h) ?_ kk
  intro g p e s m args below meth c H locs ls Q hC hW hS hlv host hk
  obtain ⟨hx', hb, hml, hown, hts, hr', hlo, hK, hnm, hcl1, hsl1⟩ := id hC
  exact va_gets hx' hb hK.2.2.2.2.1 hS hown (hts _ hc) (fun x h => h) hd hk
theorem aw_former {ix : Nat} (hd : dec X pc = .ok (.getstatic ix, 3)) (hp : pc + 3 = pc') (hc : Cond.fieldLink X.1.cls ix "jdk/internal/util/Preconditions" "SIOOBE_FORMATTER" "Ljava/util/function/BiFunction;" ∈ zTB) (kk : AW l X T pc' lv (zr 63 0 :: st) M) : AW l X T pc lv st M := by
  subst hp
  refine AW.go (fun _ h _ => zok1 (v := zr 63 0) (zok_n (by decide) (show 0 < zcnt 63 by decide)) h) ?_ kk
  intro g p e s m args below meth c H locs ls Q hC hW hS hlv host hk
  obtain ⟨hx', hb, hml, hown, hts, hr', hlo, hK, hnm, hcl1, hsl1⟩ := id hC
  rw [List.map_cons] at hk
  exact va_gets hx' hb hK.2.2.2.2.2.2.1 hS hown (hts _ hc) (fun x h => h) hd hk
theorem zok_m {g : zG} {k i : Nat} (hk : 60 ≤ k ∧ k < 64) (h : zok g (zr k i)) : i < zcnt k := by
  have h' : if 60 ≤ k ∧ k < 64 then i < zcnt k else (k, i) ∈ zall g := h
  rwa [if_pos hk] at h'
theorem zs_lt {g : zG} {i : Nat} {st : List zV} (h : ∀ v ∈ zr 61 i :: st, zok g v) : i < zsN := zok_m (by decide) (h _ List.mem_cons_self)
theorem aw_coder {ix i : Nat} (hd : dec X pc = .ok (.getfield ix, 3)) (hp : pc + 3 = pc') (hc : Cond.fieldLink X.1.cls ix "java/lang/String" "coder" "B" ∈ zTB) (kk : AW l X T pc' lv (zi 0 :: st) M) : AW l X T pc lv (zr 61 i :: st) M := by
  subst hp
  refine AW.go (fun _ h _ => zok1i (zokt h)) ?_ kk
  intro g p e s m args below meth c H locs ls Q hC hW hS hlv host hk
  obtain ⟨hx', hb, hml, hown, hts, hr', hlo, hK, hnm, hcl1, hsl1⟩ := id hC
  rw [List.map_cons, zcv_r (by decide)]
  exact vk_getf hx' hb (hK.2.2.1.1 i (zs_lt host)).2.1 hS hown (hts _ hc) (fun x h => h) hd hk
theorem aw_value {ix i : Nat} (hd : dec X pc = .ok (.getfield ix, 3)) (hp : pc + 3 = pc') (hc : Cond.fieldLink X.1.cls ix "java/lang/String" "value" "[B" ∈ zTB) (kk : AW l X T pc' lv (zr 62 i :: st) M) : AW l X T pc lv (zr 61 i :: st) M := by
  subst hp
  refine AW.go (fun _ h _ => zok1 (v := zr 62 i) (zok_n (by decide) (show i < zcnt 62 from zs_lt h)) (zokt h)) ?_ kk
  intro g p e s m args below meth c H locs ls Q hC hW hS hlv host hk
  obtain ⟨hx', hb, hml, hown, hts, hr', hlo, hK, hnm, hcl1, hsl1⟩ := id hC
  rw [List.map_cons, zcv_r (by decide)] at hk
  rw [List.map_cons, zcv_r (by decide)]
  exact vk_getf hx' hb (hK.2.2.1.1 i (zs_lt host)).2.2.1 hS hown (hts _ hc) (fun x h => h) hd hk
theorem aw_slen {i : Nat} (hd : dec X pc = .ok (.arraylength, 1)) (hp : pc + 1 = pc') (kk : AW l X T pc' lv (zi (zsLen.getD i 0 : Nat) :: st) M) : AW l X T pc lv (zr 62 i :: st) M := by
  subst hp
  refine AW.go (fun _ h _ => zok1i (zokt h)) ?_ kk
  intro g p e s m args below meth c H locs ls Q hC hW hS hlv host hk
  obtain ⟨hx', hb, hml, hown, hts, hr', hlo, hK, hnm, hcl1, hsl1⟩ := id hC
  rw [List.map_cons, zcv_r (by decide)]
  have hi : i < zsN := zok_m (k := 62) (by decide) (host _ List.mem_cons_self)
  exact va_tlen hx' hb (hK.2.2.1.1 i hi).2.2.2 hS (by rw [← Int32.ofInt_eq_ofNat]) hd hk
theorem aw_sbyte {i : Nat} {j z : Int} (hd : dec X pc = .ok (.baload, 1)) (hp : pc + 1 = pc') (hj : 0 ≤ j ∧ j < (zsLen.getD i 0 : Nat)) (hz : (zsByt.getD i []).getD j.toNat 0 = Int32.ofInt z) (hs : zsLen.getD i 0 < 2000000000) (kk : AW l X T pc' lv (zi z :: st) M) : AW l X T pc lv (zi j :: zr 62 i :: st) M := by
  subst hp
  refine AW.go (fun _ h _ => zok1i (zokt (zokt h))) ?_ kk
  intro g p e s m args below meth c H locs ls Q hC hW hS hlv host hk
  obtain ⟨hx', hb, hml, hown, hts, hr', hlo, hK, hnm, hcl1, hsl1⟩ := id hC
  rw [List.map_cons, List.map_cons, zcv_r (by decide)]
  have hi : i < zsN := zok_m (k := 62) (by decide) (host (zr 62 i) (List.mem_cons_of_mem _ List.mem_cons_self))
  have e := zcl_of (j := j) (by omega)
  refine va_tb hx' hb (hK.2.2.1.1 i hi).2.2.2 hS (zin_of (by omega) hj) (v := .int (Int32.ofInt z)) ?_ hd hk
  show Value.int _ = _
  rw [show (Int32.ofInt j).toNatClampNeg = j.toNat by omega, hz]
theorem aw_callT {Y : zD} {ix n i : Nat} {As st0 : List zV} {Q : Option zV → zM → Prop} (hd : dec X pc = .ok (.invokevirtual ix, 3)) (hp : pc + 3 = pc') (hc : zCB X.1.cls ix Y n ∧ Cond.instanceMethod Y.1 ∈ zTB ∧ Cond.selects Y.1.cls Y.1 Y.1 ∈ zTB ∧ Y.1.cls = "java/lang/String") (hroom : Y.2.2.2.2.1 + 1 ≤ T.1.frames ∧ 8 + (Y.2.2.1 + 11) + Y.2.2.2.2.2 ≤ T.1.locals)
    (hst : As.reverse ++ zr 61 i :: st = st0) (hn : As.length = n) (hsz : zsz (zr 61 i :: As) ≤ Y.2.2.1) (hcat : zsz st ≤ 8) (hcall : CW l Y (zr 61 i :: As) M Q) (kk : ∀ r M', Q r M' → AW l X T pc' lv (r.toList ++ st) M') : AW l X T pc lv st0 M := by
  subst hp; subst hst
  intro g p e s m args below meth c H locs ls hC hW hS hlv hol host
  obtain ⟨⟨hpl, hcode, hini, hy, hdesc, hlink⟩, hinst, hsel, hstr⟩ := hc
  have hargs : ∀ v ∈ zr 61 i :: As, zok g v := fun v hv => by
    rcases List.mem_cons.mp hv with rfl | hv
    · exact host _ (List.mem_append_right _ List.mem_cons_self)
    · exact host _ (List.mem_append_left _ (List.mem_reverse.mpr hv))
  have hM := CWn.met (mc := 0) (ms := 0) hcall hpl hsz g hargs
  obtain ⟨hx, hb, hml, hown, hts, hr, hlo, hK, hnm, hcl1, hsl1⟩ := id hC
  have hrecv := vk_recv hK.2.2.1 (zs_lt hargs) hS
  rw [← hstr] at hrecv
  have hstack : ((As.reverse ++ zr 61 i :: st).map (zcv g)) = (As.map (zcv g)).reverse ++ .ref (g.2.1 61 i) :: st.map (zcv g) := by
    rw [List.map_append, List.map_reverse, List.map_cons, zcv_r (by omega)]
  rw [hstack]
  have hPre : PreV s H Y.1.cls (g.2.1 61 i) (zPc g (zr 61 i :: As) M) (As.map (zcv g)) := ⟨zPc_blind _ _ _, hrecv, fun U hU hW' => ⟨by rw [List.map_cons, zcv_r (by omega)], by rw [hU]; exact hW, by rw [hU]; exact hK.go hW' hS, by rw [hU]; exact Nat.le_trans hnm.2 hS.1⟩⟩
  have hokst : ∀ v ∈ st, zok g v := fun v hv => host v (List.mem_append_right _ (List.mem_cons_of_mem _ hv))
  have hD : Y.1.cls = Y.1.cls ∧ Y.1.cls ≠ "java/lang/invoke/MethodHandle" ∧ Y.1.cls ≠ "java/lang/invoke/VarHandle" ∧ (parseMethodDescriptor Y.1.desc).map (fun d => d.parameters.length) = some n := ⟨rfl, hy.1, hy.2, hdesc⟩
  rcases hlink with hlink | ⟨hst', hlink⟩
  · refine zrun hC hS hlv hol hokst ⟨hcl1, hsl1⟩ (va_runV (As := As.map (zcv g)) (rest := st.map (zcv g)) ⟨hx, hb, hml, hown, hts⟩ hM (cwV (ws' := zTB) n hts ?_ rfl rfl rfl hD hroom) hPre rfl (by rw [List.length_map]; exact hn) hlv.1 rfl (lv_room (by rw [zst_cat]; exact hcat)) hd ⟨hcl1, hsl1⟩) kk
    intro w hw
    rcases List.mem_append.mp hw with hw | hw
    · have : w ∈ zTB := by
        simp only [List.mem_cons, List.not_mem_nil, or_false] at hw
        rcases hw with rfl | rfl | rfl | rfl <;> assumption
      exact ⟨this, zgood this⟩
    · exact zgoodIn hcode w hw
  · exact zrun hC hS hlv hol hokst ⟨hcl1, hsl1⟩ (va_runVN (As := As.map (zcv g)) (rest := st.map (zcv g)) (Ts := zTB) (own := X.1.cls) ⟨hx, hb, hml, hown, hts⟩ hM ⟨va_cnB (ws' := zTB) n hts (zgoodIn hcode) rfl rfl rfl (hK.2.1 _ hlink) (hts _ hini) ⟨hy.1, hy.2, hdesc⟩ hroom, hts _ hinst, hts _ hsel⟩ hPre rfl (by rw [List.length_map]; exact hn) hlv.1 rfl (lv_room (by rw [zst_cat]; exact hcat)) hd ⟨hcl1, hsl1⟩) kk
theorem aw_i2c {x : Int} (hd : dec X pc = .ok (.i2c, 1)) (hp : pc + 1 = pc') (hx : 0 ≤ x ∧ x < 65536) (kk : AW l X T pc' lv (zi x :: st) M) : AW l X T pc lv (zi x :: st) M := by
  subst hp
  refine AW.go (fun _ h _ => h) ?_ kk
  intro g p e s m args below meth c H locs ls Q hC hW hS hlv host hk
  refine lv_i2c (v := Int32.ofInt x) hC.1 hC.2.1 hd ?_ hk
  obtain ⟨n, rfl⟩ := Int.eq_ofNat_of_zero_le hx.1
  have hn : n < 65536 := by omega
  show ((Int32.ofInt (n : Int)).toUInt32 % 65536).toInt32 = Int32.ofInt (n : Int)
  rw [Int32.ofInt_eq_ofNat]
  have h1 := pk_char (nI n)
  rw [show (nI n).toBitVec.toNat = n from pk_tn (by omega), Nat.mod_eq_of_lt hn] at h1
  exact h1
-- the script
theorem aw_sld {j z : Int} (hd : dec X pc = .ok (.iaload, 1)) (hp : pc + 1 = pc') (P : zG → Prop) (hP : ∀ g, P g → 0 ≤ j ∧ j < (g.2.2.2.1 : Nat) ∧ g.2.2.2.1 < 2000000000 ∧ g.2.2.2.2.1 j.toNat = Int32.ofInt z)
    (hT : ∀ g p s m args meth c, zC X T g p s m args meth c → P g) (kk : AW l X T pc' lv (zi z :: st) M) : AW l X T pc lv (zi j :: zr 60 0 :: st) M := by
  subst hp
  refine AW.go (fun _ h _ => zok1i (zokt (zokt h))) ?_ kk
  intro g p e s m args below meth c H locs ls Q hC hW hS hlv host hk
  obtain ⟨h1, h2, h3, h4⟩ := hP g (hT _ _ _ _ _ _ _ hC)
  obtain ⟨hx', hb, hml, hown, hts, hr', hlo, hK, hnm, hcl1, hsl1⟩ := id hC
  rw [List.map_cons, List.map_cons, zcv_r (by decide)]
  have e := zcl_of (j := j) (by omega)
  refine va_sld hx' hb hK.2.2.2.2.2.1 hK.2.2.2.2.2.2.2.1 hK.2.2.2.2.2.2.2.2.1 hS (zin_of (by omega) ⟨h1, h2⟩) hd ?_
  rw [show (Int32.ofInt j).toNatClampNeg = j.toNat by omega, h4]
  exact hk
end
end
section
/-! ===== contracts by the kind of answer; shorter rows ===== -/
def zTi (X : zD) (P : Int → zM → Prop) : zT := zTm X fun r M' => ∃ x : Int, r = some (zi x) ∧ P x M'
def zTl (X : zD) (P : Int → zM → Prop) : zT := zTm X fun r M' => ∃ x : Int, r = some (zl x) ∧ P x M'
def zTv (X : zD) (P : zM → Prop) : zT := zTm X fun r M' => r = none ∧ P M'
def zTr (X : zD) (k : Nat) (P : Nat → zM → Prop) : zT := zTm X fun r M' => ∃ i : Nat, r = some (zr k i) ∧ P i M'
def CI (l : Launch) (X : zD) (args : List zV) (M : zM) (P : Int → zM → Prop) : Prop := AW l X (zTi X P) 0 (zargs 0 args) [] M
def CL (l : Launch) (X : zD) (args : List zV) (M : zM) (P : Int → zM → Prop) : Prop := AW l X (zTl X P) 0 (zargs 0 args) [] M
def CV (l : Launch) (X : zD) (args : List zV) (M : zM) (P : zM → Prop) : Prop := AW l X (zTv X P) 0 (zargs 0 args) [] M
def CR (l : Launch) (X : zD) (k : Nat) (args : List zV) (M : zM) (P : Nat → zM → Prop) : Prop := AW l X (zTr X k P) 0 (zargs 0 args) [] M
theorem CI.mono {l : Launch} {X : zD} {args : List zV} {M : zM} {P P' : Int → zM → Prop} (k : CI l X args M P) (h : ∀ x M', P x M' → P' x M') : CI l X args M P' := AW_mono k fun _ _ ⟨x, e, q⟩ => ⟨x, e, h x _ q⟩
theorem CL.mono {l : Launch} {X : zD} {args : List zV} {M : zM} {P P' : Int → zM → Prop} (k : CL l X args M P) (h : ∀ x M', P x M' → P' x M') : CL l X args M P' := AW_mono k fun _ _ ⟨x, e, q⟩ => ⟨x, e, h x _ q⟩
theorem CV.mono {l : Launch} {X : zD} {args : List zV} {M : zM} {P P' : zM → Prop} (k : CV l X args M P) (h : ∀ M', P M' → P' M') : CV l X args M P' := AW_mono k fun _ _ ⟨e, q⟩ => ⟨e, h _ q⟩
theorem CR.mono {l : Launch} {X : zD} {args : List zV} {M : zM} {n : Nat} {P P' : Nat → zM → Prop} (k : CR l X n args M P) (h : ∀ x M', P x M' → P' x M') : CR l X n args M P' := AW_mono k fun _ _ ⟨x, e, q⟩ => ⟨x, e, h x _ q⟩
/-- a truth as 0, 1 -/
def zb (c : Prop) [Decidable c] : Int := if c then 1 else 0
theorem zb_I {c : Prop} [Decidable c] : zI (zb c) := by unfold zb; split <;> omega
theorem zb_0 {c : Prop} [Decidable c] (h : zb c = 0) : ¬ c := by
  intro q
  rw [zb, if_pos q] at h
  cases h
theorem zb_n0 {c : Prop} [Decidable c] (h : zb c ≠ 0) : c := by
  by_cases q : c
  · exact q
  · exact absurd (by rw [zb, if_neg q]) h
theorem zb_1 {c : Prop} [Decidable c] (h : c) : zb c = 1 := if_pos h
theorem zb_f {c : Prop} [Decidable c] (h : ¬ c) : zb c = 0 := if_neg h
theorem zb_01 {c : Prop} [Decidable c] : zb c = 0 ∨ zb c = 1 := by unfold zb; split <;> omega
section
variable {l : Launch} {X : zD} {T : zT} {pc pc' : Nat} {lv lv' : List (Nat × zV)} {st st' st0 : List zV} {M M' : zM} {Y : zD} {ix n kd i : Nat} {As : List zV}
theorem aw_eqs {x y : Int} (h : x = y ∧ M' = M) (kk : AW l X T pc lv (zi y :: st) M) : AW l X T pc lv (zi x :: st) M' := by
  obtain ⟨rfl, rfl⟩ := h
  exact kk
theorem aw_eqM {M1 : zM} (h : M' = M1) (kk : AW l X T pc lv st M1) : AW l X T pc lv st M' := by
  subst h
  exact kk
theorem aw_VI {P : Int → zM → Prop} (hd : dec X pc = .ok (.invokevirtual ix, 3)) (hp : pc + 3 = pc') (hc : zCV X.1.cls ix Y n kd) (hroom : Y.2.2.2.2.1 + 1 ≤ T.1.frames ∧ 8 + (Y.2.2.1 + 11) + Y.2.2.2.2.2 ≤ T.1.locals)
    (hst : As.reverse ++ zr kd i :: st = st0) (hn : As.length = n) (hsz : zsz (zr kd i :: As) ≤ Y.2.2.1) (hcat : zsz st ≤ 8) (hcall : CI l Y (zr kd i :: As) M P) (kk : ∀ x M', P x M' → AW l X T pc' lv (zi x :: st) M') : AW l X T pc lv st0 M :=
  aw_callV hd hp hc hroom hst hn hsz hcat hcall fun _ _ ⟨x, e, q⟩ => by rw [e]; exact kk x _ q
theorem aw_VL {P : Int → zM → Prop} (hd : dec X pc = .ok (.invokevirtual ix, 3)) (hp : pc + 3 = pc') (hc : zCV X.1.cls ix Y n kd) (hroom : Y.2.2.2.2.1 + 1 ≤ T.1.frames ∧ 8 + (Y.2.2.1 + 11) + Y.2.2.2.2.2 ≤ T.1.locals)
    (hst : As.reverse ++ zr kd i :: st = st0) (hn : As.length = n) (hsz : zsz (zr kd i :: As) ≤ Y.2.2.1) (hcat : zsz st ≤ 8) (hcall : CL l Y (zr kd i :: As) M P) (kk : ∀ x M', P x M' → AW l X T pc' lv (zl x :: st) M') : AW l X T pc lv st0 M :=
  aw_callV hd hp hc hroom hst hn hsz hcat hcall fun _ _ ⟨x, e, q⟩ => by rw [e]; exact kk x _ q
theorem aw_VV {P : zM → Prop} (hd : dec X pc = .ok (.invokevirtual ix, 3)) (hp : pc + 3 = pc') (hc : zCV X.1.cls ix Y n kd) (hroom : Y.2.2.2.2.1 + 1 ≤ T.1.frames ∧ 8 + (Y.2.2.1 + 11) + Y.2.2.2.2.2 ≤ T.1.locals)
    (hst : As.reverse ++ zr kd i :: st = st0) (hn : As.length = n) (hsz : zsz (zr kd i :: As) ≤ Y.2.2.1) (hcat : zsz st ≤ 8) (hcall : CV l Y (zr kd i :: As) M P) (kk : ∀ M', P M' → AW l X T pc' lv st M') : AW l X T pc lv st0 M :=
  aw_callV hd hp hc hroom hst hn hsz hcat hcall fun _ _ ⟨e, q⟩ => by rw [e]; exact kk _ q
theorem aw_VR {k : Nat} {P : Nat → zM → Prop} (hd : dec X pc = .ok (.invokevirtual ix, 3)) (hp : pc + 3 = pc') (hc : zCV X.1.cls ix Y n kd) (hroom : Y.2.2.2.2.1 + 1 ≤ T.1.frames ∧ 8 + (Y.2.2.1 + 11) + Y.2.2.2.2.2 ≤ T.1.locals)
    (hst : As.reverse ++ zr kd i :: st = st0) (hn : As.length = n) (hsz : zsz (zr kd i :: As) ≤ Y.2.2.1) (hcat : zsz st ≤ 8) (hcall : CR l Y k (zr kd i :: As) M P) (kk : ∀ x M', P x M' → AW l X T pc' lv (zr k x :: st) M') : AW l X T pc lv st0 M :=
  aw_callV hd hp hc hroom hst hn hsz hcat hcall fun _ _ ⟨x, e, q⟩ => by rw [e]; exact kk x _ q
theorem aw_TI {P : Int → zM → Prop} (hd : dec X pc = .ok (.invokevirtual ix, 3)) (hp : pc + 3 = pc') (hc : zCB X.1.cls ix Y n ∧ Cond.instanceMethod Y.1 ∈ zTB ∧ Cond.selects Y.1.cls Y.1 Y.1 ∈ zTB ∧ Y.1.cls = "java/lang/String") (hroom : Y.2.2.2.2.1 + 1 ≤ T.1.frames ∧ 8 + (Y.2.2.1 + 11) + Y.2.2.2.2.2 ≤ T.1.locals)
    (hst : As.reverse ++ zr 61 i :: st = st0) (hn : As.length = n) (hsz : zsz (zr 61 i :: As) ≤ Y.2.2.1) (hcat : zsz st ≤ 8) (hcall : CI l Y (zr 61 i :: As) M P) (kk : ∀ x M', P x M' → AW l X T pc' lv (zi x :: st) M') : AW l X T pc lv st0 M :=
  aw_callT hd hp hc hroom hst hn hsz hcat hcall fun _ _ ⟨x, e, q⟩ => by rw [e]; exact kk x _ q
theorem aw_SI {P : Int → zM → Prop} (hd : dec X pc = .ok (.invokestatic ix, 3)) (hp : pc + 3 = pc') (hc : zCS X.1.cls ix Y n) (hroom : Y.2.2.2.2.1 + 1 ≤ T.1.frames ∧ 8 + (Y.2.2.1 + 11) + Y.2.2.2.2.2 ≤ T.1.locals)
    (hst : As.reverse ++ st = st0) (hn : As.length = n) (hsz : zsz As ≤ Y.2.2.1) (hcat : zsz st ≤ 8) (hcall : CI l Y As M P) (kk : ∀ x M', P x M' → AW l X T pc' lv (zi x :: st) M') : AW l X T pc lv st0 M :=
  aw_callS hd hp hc hroom hst hn hsz hcat hcall fun _ _ ⟨x, e, q⟩ => by rw [e]; exact kk x _ q
theorem aw_SL {P : Int → zM → Prop} (hd : dec X pc = .ok (.invokestatic ix, 3)) (hp : pc + 3 = pc') (hc : zCS X.1.cls ix Y n) (hroom : Y.2.2.2.2.1 + 1 ≤ T.1.frames ∧ 8 + (Y.2.2.1 + 11) + Y.2.2.2.2.2 ≤ T.1.locals)
    (hst : As.reverse ++ st = st0) (hn : As.length = n) (hsz : zsz As ≤ Y.2.2.1) (hcat : zsz st ≤ 8) (hcall : CL l Y As M P) (kk : ∀ x M', P x M' → AW l X T pc' lv (zl x :: st) M') : AW l X T pc lv st0 M :=
  aw_callS hd hp hc hroom hst hn hsz hcat hcall fun _ _ ⟨x, e, q⟩ => by rw [e]; exact kk x _ q
theorem aw_SV {P : zM → Prop} (hd : dec X pc = .ok (.invokestatic ix, 3)) (hp : pc + 3 = pc') (hc : zCS X.1.cls ix Y n) (hroom : Y.2.2.2.2.1 + 1 ≤ T.1.frames ∧ 8 + (Y.2.2.1 + 11) + Y.2.2.2.2.2 ≤ T.1.locals)
    (hst : As.reverse ++ st = st0) (hn : As.length = n) (hsz : zsz As ≤ Y.2.2.1) (hcat : zsz st ≤ 8) (hcall : CV l Y As M P) (kk : ∀ M', P M' → AW l X T pc' lv st M') : AW l X T pc lv st0 M :=
  aw_callS hd hp hc hroom hst hn hsz hcat hcall fun _ _ ⟨e, q⟩ => by rw [e]; exact kk _ q
theorem aw_SR {k : Nat} {P : Nat → zM → Prop} (hd : dec X pc = .ok (.invokestatic ix, 3)) (hp : pc + 3 = pc') (hc : zCS X.1.cls ix Y n) (hroom : Y.2.2.2.2.1 + 1 ≤ T.1.frames ∧ 8 + (Y.2.2.1 + 11) + Y.2.2.2.2.2 ≤ T.1.locals)
    (hst : As.reverse ++ st = st0) (hn : As.length = n) (hsz : zsz As ≤ Y.2.2.1) (hcat : zsz st ≤ 8) (hcall : CR l Y k As M P) (kk : ∀ x M', P x M' → AW l X T pc' lv (zr k x :: st) M') : AW l X T pc lv st0 M :=
  aw_callS hd hp hc hroom hst hn hsz hcat hcall fun _ _ ⟨x, e, q⟩ => by rw [e]; exact kk x _ q
theorem aw_ri {P : Int → zM → Prop} {x : Int} (hd : dec X pc = .ok (.ireturn, 1)) (hr : X.2.2.2.1 = some .int) (h : P x M) : AW l X (zTi X P) pc lv [zi x] M := aw_ireturn hd hr ⟨x, rfl, h⟩
theorem aw_rz {P : Int → zM → Prop} {x : Int} (hd : dec X pc = .ok (.ireturn, 1)) (hr : X.2.2.2.1 = some .boolean) (hz : x = 0 ∨ x = 1) (h : P x M) : AW l X (zTi X P) pc lv [zi x] M := aw_zreturn hd hr hz ⟨x, rfl, h⟩
theorem aw_rl {P : Int → zM → Prop} {x : Int} (hd : dec X pc = .ok (.lreturn, 1)) (hr : X.2.2.2.1 = some .long) (h : P x M) : AW l X (zTl X P) pc lv [zl x] M := aw_lreturn hd hr ⟨x, rfl, h⟩
theorem aw_rv {P : zM → Prop} (hd : dec X pc = .ok (.return_, 1)) (hr : X.2.2.2.1 = none) (h : P M) : AW l X (zTv X P) pc lv [] M := aw_return hd hr ⟨rfl, h⟩
theorem aw_rr {k i : Nat} {nm : String} {P : Nat → zM → Prop} (hd : dec X pc = .ok (.areturn, 1)) (hr : X.2.2.2.1 = some (.object nm)) (hk : k ≠ 63) (h : P i M) : AW l X (zTr X k P) pc lv [zr k i] M := aw_areturn hd hr hk ⟨i, rfl, h⟩
theorem zinL (ws : List Cond) (ps : List Nat) (hp : ws = ps.filterMap (fun i => tables_1[i]?)) (hg : ws.all goodWord = true) : ∀ w ∈ ws, w ∈ zTB := by
  intro w hw
  have h1 := List.all_eq_true.mp hg w hw
  rw [hp] at hw
  obtain ⟨i, -, hi⟩ := List.mem_filterMap.mp hw
  exact zin_t (List.mem_of_getElem? hi) h1
theorem zti {w : Cond} (i : Nat) (h : tables_1[i]? = some w) (hg : goodWord w = true) : w ∈ zTB := zin_t (List.mem_of_getElem? h) hg
theorem zni {w : Cond} (i : Nat) (h : tables_1[i]? = some w) (hg : zisN w = true) : w ∈ znest := List.mem_filter.mpr ⟨List.mem_of_getElem? h, hg⟩
theorem zpi {y : MethodName} (i : Nat) {n : Nat} (h : lw_privs[i]? = some (y, n)) (hg : goodWord (.selects y.cls y y) = true) : Cond.selects y.cls y y ∈ zTB := zin_p (List.mem_map.mpr ⟨(y, n), List.mem_of_getElem? h, rfl⟩) hg
end
end
section
theorem inT0 : ∀ w ∈ u_ws RX0 TX0 11, w ∈ zTB := zinL _ [195, 197, 199, 201, 203, 205, 207, 209, 211, 213, 215] (by decide +kernel) (by decide +kernel)
theorem inT1 : ∀ w ∈ u_ws RX1 TX1 13, w ∈ zTB := zinL _ [64, 66, 68, 70, 72, 74, 76, 78, 80, 82, 84, 86, 88] (by decide +kernel) (by decide +kernel)
theorem inT2 : ∀ w ∈ u_ws RX2 TX2 3, w ∈ zTB := zinL _ [138, 140, 142] (by decide +kernel) (by decide +kernel)
theorem inT3 : ∀ w ∈ u_ws RX3 TX3 2, w ∈ zTB := zinL _ [170, 172] (by decide +kernel) (by decide +kernel)
theorem inT4 : ∀ w ∈ u_ws RX4 TX4 3, w ∈ zTB := zinL _ [226, 228, 230] (by decide +kernel) (by decide +kernel)
theorem inT5 : ∀ w ∈ u_ws RX5 TX5 3, w ∈ zTB := zinL _ [240, 242, 244] (by decide +kernel) (by decide +kernel)
theorem inT6 : ∀ w ∈ u_ws RX6 TX6 2, w ∈ zTB := zinL _ [156, 158] (by decide +kernel) (by decide +kernel)
theorem inT7 : ∀ w ∈ u_ws RX7 TX7 7, w ∈ zTB := zinL _ [110, 112, 114, 116, 118, 120, 122] (by decide +kernel) (by decide +kernel)
theorem inT8 : ∀ w ∈ u_ws RX8 TX8 11, w ∈ zTB := zinL _ [258, 260, 262, 264, 266, 268, 270, 272, 274, 276, 278] (by decide +kernel) (by decide +kernel)
theorem inT64 : ∀ w ∈ u_ws RX9 TX9 12, w ∈ zTB := zinL _ [708, 710, 712, 714, 716, 718, 720, 722, 724, 726, 728, 730] (by decide +kernel) (by decide +kernel)
theorem inT65 : ∀ w ∈ u_ws RX10 TX10 9, w ∈ zTB := zinL _ [1137, 1139, 1141, 1143, 1145, 1147, 1149, 1151, 1153] (by decide +kernel) (by decide +kernel)
theorem inT66 : ∀ w ∈ u_ws RJ0 TJ0 4, w ∈ zTB := zinL _ [975, 977, 979, 981] (by decide +kernel) (by decide +kernel)
theorem inT67 : ∀ w ∈ u_ws RJ4 TJ4 4, w ∈ zTB := zinL _ [776, 778, 780, 782] (by decide +kernel) (by decide +kernel)
def m_X0_init : zD := (yX0_init, cX0_init, 1, none, 1, 24)
def m_X0_take : zD := (yX0_take, cX0_take, 6, none, 3, 73)
def m_X0_takeTrader : zD := (yX0_takeTrader, cX0_takeTrader, 9, none, 2, 45)
def m_X0_insert : zD := (yX0_insert, cX0_insert, 4, (some .int), 0, 0)
def m_X0_traderAt : zD := (yX0_traderAt, cX0_traderAt, 3, (some .int), 1, 22)
def m_X0_slotAt : zD := (yX0_slotAt, cX0_slotAt, 3, (some .int), 0, 0)
def m_X0_bid : zD := (yX0_bid, cX0_bid, 2, (some .int), 0, 0)
def m_X0_ask : zD := (yX0_ask, cX0_ask, 2, (some .int), 0, 0)
def m_X0_amount : zD := (yX0_amount, cX0_amount, 3, (some .int), 1, 21)
def m_X0_lastBid : zD := (yX0_lastBid, cX0_lastBid, 1, (some .int), 1, 21)
def m_X0_lastAsk : zD := (yX0_lastAsk, cX0_lastAsk, 1, (some .int), 1, 21)
def m_X0_settle : zD := (yX0_settle, cX0_settle, 4, none, 3, 62)
def m_X0_priceForAll : zD := (yX0_priceForAll, cX0_priceForAll, 2, (some .int), 2, 41)
def m_X0_worthWithout : zD := (yX0_worthWithout, cX0_worthWithout, 5, (some .int), 2, 44)
def m_X0_doneOf : zD := (yX0_doneOf, cX0_doneOf, 5, (some .int), 2, 44)
def m_X0_moneyOf : zD := (yX0_moneyOf, cX0_moneyOf, 6, (some .int), 3, 68)
def m_X0_amountsDone : zD := (yX0_amountsDone, cX0_amountsDone, 5, (some .int), 2, 44)
def m_X0_takings : zD := (yX0_takings, cX0_takings, 3, (some .int), 3, 68)
def m_X1_init : zD := (yX1_init, cX1_init, 1, none, 1, 24)
def m_X1_clear : zD := (yX1_clear, cX1_clear, 1, none, 0, 0)
def m_X1_copyFrom : zD := (yX1_copyFrom, cX1_copyFrom, 3, none, 1, 26)
def m_X1_has : zD := (yX1_has, cX1_has, 2, (some .boolean), 0, 0)
def m_X1_hasUnit : zD := (yX1_hasUnit, cX1_hasUnit, 4, (some .boolean), 0, 0)
def m_X1_isSeller : zD := (yX1_isSeller, cX1_isSeller, 2, (some .boolean), 1, 21)
def m_X1_gradeOf : zD := (yX1_gradeOf, cX1_gradeOf, 2, (some .int), 1, 21)
def m_X1_unitsOf : zD := (yX1_unitsOf, cX1_unitsOf, 2, (some .int), 1, 21)
def m_X1_purseOf : zD := (yX1_purseOf, cX1_purseOf, 2, (some .int), 1, 21)
def m_X1_tradedOf : zD := (yX1_tradedOf, cX1_tradedOf, 2, (some .int), 1, 21)
def m_X1_said : zD := (yX1_said, cX1_said, 3, (some .int), 1, 23)
def m_X1_setSaid : zD := (yX1_setSaid, cX1_setSaid, 4, none, 1, 23)
def m_X1_fits : zD := (yX1_fits, cX1_fits, 5, (some .boolean), 2, 45)
def m_X1_inOrder : zD := (yX1_inOrder, cX1_inOrder, 3, (some .boolean), 0, 0)
def m_X1_enter : zD := (yX1_enter, cX1_enter, 4, (some .int), 0, 0)
def m_X1_append : zD := (yX1_append, cX1_append, 4, (some .int), 2, 46)
def m_X1_dropFirst : zD := (yX1_dropFirst, cX1_dropFirst, 5, none, 2, 46)
def m_X1_trade : zD := (yX1_trade, cX1_trade, 4, none, 3, 70)
def m_X1_noteClose : zD := (yX1_noteClose, cX1_noteClose, 3, none, 1, 24)
def m_X1_allUnits : zD := (yX1_allUnits, cX1_allUnits, 3, (some .int), 2, 42)
def m_X1_allPurses : zD := (yX1_allPurses, cX1_allPurses, 3, (some .int), 2, 42)
def m_X1_richest : zD := (yX1_richest, cX1_richest, 3, (some .int), 2, 42)
def m_X2_init : zD := (yX2_init, cX2_init, 2, none, 2, 44)
def m_X2_forget : zD := (yX2_forget, cX2_forget, 1, none, 0, 0)
def m_X2_remember : zD := (yX2_remember, cX2_remember, 3, none, 2, 48)
def m_X2_takeBack : zD := (yX2_takeBack, cX2_takeBack, 2, (some .int), 2, 48)
def m_X2_at : zD := (yX2_at, cX2_at, 2, (some (.object "TradeHall$Hall")), 0, 0)
def m_X3_init : zD := (yX3_init, cX3_init, 1, none, 1, 24)
def m_X3_at : zD := (yX3_at, cX3_at, 2, (some .int), 0, 0)
def m_X3_write : zD := (yX3_write, cX3_write, 4, none, 6, 128)
def m_X3_beginPart : zD := (yX3_beginPart, cX3_beginPart, 2, none, 5, 107)
def m_X3_putWord : zD := (yX3_putWord, cX3_putWord, 3, none, 4, 85)
def m_X3_putNumber : zD := (yX3_putNumber, cX3_putNumber, 4, none, 1, 21)
def m_X3_put : zD := (yX3_put, cX3_put, 2, none, 0, 0)
def m_X4_init : zD := (yX4_init, cX4_init, 1, none, 1, 24)
def m_X5_init : zD := (yX5_init, cX5_init, 1, none, 1, 24)
def m_X6_init : zD := (yX6_init, cX6_init, 2, none, 2, 44)
def m_X6_holds : zD := (yX6_holds, cX6_holds, 2, (some .boolean), 1, 20)
def m_X6_put : zD := (yX6_put, cX6_put, 4, none, 2, 48)
def m_X6_fetch : zD := (yX6_fetch, cX6_fetch, 3, none, 2, 48)
def m_X6_at : zD := (yX6_at, cX6_at, 2, (some (.object "TradeHall$Hall")), 1, 20)
def m_X7_init : zD := (yX7_init, cX7_init, 1, none, 2, 44)
def m_X7_append : zD := (yX7_append, cX7_append, 3, none, 0, 0)
def m_X7_read : zD := (yX7_read, cX7_read, 2, (some .int), 7, 152)
def m_X7_readPart : zD := (yX7_readPart, cX7_readPart, 2, none, 6, 131)
def m_X7_readTrader : zD := (yX7_readTrader, cX7_readTrader, 8, none, 3, 69)
def m_X7_readFee : zD := (yX7_readFee, cX7_readFee, 2, none, 3, 64)
def m_X7_readLaw : zD := (yX7_readLaw, cX7_readLaw, 4, none, 5, 108)
def m_X7_readNumber : zD := (yX7_readNumber, cX7_readNumber, 4, (some .int), 2, 41)
def m_X7_note : zD := (yX7_note, cX7_note, 3, none, 0, 0)
def m_X7_skipBlanks : zD := (yX7_skipBlanks, cX7_skipBlanks, 1, none, 1, 21)
def m_X7_skipWord : zD := (yX7_skipWord, cX7_skipWord, 1, none, 1, 21)
def m_X7_isWord : zD := (yX7_isWord, cX7_isWord, 4, (some .boolean), 4, 85)
def m_X7_byteAt : zD := (yX7_byteAt, cX7_byteAt, 2, (some .int), 0, 0)
def m_X7_isDigit : zD := (yX7_isDigit, cX7_isDigit, 1, (some .boolean), 0, 0)
def m_X7_isSmallLetter : zD := (yX7_isSmallLetter, cX7_isSmallLetter, 1, (some .boolean), 0, 0)
def m_X8_init : zD := (yX8_init, cX8_init, 1, none, 3, 65)
def m_X8_feed : zD := (yX8_feed, cX8_feed, 6, (some .int), 1, 22)
def m_X8_end : zD := (yX8_end, cX8_end, 2, (some .int), 0, 0)
def m_X8_tell : zD := (yX8_tell, cX8_tell, 2, (some .int), 8, 173)
def m_X8_come : zD := (yX8_come, cX8_come, 3, (some .int), 3, 70)
def m_X8_add : zD := (yX8_add, cX8_add, 4, (some .int), 3, 70)
def m_X8_say : zD := (yX8_say, cX8_say, 5, (some .int), 3, 70)
def m_X8_leave : zD := (yX8_leave, cX8_leave, 3, (some .int), 3, 70)
def m_X8_fee : zD := (yX8_fee, cX8_fee, 3, (some .int), 3, 70)
def m_X8_law : zD := (yX8_law, cX8_law, 3, (some .int), 3, 70)
def m_X8_close : zD := (yX8_close, cX8_close, 4, (some .int), 5, 119)
def m_X8_undo : zD := (yX8_undo, cX8_undo, 1, (some .int), 3, 69)
def m_X8_keep : zD := (yX8_keep, cX8_keep, 2, (some .int), 3, 71)
def m_X8_back : zD := (yX8_back, cX8_back, 2, (some .int), 3, 70)
def m_X8_trader : zD := (yX8_trader, cX8_trader, 3, (some .int), 5, 119)
def m_X8_audit : zD := (yX8_audit, cX8_audit, 2, (some .int), 3, 64)
def m_X8_letter : zD := (yX8_letter, cX8_letter, 2, (some .int), 7, 151)
def m_X8_count : zD := (yX8_count, cX8_count, 2, (some .int), 6, 142)
def m_X8_isGrade : zD := (yX8_isGrade, cX8_isGrade, 1, (some .boolean), 0, 0)
def m_X8_isValue : zD := (yX8_isValue, cX8_isValue, 1, (some .boolean), 0, 0)
def m_X8_isFee : zD := (yX8_isFee, cX8_isFee, 1, (some .boolean), 0, 0)
def m_X8_isLaw : zD := (yX8_isLaw, cX8_isLaw, 1, (some .boolean), 0, 0)
def m_X8_isShelf : zD := (yX8_isShelf, cX8_isShelf, 1, (some .boolean), 0, 0)
def m_X8_bit : zD := (yX8_bit, cX8_bit, 1, (some .int), 0, 0)
def m_X8_lawWord : zD := (yX8_lawWord, cX8_lawWord, 1, (some (.object "java/lang/String")), 0, 0)
def m_X8_settleGrade : zD := (yX8_settleGrade, cX8_settleGrade, 2, none, 4, 98)
def m_X8_worthOf : zD := (yX8_worthOf, cX8_worthOf, 3, (some .int), 4, 98)
def m_X8_worthOfAll : zD := (yX8_worthOfAll, cX8_worthOfAll, 3, (some .int), 5, 120)
def m_X8_gradesWithTrades : zD := (yX8_gradesWithTrades, cX8_gradesWithTrades, 3, (some .int), 5, 119)
def m_X9_init : zD := (yX9_init, cX9_init, 1, none, 1, 24)
def m_X9_copy : zD := (yX9_copy, cX9_copy, 2, (some (.object "TradeHallLaw$Hall")), 2, 44)
def m_X9_comes : zD := (yX9_comes, cX9_comes, 4, none, 0, 0)
def m_X9_told : zD := (yX9_told, cX9_told, 7, (some (.object "java/lang/String")), 6, 137)
def m_X9_some : zD := (yX9_some, cX9_some, 13, (some (.object "TradeHallLaw$Hall")), 2, 44)
def m_X10_init : zD := (yX10_init, cX10_init, 6, none, 1, 25)
def m_X10_orders : zD := (yX10_orders, cX10_orders, 6, none, 0, 0)
def m_X10_by : zD := (yX10_by, cX10_by, 8, (some (.object "TradeHallLaw$Market")), 0, 0)
def m_X10_doneOf : zD := (yX10_doneOf, cX10_doneOf, 4, (some .int), 0, 0)
def m_J0_length_8abf5 : zD := (yJ0_length_8abf5, cJ0_length_8abf5, 1, (some .int), 1, 20)
def m_J0_charAt_5068e : zD := (yJ0_charAt_5068e, cJ0_charAt_5068e, 2, (some .char), 3, 64)
def m_J1_charAt_3b067 : zD := (yJ1_charAt_3b067, cJ1_charAt_3b067, 2, (some .char), 2, 43)
def m_J0_checkIndex_df160 : zD := (yJ0_checkIndex_df160, cJ0_checkIndex_df160, 2, none, 1, 22)
def m_J0_coder_7d493 : zD := (yJ0_coder_7d493, cJ0_coder_7d493, 1, (some .byte), 0, 0)
def m_J0_isLatin1_aae02 : zD := (yJ0_isLatin1_aae02, cJ0_isLatin1_aae02, 1, (some .boolean), 0, 0)
def m_J3_checkIndex_8e157 : zD := (yJ3_checkIndex_8e157, cJ3_checkIndex_8e157, 3, (some .int), 0, 0)
def m_J4_init_d00df : zD := (yJ4_init_d00df, cJ4_init_d00df, 2, none, 2, 45)
def m_J5_init_d00df : zD := (yJ5_init_d00df, cJ5_init_d00df, 2, none, 1, 24)
def m_J4_append_15ec4 : zD := (yJ4_append_15ec4, cJ4_append_15ec4, 2, (some (.object "java/lang/StringBuilder")), 4, 93)
def m_J4_append_cf468 : zD := (yJ4_append_cf468, cJ4_append_cf468, 2, (some (.object "java/lang/StringBuilder")), 2, 43)
def m_J4_append_bf812 : zD := (yJ4_append_bf812, cJ4_append_bf812, 2, (some (.object "java/lang/StringBuilder")), 2, 49)
def m_J4_toString_0e30d : zD := (yJ4_toString_0e30d, cJ4_toString_0e30d, 1, (some (.object "java/lang/String")), 5, 117)
def m_J4_length_8abf5 : zD := (yJ4_length_8abf5, cJ4_length_8abf5, 1, (some .int), 1, 20)
def m_J5_length_8abf5 : zD := (yJ5_length_8abf5, cJ5_length_8abf5, 1, (some .int), 0, 0)
def m_J5_append_cf1ce : zD := (yJ5_append_cf1ce, cJ5_append_cf1ce, 3, (some (.object "java/lang/AbstractStringBuilder")), 3, 71)
def m_J5_append_3fe6f : zD := (yJ5_append_3fe6f, cJ5_append_3fe6f, 2, (some (.object "java/lang/AbstractStringBuilder")), 1, 22)
def m_J5_append_c97b9 : zD := (yJ5_append_c97b9, cJ5_append_c97b9, 4, (some (.object "java/lang/AbstractStringBuilder")), 1, 26)
def m_J5_ensureCapacityInternal_d00df : zD := (yJ5_ensureCapacityInternal_d00df, cJ5_ensureCapacityInternal_d00df, 3, none, 0, 0)
def m_J5_getValue_6d5f1 : zD := (yJ5_getValue_6d5f1, cJ5_getValue_6d5f1, 1, (some (.array .byte)), 0, 0)
def m_J5_isLatin1_aae02 : zD := (yJ5_isLatin1_aae02, cJ5_isLatin1_aae02, 1, (some .boolean), 0, 0)
def m_J5_inflateIfNeededFor_a7421 : zD := (yJ5_inflateIfNeededFor_a7421, cJ5_inflateIfNeededFor_a7421, 2, none, 1, 20)
def m_J5_putStringAt_47b60 : zD := (yJ5_putStringAt_47b60, cJ5_putStringAt_47b60, 3, none, 2, 49)
def m_J6_getChars_ba4f3 : zD := (yJ6_getChars_ba4f3, cJ6_getChars_ba4f3, 7, (some .int), 0, 0)
def m_J6_stringSize_0f7a4 : zD := (yJ6_stringSize_0f7a4, cJ6_stringSize_0f7a4, 4, (some .int), 0, 0)
def m_J0_init_81219 : zD := (yJ0_init_81219, cJ0_init_81219, 2, none, 4, 96)
def m_J0_init_db425 : zD := (yJ0_init_db425, cJ0_init_db425, 5, none, 3, 72)
def m_J0_getBytes_840e7 : zD := (yJ0_getBytes_840e7, cJ0_getBytes_840e7, 4, none, 1, 26)
def m_J7_copyOfRange_39247 : zD := (yJ7_copyOfRange_39247, cJ7_copyOfRange_39247, 3, (some (.array .byte)), 2, 50)
def m_J7_copyOfRangeByte_39247 : zD := (yJ7_copyOfRangeByte_39247, cJ7_copyOfRangeByte_39247, 5, (some (.array .byte)), 1, 26)
def m_J7_checkLength_df160 : zD := (yJ7_checkLength_df160, cJ7_checkLength_df160, 2, none, 0, 0)
def m_J1_canEncode_fc78d : zD := (yJ1_canEncode_fc78d, cJ1_canEncode_fc78d, 1, (some .boolean), 0, 0)
def m_L_cell : zD := (yL_cell, cL_cell, 2, (some .int), 0, 0)
def m_L_says : zD := (yL_says, cL_says, 6, (some .boolean), 4, 85)
def m_L_deal : zD := (yL_deal, cL_deal, 10, (some .int), 3, 65)
def m_L_takings : zD := (yL_takings, cL_takings, 5, (some .int), 4, 94)
def m_L_same : zD := (yL_same, cL_same, 9, (some .boolean), 8, 172)
def m_L_closes : zD := (yL_closes, cL_closes, 8, (some .int), 5, 118)
def m_L_goesOn : zD := (yL_goesOn, cL_goesOn, 3, (some .boolean), 0, 0)
def m_L_law : zD := (yL_law, code, 16, (some .boolean), 9, 200)
theorem fl8_12 : zFL "TradeHall" 12 8 0 := ⟨RX8, TX8, 11, rfl, by decide, by decide, inT8, Or.inl (zti 247 (by decide +kernel) (by decide +kernel))⟩
theorem fl8_19 : zFL "TradeHall" 19 8 1 := ⟨RX8, TX8, 11, rfl, by decide, by decide, inT8, Or.inl (zti 248 (by decide +kernel) (by decide +kernel))⟩
theorem fl8_26 : zFL "TradeHall" 26 8 2 := ⟨RX8, TX8, 11, rfl, by decide, by decide, inT8, Or.inl (zti 249 (by decide +kernel) (by decide +kernel))⟩
theorem fl8_33 : zFL "TradeHall" 33 8 3 := ⟨RX8, TX8, 11, rfl, by decide, by decide, inT8, Or.inl (zti 250 (by decide +kernel) (by decide +kernel))⟩
theorem fl8_40 : zFL "TradeHall" 40 8 4 := ⟨RX8, TX8, 11, rfl, by decide, by decide, inT8, Or.inl (zti 251 (by decide +kernel) (by decide +kernel))⟩
theorem fl8_47 : zFL "TradeHall" 47 8 5 := ⟨RX8, TX8, 11, rfl, by decide, by decide, inT8, Or.inl (zti 252 (by decide +kernel) (by decide +kernel))⟩
theorem fl8_51 : zFL "TradeHall" 51 8 6 := ⟨RX8, TX8, 11, rfl, by decide, by decide, inT8, Or.inl (zti 253 (by decide +kernel) (by decide +kernel))⟩
theorem fl8_57 : zFL "TradeHall" 57 8 7 := ⟨RX8, TX8, 11, rfl, by decide, by decide, inT8, Or.inl (zti 254 (by decide +kernel) (by decide +kernel))⟩
theorem fl8_64 : zFL "TradeHall" 64 8 8 := ⟨RX8, TX8, 11, rfl, by decide, by decide, inT8, Or.inl (zti 255 (by decide +kernel) (by decide +kernel))⟩
theorem fl8_68 : zFL "TradeHall" 68 8 9 := ⟨RX8, TX8, 11, rfl, by decide, by decide, inT8, Or.inl (zti 256 (by decide +kernel) (by decide +kernel))⟩
theorem fl8_72 : zFL "TradeHall" 72 8 10 := ⟨RX8, TX8, 11, rfl, by decide, by decide, inT8, Or.inl (zti 257 (by decide +kernel) (by decide +kernel))⟩
theorem fl8_76 : zFL "TradeHall" 76 7 2 := ⟨RX7, TX7, 7, rfl, by decide, by decide, inT7, Or.inr ⟨_, zni (w := .fieldLinkNest "TradeHall" 76 (RX7) (TX7 2).2.1 (TX7 2).2.2.1 "TradeHall") 104 (by decide +kernel) (by decide +kernel)⟩⟩
theorem fp8_76 : zFP "TradeHall" 76 7 2 .int := ⟨RX7, TX7, 7, tyX7, rfl, by decide, by decide, inT7, Or.inr ⟨_, zni (w := .fieldLinkNest "TradeHall" 76 (RX7) (TX7 2).2.1 (TX7 2).2.2.1 "TradeHall") 104 (by decide +kernel) (by decide +kernel)⟩, by decide, by decide +kernel, tyX7_ok, nmX7⟩
theorem fl8_88 : zFL "TradeHall" 88 7 1 := ⟨RX7, TX7, 7, rfl, by decide, by decide, inT7, Or.inr ⟨_, zni (w := .fieldLinkNest "TradeHall" 88 (RX7) (TX7 1).2.1 (TX7 1).2.2.1 "TradeHall") 103 (by decide +kernel) (by decide +kernel)⟩⟩
theorem fl8_98 : zFL "TradeHall" 98 1 6 := ⟨RX1, TX1, 13, rfl, by decide, by decide, inT1, Or.inr ⟨_, zni (w := .fieldLinkNest "TradeHall" 98 (RX1) (TX1 6).2.1 (TX1 6).2.2.1 "TradeHall") 46 (by decide +kernel) (by decide +kernel)⟩⟩
theorem fl8_145 : zFL "TradeHall" 145 1 7 := ⟨RX1, TX1, 13, rfl, by decide, by decide, inT1, Or.inr ⟨_, zni (w := .fieldLinkNest "TradeHall" 145 (RX1) (TX1 7).2.1 (TX1 7).2.2.1 "TradeHall") 51 (by decide +kernel) (by decide +kernel)⟩⟩
theorem fp8_145 : zFP "TradeHall" 145 1 7 .int := ⟨RX1, TX1, 13, tyX1, rfl, by decide, by decide, inT1, Or.inr ⟨_, zni (w := .fieldLinkNest "TradeHall" 145 (RX1) (TX1 7).2.1 (TX1 7).2.2.1 "TradeHall") 51 (by decide +kernel) (by decide +kernel)⟩, by decide, by decide +kernel, tyX1_ok, nmX1⟩
theorem fl8_151 : zFL "TradeHall" 151 1 8 := ⟨RX1, TX1, 13, rfl, by decide, by decide, inT1, Or.inr ⟨_, zni (w := .fieldLinkNest "TradeHall" 151 (RX1) (TX1 8).2.1 (TX1 8).2.2.1 "TradeHall") 55 (by decide +kernel) (by decide +kernel)⟩⟩
theorem fp8_151 : zFP "TradeHall" 151 1 8 .int := ⟨RX1, TX1, 13, tyX1, rfl, by decide, by decide, inT1, Or.inr ⟨_, zni (w := .fieldLinkNest "TradeHall" 151 (RX1) (TX1 8).2.1 (TX1 8).2.2.1 "TradeHall") 55 (by decide +kernel) (by decide +kernel)⟩, by decide, by decide +kernel, tyX1_ok, nmX1⟩
theorem fl8_157 : zFL "TradeHall" 157 0 8 := ⟨RX0, TX0, 11, rfl, by decide, by decide, inT0, Or.inr ⟨_, zni (w := .fieldLinkNest "TradeHall" 157 (RX0) (TX0 8).2.1 (TX0 8).2.2.1 "TradeHall") 191 (by decide +kernel) (by decide +kernel)⟩⟩
theorem fl8_223 : zFL "TradeHall" 223 0 6 := ⟨RX0, TX0, 11, rfl, by decide, by decide, inT0, Or.inr ⟨_, zni (w := .fieldLinkNest "TradeHall" 223 (RX0) (TX0 6).2.1 (TX0 6).2.2.1 "TradeHall") 188 (by decide +kernel) (by decide +kernel)⟩⟩
theorem fl8_226 : zFL "TradeHall" 226 0 7 := ⟨RX0, TX0, 11, rfl, by decide, by decide, inT0, Or.inr ⟨_, zni (w := .fieldLinkNest "TradeHall" 226 (RX0) (TX0 7).2.1 (TX0 7).2.2.1 "TradeHall") 190 (by decide +kernel) (by decide +kernel)⟩⟩
theorem fl8_317 : zFL "TradeHall" 317 1 9 := ⟨RX1, TX1, 13, rfl, by decide, by decide, inT1, Or.inr ⟨_, zni (w := .fieldLinkNest "TradeHall" 317 (RX1) (TX1 9).2.1 (TX1 9).2.2.1 "TradeHall") 57 (by decide +kernel) (by decide +kernel)⟩⟩
theorem fl8_323 : zFL "TradeHall" 323 1 10 := ⟨RX1, TX1, 13, rfl, by decide, by decide, inT1, Or.inr ⟨_, zni (w := .fieldLinkNest "TradeHall" 323 (RX1) (TX1 10).2.1 (TX1 10).2.2.1 "TradeHall") 59 (by decide +kernel) (by decide +kernel)⟩⟩
theorem fl8_329 : zFL "TradeHall" 329 1 12 := ⟨RX1, TX1, 13, rfl, by decide, by decide, inT1, Or.inr ⟨_, zni (w := .fieldLinkNest "TradeHall" 329 (RX1) (TX1 12).2.1 (TX1 12).2.2.1 "TradeHall") 63 (by decide +kernel) (by decide +kernel)⟩⟩
theorem fl8_332 : zFL "TradeHall" 332 1 11 := ⟨RX1, TX1, 13, rfl, by decide, by decide, inT1, Or.inr ⟨_, zni (w := .fieldLinkNest "TradeHall" 332 (RX1) (TX1 11).2.1 (TX1 11).2.2.1 "TradeHall") 61 (by decide +kernel) (by decide +kernel)⟩⟩
theorem fl8_344 : zFL "TradeHall" 344 3 1 := ⟨RX3, TX3, 2, rfl, by decide, by decide, inT3, Or.inr ⟨_, zni (w := .fieldLinkNest "TradeHall" 344 (RX3) (TX3 1).2.1 (TX3 1).2.2.1 "TradeHall") 169 (by decide +kernel) (by decide +kernel)⟩⟩
theorem fl8_396 : zFL "TradeHall" 396 2 2 := ⟨RX2, TX2, 3, rfl, by decide, by decide, inT2, Or.inr ⟨_, zni (w := .fieldLinkNest "TradeHall" 396 (RX2) (TX2 2).2.1 (TX2 2).2.2.1 "TradeHall") 137 (by decide +kernel) (by decide +kernel)⟩⟩
theorem fl8_397 : zFL "TradeHall" 397 6 1 := ⟨RX6, TX6, 2, rfl, by decide, by decide, inT6, Or.inr ⟨_, zni (w := .fieldLinkNest "TradeHall" 397 (RX6) (TX6 1).2.1 (TX6 1).2.2.1 "TradeHall") 155 (by decide +kernel) (by decide +kernel)⟩⟩
theorem fl0_9 : zFL "TradeHall$Book" 9 0 0 := ⟨RX0, TX0, 11, rfl, by decide, by decide, inT0, Or.inl (zti 181 (by decide +kernel) (by decide +kernel))⟩
theorem fl0_15 : zFL "TradeHall$Book" 15 0 1 := ⟨RX0, TX0, 11, rfl, by decide, by decide, inT0, Or.inl (zti 182 (by decide +kernel) (by decide +kernel))⟩
theorem fl0_18 : zFL "TradeHall$Book" 18 0 2 := ⟨RX0, TX0, 11, rfl, by decide, by decide, inT0, Or.inl (zti 183 (by decide +kernel) (by decide +kernel))⟩
theorem fp0_18 : zFP "TradeHall$Book" 18 0 2 .int := ⟨RX0, TX0, 11, tyX0, rfl, by decide, by decide, inT0, Or.inl (zti 183 (by decide +kernel) (by decide +kernel)), by decide, by decide +kernel, tyX0_ok, nmX0⟩
theorem fl0_22 : zFL "TradeHall$Book" 22 0 3 := ⟨RX0, TX0, 11, rfl, by decide, by decide, inT0, Or.inl (zti 184 (by decide +kernel) (by decide +kernel))⟩
theorem fp0_22 : zFP "TradeHall$Book" 22 0 3 .int := ⟨RX0, TX0, 11, tyX0, rfl, by decide, by decide, inT0, Or.inl (zti 184 (by decide +kernel) (by decide +kernel)), by decide, by decide +kernel, tyX0_ok, nmX0⟩
theorem fl0_25 : zFL "TradeHall$Book" 25 1 6 := ⟨RX1, TX1, 13, rfl, by decide, by decide, inT1, Or.inr ⟨_, zni (w := .fieldLinkNest "TradeHall$Book" 25 (RX1) (TX1 6).2.1 (TX1 6).2.2.1 "TradeHall") 44 (by decide +kernel) (by decide +kernel)⟩⟩
theorem fl0_74 : zFL "TradeHall$Book" 74 0 4 := ⟨RX0, TX0, 11, rfl, by decide, by decide, inT0, Or.inl (zti 185 (by decide +kernel) (by decide +kernel))⟩
theorem fp0_74 : zFP "TradeHall$Book" 74 0 4 .int := ⟨RX0, TX0, 11, tyX0, rfl, by decide, by decide, inT0, Or.inl (zti 185 (by decide +kernel) (by decide +kernel)), by decide, by decide +kernel, tyX0_ok, nmX0⟩
theorem fl0_83 : zFL "TradeHall$Book" 83 0 6 := ⟨RX0, TX0, 11, rfl, by decide, by decide, inT0, Or.inl (zti 187 (by decide +kernel) (by decide +kernel))⟩
theorem fp0_83 : zFP "TradeHall$Book" 83 0 6 .int := ⟨RX0, TX0, 11, tyX0, rfl, by decide, by decide, inT0, Or.inl (zti 187 (by decide +kernel) (by decide +kernel)), by decide, by decide +kernel, tyX0_ok, nmX0⟩
theorem fl0_86 : zFL "TradeHall$Book" 86 0 5 := ⟨RX0, TX0, 11, rfl, by decide, by decide, inT0, Or.inl (zti 186 (by decide +kernel) (by decide +kernel))⟩
theorem fp0_86 : zFP "TradeHall$Book" 86 0 5 .int := ⟨RX0, TX0, 11, tyX0, rfl, by decide, by decide, inT0, Or.inl (zti 186 (by decide +kernel) (by decide +kernel)), by decide, by decide +kernel, tyX0_ok, nmX0⟩
theorem fl0_89 : zFL "TradeHall$Book" 89 0 7 := ⟨RX0, TX0, 11, rfl, by decide, by decide, inT0, Or.inl (zti 189 (by decide +kernel) (by decide +kernel))⟩
theorem fp0_89 : zFP "TradeHall$Book" 89 0 7 .int := ⟨RX0, TX0, 11, tyX0, rfl, by decide, by decide, inT0, Or.inl (zti 189 (by decide +kernel) (by decide +kernel)), by decide, by decide +kernel, tyX0_ok, nmX0⟩
theorem fl0_92 : zFL "TradeHall$Book" 92 0 8 := ⟨RX0, TX0, 11, rfl, by decide, by decide, inT0, Or.inl (zti 192 (by decide +kernel) (by decide +kernel))⟩
theorem fp0_92 : zFP "TradeHall$Book" 92 0 8 .int := ⟨RX0, TX0, 11, tyX0, rfl, by decide, by decide, inT0, Or.inl (zti 192 (by decide +kernel) (by decide +kernel)), by decide, by decide +kernel, tyX0_ok, nmX0⟩
theorem fl0_102 : zFL "TradeHall$Book" 102 0 9 := ⟨RX0, TX0, 11, rfl, by decide, by decide, inT0, Or.inl (zti 193 (by decide +kernel) (by decide +kernel))⟩
theorem fp0_102 : zFP "TradeHall$Book" 102 0 9 .int := ⟨RX0, TX0, 11, tyX0, rfl, by decide, by decide, inT0, Or.inl (zti 193 (by decide +kernel) (by decide +kernel)), by decide, by decide +kernel, tyX0_ok, nmX0⟩
theorem fl0_108 : zFL "TradeHall$Book" 108 0 10 := ⟨RX0, TX0, 11, rfl, by decide, by decide, inT0, Or.inl (zti 194 (by decide +kernel) (by decide +kernel))⟩
theorem fp0_108 : zFP "TradeHall$Book" 108 0 10 .int := ⟨RX0, TX0, 11, tyX0, rfl, by decide, by decide, inT0, Or.inl (zti 194 (by decide +kernel) (by decide +kernel)), by decide, by decide +kernel, tyX0_ok, nmX0⟩
theorem fl1_9 : zFL "TradeHall$Hall" 9 1 0 := ⟨RX1, TX1, 13, rfl, by decide, by decide, inT1, Or.inl (zti 37 (by decide +kernel) (by decide +kernel))⟩
theorem fl1_15 : zFL "TradeHall$Hall" 15 1 1 := ⟨RX1, TX1, 13, rfl, by decide, by decide, inT1, Or.inl (zti 38 (by decide +kernel) (by decide +kernel))⟩
theorem fl1_19 : zFL "TradeHall$Hall" 19 1 2 := ⟨RX1, TX1, 13, rfl, by decide, by decide, inT1, Or.inl (zti 39 (by decide +kernel) (by decide +kernel))⟩
theorem fl1_22 : zFL "TradeHall$Hall" 22 1 3 := ⟨RX1, TX1, 13, rfl, by decide, by decide, inT1, Or.inl (zti 40 (by decide +kernel) (by decide +kernel))⟩
theorem fl1_25 : zFL "TradeHall$Hall" 25 1 4 := ⟨RX1, TX1, 13, rfl, by decide, by decide, inT1, Or.inl (zti 41 (by decide +kernel) (by decide +kernel))⟩
theorem fl1_28 : zFL "TradeHall$Hall" 28 1 5 := ⟨RX1, TX1, 13, rfl, by decide, by decide, inT1, Or.inl (zti 42 (by decide +kernel) (by decide +kernel))⟩
theorem fl1_31 : zFL "TradeHall$Hall" 31 1 6 := ⟨RX1, TX1, 13, rfl, by decide, by decide, inT1, Or.inl (zti 43 (by decide +kernel) (by decide +kernel))⟩
theorem fp1_31 : zFP "TradeHall$Hall" 31 1 6 .int := ⟨RX1, TX1, 13, tyX1, rfl, by decide, by decide, inT1, Or.inl (zti 43 (by decide +kernel) (by decide +kernel)), by decide, by decide +kernel, tyX1_ok, nmX1⟩
theorem fl1_35 : zFL "TradeHall$Hall" 35 1 7 := ⟨RX1, TX1, 13, rfl, by decide, by decide, inT1, Or.inl (zti 48 (by decide +kernel) (by decide +kernel))⟩
theorem fp1_35 : zFP "TradeHall$Hall" 35 1 7 .int := ⟨RX1, TX1, 13, tyX1, rfl, by decide, by decide, inT1, Or.inl (zti 48 (by decide +kernel) (by decide +kernel)), by decide, by decide +kernel, tyX1_ok, nmX1⟩
theorem fl1_38 : zFL "TradeHall$Hall" 38 1 8 := ⟨RX1, TX1, 13, rfl, by decide, by decide, inT1, Or.inl (zti 52 (by decide +kernel) (by decide +kernel))⟩
theorem fp1_38 : zFP "TradeHall$Hall" 38 1 8 .int := ⟨RX1, TX1, 13, tyX1, rfl, by decide, by decide, inT1, Or.inl (zti 52 (by decide +kernel) (by decide +kernel)), by decide, by decide +kernel, tyX1_ok, nmX1⟩
theorem fl1_41 : zFL "TradeHall$Hall" 41 1 9 := ⟨RX1, TX1, 13, rfl, by decide, by decide, inT1, Or.inl (zti 56 (by decide +kernel) (by decide +kernel))⟩
theorem fp1_41 : zFP "TradeHall$Hall" 41 1 9 .int := ⟨RX1, TX1, 13, tyX1, rfl, by decide, by decide, inT1, Or.inl (zti 56 (by decide +kernel) (by decide +kernel)), by decide, by decide +kernel, tyX1_ok, nmX1⟩
theorem fl1_44 : zFL "TradeHall$Hall" 44 1 10 := ⟨RX1, TX1, 13, rfl, by decide, by decide, inT1, Or.inl (zti 58 (by decide +kernel) (by decide +kernel))⟩
theorem fp1_44 : zFP "TradeHall$Hall" 44 1 10 .int := ⟨RX1, TX1, 13, tyX1, rfl, by decide, by decide, inT1, Or.inl (zti 58 (by decide +kernel) (by decide +kernel)), by decide, by decide +kernel, tyX1_ok, nmX1⟩
theorem fl1_47 : zFL "TradeHall$Hall" 47 1 11 := ⟨RX1, TX1, 13, rfl, by decide, by decide, inT1, Or.inl (zti 60 (by decide +kernel) (by decide +kernel))⟩
theorem fp1_47 : zFP "TradeHall$Hall" 47 1 11 .int := ⟨RX1, TX1, 13, tyX1, rfl, by decide, by decide, inT1, Or.inl (zti 60 (by decide +kernel) (by decide +kernel)), by decide, by decide +kernel, tyX1_ok, nmX1⟩
theorem fl1_50 : zFL "TradeHall$Hall" 50 1 12 := ⟨RX1, TX1, 13, rfl, by decide, by decide, inT1, Or.inl (zti 62 (by decide +kernel) (by decide +kernel))⟩
theorem fp1_50 : zFP "TradeHall$Hall" 50 1 12 .int := ⟨RX1, TX1, 13, tyX1, rfl, by decide, by decide, inT1, Or.inl (zti 62 (by decide +kernel) (by decide +kernel)), by decide, by decide +kernel, tyX1_ok, nmX1⟩
theorem fl2_11 : zFL "TradeHall$History" 11 2 0 := ⟨RX2, TX2, 3, rfl, by decide, by decide, inT2, Or.inl (zti 134 (by decide +kernel) (by decide +kernel))⟩
theorem fl2_18 : zFL "TradeHall$History" 18 2 2 := ⟨RX2, TX2, 3, rfl, by decide, by decide, inT2, Or.inl (zti 136 (by decide +kernel) (by decide +kernel))⟩
theorem fp2_18 : zFP "TradeHall$History" 18 2 2 .int := ⟨RX2, TX2, 3, tyX2, rfl, by decide, by decide, inT2, Or.inl (zti 136 (by decide +kernel) (by decide +kernel)), by decide, by decide +kernel, tyX2_ok, nmX2⟩
theorem fl2_22 : zFL "TradeHall$History" 22 2 1 := ⟨RX2, TX2, 3, rfl, by decide, by decide, inT2, Or.inl (zti 135 (by decide +kernel) (by decide +kernel))⟩
theorem fp2_22 : zFP "TradeHall$History" 22 2 1 .int := ⟨RX2, TX2, 3, tyX2, rfl, by decide, by decide, inT2, Or.inl (zti 135 (by decide +kernel) (by decide +kernel)), by decide, by decide +kernel, tyX2_ok, nmX2⟩
theorem fl3_9 : zFL "TradeHall$Letters" 9 3 0 := ⟨RX3, TX3, 2, rfl, by decide, by decide, inT3, Or.inl (zti 167 (by decide +kernel) (by decide +kernel))⟩
theorem fl3_15 : zFL "TradeHall$Letters" 15 3 1 := ⟨RX3, TX3, 2, rfl, by decide, by decide, inT3, Or.inl (zti 168 (by decide +kernel) (by decide +kernel))⟩
theorem fp3_15 : zFP "TradeHall$Letters" 15 3 1 .int := ⟨RX3, TX3, 2, tyX3, rfl, by decide, by decide, inT3, Or.inl (zti 168 (by decide +kernel) (by decide +kernel)), by decide, by decide +kernel, tyX3_ok, nmX3⟩
theorem fl3_19 : zFL "TradeHall$Letters" 19 1 6 := ⟨RX1, TX1, 13, rfl, by decide, by decide, inT1, Or.inr ⟨_, zni (w := .fieldLinkNest "TradeHall$Letters" 19 (RX1) (TX1 6).2.1 (TX1 6).2.2.1 "TradeHall") 45 (by decide +kernel) (by decide +kernel)⟩⟩
theorem fl3_49 : zFL "TradeHall$Letters" 49 1 7 := ⟨RX1, TX1, 13, rfl, by decide, by decide, inT1, Or.inr ⟨_, zni (w := .fieldLinkNest "TradeHall$Letters" 49 (RX1) (TX1 7).2.1 (TX1 7).2.2.1 "TradeHall") 49 (by decide +kernel) (by decide +kernel)⟩⟩
theorem fl3_53 : zFL "TradeHall$Letters" 53 1 8 := ⟨RX1, TX1, 13, rfl, by decide, by decide, inT1, Or.inr ⟨_, zni (w := .fieldLinkNest "TradeHall$Letters" 53 (RX1) (TX1 8).2.1 (TX1 8).2.2.1 "TradeHall") 53 (by decide +kernel) (by decide +kernel)⟩⟩
theorem fl4_9 : zFL "TradeHall$Ranking" 9 4 0 := ⟨RX4, TX4, 3, rfl, by decide, by decide, inT4, Or.inl (zti 224 (by decide +kernel) (by decide +kernel))⟩
theorem fl4_15 : zFL "TradeHall$Ranking" 15 4 1 := ⟨RX4, TX4, 3, rfl, by decide, by decide, inT4, Or.inl (zti 225 (by decide +kernel) (by decide +kernel))⟩
theorem fl5_9 : zFL "TradeHall$Serving" 9 5 0 := ⟨RX5, TX5, 3, rfl, by decide, by decide, inT5, Or.inl (zti 239 (by decide +kernel) (by decide +kernel))⟩
theorem fl6_11 : zFL "TradeHall$Shelves" 11 6 0 := ⟨RX6, TX6, 2, rfl, by decide, by decide, inT6, Or.inl (zti 153 (by decide +kernel) (by decide +kernel))⟩
theorem fl6_18 : zFL "TradeHall$Shelves" 18 6 1 := ⟨RX6, TX6, 2, rfl, by decide, by decide, inT6, Or.inl (zti 154 (by decide +kernel) (by decide +kernel))⟩
theorem fp6_18 : zFP "TradeHall$Shelves" 18 6 1 .int := ⟨RX6, TX6, 2, tyX6, rfl, by decide, by decide, inT6, Or.inl (zti 154 (by decide +kernel) (by decide +kernel)), by decide, by decide +kernel, tyX6_ok, nmX6⟩
theorem fl7_9 : zFL "TradeHall$Tape" 9 7 0 := ⟨RX7, TX7, 7, rfl, by decide, by decide, inT7, Or.inl (zti 101 (by decide +kernel) (by decide +kernel))⟩
theorem fl7_18 : zFL "TradeHall$Tape" 18 7 1 := ⟨RX7, TX7, 7, rfl, by decide, by decide, inT7, Or.inl (zti 102 (by decide +kernel) (by decide +kernel))⟩
theorem fl7_22 : zFL "TradeHall$Tape" 22 7 2 := ⟨RX7, TX7, 7, rfl, by decide, by decide, inT7, Or.inl (zti 105 (by decide +kernel) (by decide +kernel))⟩
theorem fp7_22 : zFP "TradeHall$Tape" 22 7 2 .int := ⟨RX7, TX7, 7, tyX7, rfl, by decide, by decide, inT7, Or.inl (zti 105 (by decide +kernel) (by decide +kernel)), by decide, by decide +kernel, tyX7_ok, nmX7⟩
theorem fl7_29 : zFL "TradeHall$Tape" 29 7 3 := ⟨RX7, TX7, 7, rfl, by decide, by decide, inT7, Or.inl (zti 106 (by decide +kernel) (by decide +kernel))⟩
theorem fp7_29 : zFP "TradeHall$Tape" 29 7 3 .int := ⟨RX7, TX7, 7, tyX7, rfl, by decide, by decide, inT7, Or.inl (zti 106 (by decide +kernel) (by decide +kernel)), by decide, by decide +kernel, tyX7_ok, nmX7⟩
theorem fl7_32 : zFL "TradeHall$Tape" 32 7 4 := ⟨RX7, TX7, 7, rfl, by decide, by decide, inT7, Or.inl (zti 107 (by decide +kernel) (by decide +kernel))⟩
theorem fp7_32 : zFP "TradeHall$Tape" 32 7 4 .int := ⟨RX7, TX7, 7, tyX7, rfl, by decide, by decide, inT7, Or.inl (zti 107 (by decide +kernel) (by decide +kernel)), by decide, by decide +kernel, tyX7_ok, nmX7⟩
theorem fl7_35 : zFL "TradeHall$Tape" 35 7 5 := ⟨RX7, TX7, 7, rfl, by decide, by decide, inT7, Or.inl (zti 108 (by decide +kernel) (by decide +kernel))⟩
theorem fp7_35 : zFP "TradeHall$Tape" 35 7 5 .boolean := ⟨RX7, TX7, 7, tyX7, rfl, by decide, by decide, inT7, Or.inl (zti 108 (by decide +kernel) (by decide +kernel)), by decide, by decide +kernel, tyX7_ok, nmX7⟩
theorem fl7_39 : zFL "TradeHall$Tape" 39 7 6 := ⟨RX7, TX7, 7, rfl, by decide, by decide, inT7, Or.inl (zti 109 (by decide +kernel) (by decide +kernel))⟩
theorem fp7_39 : zFP "TradeHall$Tape" 39 7 6 .boolean := ⟨RX7, TX7, 7, tyX7, rfl, by decide, by decide, inT7, Or.inl (zti 109 (by decide +kernel) (by decide +kernel)), by decide, by decide +kernel, tyX7_ok, nmX7⟩
theorem fl7_82 : zFL "TradeHall$Tape" 82 1 6 := ⟨RX1, TX1, 13, rfl, by decide, by decide, inT1, Or.inr ⟨_, zni (w := .fieldLinkNest "TradeHall$Tape" 82 (RX1) (TX1 6).2.1 (TX1 6).2.2.1 "TradeHall") 47 (by decide +kernel) (by decide +kernel)⟩⟩
theorem fl7_102 : zFL "TradeHall$Tape" 102 1 7 := ⟨RX1, TX1, 13, rfl, by decide, by decide, inT1, Or.inr ⟨_, zni (w := .fieldLinkNest "TradeHall$Tape" 102 (RX1) (TX1 7).2.1 (TX1 7).2.2.1 "TradeHall") 50 (by decide +kernel) (by decide +kernel)⟩⟩
theorem fp7_102 : zFP "TradeHall$Tape" 102 1 7 .int := ⟨RX1, TX1, 13, tyX1, rfl, by decide, by decide, inT1, Or.inr ⟨_, zni (w := .fieldLinkNest "TradeHall$Tape" 102 (RX1) (TX1 7).2.1 (TX1 7).2.2.1 "TradeHall") 50 (by decide +kernel) (by decide +kernel)⟩, by decide, by decide +kernel, tyX1_ok, nmX1⟩
theorem fl7_108 : zFL "TradeHall$Tape" 108 1 8 := ⟨RX1, TX1, 13, rfl, by decide, by decide, inT1, Or.inr ⟨_, zni (w := .fieldLinkNest "TradeHall$Tape" 108 (RX1) (TX1 8).2.1 (TX1 8).2.2.1 "TradeHall") 54 (by decide +kernel) (by decide +kernel)⟩⟩
theorem fp7_108 : zFP "TradeHall$Tape" 108 1 8 .int := ⟨RX1, TX1, 13, tyX1, rfl, by decide, by decide, inT1, Or.inr ⟨_, zni (w := .fieldLinkNest "TradeHall$Tape" 108 (RX1) (TX1 8).2.1 (TX1 8).2.2.1 "TradeHall") 54 (by decide +kernel) (by decide +kernel)⟩, by decide, by decide +kernel, tyX1_ok, nmX1⟩
theorem flL_30 : zFL "TradeHallLaw" 30 64 8 := ⟨RX9, TX9, 12, rfl, by decide, by decide, inT64, Or.inr ⟨_, zni (w := .fieldLinkNest "TradeHallLaw" 30 (RX9) (TX9 8).2.1 (TX9 8).2.2.1 "TradeHallLaw") 700 (by decide +kernel) (by decide +kernel)⟩⟩
theorem flL_39 : zFL "TradeHallLaw" 39 64 1 := ⟨RX9, TX9, 12, rfl, by decide, by decide, inT64, Or.inr ⟨_, zni (w := .fieldLinkNest "TradeHallLaw" 39 (RX9) (TX9 1).2.1 (TX9 1).2.2.1 "TradeHallLaw") 684 (by decide +kernel) (by decide +kernel)⟩⟩
theorem fpL_39 : zFP "TradeHallLaw" 39 64 1 .int := ⟨RX9, TX9, 12, tyX9, rfl, by decide, by decide, inT64, Or.inr ⟨_, zni (w := .fieldLinkNest "TradeHallLaw" 39 (RX9) (TX9 1).2.1 (TX9 1).2.2.1 "TradeHallLaw") 684 (by decide +kernel) (by decide +kernel)⟩, by decide, by decide +kernel, tyX9_ok, nmX9⟩
theorem flL_50 : zFL "TradeHallLaw" 50 64 7 := ⟨RX9, TX9, 12, rfl, by decide, by decide, inT64, Or.inr ⟨_, zni (w := .fieldLinkNest "TradeHallLaw" 50 (RX9) (TX9 7).2.1 (TX9 7).2.2.1 "TradeHallLaw") 697 (by decide +kernel) (by decide +kernel)⟩⟩
theorem flL_54 : zFL "TradeHallLaw" 54 65 8 := ⟨RX10, TX10, 9, rfl, by decide, by decide, inT65, Or.inr ⟨_, zni (w := .fieldLinkNest "TradeHallLaw" 54 (RX10) (TX10 8).2.1 (TX10 8).2.2.1 "TradeHallLaw") 1136 (by decide +kernel) (by decide +kernel)⟩⟩
theorem flL_57 : zFL "TradeHallLaw" 57 65 7 := ⟨RX10, TX10, 9, rfl, by decide, by decide, inT65, Or.inr ⟨_, zni (w := .fieldLinkNest "TradeHallLaw" 57 (RX10) (TX10 7).2.1 (TX10 7).2.2.1 "TradeHallLaw") 1134 (by decide +kernel) (by decide +kernel)⟩⟩
theorem flL_64 : zFL "TradeHallLaw" 64 64 11 := ⟨RX9, TX9, 12, rfl, by decide, by decide, inT64, Or.inr ⟨_, zni (w := .fieldLinkNest "TradeHallLaw" 64 (RX9) (TX9 11).2.1 (TX9 11).2.2.1 "TradeHallLaw") 707 (by decide +kernel) (by decide +kernel)⟩⟩
theorem flL_68 : zFL "TradeHallLaw" 68 65 5 := ⟨RX10, TX10, 9, rfl, by decide, by decide, inT65, Or.inr ⟨_, zni (w := .fieldLinkNest "TradeHallLaw" 68 (RX10) (TX10 5).2.1 (TX10 5).2.2.1 "TradeHallLaw") 1130 (by decide +kernel) (by decide +kernel)⟩⟩
theorem flL_71 : zFL "TradeHallLaw" 71 64 2 := ⟨RX9, TX9, 12, rfl, by decide, by decide, inT64, Or.inr ⟨_, zni (w := .fieldLinkNest "TradeHallLaw" 71 (RX9) (TX9 2).2.1 (TX9 2).2.2.1 "TradeHallLaw") 686 (by decide +kernel) (by decide +kernel)⟩⟩
theorem fpL_71 : zFP "TradeHallLaw" 71 64 2 .int := ⟨RX9, TX9, 12, tyX9, rfl, by decide, by decide, inT64, Or.inr ⟨_, zni (w := .fieldLinkNest "TradeHallLaw" 71 (RX9) (TX9 2).2.1 (TX9 2).2.2.1 "TradeHallLaw") 686 (by decide +kernel) (by decide +kernel)⟩, by decide, by decide +kernel, tyX9_ok, nmX9⟩
theorem flL_80 : zFL "TradeHallLaw" 80 64 0 := ⟨RX9, TX9, 12, rfl, by decide, by decide, inT64, Or.inr ⟨_, zni (w := .fieldLinkNest "TradeHallLaw" 80 (RX9) (TX9 0).2.1 (TX9 0).2.2.1 "TradeHallLaw") 681 (by decide +kernel) (by decide +kernel)⟩⟩
theorem flL_86 : zFL "TradeHallLaw" 86 64 9 := ⟨RX9, TX9, 12, rfl, by decide, by decide, inT64, Or.inr ⟨_, zni (w := .fieldLinkNest "TradeHallLaw" 86 (RX9) (TX9 9).2.1 (TX9 9).2.2.1 "TradeHallLaw") 702 (by decide +kernel) (by decide +kernel)⟩⟩
theorem flL_93 : zFL "TradeHallLaw" 93 64 10 := ⟨RX9, TX9, 12, rfl, by decide, by decide, inT64, Or.inr ⟨_, zni (w := .fieldLinkNest "TradeHallLaw" 93 (RX9) (TX9 10).2.1 (TX9 10).2.2.1 "TradeHallLaw") 704 (by decide +kernel) (by decide +kernel)⟩⟩
theorem flL_113 : zFL "TradeHallLaw" 113 64 3 := ⟨RX9, TX9, 12, rfl, by decide, by decide, inT64, Or.inr ⟨_, zni (w := .fieldLinkNest "TradeHallLaw" 113 (RX9) (TX9 3).2.1 (TX9 3).2.2.1 "TradeHallLaw") 688 (by decide +kernel) (by decide +kernel)⟩⟩
theorem fpL_113 : zFP "TradeHallLaw" 113 64 3 .int := ⟨RX9, TX9, 12, tyX9, rfl, by decide, by decide, inT64, Or.inr ⟨_, zni (w := .fieldLinkNest "TradeHallLaw" 113 (RX9) (TX9 3).2.1 (TX9 3).2.2.1 "TradeHallLaw") 688 (by decide +kernel) (by decide +kernel)⟩, by decide, by decide +kernel, tyX9_ok, nmX9⟩
theorem flL_116 : zFL "TradeHallLaw" 116 64 4 := ⟨RX9, TX9, 12, rfl, by decide, by decide, inT64, Or.inr ⟨_, zni (w := .fieldLinkNest "TradeHallLaw" 116 (RX9) (TX9 4).2.1 (TX9 4).2.2.1 "TradeHallLaw") 690 (by decide +kernel) (by decide +kernel)⟩⟩
theorem fpL_116 : zFP "TradeHallLaw" 116 64 4 .int := ⟨RX9, TX9, 12, tyX9, rfl, by decide, by decide, inT64, Or.inr ⟨_, zni (w := .fieldLinkNest "TradeHallLaw" 116 (RX9) (TX9 4).2.1 (TX9 4).2.2.1 "TradeHallLaw") 690 (by decide +kernel) (by decide +kernel)⟩, by decide, by decide +kernel, tyX9_ok, nmX9⟩
theorem flL_119 : zFL "TradeHallLaw" 119 64 6 := ⟨RX9, TX9, 12, rfl, by decide, by decide, inT64, Or.inr ⟨_, zni (w := .fieldLinkNest "TradeHallLaw" 119 (RX9) (TX9 6).2.1 (TX9 6).2.2.1 "TradeHallLaw") 694 (by decide +kernel) (by decide +kernel)⟩⟩
theorem fpL_119 : zFP "TradeHallLaw" 119 64 6 .int := ⟨RX9, TX9, 12, tyX9, rfl, by decide, by decide, inT64, Or.inr ⟨_, zni (w := .fieldLinkNest "TradeHallLaw" 119 (RX9) (TX9 6).2.1 (TX9 6).2.2.1 "TradeHallLaw") 694 (by decide +kernel) (by decide +kernel)⟩, by decide, by decide +kernel, tyX9_ok, nmX9⟩
theorem flL_122 : zFL "TradeHallLaw" 122 64 5 := ⟨RX9, TX9, 12, rfl, by decide, by decide, inT64, Or.inr ⟨_, zni (w := .fieldLinkNest "TradeHallLaw" 122 (RX9) (TX9 5).2.1 (TX9 5).2.2.1 "TradeHallLaw") 692 (by decide +kernel) (by decide +kernel)⟩⟩
theorem fpL_122 : zFP "TradeHallLaw" 122 64 5 .int := ⟨RX9, TX9, 12, tyX9, rfl, by decide, by decide, inT64, Or.inr ⟨_, zni (w := .fieldLinkNest "TradeHallLaw" 122 (RX9) (TX9 5).2.1 (TX9 5).2.2.1 "TradeHallLaw") 692 (by decide +kernel) (by decide +kernel)⟩, by decide, by decide +kernel, tyX9_ok, nmX9⟩
theorem flL_125 : zFL "TradeHallLaw" 125 65 6 := ⟨RX10, TX10, 9, rfl, by decide, by decide, inT65, Or.inr ⟨_, zni (w := .fieldLinkNest "TradeHallLaw" 125 (RX10) (TX10 6).2.1 (TX10 6).2.2.1 "TradeHallLaw") 1132 (by decide +kernel) (by decide +kernel)⟩⟩
theorem fl9_7 : zFL "TradeHallLaw$Hall" 7 64 7 := ⟨RX9, TX9, 12, rfl, by decide, by decide, inT64, Or.inl (zti 695 (by decide +kernel) (by decide +kernel))⟩
theorem ff9_7 : zFF "TradeHallLaw$Hall" 7 64 7 (.array .boolean) := ⟨RX9, TX9, 12, tyX9, rfl, by decide, by decide, inT64, zti 695 (by decide +kernel) (by decide +kernel), by decide, by decide +kernel, by decide +kernel, tyX9_ok, nmX9⟩
theorem fl9_13 : zFL "TradeHallLaw$Hall" 13 64 8 := ⟨RX9, TX9, 12, rfl, by decide, by decide, inT64, Or.inl (zti 698 (by decide +kernel) (by decide +kernel))⟩
theorem ff9_13 : zFF "TradeHallLaw$Hall" 13 64 8 (.array .int) := ⟨RX9, TX9, 12, tyX9, rfl, by decide, by decide, inT64, zti 698 (by decide +kernel) (by decide +kernel), by decide, by decide +kernel, by decide +kernel, tyX9_ok, nmX9⟩
theorem fl9_17 : zFL "TradeHallLaw$Hall" 17 64 9 := ⟨RX9, TX9, 12, rfl, by decide, by decide, inT64, Or.inl (zti 701 (by decide +kernel) (by decide +kernel))⟩
theorem ff9_17 : zFF "TradeHallLaw$Hall" 17 64 9 (.array .int) := ⟨RX9, TX9, 12, tyX9, rfl, by decide, by decide, inT64, zti 701 (by decide +kernel) (by decide +kernel), by decide, by decide +kernel, by decide +kernel, tyX9_ok, nmX9⟩
theorem fl9_20 : zFL "TradeHallLaw$Hall" 20 64 10 := ⟨RX9, TX9, 12, rfl, by decide, by decide, inT64, Or.inl (zti 703 (by decide +kernel) (by decide +kernel))⟩
theorem ff9_20 : zFF "TradeHallLaw$Hall" 20 64 10 (.array .int) := ⟨RX9, TX9, 12, tyX9, rfl, by decide, by decide, inT64, zti 703 (by decide +kernel) (by decide +kernel), by decide, by decide +kernel, by decide +kernel, tyX9_ok, nmX9⟩
theorem fl9_24 : zFL "TradeHallLaw$Hall" 24 64 11 := ⟨RX9, TX9, 12, rfl, by decide, by decide, inT64, Or.inl (zti 705 (by decide +kernel) (by decide +kernel))⟩
theorem fp9_24 : zFP "TradeHallLaw$Hall" 24 64 11 (.array (.array .int)) := ⟨RX9, TX9, 12, tyX9, rfl, by decide, by decide, inT64, Or.inl (zti 705 (by decide +kernel) (by decide +kernel)), by decide, by decide +kernel, tyX9_ok, nmX9⟩
theorem fl9_29 : zFL "TradeHallLaw$Hall" 29 64 0 := ⟨RX9, TX9, 12, rfl, by decide, by decide, inT64, Or.inl (zti 680 (by decide +kernel) (by decide +kernel))⟩
theorem fp9_29 : zFP "TradeHallLaw$Hall" 29 64 0 .int := ⟨RX9, TX9, 12, tyX9, rfl, by decide, by decide, inT64, Or.inl (zti 680 (by decide +kernel) (by decide +kernel)), by decide, by decide +kernel, tyX9_ok, nmX9⟩
theorem fl9_33 : zFL "TradeHallLaw$Hall" 33 64 1 := ⟨RX9, TX9, 12, rfl, by decide, by decide, inT64, Or.inl (zti 683 (by decide +kernel) (by decide +kernel))⟩
theorem fp9_33 : zFP "TradeHallLaw$Hall" 33 64 1 .int := ⟨RX9, TX9, 12, tyX9, rfl, by decide, by decide, inT64, Or.inl (zti 683 (by decide +kernel) (by decide +kernel)), by decide, by decide +kernel, tyX9_ok, nmX9⟩
theorem fl9_36 : zFL "TradeHallLaw$Hall" 36 64 2 := ⟨RX9, TX9, 12, rfl, by decide, by decide, inT64, Or.inl (zti 685 (by decide +kernel) (by decide +kernel))⟩
theorem fp9_36 : zFP "TradeHallLaw$Hall" 36 64 2 .int := ⟨RX9, TX9, 12, tyX9, rfl, by decide, by decide, inT64, Or.inl (zti 685 (by decide +kernel) (by decide +kernel)), by decide, by decide +kernel, tyX9_ok, nmX9⟩
theorem fl9_39 : zFL "TradeHallLaw$Hall" 39 64 3 := ⟨RX9, TX9, 12, rfl, by decide, by decide, inT64, Or.inl (zti 687 (by decide +kernel) (by decide +kernel))⟩
theorem fp9_39 : zFP "TradeHallLaw$Hall" 39 64 3 .int := ⟨RX9, TX9, 12, tyX9, rfl, by decide, by decide, inT64, Or.inl (zti 687 (by decide +kernel) (by decide +kernel)), by decide, by decide +kernel, tyX9_ok, nmX9⟩
theorem fl9_42 : zFL "TradeHallLaw$Hall" 42 64 4 := ⟨RX9, TX9, 12, rfl, by decide, by decide, inT64, Or.inl (zti 689 (by decide +kernel) (by decide +kernel))⟩
theorem fp9_42 : zFP "TradeHallLaw$Hall" 42 64 4 .int := ⟨RX9, TX9, 12, tyX9, rfl, by decide, by decide, inT64, Or.inl (zti 689 (by decide +kernel) (by decide +kernel)), by decide, by decide +kernel, tyX9_ok, nmX9⟩
theorem fl9_45 : zFL "TradeHallLaw$Hall" 45 64 5 := ⟨RX9, TX9, 12, rfl, by decide, by decide, inT64, Or.inl (zti 691 (by decide +kernel) (by decide +kernel))⟩
theorem fp9_45 : zFP "TradeHallLaw$Hall" 45 64 5 .int := ⟨RX9, TX9, 12, tyX9, rfl, by decide, by decide, inT64, Or.inl (zti 691 (by decide +kernel) (by decide +kernel)), by decide, by decide +kernel, tyX9_ok, nmX9⟩
theorem fl9_48 : zFL "TradeHallLaw$Hall" 48 64 6 := ⟨RX9, TX9, 12, rfl, by decide, by decide, inT64, Or.inl (zti 693 (by decide +kernel) (by decide +kernel))⟩
theorem fp9_48 : zFP "TradeHallLaw$Hall" 48 64 6 .int := ⟨RX9, TX9, 12, tyX9, rfl, by decide, by decide, inT64, Or.inl (zti 693 (by decide +kernel) (by decide +kernel)), by decide, by decide +kernel, tyX9_ok, nmX9⟩
theorem fl10_9 : zFL "TradeHallLaw$Market" 9 65 0 := ⟨RX10, TX10, 9, rfl, by decide, by decide, inT65, Or.inl (zti 1124 (by decide +kernel) (by decide +kernel))⟩
theorem ff10_9 : zFF "TradeHallLaw$Market" 9 65 0 (.array (.array .int)) := ⟨RX10, TX10, 9, tyX10, rfl, by decide, by decide, inT65, zti 1124 (by decide +kernel) (by decide +kernel), by decide, by decide +kernel, by decide +kernel, tyX10_ok, nmX10⟩
theorem fl10_15 : zFL "TradeHallLaw$Market" 15 65 1 := ⟨RX10, TX10, 9, rfl, by decide, by decide, inT65, Or.inl (zti 1125 (by decide +kernel) (by decide +kernel))⟩
theorem ff10_15 : zFF "TradeHallLaw$Market" 15 65 1 (.array (.array .int)) := ⟨RX10, TX10, 9, tyX10, rfl, by decide, by decide, inT65, zti 1125 (by decide +kernel) (by decide +kernel), by decide, by decide +kernel, by decide +kernel, tyX10_ok, nmX10⟩
theorem fl10_18 : zFL "TradeHallLaw$Market" 18 64 0 := ⟨RX9, TX9, 12, rfl, by decide, by decide, inT64, Or.inr ⟨_, zni (w := .fieldLinkNest "TradeHallLaw$Market" 18 (RX9) (TX9 0).2.1 (TX9 0).2.2.1 "TradeHallLaw") 679 (by decide +kernel) (by decide +kernel)⟩⟩
theorem fl10_24 : zFL "TradeHallLaw$Market" 24 64 8 := ⟨RX9, TX9, 12, rfl, by decide, by decide, inT64, Or.inr ⟨_, zni (w := .fieldLinkNest "TradeHallLaw$Market" 24 (RX9) (TX9 8).2.1 (TX9 8).2.2.1 "TradeHallLaw") 699 (by decide +kernel) (by decide +kernel)⟩⟩
theorem fl10_27 : zFL "TradeHallLaw$Market" 27 64 11 := ⟨RX9, TX9, 12, rfl, by decide, by decide, inT64, Or.inr ⟨_, zni (w := .fieldLinkNest "TradeHallLaw$Market" 27 (RX9) (TX9 11).2.1 (TX9 11).2.2.1 "TradeHallLaw") 706 (by decide +kernel) (by decide +kernel)⟩⟩
theorem fl10_30 : zFL "TradeHallLaw$Market" 30 64 7 := ⟨RX9, TX9, 12, rfl, by decide, by decide, inT64, Or.inr ⟨_, zni (w := .fieldLinkNest "TradeHallLaw$Market" 30 (RX9) (TX9 7).2.1 (TX9 7).2.2.1 "TradeHallLaw") 696 (by decide +kernel) (by decide +kernel)⟩⟩
theorem fl10_34 : zFL "TradeHallLaw$Market" 34 65 3 := ⟨RX10, TX10, 9, rfl, by decide, by decide, inT65, Or.inl (zti 1127 (by decide +kernel) (by decide +kernel))⟩
theorem fp10_34 : zFP "TradeHallLaw$Market" 34 65 3 .int := ⟨RX10, TX10, 9, tyX10, rfl, by decide, by decide, inT65, Or.inl (zti 1127 (by decide +kernel) (by decide +kernel)), by decide, by decide +kernel, tyX10_ok, nmX10⟩
theorem fl10_37 : zFL "TradeHallLaw$Market" 37 64 1 := ⟨RX9, TX9, 12, rfl, by decide, by decide, inT64, Or.inr ⟨_, zni (w := .fieldLinkNest "TradeHallLaw$Market" 37 (RX9) (TX9 1).2.1 (TX9 1).2.2.1 "TradeHallLaw") 682 (by decide +kernel) (by decide +kernel)⟩⟩
theorem fl10_40 : zFL "TradeHallLaw$Market" 40 65 2 := ⟨RX10, TX10, 9, rfl, by decide, by decide, inT65, Or.inl (zti 1126 (by decide +kernel) (by decide +kernel))⟩
theorem fp10_40 : zFP "TradeHallLaw$Market" 40 65 2 .int := ⟨RX10, TX10, 9, tyX10, rfl, by decide, by decide, inT65, Or.inl (zti 1126 (by decide +kernel) (by decide +kernel)), by decide, by decide +kernel, tyX10_ok, nmX10⟩
theorem fl10_47 : zFL "TradeHallLaw$Market" 47 65 5 := ⟨RX10, TX10, 9, rfl, by decide, by decide, inT65, Or.inl (zti 1129 (by decide +kernel) (by decide +kernel))⟩
theorem fp10_47 : zFP "TradeHallLaw$Market" 47 65 5 .int := ⟨RX10, TX10, 9, tyX10, rfl, by decide, by decide, inT65, Or.inl (zti 1129 (by decide +kernel) (by decide +kernel)), by decide, by decide +kernel, tyX10_ok, nmX10⟩
theorem fl10_50 : zFL "TradeHallLaw$Market" 50 65 4 := ⟨RX10, TX10, 9, rfl, by decide, by decide, inT65, Or.inl (zti 1128 (by decide +kernel) (by decide +kernel))⟩
theorem fp10_50 : zFP "TradeHallLaw$Market" 50 65 4 .int := ⟨RX10, TX10, 9, tyX10, rfl, by decide, by decide, inT65, Or.inl (zti 1128 (by decide +kernel) (by decide +kernel)), by decide, by decide +kernel, tyX10_ok, nmX10⟩
theorem fl10_53 : zFL "TradeHallLaw$Market" 53 65 6 := ⟨RX10, TX10, 9, rfl, by decide, by decide, inT65, Or.inl (zti 1131 (by decide +kernel) (by decide +kernel))⟩
theorem fp10_53 : zFP "TradeHallLaw$Market" 53 65 6 .int := ⟨RX10, TX10, 9, tyX10, rfl, by decide, by decide, inT65, Or.inl (zti 1131 (by decide +kernel) (by decide +kernel)), by decide, by decide +kernel, tyX10_ok, nmX10⟩
theorem fl10_56 : zFL "TradeHallLaw$Market" 56 65 7 := ⟨RX10, TX10, 9, rfl, by decide, by decide, inT65, Or.inl (zti 1133 (by decide +kernel) (by decide +kernel))⟩
theorem fp10_56 : zFP "TradeHallLaw$Market" 56 65 7 .int := ⟨RX10, TX10, 9, tyX10, rfl, by decide, by decide, inT65, Or.inl (zti 1133 (by decide +kernel) (by decide +kernel)), by decide, by decide +kernel, tyX10_ok, nmX10⟩
theorem fl10_59 : zFL "TradeHallLaw$Market" 59 65 8 := ⟨RX10, TX10, 9, rfl, by decide, by decide, inT65, Or.inl (zti 1135 (by decide +kernel) (by decide +kernel))⟩
theorem fp10_59 : zFP "TradeHallLaw$Market" 59 65 8 .int := ⟨RX10, TX10, 9, tyX10, rfl, by decide, by decide, inT65, Or.inl (zti 1135 (by decide +kernel) (by decide +kernel)), by decide, by decide +kernel, tyX10_ok, nmX10⟩
theorem flJ5_15 : zFL "java/lang/AbstractStringBuilder" 15 67 0 := ⟨RJ4, TJ4, 4, rfl, by decide, by decide, inT67, Or.inl (zti 772 (by decide +kernel) (by decide +kernel))⟩
theorem fpJ5_15 : zFP "java/lang/AbstractStringBuilder" 15 67 0 (.array .byte) := ⟨RJ4, TJ4, 4, tyJ4, rfl, by decide, by decide, inT67, Or.inl (zti 772 (by decide +kernel) (by decide +kernel)), by decide, by decide +kernel, tyJ4_ok, nmJ4⟩
theorem flJ5_22 : zFL "java/lang/AbstractStringBuilder" 22 67 1 := ⟨RJ4, TJ4, 4, rfl, by decide, by decide, inT67, Or.inl (zti 773 (by decide +kernel) (by decide +kernel))⟩
theorem fpJ5_22 : zFP "java/lang/AbstractStringBuilder" 22 67 1 .byte := ⟨RJ4, TJ4, 4, tyJ4, rfl, by decide, by decide, inT67, Or.inl (zti 773 (by decide +kernel) (by decide +kernel)), by decide, by decide +kernel, tyJ4_ok, nmJ4⟩
theorem flJ5_79 : zFL "java/lang/AbstractStringBuilder" 79 67 3 := ⟨RJ4, TJ4, 4, rfl, by decide, by decide, inT67, Or.inl (zti 775 (by decide +kernel) (by decide +kernel))⟩
theorem fpJ5_79 : zFP "java/lang/AbstractStringBuilder" 79 67 3 .int := ⟨RJ4, TJ4, 4, tyJ4, rfl, by decide, by decide, inT67, Or.inl (zti 775 (by decide +kernel) (by decide +kernel)), by decide, by decide +kernel, tyJ4_ok, nmJ4⟩
theorem flJ0_9 : zFL "java/lang/String" 9 66 0 := ⟨RJ0, TJ0, 4, rfl, by decide, by decide, inT66, Or.inl (zti 973 (by decide +kernel) (by decide +kernel))⟩
theorem ffJ0_9 : zFF "java/lang/String" 9 66 0 (.array .byte) := ⟨RJ0, TJ0, 4, tyJ0, rfl, by decide, by decide, inT66, zti 973 (by decide +kernel) (by decide +kernel), by decide, by decide +kernel, by decide +kernel, tyJ0_ok, nmJ0⟩
theorem flJ0_15 : zFL "java/lang/String" 15 66 1 := ⟨RJ0, TJ0, 4, rfl, by decide, by decide, inT66, Or.inl (zti 974 (by decide +kernel) (by decide +kernel))⟩
theorem ffJ0_15 : zFF "java/lang/String" 15 66 1 .byte := ⟨RJ0, TJ0, 4, tyJ0, rfl, by decide, by decide, inT66, zti 974 (by decide +kernel) (by decide +kernel), by decide, by decide +kernel, by decide +kernel, tyJ0_ok, nmJ0⟩
theorem flJ0_1048 : zFL "java/lang/String" 1048 67 2 := ⟨RJ4, TJ4, 4, rfl, by decide, by decide, inT67, Or.inl (zti 774 (by decide +kernel) (by decide +kernel))⟩
theorem ck_X1_gradeOf : plainName m_X1_gradeOf.1.cls = true ∧ Cond.code m_X1_gradeOf.1 m_X1_gradeOf.2.1 m_X1_gradeOf.2.2.1 m_X1_gradeOf.2.2.2.1 ∈ zTB ∧ Cond.initialized m_X1_gradeOf.1.cls ∈ zTB ∧ (m_X1_gradeOf.1.cls ≠ "java/lang/invoke/MethodHandle" ∧ m_X1_gradeOf.1.cls ≠ "java/lang/invoke/VarHandle") ∧ (parseMethodDescriptor m_X1_gradeOf.1.desc).map (fun d => d.parameters.length) = some 1 := ⟨by decide +kernel, zti 529 (by decide +kernel) (by decide +kernel), zti 2 (by decide +kernel) (by decide +kernel), ⟨by decide +kernel, by decide +kernel⟩, by decide +kernel⟩
theorem ck1_X1_gradeOf : Cond.instanceMethod m_X1_gradeOf.1 ∈ zTB := zti 527 (by decide +kernel) (by decide +kernel)
theorem ci_X1_gradeOf : Cond.instanceMethod m_X1_gradeOf.1 ∈ zTB ∧ Cond.selects m_X1_gradeOf.1.cls m_X1_gradeOf.1 m_X1_gradeOf.1 ∈ zTB := ⟨ck1_X1_gradeOf, zti 528 (by decide +kernel) (by decide +kernel)⟩
theorem ck_X8_bit : plainName m_X8_bit.1.cls = true ∧ Cond.code m_X8_bit.1 m_X8_bit.2.1 m_X8_bit.2.2.1 m_X8_bit.2.2.2.1 ∈ zTB ∧ Cond.initialized m_X8_bit.1.cls ∈ zTB ∧ (m_X8_bit.1.cls ≠ "java/lang/invoke/MethodHandle" ∧ m_X8_bit.1.cls ≠ "java/lang/invoke/VarHandle") ∧ (parseMethodDescriptor m_X8_bit.1.desc).map (fun d => d.parameters.length) = some 1 := ⟨by decide +kernel, zti 521 (by decide +kernel) (by decide +kernel), zti 1 (by decide +kernel) (by decide +kernel), ⟨by decide +kernel, by decide +kernel⟩, by decide +kernel⟩
theorem ct_X8_bit : Cond.static m_X8_bit.1 ∈ zTB := zti 520 (by decide +kernel) (by decide +kernel)
theorem ck_X0_takeTrader : plainName m_X0_takeTrader.1.cls = true ∧ Cond.code m_X0_takeTrader.1 m_X0_takeTrader.2.1 m_X0_takeTrader.2.2.1 m_X0_takeTrader.2.2.2.1 ∈ zTB ∧ Cond.initialized m_X0_takeTrader.1.cls ∈ zTB ∧ (m_X0_takeTrader.1.cls ≠ "java/lang/invoke/MethodHandle" ∧ m_X0_takeTrader.1.cls ≠ "java/lang/invoke/VarHandle") ∧ (parseMethodDescriptor m_X0_takeTrader.1.desc).map (fun d => d.parameters.length) = some 3 := ⟨by decide +kernel, zti 534 (by decide +kernel) (by decide +kernel), zti 7 (by decide +kernel) (by decide +kernel), ⟨by decide +kernel, by decide +kernel⟩, by decide +kernel⟩
theorem ck1_X0_takeTrader : Cond.instanceMethod m_X0_takeTrader.1 ∈ zTB := zti 532 (by decide +kernel) (by decide +kernel)
theorem ci_X0_takeTrader : Cond.instanceMethod m_X0_takeTrader.1 ∈ zTB ∧ Cond.selects m_X0_takeTrader.1.cls m_X0_takeTrader.1 m_X0_takeTrader.1 ∈ zTB := ⟨ck1_X0_takeTrader, zti 533 (by decide +kernel) (by decide +kernel)⟩
theorem ck_X1_isSeller : plainName m_X1_isSeller.1.cls = true ∧ Cond.code m_X1_isSeller.1 m_X1_isSeller.2.1 m_X1_isSeller.2.2.1 m_X1_isSeller.2.2.2.1 ∈ zTB ∧ Cond.initialized m_X1_isSeller.1.cls ∈ zTB ∧ (m_X1_isSeller.1.cls ≠ "java/lang/invoke/MethodHandle" ∧ m_X1_isSeller.1.cls ≠ "java/lang/invoke/VarHandle") ∧ (parseMethodDescriptor m_X1_isSeller.1.desc).map (fun d => d.parameters.length) = some 1 := ⟨by decide +kernel, zti 395 (by decide +kernel) (by decide +kernel), zti 2 (by decide +kernel) (by decide +kernel), ⟨by decide +kernel, by decide +kernel⟩, by decide +kernel⟩
theorem ck1_X1_isSeller : Cond.instanceMethod m_X1_isSeller.1 ∈ zTB := zti 393 (by decide +kernel) (by decide +kernel)
theorem ci_X1_isSeller : Cond.instanceMethod m_X1_isSeller.1 ∈ zTB ∧ Cond.selects m_X1_isSeller.1.cls m_X1_isSeller.1 m_X1_isSeller.1 ∈ zTB := ⟨ck1_X1_isSeller, zti 394 (by decide +kernel) (by decide +kernel)⟩
theorem ck_X1_unitsOf : plainName m_X1_unitsOf.1.cls = true ∧ Cond.code m_X1_unitsOf.1 m_X1_unitsOf.2.1 m_X1_unitsOf.2.2.1 m_X1_unitsOf.2.2.2.1 ∈ zTB ∧ Cond.initialized m_X1_unitsOf.1.cls ∈ zTB ∧ (m_X1_unitsOf.1.cls ≠ "java/lang/invoke/MethodHandle" ∧ m_X1_unitsOf.1.cls ≠ "java/lang/invoke/VarHandle") ∧ (parseMethodDescriptor m_X1_unitsOf.1.desc).map (fun d => d.parameters.length) = some 1 := ⟨by decide +kernel, zti 418 (by decide +kernel) (by decide +kernel), zti 2 (by decide +kernel) (by decide +kernel), ⟨by decide +kernel, by decide +kernel⟩, by decide +kernel⟩
theorem ck1_X1_unitsOf : Cond.instanceMethod m_X1_unitsOf.1 ∈ zTB := zti 416 (by decide +kernel) (by decide +kernel)
theorem ci_X1_unitsOf : Cond.instanceMethod m_X1_unitsOf.1 ∈ zTB ∧ Cond.selects m_X1_unitsOf.1.cls m_X1_unitsOf.1 m_X1_unitsOf.1 ∈ zTB := ⟨ck1_X1_unitsOf, zti 417 (by decide +kernel) (by decide +kernel)⟩
theorem ck_X1_said : plainName m_X1_said.1.cls = true ∧ Cond.code m_X1_said.1 m_X1_said.2.1 m_X1_said.2.2.1 m_X1_said.2.2.2.1 ∈ zTB ∧ Cond.initialized m_X1_said.1.cls ∈ zTB ∧ (m_X1_said.1.cls ≠ "java/lang/invoke/MethodHandle" ∧ m_X1_said.1.cls ≠ "java/lang/invoke/VarHandle") ∧ (parseMethodDescriptor m_X1_said.1.desc).map (fun d => d.parameters.length) = some 2 := ⟨by decide +kernel, zti 407 (by decide +kernel) (by decide +kernel), zti 2 (by decide +kernel) (by decide +kernel), ⟨by decide +kernel, by decide +kernel⟩, by decide +kernel⟩
theorem ck1_X1_said : Cond.instanceMethod m_X1_said.1 ∈ zTB := zti 405 (by decide +kernel) (by decide +kernel)
theorem ci_X1_said : Cond.instanceMethod m_X1_said.1 ∈ zTB ∧ Cond.selects m_X1_said.1.cls m_X1_said.1 m_X1_said.1 ∈ zTB := ⟨ck1_X1_said, zti 406 (by decide +kernel) (by decide +kernel)⟩
theorem ck_X0_insert : plainName m_X0_insert.1.cls = true ∧ Cond.code m_X0_insert.1 m_X0_insert.2.1 m_X0_insert.2.2.1 m_X0_insert.2.2.2.1 ∈ zTB ∧ Cond.initialized m_X0_insert.1.cls ∈ zTB ∧ (m_X0_insert.1.cls ≠ "java/lang/invoke/MethodHandle" ∧ m_X0_insert.1.cls ≠ "java/lang/invoke/VarHandle") ∧ (parseMethodDescriptor m_X0_insert.1.desc).map (fun d => d.parameters.length) = some 3 := ⟨by decide +kernel, zti 544 (by decide +kernel) (by decide +kernel), zti 7 (by decide +kernel) (by decide +kernel), ⟨by decide +kernel, by decide +kernel⟩, by decide +kernel⟩
theorem ct_X0_insert : Cond.static m_X0_insert.1 ∈ zTB := zti 543 (by decide +kernel) (by decide +kernel)
theorem ck_X0_slotAt : plainName m_X0_slotAt.1.cls = true ∧ Cond.code m_X0_slotAt.1 m_X0_slotAt.2.1 m_X0_slotAt.2.2.1 m_X0_slotAt.2.2.2.1 ∈ zTB ∧ Cond.initialized m_X0_slotAt.1.cls ∈ zTB ∧ (m_X0_slotAt.1.cls ≠ "java/lang/invoke/MethodHandle" ∧ m_X0_slotAt.1.cls ≠ "java/lang/invoke/VarHandle") ∧ (parseMethodDescriptor m_X0_slotAt.1.desc).map (fun d => d.parameters.length) = some 2 := ⟨by decide +kernel, zti 581 (by decide +kernel) (by decide +kernel), zti 7 (by decide +kernel) (by decide +kernel), ⟨by decide +kernel, by decide +kernel⟩, by decide +kernel⟩
theorem ck1_X0_slotAt : Cond.instanceMethod m_X0_slotAt.1 ∈ zTB := zti 580 (by decide +kernel) (by decide +kernel)
theorem ci_X0_slotAt : Cond.instanceMethod m_X0_slotAt.1 ∈ zTB ∧ Cond.selects m_X0_slotAt.1.cls m_X0_slotAt.1 m_X0_slotAt.1 ∈ zTB := ⟨ck1_X0_slotAt, zpi (n := 11) 13 (by decide +kernel) (by decide +kernel)⟩
theorem ck_X0_ask : plainName m_X0_ask.1.cls = true ∧ Cond.code m_X0_ask.1 m_X0_ask.2.1 m_X0_ask.2.2.1 m_X0_ask.2.2.2.1 ∈ zTB ∧ Cond.initialized m_X0_ask.1.cls ∈ zTB ∧ (m_X0_ask.1.cls ≠ "java/lang/invoke/MethodHandle" ∧ m_X0_ask.1.cls ≠ "java/lang/invoke/VarHandle") ∧ (parseMethodDescriptor m_X0_ask.1.desc).map (fun d => d.parameters.length) = some 1 := ⟨by decide +kernel, zti 556 (by decide +kernel) (by decide +kernel), zti 7 (by decide +kernel) (by decide +kernel), ⟨by decide +kernel, by decide +kernel⟩, by decide +kernel⟩
theorem ck1_X0_ask : Cond.instanceMethod m_X0_ask.1 ∈ zTB := zti 554 (by decide +kernel) (by decide +kernel)
theorem ci_X0_ask : Cond.instanceMethod m_X0_ask.1 ∈ zTB ∧ Cond.selects m_X0_ask.1.cls m_X0_ask.1 m_X0_ask.1 ∈ zTB := ⟨ck1_X0_ask, zti 555 (by decide +kernel) (by decide +kernel)⟩
theorem ck_X0_bid : plainName m_X0_bid.1.cls = true ∧ Cond.code m_X0_bid.1 m_X0_bid.2.1 m_X0_bid.2.2.1 m_X0_bid.2.2.2.1 ∈ zTB ∧ Cond.initialized m_X0_bid.1.cls ∈ zTB ∧ (m_X0_bid.1.cls ≠ "java/lang/invoke/MethodHandle" ∧ m_X0_bid.1.cls ≠ "java/lang/invoke/VarHandle") ∧ (parseMethodDescriptor m_X0_bid.1.desc).map (fun d => d.parameters.length) = some 1 := ⟨by decide +kernel, zti 552 (by decide +kernel) (by decide +kernel), zti 7 (by decide +kernel) (by decide +kernel), ⟨by decide +kernel, by decide +kernel⟩, by decide +kernel⟩
theorem ck1_X0_bid : Cond.instanceMethod m_X0_bid.1 ∈ zTB := zti 550 (by decide +kernel) (by decide +kernel)
theorem ci_X0_bid : Cond.instanceMethod m_X0_bid.1 ∈ zTB ∧ Cond.selects m_X0_bid.1.cls m_X0_bid.1 m_X0_bid.1 ∈ zTB := ⟨ck1_X0_bid, zti 551 (by decide +kernel) (by decide +kernel)⟩
theorem ck_X0_priceForAll : plainName m_X0_priceForAll.1.cls = true ∧ Cond.code m_X0_priceForAll.1 m_X0_priceForAll.2.1 m_X0_priceForAll.2.2.1 m_X0_priceForAll.2.2.2.1 ∈ zTB ∧ Cond.initialized m_X0_priceForAll.1.cls ∈ zTB ∧ (m_X0_priceForAll.1.cls ≠ "java/lang/invoke/MethodHandle" ∧ m_X0_priceForAll.1.cls ≠ "java/lang/invoke/VarHandle") ∧ (parseMethodDescriptor m_X0_priceForAll.1.desc).map (fun d => d.parameters.length) = some 0 := ⟨by decide +kernel, zti 560 (by decide +kernel) (by decide +kernel), zti 7 (by decide +kernel) (by decide +kernel), ⟨by decide +kernel, by decide +kernel⟩, by decide +kernel⟩
theorem ck1_X0_priceForAll : Cond.instanceMethod m_X0_priceForAll.1 ∈ zTB := zti 559 (by decide +kernel) (by decide +kernel)
theorem ci_X0_priceForAll : Cond.instanceMethod m_X0_priceForAll.1 ∈ zTB ∧ Cond.selects m_X0_priceForAll.1.cls m_X0_priceForAll.1 m_X0_priceForAll.1 ∈ zTB := ⟨ck1_X0_priceForAll, zpi (n := 11) 12 (by decide +kernel) (by decide +kernel)⟩
theorem ck_X0_lastBid : plainName m_X0_lastBid.1.cls = true ∧ Cond.code m_X0_lastBid.1 m_X0_lastBid.2.1 m_X0_lastBid.2.2.1 m_X0_lastBid.2.2.2.1 ∈ zTB ∧ Cond.initialized m_X0_lastBid.1.cls ∈ zTB ∧ (m_X0_lastBid.1.cls ≠ "java/lang/invoke/MethodHandle" ∧ m_X0_lastBid.1.cls ≠ "java/lang/invoke/VarHandle") ∧ (parseMethodDescriptor m_X0_lastBid.1.desc).map (fun d => d.parameters.length) = some 0 := ⟨by decide +kernel, zti 564 (by decide +kernel) (by decide +kernel), zti 7 (by decide +kernel) (by decide +kernel), ⟨by decide +kernel, by decide +kernel⟩, by decide +kernel⟩
theorem ck1_X0_lastBid : Cond.instanceMethod m_X0_lastBid.1 ∈ zTB := zti 562 (by decide +kernel) (by decide +kernel)
theorem ci_X0_lastBid : Cond.instanceMethod m_X0_lastBid.1 ∈ zTB ∧ Cond.selects m_X0_lastBid.1.cls m_X0_lastBid.1 m_X0_lastBid.1 ∈ zTB := ⟨ck1_X0_lastBid, zti 563 (by decide +kernel) (by decide +kernel)⟩
theorem ck_X0_lastAsk : plainName m_X0_lastAsk.1.cls = true ∧ Cond.code m_X0_lastAsk.1 m_X0_lastAsk.2.1 m_X0_lastAsk.2.2.1 m_X0_lastAsk.2.2.2.1 ∈ zTB ∧ Cond.initialized m_X0_lastAsk.1.cls ∈ zTB ∧ (m_X0_lastAsk.1.cls ≠ "java/lang/invoke/MethodHandle" ∧ m_X0_lastAsk.1.cls ≠ "java/lang/invoke/VarHandle") ∧ (parseMethodDescriptor m_X0_lastAsk.1.desc).map (fun d => d.parameters.length) = some 0 := ⟨by decide +kernel, zti 568 (by decide +kernel) (by decide +kernel), zti 7 (by decide +kernel) (by decide +kernel), ⟨by decide +kernel, by decide +kernel⟩, by decide +kernel⟩
theorem ck1_X0_lastAsk : Cond.instanceMethod m_X0_lastAsk.1 ∈ zTB := zti 566 (by decide +kernel) (by decide +kernel)
theorem ci_X0_lastAsk : Cond.instanceMethod m_X0_lastAsk.1 ∈ zTB ∧ Cond.selects m_X0_lastAsk.1.cls m_X0_lastAsk.1 m_X0_lastAsk.1 ∈ zTB := ⟨ck1_X0_lastAsk, zti 567 (by decide +kernel) (by decide +kernel)⟩
theorem ck_X0_traderAt : plainName m_X0_traderAt.1.cls = true ∧ Cond.code m_X0_traderAt.1 m_X0_traderAt.2.1 m_X0_traderAt.2.2.1 m_X0_traderAt.2.2.2.1 ∈ zTB ∧ Cond.initialized m_X0_traderAt.1.cls ∈ zTB ∧ (m_X0_traderAt.1.cls ≠ "java/lang/invoke/MethodHandle" ∧ m_X0_traderAt.1.cls ≠ "java/lang/invoke/VarHandle") ∧ (parseMethodDescriptor m_X0_traderAt.1.desc).map (fun d => d.parameters.length) = some 2 := ⟨by decide +kernel, zti 577 (by decide +kernel) (by decide +kernel), zti 7 (by decide +kernel) (by decide +kernel), ⟨by decide +kernel, by decide +kernel⟩, by decide +kernel⟩
theorem ck1_X0_traderAt : Cond.instanceMethod m_X0_traderAt.1 ∈ zTB := zti 575 (by decide +kernel) (by decide +kernel)
theorem ci_X0_traderAt : Cond.instanceMethod m_X0_traderAt.1 ∈ zTB ∧ Cond.selects m_X0_traderAt.1.cls m_X0_traderAt.1 m_X0_traderAt.1 ∈ zTB := ⟨ck1_X0_traderAt, zti 576 (by decide +kernel) (by decide +kernel)⟩
theorem ck_X0_doneOf : plainName m_X0_doneOf.1.cls = true ∧ Cond.code m_X0_doneOf.1 m_X0_doneOf.2.1 m_X0_doneOf.2.2.1 m_X0_doneOf.2.2.2.1 ∈ zTB ∧ Cond.initialized m_X0_doneOf.1.cls ∈ zTB ∧ (m_X0_doneOf.1.cls ≠ "java/lang/invoke/MethodHandle" ∧ m_X0_doneOf.1.cls ≠ "java/lang/invoke/VarHandle") ∧ (parseMethodDescriptor m_X0_doneOf.1.desc).map (fun d => d.parameters.length) = some 2 := ⟨by decide +kernel, zti 573 (by decide +kernel) (by decide +kernel), zti 7 (by decide +kernel) (by decide +kernel), ⟨by decide +kernel, by decide +kernel⟩, by decide +kernel⟩
theorem ck1_X0_doneOf : Cond.instanceMethod m_X0_doneOf.1 ∈ zTB := zti 571 (by decide +kernel) (by decide +kernel)
theorem ci_X0_doneOf : Cond.instanceMethod m_X0_doneOf.1 ∈ zTB ∧ Cond.selects m_X0_doneOf.1.cls m_X0_doneOf.1 m_X0_doneOf.1 ∈ zTB := ⟨ck1_X0_doneOf, zti 572 (by decide +kernel) (by decide +kernel)⟩
theorem ck_X0_amountsDone : plainName m_X0_amountsDone.1.cls = true ∧ Cond.code m_X0_amountsDone.1 m_X0_amountsDone.2.1 m_X0_amountsDone.2.2.1 m_X0_amountsDone.2.2.2.1 ∈ zTB ∧ Cond.initialized m_X0_amountsDone.1.cls ∈ zTB ∧ (m_X0_amountsDone.1.cls ≠ "java/lang/invoke/MethodHandle" ∧ m_X0_amountsDone.1.cls ≠ "java/lang/invoke/VarHandle") ∧ (parseMethodDescriptor m_X0_amountsDone.1.desc).map (fun d => d.parameters.length) = some 2 := ⟨by decide +kernel, zti 590 (by decide +kernel) (by decide +kernel), zti 7 (by decide +kernel) (by decide +kernel), ⟨by decide +kernel, by decide +kernel⟩, by decide +kernel⟩
theorem ck1_X0_amountsDone : Cond.instanceMethod m_X0_amountsDone.1 ∈ zTB := zti 589 (by decide +kernel) (by decide +kernel)
theorem ci_X0_amountsDone : Cond.instanceMethod m_X0_amountsDone.1 ∈ zTB ∧ Cond.selects m_X0_amountsDone.1.cls m_X0_amountsDone.1 m_X0_amountsDone.1 ∈ zTB := ⟨ck1_X0_amountsDone, zpi (n := 11) 14 (by decide +kernel) (by decide +kernel)⟩
theorem ck_X0_worthWithout : plainName m_X0_worthWithout.1.cls = true ∧ Cond.code m_X0_worthWithout.1 m_X0_worthWithout.2.1 m_X0_worthWithout.2.2.1 m_X0_worthWithout.2.2.2.1 ∈ zTB ∧ Cond.initialized m_X0_worthWithout.1.cls ∈ zTB ∧ (m_X0_worthWithout.1.cls ≠ "java/lang/invoke/MethodHandle" ∧ m_X0_worthWithout.1.cls ≠ "java/lang/invoke/VarHandle") ∧ (parseMethodDescriptor m_X0_worthWithout.1.desc).map (fun d => d.parameters.length) = some 1 := ⟨by decide +kernel, zti 598 (by decide +kernel) (by decide +kernel), zti 7 (by decide +kernel) (by decide +kernel), ⟨by decide +kernel, by decide +kernel⟩, by decide +kernel⟩
theorem ck1_X0_worthWithout : Cond.instanceMethod m_X0_worthWithout.1 ∈ zTB := zti 596 (by decide +kernel) (by decide +kernel)
theorem ci_X0_worthWithout : Cond.instanceMethod m_X0_worthWithout.1 ∈ zTB ∧ Cond.selects m_X0_worthWithout.1.cls m_X0_worthWithout.1 m_X0_worthWithout.1 ∈ zTB := ⟨ck1_X0_worthWithout, zti 597 (by decide +kernel) (by decide +kernel)⟩
theorem ck_X0_amount : plainName m_X0_amount.1.cls = true ∧ Cond.code m_X0_amount.1 m_X0_amount.2.1 m_X0_amount.2.2.1 m_X0_amount.2.2.2.1 ∈ zTB ∧ Cond.initialized m_X0_amount.1.cls ∈ zTB ∧ (m_X0_amount.1.cls ≠ "java/lang/invoke/MethodHandle" ∧ m_X0_amount.1.cls ≠ "java/lang/invoke/VarHandle") ∧ (parseMethodDescriptor m_X0_amount.1.desc).map (fun d => d.parameters.length) = some 2 := ⟨by decide +kernel, zti 594 (by decide +kernel) (by decide +kernel), zti 7 (by decide +kernel) (by decide +kernel), ⟨by decide +kernel, by decide +kernel⟩, by decide +kernel⟩
theorem ck1_X0_amount : Cond.instanceMethod m_X0_amount.1 ∈ zTB := zti 593 (by decide +kernel) (by decide +kernel)
theorem ci_X0_amount : Cond.instanceMethod m_X0_amount.1 ∈ zTB ∧ Cond.selects m_X0_amount.1.cls m_X0_amount.1 m_X0_amount.1 ∈ zTB := ⟨ck1_X0_amount, zpi (n := 11) 15 (by decide +kernel) (by decide +kernel)⟩
theorem ck_X1_has : plainName m_X1_has.1.cls = true ∧ Cond.code m_X1_has.1 m_X1_has.2.1 m_X1_has.2.2.1 m_X1_has.2.2.2.1 ∈ zTB ∧ Cond.initialized m_X1_has.1.cls ∈ zTB ∧ (m_X1_has.1.cls ≠ "java/lang/invoke/MethodHandle" ∧ m_X1_has.1.cls ≠ "java/lang/invoke/VarHandle") ∧ (parseMethodDescriptor m_X1_has.1.desc).map (fun d => d.parameters.length) = some 1 := ⟨by decide +kernel, zti 399 (by decide +kernel) (by decide +kernel), zti 2 (by decide +kernel) (by decide +kernel), ⟨by decide +kernel, by decide +kernel⟩, by decide +kernel⟩
theorem ck1_X1_has : Cond.instanceMethod m_X1_has.1 ∈ zTB := zti 397 (by decide +kernel) (by decide +kernel)
theorem ci_X1_has : Cond.instanceMethod m_X1_has.1 ∈ zTB ∧ Cond.selects m_X1_has.1.cls m_X1_has.1 m_X1_has.1 ∈ zTB := ⟨ck1_X1_has, zti 398 (by decide +kernel) (by decide +kernel)⟩
theorem ck_X1_hasUnit : plainName m_X1_hasUnit.1.cls = true ∧ Cond.code m_X1_hasUnit.1 m_X1_hasUnit.2.1 m_X1_hasUnit.2.2.1 m_X1_hasUnit.2.2.2.1 ∈ zTB ∧ Cond.initialized m_X1_hasUnit.1.cls ∈ zTB ∧ (m_X1_hasUnit.1.cls ≠ "java/lang/invoke/MethodHandle" ∧ m_X1_hasUnit.1.cls ≠ "java/lang/invoke/VarHandle") ∧ (parseMethodDescriptor m_X1_hasUnit.1.desc).map (fun d => d.parameters.length) = some 2 := ⟨by decide +kernel, zti 403 (by decide +kernel) (by decide +kernel), zti 2 (by decide +kernel) (by decide +kernel), ⟨by decide +kernel, by decide +kernel⟩, by decide +kernel⟩
theorem ck1_X1_hasUnit : Cond.instanceMethod m_X1_hasUnit.1 ∈ zTB := zti 401 (by decide +kernel) (by decide +kernel)
theorem ci_X1_hasUnit : Cond.instanceMethod m_X1_hasUnit.1 ∈ zTB ∧ Cond.selects m_X1_hasUnit.1.cls m_X1_hasUnit.1 m_X1_hasUnit.1 ∈ zTB := ⟨ck1_X1_hasUnit, zti 402 (by decide +kernel) (by decide +kernel)⟩
theorem ck_X1_inOrder : plainName m_X1_inOrder.1.cls = true ∧ Cond.code m_X1_inOrder.1 m_X1_inOrder.2.1 m_X1_inOrder.2.2.1 m_X1_inOrder.2.2.2.1 ∈ zTB ∧ Cond.initialized m_X1_inOrder.1.cls ∈ zTB ∧ (m_X1_inOrder.1.cls ≠ "java/lang/invoke/MethodHandle" ∧ m_X1_inOrder.1.cls ≠ "java/lang/invoke/VarHandle") ∧ (parseMethodDescriptor m_X1_inOrder.1.desc).map (fun d => d.parameters.length) = some 3 := ⟨by decide +kernel, zti 410 (by decide +kernel) (by decide +kernel), zti 2 (by decide +kernel) (by decide +kernel), ⟨by decide +kernel, by decide +kernel⟩, by decide +kernel⟩
theorem ct_X1_inOrder : Cond.static m_X1_inOrder.1 ∈ zTB := zti 409 (by decide +kernel) (by decide +kernel)
theorem ck_X1_setSaid : plainName m_X1_setSaid.1.cls = true ∧ Cond.code m_X1_setSaid.1 m_X1_setSaid.2.1 m_X1_setSaid.2.2.1 m_X1_setSaid.2.2.2.1 ∈ zTB ∧ Cond.initialized m_X1_setSaid.1.cls ∈ zTB ∧ (m_X1_setSaid.1.cls ≠ "java/lang/invoke/MethodHandle" ∧ m_X1_setSaid.1.cls ≠ "java/lang/invoke/VarHandle") ∧ (parseMethodDescriptor m_X1_setSaid.1.desc).map (fun d => d.parameters.length) = some 3 := ⟨by decide +kernel, zti 422 (by decide +kernel) (by decide +kernel), zti 2 (by decide +kernel) (by decide +kernel), ⟨by decide +kernel, by decide +kernel⟩, by decide +kernel⟩
theorem ck1_X1_setSaid : Cond.instanceMethod m_X1_setSaid.1 ∈ zTB := zti 420 (by decide +kernel) (by decide +kernel)
theorem ci_X1_setSaid : Cond.instanceMethod m_X1_setSaid.1 ∈ zTB ∧ Cond.selects m_X1_setSaid.1.cls m_X1_setSaid.1 m_X1_setSaid.1 ∈ zTB := ⟨ck1_X1_setSaid, zti 421 (by decide +kernel) (by decide +kernel)⟩
theorem ck_X1_dropFirst : plainName m_X1_dropFirst.1.cls = true ∧ Cond.code m_X1_dropFirst.1 m_X1_dropFirst.2.1 m_X1_dropFirst.2.2.1 m_X1_dropFirst.2.2.2.1 ∈ zTB ∧ Cond.initialized m_X1_dropFirst.1.cls ∈ zTB ∧ (m_X1_dropFirst.1.cls ≠ "java/lang/invoke/MethodHandle" ∧ m_X1_dropFirst.1.cls ≠ "java/lang/invoke/VarHandle") ∧ (parseMethodDescriptor m_X1_dropFirst.1.desc).map (fun d => d.parameters.length) = some 2 := ⟨by decide +kernel, zti 496 (by decide +kernel) (by decide +kernel), zti 2 (by decide +kernel) (by decide +kernel), ⟨by decide +kernel, by decide +kernel⟩, by decide +kernel⟩
theorem ck1_X1_dropFirst : Cond.instanceMethod m_X1_dropFirst.1 ∈ zTB := zti 494 (by decide +kernel) (by decide +kernel)
theorem ci_X1_dropFirst : Cond.instanceMethod m_X1_dropFirst.1 ∈ zTB ∧ Cond.selects m_X1_dropFirst.1.cls m_X1_dropFirst.1 m_X1_dropFirst.1 ∈ zTB := ⟨ck1_X1_dropFirst, zti 495 (by decide +kernel) (by decide +kernel)⟩
theorem ck_X1_purseOf : plainName m_X1_purseOf.1.cls = true ∧ Cond.code m_X1_purseOf.1 m_X1_purseOf.2.1 m_X1_purseOf.2.2.1 m_X1_purseOf.2.2.2.1 ∈ zTB ∧ Cond.initialized m_X1_purseOf.1.cls ∈ zTB ∧ (m_X1_purseOf.1.cls ≠ "java/lang/invoke/MethodHandle" ∧ m_X1_purseOf.1.cls ≠ "java/lang/invoke/VarHandle") ∧ (parseMethodDescriptor m_X1_purseOf.1.desc).map (fun d => d.parameters.length) = some 1 := ⟨by decide +kernel, zti 1051 (by decide +kernel) (by decide +kernel), zti 2 (by decide +kernel) (by decide +kernel), ⟨by decide +kernel, by decide +kernel⟩, by decide +kernel⟩
theorem ck1_X1_purseOf : Cond.instanceMethod m_X1_purseOf.1 ∈ zTB := zti 1049 (by decide +kernel) (by decide +kernel)
theorem ci_X1_purseOf : Cond.instanceMethod m_X1_purseOf.1 ∈ zTB ∧ Cond.selects m_X1_purseOf.1.cls m_X1_purseOf.1 m_X1_purseOf.1 ∈ zTB := ⟨ck1_X1_purseOf, zti 1050 (by decide +kernel) (by decide +kernel)⟩
theorem ck_X1_init : plainName m_X1_init.1.cls = true ∧ Cond.code m_X1_init.1 m_X1_init.2.1 m_X1_init.2.2.1 m_X1_init.2.2.2.1 ∈ zTB ∧ Cond.initialized m_X1_init.1.cls ∈ zTB ∧ (m_X1_init.1.cls ≠ "java/lang/invoke/MethodHandle" ∧ m_X1_init.1.cls ≠ "java/lang/invoke/VarHandle") ∧ (parseMethodDescriptor m_X1_init.1.desc).map (fun d => d.parameters.length) = some 0 := ⟨by decide +kernel, zti 35 (by decide +kernel) (by decide +kernel), zti 2 (by decide +kernel) (by decide +kernel), ⟨by decide +kernel, by decide +kernel⟩, by decide +kernel⟩
theorem ck1_X1_init : Cond.instanceMethod m_X1_init.1 ∈ zTB := zti 34 (by decide +kernel) (by decide +kernel)
theorem ck_X2_at : plainName m_X2_at.1.cls = true ∧ Cond.code m_X2_at.1 m_X2_at.2.1 m_X2_at.2.2.1 m_X2_at.2.2.2.1 ∈ zTB ∧ Cond.initialized m_X2_at.1.cls ∈ zTB ∧ (m_X2_at.1.cls ≠ "java/lang/invoke/MethodHandle" ∧ m_X2_at.1.cls ≠ "java/lang/invoke/VarHandle") ∧ (parseMethodDescriptor m_X2_at.1.desc).map (fun d => d.parameters.length) = some 1 := ⟨by decide +kernel, zti 467 (by decide +kernel) (by decide +kernel), zti 4 (by decide +kernel) (by decide +kernel), ⟨by decide +kernel, by decide +kernel⟩, by decide +kernel⟩
theorem ck1_X2_at : Cond.instanceMethod m_X2_at.1 ∈ zTB := zti 466 (by decide +kernel) (by decide +kernel)
theorem ci_X2_at : Cond.instanceMethod m_X2_at.1 ∈ zTB ∧ Cond.selects m_X2_at.1.cls m_X2_at.1 m_X2_at.1 ∈ zTB := ⟨ck1_X2_at, zpi (n := 3) 10 (by decide +kernel) (by decide +kernel)⟩
theorem ck_X1_copyFrom : plainName m_X1_copyFrom.1.cls = true ∧ Cond.code m_X1_copyFrom.1 m_X1_copyFrom.2.1 m_X1_copyFrom.2.2.1 m_X1_copyFrom.2.2.2.1 ∈ zTB ∧ Cond.initialized m_X1_copyFrom.1.cls ∈ zTB ∧ (m_X1_copyFrom.1.cls ≠ "java/lang/invoke/MethodHandle" ∧ m_X1_copyFrom.1.cls ≠ "java/lang/invoke/VarHandle") ∧ (parseMethodDescriptor m_X1_copyFrom.1.desc).map (fun d => d.parameters.length) = some 1 := ⟨by decide +kernel, zti 444 (by decide +kernel) (by decide +kernel), zti 2 (by decide +kernel) (by decide +kernel), ⟨by decide +kernel, by decide +kernel⟩, by decide +kernel⟩
theorem ck1_X1_copyFrom : Cond.instanceMethod m_X1_copyFrom.1 ∈ zTB := zti 442 (by decide +kernel) (by decide +kernel)
theorem ci_X1_copyFrom : Cond.instanceMethod m_X1_copyFrom.1 ∈ zTB ∧ Cond.selects m_X1_copyFrom.1.cls m_X1_copyFrom.1 m_X1_copyFrom.1 ∈ zTB := ⟨ck1_X1_copyFrom, zti 443 (by decide +kernel) (by decide +kernel)⟩
theorem ck_X3_beginPart : plainName m_X3_beginPart.1.cls = true ∧ Cond.code m_X3_beginPart.1 m_X3_beginPart.2.1 m_X3_beginPart.2.2.1 m_X3_beginPart.2.2.2.1 ∈ zTB ∧ Cond.initialized m_X3_beginPart.1.cls ∈ zTB ∧ (m_X3_beginPart.1.cls ≠ "java/lang/invoke/MethodHandle" ∧ m_X3_beginPart.1.cls ≠ "java/lang/invoke/VarHandle") ∧ (parseMethodDescriptor m_X3_beginPart.1.desc).map (fun d => d.parameters.length) = some 1 := ⟨by decide +kernel, zti 1071 (by decide +kernel) (by decide +kernel), zti 6 (by decide +kernel) (by decide +kernel), ⟨by decide +kernel, by decide +kernel⟩, by decide +kernel⟩
theorem ck1_X3_beginPart : Cond.instanceMethod m_X3_beginPart.1 ∈ zTB := zti 1070 (by decide +kernel) (by decide +kernel)
theorem ci_X3_beginPart : Cond.instanceMethod m_X3_beginPart.1 ∈ zTB ∧ Cond.selects m_X3_beginPart.1.cls m_X3_beginPart.1 m_X3_beginPart.1 ∈ zTB := ⟨ck1_X3_beginPart, zpi (n := 2) 20 (by decide +kernel) (by decide +kernel)⟩
theorem ck_X3_putNumber : plainName m_X3_putNumber.1.cls = true ∧ Cond.code m_X3_putNumber.1 m_X3_putNumber.2.1 m_X3_putNumber.2.2.1 m_X3_putNumber.2.2.2.1 ∈ zTB ∧ Cond.initialized m_X3_putNumber.1.cls ∈ zTB ∧ (m_X3_putNumber.1.cls ≠ "java/lang/invoke/MethodHandle" ∧ m_X3_putNumber.1.cls ≠ "java/lang/invoke/VarHandle") ∧ (parseMethodDescriptor m_X3_putNumber.1.desc).map (fun d => d.parameters.length) = some 1 := ⟨by decide +kernel, zti 1086 (by decide +kernel) (by decide +kernel), zti 6 (by decide +kernel) (by decide +kernel), ⟨by decide +kernel, by decide +kernel⟩, by decide +kernel⟩
theorem ck1_X3_putNumber : Cond.instanceMethod m_X3_putNumber.1 ∈ zTB := zti 1085 (by decide +kernel) (by decide +kernel)
theorem ci_X3_putNumber : Cond.instanceMethod m_X3_putNumber.1 ∈ zTB ∧ Cond.selects m_X3_putNumber.1.cls m_X3_putNumber.1 m_X3_putNumber.1 ∈ zTB := ⟨ck1_X3_putNumber, zpi (n := 2) 23 (by decide +kernel) (by decide +kernel)⟩
theorem ck_X3_put : plainName m_X3_put.1.cls = true ∧ Cond.code m_X3_put.1 m_X3_put.2.1 m_X3_put.2.2.1 m_X3_put.2.2.2.1 ∈ zTB ∧ Cond.initialized m_X3_put.1.cls ∈ zTB ∧ (m_X3_put.1.cls ≠ "java/lang/invoke/MethodHandle" ∧ m_X3_put.1.cls ≠ "java/lang/invoke/VarHandle") ∧ (parseMethodDescriptor m_X3_put.1.desc).map (fun d => d.parameters.length) = some 1 := ⟨by decide +kernel, zti 1075 (by decide +kernel) (by decide +kernel), zti 6 (by decide +kernel) (by decide +kernel), ⟨by decide +kernel, by decide +kernel⟩, by decide +kernel⟩
theorem ck1_X3_put : Cond.instanceMethod m_X3_put.1 ∈ zTB := zti 1074 (by decide +kernel) (by decide +kernel)
theorem ci_X3_put : Cond.instanceMethod m_X3_put.1 ∈ zTB ∧ Cond.selects m_X3_put.1.cls m_X3_put.1 m_X3_put.1 ∈ zTB := ⟨ck1_X3_put, zpi (n := 2) 21 (by decide +kernel) (by decide +kernel)⟩
theorem ck_X8_lawWord : plainName m_X8_lawWord.1.cls = true ∧ Cond.code m_X8_lawWord.1 m_X8_lawWord.2.1 m_X8_lawWord.2.2.1 m_X8_lawWord.2.2.2.1 ∈ zTB ∧ Cond.initialized m_X8_lawWord.1.cls ∈ zTB ∧ (m_X8_lawWord.1.cls ≠ "java/lang/invoke/MethodHandle" ∧ m_X8_lawWord.1.cls ≠ "java/lang/invoke/VarHandle") ∧ (parseMethodDescriptor m_X8_lawWord.1.desc).map (fun d => d.parameters.length) = some 1 := ⟨by decide +kernel, zti 436 (by decide +kernel) (by decide +kernel), zti 1 (by decide +kernel) (by decide +kernel), ⟨by decide +kernel, by decide +kernel⟩, by decide +kernel⟩
theorem ct_X8_lawWord : Cond.static m_X8_lawWord.1 ∈ zTB := zti 435 (by decide +kernel) (by decide +kernel)
theorem ck_X3_putWord : plainName m_X3_putWord.1.cls = true ∧ Cond.code m_X3_putWord.1 m_X3_putWord.2.1 m_X3_putWord.2.2.1 m_X3_putWord.2.2.2.1 ∈ zTB ∧ Cond.initialized m_X3_putWord.1.cls ∈ zTB ∧ (m_X3_putWord.1.cls ≠ "java/lang/invoke/MethodHandle" ∧ m_X3_putWord.1.cls ≠ "java/lang/invoke/VarHandle") ∧ (parseMethodDescriptor m_X3_putWord.1.desc).map (fun d => d.parameters.length) = some 1 := ⟨by decide +kernel, zti 1079 (by decide +kernel) (by decide +kernel), zti 6 (by decide +kernel) (by decide +kernel), ⟨by decide +kernel, by decide +kernel⟩, by decide +kernel⟩
theorem ck1_X3_putWord : Cond.instanceMethod m_X3_putWord.1 ∈ zTB := zti 1078 (by decide +kernel) (by decide +kernel)
theorem ci_X3_putWord : Cond.instanceMethod m_X3_putWord.1 ∈ zTB ∧ Cond.selects m_X3_putWord.1.cls m_X3_putWord.1 m_X3_putWord.1 ∈ zTB := ⟨ck1_X3_putWord, zpi (n := 2) 22 (by decide +kernel) (by decide +kernel)⟩
theorem ck_J0_length_8abf5 : plainName m_J0_length_8abf5.1.cls = true ∧ Cond.code m_J0_length_8abf5.1 m_J0_length_8abf5.2.1 m_J0_length_8abf5.2.2.1 m_J0_length_8abf5.2.2.2.1 ∈ zTB ∧ Cond.initialized m_J0_length_8abf5.1.cls ∈ zTB ∧ (m_J0_length_8abf5.1.cls ≠ "java/lang/invoke/MethodHandle" ∧ m_J0_length_8abf5.1.cls ≠ "java/lang/invoke/VarHandle") ∧ (parseMethodDescriptor m_J0_length_8abf5.1.desc).map (fun d => d.parameters.length) = some 0 := ⟨by decide +kernel, zti 321 (by decide +kernel) (by decide +kernel), zti 14 (by decide +kernel) (by decide +kernel), ⟨by decide +kernel, by decide +kernel⟩, by decide +kernel⟩
theorem ck1_J0_length_8abf5 : Cond.instanceMethod m_J0_length_8abf5.1 ∈ zTB := zti 319 (by decide +kernel) (by decide +kernel)
theorem ci_J0_length_8abf5 : Cond.instanceMethod m_J0_length_8abf5.1 ∈ zTB ∧ Cond.selects m_J0_length_8abf5.1.cls m_J0_length_8abf5.1 m_J0_length_8abf5.1 ∈ zTB := ⟨ck1_J0_length_8abf5, zti 320 (by decide +kernel) (by decide +kernel)⟩
theorem ck_J0_charAt_5068e : plainName m_J0_charAt_5068e.1.cls = true ∧ Cond.code m_J0_charAt_5068e.1 m_J0_charAt_5068e.2.1 m_J0_charAt_5068e.2.2.1 m_J0_charAt_5068e.2.2.2.1 ∈ zTB ∧ Cond.initialized m_J0_charAt_5068e.1.cls ∈ zTB ∧ (m_J0_charAt_5068e.1.cls ≠ "java/lang/invoke/MethodHandle" ∧ m_J0_charAt_5068e.1.cls ≠ "java/lang/invoke/VarHandle") ∧ (parseMethodDescriptor m_J0_charAt_5068e.1.desc).map (fun d => d.parameters.length) = some 1 := ⟨by decide +kernel, zti 331 (by decide +kernel) (by decide +kernel), zti 14 (by decide +kernel) (by decide +kernel), ⟨by decide +kernel, by decide +kernel⟩, by decide +kernel⟩
theorem ck1_J0_charAt_5068e : Cond.instanceMethod m_J0_charAt_5068e.1 ∈ zTB := zti 329 (by decide +kernel) (by decide +kernel)
theorem ci_J0_charAt_5068e : Cond.instanceMethod m_J0_charAt_5068e.1 ∈ zTB ∧ Cond.selects m_J0_charAt_5068e.1.cls m_J0_charAt_5068e.1 m_J0_charAt_5068e.1 ∈ zTB := ⟨ck1_J0_charAt_5068e, zti 330 (by decide +kernel) (by decide +kernel)⟩
theorem ck_X6_at : plainName m_X6_at.1.cls = true ∧ Cond.code m_X6_at.1 m_X6_at.2.1 m_X6_at.2.2.1 m_X6_at.2.2.2.1 ∈ zTB ∧ Cond.initialized m_X6_at.1.cls ∈ zTB ∧ (m_X6_at.1.cls ≠ "java/lang/invoke/MethodHandle" ∧ m_X6_at.1.cls ≠ "java/lang/invoke/VarHandle") ∧ (parseMethodDescriptor m_X6_at.1.desc).map (fun d => d.parameters.length) = some 1 := ⟨by decide +kernel, zti 635 (by decide +kernel) (by decide +kernel), zti 5 (by decide +kernel) (by decide +kernel), ⟨by decide +kernel, by decide +kernel⟩, by decide +kernel⟩
theorem ck1_X6_at : Cond.instanceMethod m_X6_at.1 ∈ zTB := zti 634 (by decide +kernel) (by decide +kernel)
theorem ci_X6_at : Cond.instanceMethod m_X6_at.1 ∈ zTB ∧ Cond.selects m_X6_at.1.cls m_X6_at.1 m_X6_at.1 ∈ zTB := ⟨ck1_X6_at, zpi (n := 2) 16 (by decide +kernel) (by decide +kernel)⟩
theorem ck_X8_isShelf : plainName m_X8_isShelf.1.cls = true ∧ Cond.code m_X8_isShelf.1 m_X8_isShelf.2.1 m_X8_isShelf.2.2.1 m_X8_isShelf.2.2.2.1 ∈ zTB ∧ Cond.initialized m_X8_isShelf.1.cls ∈ zTB ∧ (m_X8_isShelf.1.cls ≠ "java/lang/invoke/MethodHandle" ∧ m_X8_isShelf.1.cls ≠ "java/lang/invoke/VarHandle") ∧ (parseMethodDescriptor m_X8_isShelf.1.desc).map (fun d => d.parameters.length) = some 1 := ⟨by decide +kernel, zti 627 (by decide +kernel) (by decide +kernel), zti 1 (by decide +kernel) (by decide +kernel), ⟨by decide +kernel, by decide +kernel⟩, by decide +kernel⟩
theorem ct_X8_isShelf : Cond.static m_X8_isShelf.1 ∈ zTB := zti 626 (by decide +kernel) (by decide +kernel)
theorem ck_X1_clear : plainName m_X1_clear.1.cls = true ∧ Cond.code m_X1_clear.1 m_X1_clear.2.1 m_X1_clear.2.2.1 m_X1_clear.2.2.2.1 ∈ zTB ∧ Cond.initialized m_X1_clear.1.cls ∈ zTB ∧ (m_X1_clear.1.cls ≠ "java/lang/invoke/MethodHandle" ∧ m_X1_clear.1.cls ≠ "java/lang/invoke/VarHandle") ∧ (parseMethodDescriptor m_X1_clear.1.desc).map (fun d => d.parameters.length) = some 0 := ⟨by decide +kernel, zti 293 (by decide +kernel) (by decide +kernel), zti 2 (by decide +kernel) (by decide +kernel), ⟨by decide +kernel, by decide +kernel⟩, by decide +kernel⟩
theorem ck1_X1_clear : Cond.instanceMethod m_X1_clear.1 ∈ zTB := zti 291 (by decide +kernel) (by decide +kernel)
theorem ci_X1_clear : Cond.instanceMethod m_X1_clear.1 ∈ zTB ∧ Cond.selects m_X1_clear.1.cls m_X1_clear.1 m_X1_clear.1 ∈ zTB := ⟨ck1_X1_clear, zti 292 (by decide +kernel) (by decide +kernel)⟩
theorem ck_X7_skipBlanks : plainName m_X7_skipBlanks.1.cls = true ∧ Cond.code m_X7_skipBlanks.1 m_X7_skipBlanks.2.1 m_X7_skipBlanks.2.2.1 m_X7_skipBlanks.2.2.2.1 ∈ zTB ∧ Cond.initialized m_X7_skipBlanks.1.cls ∈ zTB ∧ (m_X7_skipBlanks.1.cls ≠ "java/lang/invoke/MethodHandle" ∧ m_X7_skipBlanks.1.cls ≠ "java/lang/invoke/VarHandle") ∧ (parseMethodDescriptor m_X7_skipBlanks.1.desc).map (fun d => d.parameters.length) = some 0 := ⟨by decide +kernel, zti 297 (by decide +kernel) (by decide +kernel), zti 3 (by decide +kernel) (by decide +kernel), ⟨by decide +kernel, by decide +kernel⟩, by decide +kernel⟩
theorem ck1_X7_skipBlanks : Cond.instanceMethod m_X7_skipBlanks.1 ∈ zTB := zti 296 (by decide +kernel) (by decide +kernel)
theorem ci_X7_skipBlanks : Cond.instanceMethod m_X7_skipBlanks.1 ∈ zTB ∧ Cond.selects m_X7_skipBlanks.1.cls m_X7_skipBlanks.1 m_X7_skipBlanks.1 ∈ zTB := ⟨ck1_X7_skipBlanks, zpi (n := 7) 0 (by decide +kernel) (by decide +kernel)⟩
theorem ck_X7_readPart : plainName m_X7_readPart.1.cls = true ∧ Cond.code m_X7_readPart.1 m_X7_readPart.2.1 m_X7_readPart.2.2.1 m_X7_readPart.2.2.2.1 ∈ zTB ∧ Cond.initialized m_X7_readPart.1.cls ∈ zTB ∧ (m_X7_readPart.1.cls ≠ "java/lang/invoke/MethodHandle" ∧ m_X7_readPart.1.cls ≠ "java/lang/invoke/VarHandle") ∧ (parseMethodDescriptor m_X7_readPart.1.desc).map (fun d => d.parameters.length) = some 0 := ⟨by decide +kernel, zti 305 (by decide +kernel) (by decide +kernel), zti 3 (by decide +kernel) (by decide +kernel), ⟨by decide +kernel, by decide +kernel⟩, by decide +kernel⟩
theorem ck1_X7_readPart : Cond.instanceMethod m_X7_readPart.1 ∈ zTB := zti 304 (by decide +kernel) (by decide +kernel)
theorem ci_X7_readPart : Cond.instanceMethod m_X7_readPart.1 ∈ zTB ∧ Cond.selects m_X7_readPart.1.cls m_X7_readPart.1 m_X7_readPart.1 ∈ zTB := ⟨ck1_X7_readPart, zpi (n := 7) 2 (by decide +kernel) (by decide +kernel)⟩
theorem ck_X7_byteAt : plainName m_X7_byteAt.1.cls = true ∧ Cond.code m_X7_byteAt.1 m_X7_byteAt.2.1 m_X7_byteAt.2.2.1 m_X7_byteAt.2.2.2.1 ∈ zTB ∧ Cond.initialized m_X7_byteAt.1.cls ∈ zTB ∧ (m_X7_byteAt.1.cls ≠ "java/lang/invoke/MethodHandle" ∧ m_X7_byteAt.1.cls ≠ "java/lang/invoke/VarHandle") ∧ (parseMethodDescriptor m_X7_byteAt.1.desc).map (fun d => d.parameters.length) = some 1 := ⟨by decide +kernel, zti 301 (by decide +kernel) (by decide +kernel), zti 3 (by decide +kernel) (by decide +kernel), ⟨by decide +kernel, by decide +kernel⟩, by decide +kernel⟩
theorem ck1_X7_byteAt : Cond.instanceMethod m_X7_byteAt.1 ∈ zTB := zti 300 (by decide +kernel) (by decide +kernel)
theorem ci_X7_byteAt : Cond.instanceMethod m_X7_byteAt.1 ∈ zTB ∧ Cond.selects m_X7_byteAt.1.cls m_X7_byteAt.1 m_X7_byteAt.1 ∈ zTB := ⟨ck1_X7_byteAt, zpi (n := 7) 1 (by decide +kernel) (by decide +kernel)⟩
theorem ck_X7_note : plainName m_X7_note.1.cls = true ∧ Cond.code m_X7_note.1 m_X7_note.2.1 m_X7_note.2.2.1 m_X7_note.2.2.2.1 ∈ zTB ∧ Cond.initialized m_X7_note.1.cls ∈ zTB ∧ (m_X7_note.1.cls ≠ "java/lang/invoke/MethodHandle" ∧ m_X7_note.1.cls ≠ "java/lang/invoke/VarHandle") ∧ (parseMethodDescriptor m_X7_note.1.desc).map (fun d => d.parameters.length) = some 2 := ⟨by decide +kernel, zti 373 (by decide +kernel) (by decide +kernel), zti 3 (by decide +kernel) (by decide +kernel), ⟨by decide +kernel, by decide +kernel⟩, by decide +kernel⟩
theorem ck1_X7_note : Cond.instanceMethod m_X7_note.1 ∈ zTB := zti 372 (by decide +kernel) (by decide +kernel)
theorem ci_X7_note : Cond.instanceMethod m_X7_note.1 ∈ zTB ∧ Cond.selects m_X7_note.1.cls m_X7_note.1 m_X7_note.1 ∈ zTB := ⟨ck1_X7_note, zpi (n := 7) 6 (by decide +kernel) (by decide +kernel)⟩
theorem ck_X7_skipWord : plainName m_X7_skipWord.1.cls = true ∧ Cond.code m_X7_skipWord.1 m_X7_skipWord.2.1 m_X7_skipWord.2.2.1 m_X7_skipWord.2.2.2.1 ∈ zTB ∧ Cond.initialized m_X7_skipWord.1.cls ∈ zTB ∧ (m_X7_skipWord.1.cls ≠ "java/lang/invoke/MethodHandle" ∧ m_X7_skipWord.1.cls ≠ "java/lang/invoke/VarHandle") ∧ (parseMethodDescriptor m_X7_skipWord.1.desc).map (fun d => d.parameters.length) = some 0 := ⟨by decide +kernel, zti 309 (by decide +kernel) (by decide +kernel), zti 3 (by decide +kernel) (by decide +kernel), ⟨by decide +kernel, by decide +kernel⟩, by decide +kernel⟩
theorem ck1_X7_skipWord : Cond.instanceMethod m_X7_skipWord.1 ∈ zTB := zti 308 (by decide +kernel) (by decide +kernel)
theorem ci_X7_skipWord : Cond.instanceMethod m_X7_skipWord.1 ∈ zTB ∧ Cond.selects m_X7_skipWord.1.cls m_X7_skipWord.1 m_X7_skipWord.1 ∈ zTB := ⟨ck1_X7_skipWord, zpi (n := 7) 3 (by decide +kernel) (by decide +kernel)⟩
theorem ck_X7_isWord : plainName m_X7_isWord.1.cls = true ∧ Cond.code m_X7_isWord.1 m_X7_isWord.2.1 m_X7_isWord.2.2.1 m_X7_isWord.2.2.2.1 ∈ zTB ∧ Cond.initialized m_X7_isWord.1.cls ∈ zTB ∧ (m_X7_isWord.1.cls ≠ "java/lang/invoke/MethodHandle" ∧ m_X7_isWord.1.cls ≠ "java/lang/invoke/VarHandle") ∧ (parseMethodDescriptor m_X7_isWord.1.desc).map (fun d => d.parameters.length) = some 2 := ⟨by decide +kernel, zti 317 (by decide +kernel) (by decide +kernel), zti 3 (by decide +kernel) (by decide +kernel), ⟨by decide +kernel, by decide +kernel⟩, by decide +kernel⟩
theorem ck1_X7_isWord : Cond.instanceMethod m_X7_isWord.1 ∈ zTB := zti 316 (by decide +kernel) (by decide +kernel)
theorem ci_X7_isWord : Cond.instanceMethod m_X7_isWord.1 ∈ zTB ∧ Cond.selects m_X7_isWord.1.cls m_X7_isWord.1 m_X7_isWord.1 ∈ zTB := ⟨ck1_X7_isWord, zpi (n := 7) 4 (by decide +kernel) (by decide +kernel)⟩
theorem ck_X7_readTrader : plainName m_X7_readTrader.1.cls = true ∧ Cond.code m_X7_readTrader.1 m_X7_readTrader.2.1 m_X7_readTrader.2.2.1 m_X7_readTrader.2.2.2.1 ∈ zTB ∧ Cond.initialized m_X7_readTrader.1.cls ∈ zTB ∧ (m_X7_readTrader.1.cls ≠ "java/lang/invoke/MethodHandle" ∧ m_X7_readTrader.1.cls ≠ "java/lang/invoke/VarHandle") ∧ (parseMethodDescriptor m_X7_readTrader.1.desc).map (fun d => d.parameters.length) = some 2 := ⟨by decide +kernel, zti 369 (by decide +kernel) (by decide +kernel), zti 3 (by decide +kernel) (by decide +kernel), ⟨by decide +kernel, by decide +kernel⟩, by decide +kernel⟩
theorem ck1_X7_readTrader : Cond.instanceMethod m_X7_readTrader.1 ∈ zTB := zti 368 (by decide +kernel) (by decide +kernel)
theorem ci_X7_readTrader : Cond.instanceMethod m_X7_readTrader.1 ∈ zTB ∧ Cond.selects m_X7_readTrader.1.cls m_X7_readTrader.1 m_X7_readTrader.1 ∈ zTB := ⟨ck1_X7_readTrader, zpi (n := 7) 5 (by decide +kernel) (by decide +kernel)⟩
theorem ck_X7_readFee : plainName m_X7_readFee.1.cls = true ∧ Cond.code m_X7_readFee.1 m_X7_readFee.2.1 m_X7_readFee.2.2.1 m_X7_readFee.2.2.2.1 ∈ zTB ∧ Cond.initialized m_X7_readFee.1.cls ∈ zTB ∧ (m_X7_readFee.1.cls ≠ "java/lang/invoke/MethodHandle" ∧ m_X7_readFee.1.cls ≠ "java/lang/invoke/VarHandle") ∧ (parseMethodDescriptor m_X7_readFee.1.desc).map (fun d => d.parameters.length) = some 1 := ⟨by decide +kernel, zti 428 (by decide +kernel) (by decide +kernel), zti 3 (by decide +kernel) (by decide +kernel), ⟨by decide +kernel, by decide +kernel⟩, by decide +kernel⟩
theorem ck1_X7_readFee : Cond.instanceMethod m_X7_readFee.1 ∈ zTB := zti 427 (by decide +kernel) (by decide +kernel)
theorem ci_X7_readFee : Cond.instanceMethod m_X7_readFee.1 ∈ zTB ∧ Cond.selects m_X7_readFee.1.cls m_X7_readFee.1 m_X7_readFee.1 ∈ zTB := ⟨ck1_X7_readFee, zpi (n := 7) 8 (by decide +kernel) (by decide +kernel)⟩
theorem ck_X7_readLaw : plainName m_X7_readLaw.1.cls = true ∧ Cond.code m_X7_readLaw.1 m_X7_readLaw.2.1 m_X7_readLaw.2.2.1 m_X7_readLaw.2.2.2.1 ∈ zTB ∧ Cond.initialized m_X7_readLaw.1.cls ∈ zTB ∧ (m_X7_readLaw.1.cls ≠ "java/lang/invoke/MethodHandle" ∧ m_X7_readLaw.1.cls ≠ "java/lang/invoke/VarHandle") ∧ (parseMethodDescriptor m_X7_readLaw.1.desc).map (fun d => d.parameters.length) = some 1 := ⟨by decide +kernel, zti 433 (by decide +kernel) (by decide +kernel), zti 3 (by decide +kernel) (by decide +kernel), ⟨by decide +kernel, by decide +kernel⟩, by decide +kernel⟩
theorem ck1_X7_readLaw : Cond.instanceMethod m_X7_readLaw.1 ∈ zTB := zti 432 (by decide +kernel) (by decide +kernel)
theorem ci_X7_readLaw : Cond.instanceMethod m_X7_readLaw.1 ∈ zTB ∧ Cond.selects m_X7_readLaw.1.cls m_X7_readLaw.1 m_X7_readLaw.1 ∈ zTB := ⟨ck1_X7_readLaw, zpi (n := 7) 9 (by decide +kernel) (by decide +kernel)⟩
theorem ck_X7_readNumber : plainName m_X7_readNumber.1.cls = true ∧ Cond.code m_X7_readNumber.1 m_X7_readNumber.2.1 m_X7_readNumber.2.2.1 m_X7_readNumber.2.2.2.1 ∈ zTB ∧ Cond.initialized m_X7_readNumber.1.cls ∈ zTB ∧ (m_X7_readNumber.1.cls ≠ "java/lang/invoke/MethodHandle" ∧ m_X7_readNumber.1.cls ≠ "java/lang/invoke/VarHandle") ∧ (parseMethodDescriptor m_X7_readNumber.1.desc).map (fun d => d.parameters.length) = some 1 := ⟨by decide +kernel, zti 377 (by decide +kernel) (by decide +kernel), zti 3 (by decide +kernel) (by decide +kernel), ⟨by decide +kernel, by decide +kernel⟩, by decide +kernel⟩
theorem ck1_X7_readNumber : Cond.instanceMethod m_X7_readNumber.1 ∈ zTB := zti 376 (by decide +kernel) (by decide +kernel)
theorem ci_X7_readNumber : Cond.instanceMethod m_X7_readNumber.1 ∈ zTB ∧ Cond.selects m_X7_readNumber.1.cls m_X7_readNumber.1 m_X7_readNumber.1 ∈ zTB := ⟨ck1_X7_readNumber, zpi (n := 7) 7 (by decide +kernel) (by decide +kernel)⟩
theorem ck_X1_enter : plainName m_X1_enter.1.cls = true ∧ Cond.code m_X1_enter.1 m_X1_enter.2.1 m_X1_enter.2.2.1 m_X1_enter.2.2.2.1 ∈ zTB ∧ Cond.initialized m_X1_enter.1.cls ∈ zTB ∧ (m_X1_enter.1.cls ≠ "java/lang/invoke/MethodHandle" ∧ m_X1_enter.1.cls ≠ "java/lang/invoke/VarHandle") ∧ (parseMethodDescriptor m_X1_enter.1.desc).map (fun d => d.parameters.length) = some 2 := ⟨by decide +kernel, zti 387 (by decide +kernel) (by decide +kernel), zti 2 (by decide +kernel) (by decide +kernel), ⟨by decide +kernel, by decide +kernel⟩, by decide +kernel⟩
theorem ck1_X1_enter : Cond.instanceMethod m_X1_enter.1 ∈ zTB := zti 385 (by decide +kernel) (by decide +kernel)
theorem ci_X1_enter : Cond.instanceMethod m_X1_enter.1 ∈ zTB ∧ Cond.selects m_X1_enter.1.cls m_X1_enter.1 m_X1_enter.1 ∈ zTB := ⟨ck1_X1_enter, zti 386 (by decide +kernel) (by decide +kernel)⟩
theorem ck_X7_isDigit : plainName m_X7_isDigit.1.cls = true ∧ Cond.code m_X7_isDigit.1 m_X7_isDigit.2.1 m_X7_isDigit.2.2.1 m_X7_isDigit.2.2.2.1 ∈ zTB ∧ Cond.initialized m_X7_isDigit.1.cls ∈ zTB ∧ (m_X7_isDigit.1.cls ≠ "java/lang/invoke/MethodHandle" ∧ m_X7_isDigit.1.cls ≠ "java/lang/invoke/VarHandle") ∧ (parseMethodDescriptor m_X7_isDigit.1.desc).map (fun d => d.parameters.length) = some 1 := ⟨by decide +kernel, zti 380 (by decide +kernel) (by decide +kernel), zti 3 (by decide +kernel) (by decide +kernel), ⟨by decide +kernel, by decide +kernel⟩, by decide +kernel⟩
theorem ct_X7_isDigit : Cond.static m_X7_isDigit.1 ∈ zTB := zti 379 (by decide +kernel) (by decide +kernel)
theorem ck_X1_fits : plainName m_X1_fits.1.cls = true ∧ Cond.code m_X1_fits.1 m_X1_fits.2.1 m_X1_fits.2.2.1 m_X1_fits.2.2.2.1 ∈ zTB ∧ Cond.initialized m_X1_fits.1.cls ∈ zTB ∧ (m_X1_fits.1.cls ≠ "java/lang/invoke/MethodHandle" ∧ m_X1_fits.1.cls ≠ "java/lang/invoke/VarHandle") ∧ (parseMethodDescriptor m_X1_fits.1.desc).map (fun d => d.parameters.length) = some 3 := ⟨by decide +kernel, zti 391 (by decide +kernel) (by decide +kernel), zti 2 (by decide +kernel) (by decide +kernel), ⟨by decide +kernel, by decide +kernel⟩, by decide +kernel⟩
theorem ck1_X1_fits : Cond.instanceMethod m_X1_fits.1 ∈ zTB := zti 389 (by decide +kernel) (by decide +kernel)
theorem ci_X1_fits : Cond.instanceMethod m_X1_fits.1 ∈ zTB ∧ Cond.selects m_X1_fits.1.cls m_X1_fits.1 m_X1_fits.1 ∈ zTB := ⟨ck1_X1_fits, zti 390 (by decide +kernel) (by decide +kernel)⟩
theorem ck_X1_append : plainName m_X1_append.1.cls = true ∧ Cond.code m_X1_append.1 m_X1_append.2.1 m_X1_append.2.2.1 m_X1_append.2.2.2.1 ∈ zTB ∧ Cond.initialized m_X1_append.1.cls ∈ zTB ∧ (m_X1_append.1.cls ≠ "java/lang/invoke/MethodHandle" ∧ m_X1_append.1.cls ≠ "java/lang/invoke/VarHandle") ∧ (parseMethodDescriptor m_X1_append.1.desc).map (fun d => d.parameters.length) = some 2 := ⟨by decide +kernel, zti 414 (by decide +kernel) (by decide +kernel), zti 2 (by decide +kernel) (by decide +kernel), ⟨by decide +kernel, by decide +kernel⟩, by decide +kernel⟩
theorem ck1_X1_append : Cond.instanceMethod m_X1_append.1 ∈ zTB := zti 412 (by decide +kernel) (by decide +kernel)
theorem ci_X1_append : Cond.instanceMethod m_X1_append.1 ∈ zTB ∧ Cond.selects m_X1_append.1.cls m_X1_append.1 m_X1_append.1 ∈ zTB := ⟨ck1_X1_append, zti 413 (by decide +kernel) (by decide +kernel)⟩
theorem ck_X7_isSmallLetter : plainName m_X7_isSmallLetter.1.cls = true ∧ Cond.code m_X7_isSmallLetter.1 m_X7_isSmallLetter.2.1 m_X7_isSmallLetter.2.2.1 m_X7_isSmallLetter.2.2.2.1 ∈ zTB ∧ Cond.initialized m_X7_isSmallLetter.1.cls ∈ zTB ∧ (m_X7_isSmallLetter.1.cls ≠ "java/lang/invoke/MethodHandle" ∧ m_X7_isSmallLetter.1.cls ≠ "java/lang/invoke/VarHandle") ∧ (parseMethodDescriptor m_X7_isSmallLetter.1.desc).map (fun d => d.parameters.length) = some 1 := ⟨by decide +kernel, zti 312 (by decide +kernel) (by decide +kernel), zti 3 (by decide +kernel) (by decide +kernel), ⟨by decide +kernel, by decide +kernel⟩, by decide +kernel⟩
theorem ct_X7_isSmallLetter : Cond.static m_X7_isSmallLetter.1 ∈ zTB := zti 311 (by decide +kernel) (by decide +kernel)
theorem ck_X7_init : plainName m_X7_init.1.cls = true ∧ Cond.code m_X7_init.1 m_X7_init.2.1 m_X7_init.2.2.1 m_X7_init.2.2.2.1 ∈ zTB ∧ Cond.initialized m_X7_init.1.cls ∈ zTB ∧ (m_X7_init.1.cls ≠ "java/lang/invoke/MethodHandle" ∧ m_X7_init.1.cls ≠ "java/lang/invoke/VarHandle") ∧ (parseMethodDescriptor m_X7_init.1.desc).map (fun d => d.parameters.length) = some 0 := ⟨by decide +kernel, zti 97 (by decide +kernel) (by decide +kernel), zti 3 (by decide +kernel) (by decide +kernel), ⟨by decide +kernel, by decide +kernel⟩, by decide +kernel⟩
theorem ck1_X7_init : Cond.instanceMethod m_X7_init.1 ∈ zTB := zti 96 (by decide +kernel) (by decide +kernel)
theorem ck_X2_init : plainName m_X2_init.1.cls = true ∧ Cond.code m_X2_init.1 m_X2_init.2.1 m_X2_init.2.2.1 m_X2_init.2.2.2.1 ∈ zTB ∧ Cond.initialized m_X2_init.1.cls ∈ zTB ∧ (m_X2_init.1.cls ≠ "java/lang/invoke/MethodHandle" ∧ m_X2_init.1.cls ≠ "java/lang/invoke/VarHandle") ∧ (parseMethodDescriptor m_X2_init.1.desc).map (fun d => d.parameters.length) = some 0 := ⟨by decide +kernel, zti 129 (by decide +kernel) (by decide +kernel), zti 4 (by decide +kernel) (by decide +kernel), ⟨by decide +kernel, by decide +kernel⟩, by decide +kernel⟩
theorem ck1_X2_init : Cond.instanceMethod m_X2_init.1 ∈ zTB := zti 128 (by decide +kernel) (by decide +kernel)
theorem ck_X6_init : plainName m_X6_init.1.cls = true ∧ Cond.code m_X6_init.1 m_X6_init.2.1 m_X6_init.2.2.1 m_X6_init.2.2.2.1 ∈ zTB ∧ Cond.initialized m_X6_init.1.cls ∈ zTB ∧ (m_X6_init.1.cls ≠ "java/lang/invoke/MethodHandle" ∧ m_X6_init.1.cls ≠ "java/lang/invoke/VarHandle") ∧ (parseMethodDescriptor m_X6_init.1.desc).map (fun d => d.parameters.length) = some 0 := ⟨by decide +kernel, zti 149 (by decide +kernel) (by decide +kernel), zti 5 (by decide +kernel) (by decide +kernel), ⟨by decide +kernel, by decide +kernel⟩, by decide +kernel⟩
theorem ck1_X6_init : Cond.instanceMethod m_X6_init.1 ∈ zTB := zti 148 (by decide +kernel) (by decide +kernel)
theorem ck_X3_init : plainName m_X3_init.1.cls = true ∧ Cond.code m_X3_init.1 m_X3_init.2.1 m_X3_init.2.2.1 m_X3_init.2.2.2.1 ∈ zTB ∧ Cond.initialized m_X3_init.1.cls ∈ zTB ∧ (m_X3_init.1.cls ≠ "java/lang/invoke/MethodHandle" ∧ m_X3_init.1.cls ≠ "java/lang/invoke/VarHandle") ∧ (parseMethodDescriptor m_X3_init.1.desc).map (fun d => d.parameters.length) = some 0 := ⟨by decide +kernel, zti 165 (by decide +kernel) (by decide +kernel), zti 6 (by decide +kernel) (by decide +kernel), ⟨by decide +kernel, by decide +kernel⟩, by decide +kernel⟩
theorem ck1_X3_init : Cond.instanceMethod m_X3_init.1 ∈ zTB := zti 164 (by decide +kernel) (by decide +kernel)
theorem ck_X0_init : plainName m_X0_init.1.cls = true ∧ Cond.code m_X0_init.1 m_X0_init.2.1 m_X0_init.2.2.1 m_X0_init.2.2.2.1 ∈ zTB ∧ Cond.initialized m_X0_init.1.cls ∈ zTB ∧ (m_X0_init.1.cls ≠ "java/lang/invoke/MethodHandle" ∧ m_X0_init.1.cls ≠ "java/lang/invoke/VarHandle") ∧ (parseMethodDescriptor m_X0_init.1.desc).map (fun d => d.parameters.length) = some 0 := ⟨by decide +kernel, zti 179 (by decide +kernel) (by decide +kernel), zti 7 (by decide +kernel) (by decide +kernel), ⟨by decide +kernel, by decide +kernel⟩, by decide +kernel⟩
theorem ck1_X0_init : Cond.instanceMethod m_X0_init.1 ∈ zTB := zti 178 (by decide +kernel) (by decide +kernel)
theorem ck_X4_init : plainName m_X4_init.1.cls = true ∧ Cond.code m_X4_init.1 m_X4_init.2.1 m_X4_init.2.2.1 m_X4_init.2.2.2.1 ∈ zTB ∧ Cond.initialized m_X4_init.1.cls ∈ zTB ∧ (m_X4_init.1.cls ≠ "java/lang/invoke/MethodHandle" ∧ m_X4_init.1.cls ≠ "java/lang/invoke/VarHandle") ∧ (parseMethodDescriptor m_X4_init.1.desc).map (fun d => d.parameters.length) = some 0 := ⟨by decide +kernel, zti 222 (by decide +kernel) (by decide +kernel), zti 8 (by decide +kernel) (by decide +kernel), ⟨by decide +kernel, by decide +kernel⟩, by decide +kernel⟩
theorem ck1_X4_init : Cond.instanceMethod m_X4_init.1 ∈ zTB := zti 221 (by decide +kernel) (by decide +kernel)
theorem ck_X5_init : plainName m_X5_init.1.cls = true ∧ Cond.code m_X5_init.1 m_X5_init.2.1 m_X5_init.2.2.1 m_X5_init.2.2.2.1 ∈ zTB ∧ Cond.initialized m_X5_init.1.cls ∈ zTB ∧ (m_X5_init.1.cls ≠ "java/lang/invoke/MethodHandle" ∧ m_X5_init.1.cls ≠ "java/lang/invoke/VarHandle") ∧ (parseMethodDescriptor m_X5_init.1.desc).map (fun d => d.parameters.length) = some 0 := ⟨by decide +kernel, zti 237 (by decide +kernel) (by decide +kernel), zti 9 (by decide +kernel) (by decide +kernel), ⟨by decide +kernel, by decide +kernel⟩, by decide +kernel⟩
theorem ck1_X5_init : Cond.instanceMethod m_X5_init.1 ∈ zTB := zti 236 (by decide +kernel) (by decide +kernel)
theorem ck_X7_append : plainName m_X7_append.1.cls = true ∧ Cond.code m_X7_append.1 m_X7_append.2.1 m_X7_append.2.2.1 m_X7_append.2.2.2.1 ∈ zTB ∧ Cond.initialized m_X7_append.1.cls ∈ zTB ∧ (m_X7_append.1.cls ≠ "java/lang/invoke/MethodHandle" ∧ m_X7_append.1.cls ≠ "java/lang/invoke/VarHandle") ∧ (parseMethodDescriptor m_X7_append.1.desc).map (fun d => d.parameters.length) = some 1 := ⟨by decide +kernel, zti 1034 (by decide +kernel) (by decide +kernel), zti 3 (by decide +kernel) (by decide +kernel), ⟨by decide +kernel, by decide +kernel⟩, by decide +kernel⟩
theorem ck1_X7_append : Cond.instanceMethod m_X7_append.1 ∈ zTB := zti 1032 (by decide +kernel) (by decide +kernel)
theorem ci_X7_append : Cond.instanceMethod m_X7_append.1 ∈ zTB ∧ Cond.selects m_X7_append.1.cls m_X7_append.1 m_X7_append.1 ∈ zTB := ⟨ck1_X7_append, zti 1033 (by decide +kernel) (by decide +kernel)⟩
theorem ck_X7_read : plainName m_X7_read.1.cls = true ∧ Cond.code m_X7_read.1 m_X7_read.2.1 m_X7_read.2.2.1 m_X7_read.2.2.2.1 ∈ zTB ∧ Cond.initialized m_X7_read.1.cls ∈ zTB ∧ (m_X7_read.1.cls ≠ "java/lang/invoke/MethodHandle" ∧ m_X7_read.1.cls ≠ "java/lang/invoke/VarHandle") ∧ (parseMethodDescriptor m_X7_read.1.desc).map (fun d => d.parameters.length) = some 0 := ⟨by decide +kernel, zti 289 (by decide +kernel) (by decide +kernel), zti 3 (by decide +kernel) (by decide +kernel), ⟨by decide +kernel, by decide +kernel⟩, by decide +kernel⟩
theorem ck1_X7_read : Cond.instanceMethod m_X7_read.1 ∈ zTB := zti 287 (by decide +kernel) (by decide +kernel)
theorem ci_X7_read : Cond.instanceMethod m_X7_read.1 ∈ zTB ∧ Cond.selects m_X7_read.1.cls m_X7_read.1 m_X7_read.1 ∈ zTB := ⟨ck1_X7_read, zti 288 (by decide +kernel) (by decide +kernel)⟩
theorem ck_X2_forget : plainName m_X2_forget.1.cls = true ∧ Cond.code m_X2_forget.1 m_X2_forget.2.1 m_X2_forget.2.2.1 m_X2_forget.2.2.2.1 ∈ zTB ∧ Cond.initialized m_X2_forget.1.cls ∈ zTB ∧ (m_X2_forget.1.cls ≠ "java/lang/invoke/MethodHandle" ∧ m_X2_forget.1.cls ≠ "java/lang/invoke/VarHandle") ∧ (parseMethodDescriptor m_X2_forget.1.desc).map (fun d => d.parameters.length) = some 0 := ⟨by decide +kernel, zti 451 (by decide +kernel) (by decide +kernel), zti 4 (by decide +kernel) (by decide +kernel), ⟨by decide +kernel, by decide +kernel⟩, by decide +kernel⟩
theorem ck1_X2_forget : Cond.instanceMethod m_X2_forget.1 ∈ zTB := zti 449 (by decide +kernel) (by decide +kernel)
theorem ci_X2_forget : Cond.instanceMethod m_X2_forget.1 ∈ zTB ∧ Cond.selects m_X2_forget.1.cls m_X2_forget.1 m_X2_forget.1 ∈ zTB := ⟨ck1_X2_forget, zti 450 (by decide +kernel) (by decide +kernel)⟩
theorem ck_X8_isGrade : plainName m_X8_isGrade.1.cls = true ∧ Cond.code m_X8_isGrade.1 m_X8_isGrade.2.1 m_X8_isGrade.2.2.1 m_X8_isGrade.2.2.2.1 ∈ zTB ∧ Cond.initialized m_X8_isGrade.1.cls ∈ zTB ∧ (m_X8_isGrade.1.cls ≠ "java/lang/invoke/MethodHandle" ∧ m_X8_isGrade.1.cls ≠ "java/lang/invoke/VarHandle") ∧ (parseMethodDescriptor m_X8_isGrade.1.desc).map (fun d => d.parameters.length) = some 1 := ⟨by decide +kernel, zti 459 (by decide +kernel) (by decide +kernel), zti 1 (by decide +kernel) (by decide +kernel), ⟨by decide +kernel, by decide +kernel⟩, by decide +kernel⟩
theorem ct_X8_isGrade : Cond.static m_X8_isGrade.1 ∈ zTB := zti 458 (by decide +kernel) (by decide +kernel)
theorem ck_X2_remember : plainName m_X2_remember.1.cls = true ∧ Cond.code m_X2_remember.1 m_X2_remember.2.1 m_X2_remember.2.2.1 m_X2_remember.2.2.2.1 ∈ zTB ∧ Cond.initialized m_X2_remember.1.cls ∈ zTB ∧ (m_X2_remember.1.cls ≠ "java/lang/invoke/MethodHandle" ∧ m_X2_remember.1.cls ≠ "java/lang/invoke/VarHandle") ∧ (parseMethodDescriptor m_X2_remember.1.desc).map (fun d => d.parameters.length) = some 1 := ⟨by decide +kernel, zti 463 (by decide +kernel) (by decide +kernel), zti 4 (by decide +kernel) (by decide +kernel), ⟨by decide +kernel, by decide +kernel⟩, by decide +kernel⟩
theorem ck1_X2_remember : Cond.instanceMethod m_X2_remember.1 ∈ zTB := zti 461 (by decide +kernel) (by decide +kernel)
theorem ci_X2_remember : Cond.instanceMethod m_X2_remember.1 ∈ zTB ∧ Cond.selects m_X2_remember.1.cls m_X2_remember.1 m_X2_remember.1 ∈ zTB := ⟨ck1_X2_remember, zti 462 (by decide +kernel) (by decide +kernel)⟩
theorem ck_X8_isValue : plainName m_X8_isValue.1.cls = true ∧ Cond.code m_X8_isValue.1 m_X8_isValue.2.1 m_X8_isValue.2.2.1 m_X8_isValue.2.2.2.1 ∈ zTB ∧ Cond.initialized m_X8_isValue.1.cls ∈ zTB ∧ (m_X8_isValue.1.cls ≠ "java/lang/invoke/MethodHandle" ∧ m_X8_isValue.1.cls ≠ "java/lang/invoke/VarHandle") ∧ (parseMethodDescriptor m_X8_isValue.1.desc).map (fun d => d.parameters.length) = some 1 := ⟨by decide +kernel, zti 478 (by decide +kernel) (by decide +kernel), zti 1 (by decide +kernel) (by decide +kernel), ⟨by decide +kernel, by decide +kernel⟩, by decide +kernel⟩
theorem ct_X8_isValue : Cond.static m_X8_isValue.1 ∈ zTB := zti 477 (by decide +kernel) (by decide +kernel)
theorem ck_X8_isFee : plainName m_X8_isFee.1.cls = true ∧ Cond.code m_X8_isFee.1 m_X8_isFee.2.1 m_X8_isFee.2.2.1 m_X8_isFee.2.2.2.1 ∈ zTB ∧ Cond.initialized m_X8_isFee.1.cls ∈ zTB ∧ (m_X8_isFee.1.cls ≠ "java/lang/invoke/MethodHandle" ∧ m_X8_isFee.1.cls ≠ "java/lang/invoke/VarHandle") ∧ (parseMethodDescriptor m_X8_isFee.1.desc).map (fun d => d.parameters.length) = some 1 := ⟨by decide +kernel, zti 503 (by decide +kernel) (by decide +kernel), zti 1 (by decide +kernel) (by decide +kernel), ⟨by decide +kernel, by decide +kernel⟩, by decide +kernel⟩
theorem ct_X8_isFee : Cond.static m_X8_isFee.1 ∈ zTB := zti 502 (by decide +kernel) (by decide +kernel)
theorem ck_X8_isLaw : plainName m_X8_isLaw.1.cls = true ∧ Cond.code m_X8_isLaw.1 m_X8_isLaw.2.1 m_X8_isLaw.2.2.1 m_X8_isLaw.2.2.2.1 ∈ zTB ∧ Cond.initialized m_X8_isLaw.1.cls ∈ zTB ∧ (m_X8_isLaw.1.cls ≠ "java/lang/invoke/MethodHandle" ∧ m_X8_isLaw.1.cls ≠ "java/lang/invoke/VarHandle") ∧ (parseMethodDescriptor m_X8_isLaw.1.desc).map (fun d => d.parameters.length) = some 1 := ⟨by decide +kernel, zti 510 (by decide +kernel) (by decide +kernel), zti 1 (by decide +kernel) (by decide +kernel), ⟨by decide +kernel, by decide +kernel⟩, by decide +kernel⟩
theorem ct_X8_isLaw : Cond.static m_X8_isLaw.1 ∈ zTB := zti 509 (by decide +kernel) (by decide +kernel)
theorem ck_X8_settleGrade : plainName m_X8_settleGrade.1.cls = true ∧ Cond.code m_X8_settleGrade.1 m_X8_settleGrade.2.1 m_X8_settleGrade.2.2.1 m_X8_settleGrade.2.2.2.1 ∈ zTB ∧ Cond.initialized m_X8_settleGrade.1.cls ∈ zTB ∧ (m_X8_settleGrade.1.cls ≠ "java/lang/invoke/MethodHandle" ∧ m_X8_settleGrade.1.cls ≠ "java/lang/invoke/VarHandle") ∧ (parseMethodDescriptor m_X8_settleGrade.1.desc).map (fun d => d.parameters.length) = some 1 := ⟨by decide +kernel, zti 518 (by decide +kernel) (by decide +kernel), zti 1 (by decide +kernel) (by decide +kernel), ⟨by decide +kernel, by decide +kernel⟩, by decide +kernel⟩
theorem ck1_X8_settleGrade : Cond.instanceMethod m_X8_settleGrade.1 ∈ zTB := zti 517 (by decide +kernel) (by decide +kernel)
theorem ci_X8_settleGrade : Cond.instanceMethod m_X8_settleGrade.1 ∈ zTB ∧ Cond.selects m_X8_settleGrade.1.cls m_X8_settleGrade.1 m_X8_settleGrade.1 ∈ zTB := ⟨ck1_X8_settleGrade, zpi (n := 11) 11 (by decide +kernel) (by decide +kernel)⟩
theorem ck_X0_moneyOf : plainName m_X0_moneyOf.1.cls = true ∧ Cond.code m_X0_moneyOf.1 m_X0_moneyOf.2.1 m_X0_moneyOf.2.2.1 m_X0_moneyOf.2.2.2.1 ∈ zTB ∧ Cond.initialized m_X0_moneyOf.1.cls ∈ zTB ∧ (m_X0_moneyOf.1.cls ≠ "java/lang/invoke/MethodHandle" ∧ m_X0_moneyOf.1.cls ≠ "java/lang/invoke/VarHandle") ∧ (parseMethodDescriptor m_X0_moneyOf.1.desc).map (fun d => d.parameters.length) = some 2 := ⟨by decide +kernel, zti 585 (by decide +kernel) (by decide +kernel), zti 7 (by decide +kernel) (by decide +kernel), ⟨by decide +kernel, by decide +kernel⟩, by decide +kernel⟩
theorem ck1_X0_moneyOf : Cond.instanceMethod m_X0_moneyOf.1 ∈ zTB := zti 583 (by decide +kernel) (by decide +kernel)
theorem ci_X0_moneyOf : Cond.instanceMethod m_X0_moneyOf.1 ∈ zTB ∧ Cond.selects m_X0_moneyOf.1.cls m_X0_moneyOf.1 m_X0_moneyOf.1 ∈ zTB := ⟨ck1_X0_moneyOf, zti 584 (by decide +kernel) (by decide +kernel)⟩
theorem ck_X1_trade : plainName m_X1_trade.1.cls = true ∧ Cond.code m_X1_trade.1 m_X1_trade.2.1 m_X1_trade.2.2.1 m_X1_trade.2.2.2.1 ∈ zTB ∧ Cond.initialized m_X1_trade.1.cls ∈ zTB ∧ (m_X1_trade.1.cls ≠ "java/lang/invoke/MethodHandle" ∧ m_X1_trade.1.cls ≠ "java/lang/invoke/VarHandle") ∧ (parseMethodDescriptor m_X1_trade.1.desc).map (fun d => d.parameters.length) = some 3 := ⟨by decide +kernel, zti 602 (by decide +kernel) (by decide +kernel), zti 2 (by decide +kernel) (by decide +kernel), ⟨by decide +kernel, by decide +kernel⟩, by decide +kernel⟩
theorem ck1_X1_trade : Cond.instanceMethod m_X1_trade.1 ∈ zTB := zti 600 (by decide +kernel) (by decide +kernel)
theorem ci_X1_trade : Cond.instanceMethod m_X1_trade.1 ∈ zTB ∧ Cond.selects m_X1_trade.1.cls m_X1_trade.1 m_X1_trade.1 ∈ zTB := ⟨ck1_X1_trade, zti 601 (by decide +kernel) (by decide +kernel)⟩
theorem ck_X0_takings : plainName m_X0_takings.1.cls = true ∧ Cond.code m_X0_takings.1 m_X0_takings.2.1 m_X0_takings.2.2.1 m_X0_takings.2.2.2.1 ∈ zTB ∧ Cond.initialized m_X0_takings.1.cls ∈ zTB ∧ (m_X0_takings.1.cls ≠ "java/lang/invoke/MethodHandle" ∧ m_X0_takings.1.cls ≠ "java/lang/invoke/VarHandle") ∧ (parseMethodDescriptor m_X0_takings.1.desc).map (fun d => d.parameters.length) = some 0 := ⟨by decide +kernel, zti 607 (by decide +kernel) (by decide +kernel), zti 7 (by decide +kernel) (by decide +kernel), ⟨by decide +kernel, by decide +kernel⟩, by decide +kernel⟩
theorem ck1_X0_takings : Cond.instanceMethod m_X0_takings.1 ∈ zTB := zti 605 (by decide +kernel) (by decide +kernel)
theorem ci_X0_takings : Cond.instanceMethod m_X0_takings.1 ∈ zTB ∧ Cond.selects m_X0_takings.1.cls m_X0_takings.1 m_X0_takings.1 ∈ zTB := ⟨ck1_X0_takings, zti 606 (by decide +kernel) (by decide +kernel)⟩
theorem ck_X1_noteClose : plainName m_X1_noteClose.1.cls = true ∧ Cond.code m_X1_noteClose.1 m_X1_noteClose.2.1 m_X1_noteClose.2.2.1 m_X1_noteClose.2.2.2.1 ∈ zTB ∧ Cond.initialized m_X1_noteClose.1.cls ∈ zTB ∧ (m_X1_noteClose.1.cls ≠ "java/lang/invoke/MethodHandle" ∧ m_X1_noteClose.1.cls ≠ "java/lang/invoke/VarHandle") ∧ (parseMethodDescriptor m_X1_noteClose.1.desc).map (fun d => d.parameters.length) = some 2 := ⟨by decide +kernel, zti 611 (by decide +kernel) (by decide +kernel), zti 2 (by decide +kernel) (by decide +kernel), ⟨by decide +kernel, by decide +kernel⟩, by decide +kernel⟩
theorem ck1_X1_noteClose : Cond.instanceMethod m_X1_noteClose.1 ∈ zTB := zti 609 (by decide +kernel) (by decide +kernel)
theorem ci_X1_noteClose : Cond.instanceMethod m_X1_noteClose.1 ∈ zTB ∧ Cond.selects m_X1_noteClose.1.cls m_X1_noteClose.1 m_X1_noteClose.1 ∈ zTB := ⟨ck1_X1_noteClose, zti 610 (by decide +kernel) (by decide +kernel)⟩
theorem ck_X2_takeBack : plainName m_X2_takeBack.1.cls = true ∧ Cond.code m_X2_takeBack.1 m_X2_takeBack.2.1 m_X2_takeBack.2.2.1 m_X2_takeBack.2.2.2.1 ∈ zTB ∧ Cond.initialized m_X2_takeBack.1.cls ∈ zTB ∧ (m_X2_takeBack.1.cls ≠ "java/lang/invoke/MethodHandle" ∧ m_X2_takeBack.1.cls ≠ "java/lang/invoke/VarHandle") ∧ (parseMethodDescriptor m_X2_takeBack.1.desc).map (fun d => d.parameters.length) = some 1 := ⟨by decide +kernel, zti 620 (by decide +kernel) (by decide +kernel), zti 4 (by decide +kernel) (by decide +kernel), ⟨by decide +kernel, by decide +kernel⟩, by decide +kernel⟩
theorem ck1_X2_takeBack : Cond.instanceMethod m_X2_takeBack.1 ∈ zTB := zti 618 (by decide +kernel) (by decide +kernel)
theorem ci_X2_takeBack : Cond.instanceMethod m_X2_takeBack.1 ∈ zTB ∧ Cond.selects m_X2_takeBack.1.cls m_X2_takeBack.1 m_X2_takeBack.1 ∈ zTB := ⟨ck1_X2_takeBack, zti 619 (by decide +kernel) (by decide +kernel)⟩
theorem ck_X6_put : plainName m_X6_put.1.cls = true ∧ Cond.code m_X6_put.1 m_X6_put.2.1 m_X6_put.2.2.1 m_X6_put.2.2.2.1 ∈ zTB ∧ Cond.initialized m_X6_put.1.cls ∈ zTB ∧ (m_X6_put.1.cls ≠ "java/lang/invoke/MethodHandle" ∧ m_X6_put.1.cls ≠ "java/lang/invoke/VarHandle") ∧ (parseMethodDescriptor m_X6_put.1.desc).map (fun d => d.parameters.length) = some 2 := ⟨by decide +kernel, zti 631 (by decide +kernel) (by decide +kernel), zti 5 (by decide +kernel) (by decide +kernel), ⟨by decide +kernel, by decide +kernel⟩, by decide +kernel⟩
theorem ck1_X6_put : Cond.instanceMethod m_X6_put.1 ∈ zTB := zti 629 (by decide +kernel) (by decide +kernel)
theorem ci_X6_put : Cond.instanceMethod m_X6_put.1 ∈ zTB ∧ Cond.selects m_X6_put.1.cls m_X6_put.1 m_X6_put.1 ∈ zTB := ⟨ck1_X6_put, zti 630 (by decide +kernel) (by decide +kernel)⟩
theorem ck_X6_holds : plainName m_X6_holds.1.cls = true ∧ Cond.code m_X6_holds.1 m_X6_holds.2.1 m_X6_holds.2.2.1 m_X6_holds.2.2.2.1 ∈ zTB ∧ Cond.initialized m_X6_holds.1.cls ∈ zTB ∧ (m_X6_holds.1.cls ≠ "java/lang/invoke/MethodHandle" ∧ m_X6_holds.1.cls ≠ "java/lang/invoke/VarHandle") ∧ (parseMethodDescriptor m_X6_holds.1.desc).map (fun d => d.parameters.length) = some 1 := ⟨by decide +kernel, zti 646 (by decide +kernel) (by decide +kernel), zti 5 (by decide +kernel) (by decide +kernel), ⟨by decide +kernel, by decide +kernel⟩, by decide +kernel⟩
theorem ck1_X6_holds : Cond.instanceMethod m_X6_holds.1 ∈ zTB := zti 644 (by decide +kernel) (by decide +kernel)
theorem ci_X6_holds : Cond.instanceMethod m_X6_holds.1 ∈ zTB ∧ Cond.selects m_X6_holds.1.cls m_X6_holds.1 m_X6_holds.1 ∈ zTB := ⟨ck1_X6_holds, zti 645 (by decide +kernel) (by decide +kernel)⟩
theorem ck_X6_fetch : plainName m_X6_fetch.1.cls = true ∧ Cond.code m_X6_fetch.1 m_X6_fetch.2.1 m_X6_fetch.2.2.1 m_X6_fetch.2.2.2.1 ∈ zTB ∧ Cond.initialized m_X6_fetch.1.cls ∈ zTB ∧ (m_X6_fetch.1.cls ≠ "java/lang/invoke/MethodHandle" ∧ m_X6_fetch.1.cls ≠ "java/lang/invoke/VarHandle") ∧ (parseMethodDescriptor m_X6_fetch.1.desc).map (fun d => d.parameters.length) = some 2 := ⟨by decide +kernel, zti 650 (by decide +kernel) (by decide +kernel), zti 5 (by decide +kernel) (by decide +kernel), ⟨by decide +kernel, by decide +kernel⟩, by decide +kernel⟩
theorem ck1_X6_fetch : Cond.instanceMethod m_X6_fetch.1 ∈ zTB := zti 648 (by decide +kernel) (by decide +kernel)
theorem ci_X6_fetch : Cond.instanceMethod m_X6_fetch.1 ∈ zTB ∧ Cond.selects m_X6_fetch.1.cls m_X6_fetch.1 m_X6_fetch.1 ∈ zTB := ⟨ck1_X6_fetch, zti 649 (by decide +kernel) (by decide +kernel)⟩
theorem ck_X1_tradedOf : plainName m_X1_tradedOf.1.cls = true ∧ Cond.code m_X1_tradedOf.1 m_X1_tradedOf.2.1 m_X1_tradedOf.2.2.1 m_X1_tradedOf.2.2.2.1 ∈ zTB ∧ Cond.initialized m_X1_tradedOf.1.cls ∈ zTB ∧ (m_X1_tradedOf.1.cls ≠ "java/lang/invoke/MethodHandle" ∧ m_X1_tradedOf.1.cls ≠ "java/lang/invoke/VarHandle") ∧ (parseMethodDescriptor m_X1_tradedOf.1.desc).map (fun d => d.parameters.length) = some 1 := ⟨by decide +kernel, zti 1055 (by decide +kernel) (by decide +kernel), zti 2 (by decide +kernel) (by decide +kernel), ⟨by decide +kernel, by decide +kernel⟩, by decide +kernel⟩
theorem ck1_X1_tradedOf : Cond.instanceMethod m_X1_tradedOf.1 ∈ zTB := zti 1053 (by decide +kernel) (by decide +kernel)
theorem ci_X1_tradedOf : Cond.instanceMethod m_X1_tradedOf.1 ∈ zTB ∧ Cond.selects m_X1_tradedOf.1.cls m_X1_tradedOf.1 m_X1_tradedOf.1 ∈ zTB := ⟨ck1_X1_tradedOf, zti 1054 (by decide +kernel) (by decide +kernel)⟩
theorem ck_X1_allPurses : plainName m_X1_allPurses.1.cls = true ∧ Cond.code m_X1_allPurses.1 m_X1_allPurses.2.1 m_X1_allPurses.2.2.1 m_X1_allPurses.2.2.2.1 ∈ zTB ∧ Cond.initialized m_X1_allPurses.1.cls ∈ zTB ∧ (m_X1_allPurses.1.cls ≠ "java/lang/invoke/MethodHandle" ∧ m_X1_allPurses.1.cls ≠ "java/lang/invoke/VarHandle") ∧ (parseMethodDescriptor m_X1_allPurses.1.desc).map (fun d => d.parameters.length) = some 0 := ⟨by decide +kernel, zti 1105 (by decide +kernel) (by decide +kernel), zti 2 (by decide +kernel) (by decide +kernel), ⟨by decide +kernel, by decide +kernel⟩, by decide +kernel⟩
theorem ck1_X1_allPurses : Cond.instanceMethod m_X1_allPurses.1 ∈ zTB := zti 1103 (by decide +kernel) (by decide +kernel)
theorem ci_X1_allPurses : Cond.instanceMethod m_X1_allPurses.1 ∈ zTB ∧ Cond.selects m_X1_allPurses.1.cls m_X1_allPurses.1 m_X1_allPurses.1 ∈ zTB := ⟨ck1_X1_allPurses, zti 1104 (by decide +kernel) (by decide +kernel)⟩
theorem ck_X1_richest : plainName m_X1_richest.1.cls = true ∧ Cond.code m_X1_richest.1 m_X1_richest.2.1 m_X1_richest.2.2.1 m_X1_richest.2.2.2.1 ∈ zTB ∧ Cond.initialized m_X1_richest.1.cls ∈ zTB ∧ (m_X1_richest.1.cls ≠ "java/lang/invoke/MethodHandle" ∧ m_X1_richest.1.cls ≠ "java/lang/invoke/VarHandle") ∧ (parseMethodDescriptor m_X1_richest.1.desc).map (fun d => d.parameters.length) = some 0 := ⟨by decide +kernel, zti 1110 (by decide +kernel) (by decide +kernel), zti 2 (by decide +kernel) (by decide +kernel), ⟨by decide +kernel, by decide +kernel⟩, by decide +kernel⟩
theorem ck1_X1_richest : Cond.instanceMethod m_X1_richest.1 ∈ zTB := zti 1108 (by decide +kernel) (by decide +kernel)
theorem ci_X1_richest : Cond.instanceMethod m_X1_richest.1 ∈ zTB ∧ Cond.selects m_X1_richest.1.cls m_X1_richest.1 m_X1_richest.1 ∈ zTB := ⟨ck1_X1_richest, zti 1109 (by decide +kernel) (by decide +kernel)⟩
theorem ck_X3_write : plainName m_X3_write.1.cls = true ∧ Cond.code m_X3_write.1 m_X3_write.2.1 m_X3_write.2.2.1 m_X3_write.2.2.2.1 ∈ zTB ∧ Cond.initialized m_X3_write.1.cls ∈ zTB ∧ (m_X3_write.1.cls ≠ "java/lang/invoke/MethodHandle" ∧ m_X3_write.1.cls ≠ "java/lang/invoke/VarHandle") ∧ (parseMethodDescriptor m_X3_write.1.desc).map (fun d => d.parameters.length) = some 1 := ⟨by decide +kernel, zti 1064 (by decide +kernel) (by decide +kernel), zti 6 (by decide +kernel) (by decide +kernel), ⟨by decide +kernel, by decide +kernel⟩, by decide +kernel⟩
theorem ck1_X3_write : Cond.instanceMethod m_X3_write.1 ∈ zTB := zti 1062 (by decide +kernel) (by decide +kernel)
theorem ci_X3_write : Cond.instanceMethod m_X3_write.1 ∈ zTB ∧ Cond.selects m_X3_write.1.cls m_X3_write.1 m_X3_write.1 ∈ zTB := ⟨ck1_X3_write, zti 1063 (by decide +kernel) (by decide +kernel)⟩
theorem ck_X3_at : plainName m_X3_at.1.cls = true ∧ Cond.code m_X3_at.1 m_X3_at.2.1 m_X3_at.2.2.1 m_X3_at.2.2.2.1 ∈ zTB ∧ Cond.initialized m_X3_at.1.cls ∈ zTB ∧ (m_X3_at.1.cls ≠ "java/lang/invoke/MethodHandle" ∧ m_X3_at.1.cls ≠ "java/lang/invoke/VarHandle") ∧ (parseMethodDescriptor m_X3_at.1.desc).map (fun d => d.parameters.length) = some 1 := ⟨by decide +kernel, zti 1095 (by decide +kernel) (by decide +kernel), zti 6 (by decide +kernel) (by decide +kernel), ⟨by decide +kernel, by decide +kernel⟩, by decide +kernel⟩
theorem ck1_X3_at : Cond.instanceMethod m_X3_at.1 ∈ zTB := zti 1093 (by decide +kernel) (by decide +kernel)
theorem ci_X3_at : Cond.instanceMethod m_X3_at.1 ∈ zTB ∧ Cond.selects m_X3_at.1.cls m_X3_at.1 m_X3_at.1 ∈ zTB := ⟨ck1_X3_at, zti 1094 (by decide +kernel) (by decide +kernel)⟩
theorem ck_X1_allUnits : plainName m_X1_allUnits.1.cls = true ∧ Cond.code m_X1_allUnits.1 m_X1_allUnits.2.1 m_X1_allUnits.2.2.1 m_X1_allUnits.2.2.2.1 ∈ zTB ∧ Cond.initialized m_X1_allUnits.1.cls ∈ zTB ∧ (m_X1_allUnits.1.cls ≠ "java/lang/invoke/MethodHandle" ∧ m_X1_allUnits.1.cls ≠ "java/lang/invoke/VarHandle") ∧ (parseMethodDescriptor m_X1_allUnits.1.desc).map (fun d => d.parameters.length) = some 0 := ⟨by decide +kernel, zti 658 (by decide +kernel) (by decide +kernel), zti 2 (by decide +kernel) (by decide +kernel), ⟨by decide +kernel, by decide +kernel⟩, by decide +kernel⟩
theorem ck1_X1_allUnits : Cond.instanceMethod m_X1_allUnits.1 ∈ zTB := zti 656 (by decide +kernel) (by decide +kernel)
theorem ci_X1_allUnits : Cond.instanceMethod m_X1_allUnits.1 ∈ zTB ∧ Cond.selects m_X1_allUnits.1.cls m_X1_allUnits.1 m_X1_allUnits.1 ∈ zTB := ⟨ck1_X1_allUnits, zti 657 (by decide +kernel) (by decide +kernel)⟩
theorem ck_X8_gradesWithTrades : plainName m_X8_gradesWithTrades.1.cls = true ∧ Cond.code m_X8_gradesWithTrades.1 m_X8_gradesWithTrades.2.1 m_X8_gradesWithTrades.2.2.1 m_X8_gradesWithTrades.2.2.2.1 ∈ zTB ∧ Cond.initialized m_X8_gradesWithTrades.1.cls ∈ zTB ∧ (m_X8_gradesWithTrades.1.cls ≠ "java/lang/invoke/MethodHandle" ∧ m_X8_gradesWithTrades.1.cls ≠ "java/lang/invoke/VarHandle") ∧ (parseMethodDescriptor m_X8_gradesWithTrades.1.desc).map (fun d => d.parameters.length) = some 0 := ⟨by decide +kernel, zti 662 (by decide +kernel) (by decide +kernel), zti 1 (by decide +kernel) (by decide +kernel), ⟨by decide +kernel, by decide +kernel⟩, by decide +kernel⟩
theorem ck1_X8_gradesWithTrades : Cond.instanceMethod m_X8_gradesWithTrades.1 ∈ zTB := zti 661 (by decide +kernel) (by decide +kernel)
theorem ci_X8_gradesWithTrades : Cond.instanceMethod m_X8_gradesWithTrades.1 ∈ zTB ∧ Cond.selects m_X8_gradesWithTrades.1.cls m_X8_gradesWithTrades.1 m_X8_gradesWithTrades.1 ∈ zTB := ⟨ck1_X8_gradesWithTrades, zpi (n := 11) 17 (by decide +kernel) (by decide +kernel)⟩
theorem ck_X8_worthOfAll : plainName m_X8_worthOfAll.1.cls = true ∧ Cond.code m_X8_worthOfAll.1 m_X8_worthOfAll.2.1 m_X8_worthOfAll.2.2.1 m_X8_worthOfAll.2.2.2.1 ∈ zTB ∧ Cond.initialized m_X8_worthOfAll.1.cls ∈ zTB ∧ (m_X8_worthOfAll.1.cls ≠ "java/lang/invoke/MethodHandle" ∧ m_X8_worthOfAll.1.cls ≠ "java/lang/invoke/VarHandle") ∧ (parseMethodDescriptor m_X8_worthOfAll.1.desc).map (fun d => d.parameters.length) = some 0 := ⟨by decide +kernel, zti 666 (by decide +kernel) (by decide +kernel), zti 1 (by decide +kernel) (by decide +kernel), ⟨by decide +kernel, by decide +kernel⟩, by decide +kernel⟩
theorem ck1_X8_worthOfAll : Cond.instanceMethod m_X8_worthOfAll.1 ∈ zTB := zti 665 (by decide +kernel) (by decide +kernel)
theorem ci_X8_worthOfAll : Cond.instanceMethod m_X8_worthOfAll.1 ∈ zTB ∧ Cond.selects m_X8_worthOfAll.1.cls m_X8_worthOfAll.1 m_X8_worthOfAll.1 ∈ zTB := ⟨ck1_X8_worthOfAll, zpi (n := 11) 18 (by decide +kernel) (by decide +kernel)⟩
theorem ck_X0_take : plainName m_X0_take.1.cls = true ∧ Cond.code m_X0_take.1 m_X0_take.2.1 m_X0_take.2.2.1 m_X0_take.2.2.2.1 ∈ zTB ∧ Cond.initialized m_X0_take.1.cls ∈ zTB ∧ (m_X0_take.1.cls ≠ "java/lang/invoke/MethodHandle" ∧ m_X0_take.1.cls ≠ "java/lang/invoke/VarHandle") ∧ (parseMethodDescriptor m_X0_take.1.desc).map (fun d => d.parameters.length) = some 3 := ⟨by decide +kernel, zti 525 (by decide +kernel) (by decide +kernel), zti 7 (by decide +kernel) (by decide +kernel), ⟨by decide +kernel, by decide +kernel⟩, by decide +kernel⟩
theorem ck1_X0_take : Cond.instanceMethod m_X0_take.1 ∈ zTB := zti 523 (by decide +kernel) (by decide +kernel)
theorem ci_X0_take : Cond.instanceMethod m_X0_take.1 ∈ zTB ∧ Cond.selects m_X0_take.1.cls m_X0_take.1 m_X0_take.1 ∈ zTB := ⟨ck1_X0_take, zti 524 (by decide +kernel) (by decide +kernel)⟩
theorem ck_X0_settle : plainName m_X0_settle.1.cls = true ∧ Cond.code m_X0_settle.1 m_X0_settle.2.1 m_X0_settle.2.2.1 m_X0_settle.2.2.2.1 ∈ zTB ∧ Cond.initialized m_X0_settle.1.cls ∈ zTB ∧ (m_X0_settle.1.cls ≠ "java/lang/invoke/MethodHandle" ∧ m_X0_settle.1.cls ≠ "java/lang/invoke/VarHandle") ∧ (parseMethodDescriptor m_X0_settle.1.desc).map (fun d => d.parameters.length) = some 2 := ⟨by decide +kernel, zti 548 (by decide +kernel) (by decide +kernel), zti 7 (by decide +kernel) (by decide +kernel), ⟨by decide +kernel, by decide +kernel⟩, by decide +kernel⟩
theorem ck1_X0_settle : Cond.instanceMethod m_X0_settle.1 ∈ zTB := zti 546 (by decide +kernel) (by decide +kernel)
theorem ci_X0_settle : Cond.instanceMethod m_X0_settle.1 ∈ zTB ∧ Cond.selects m_X0_settle.1.cls m_X0_settle.1 m_X0_settle.1 ∈ zTB := ⟨ck1_X0_settle, zti 547 (by decide +kernel) (by decide +kernel)⟩
theorem ck_X8_worthOf : plainName m_X8_worthOf.1.cls = true ∧ Cond.code m_X8_worthOf.1 m_X8_worthOf.2.1 m_X8_worthOf.2.2.1 m_X8_worthOf.2.2.2.1 ∈ zTB ∧ Cond.initialized m_X8_worthOf.1.cls ∈ zTB ∧ (m_X8_worthOf.1.cls ≠ "java/lang/invoke/MethodHandle" ∧ m_X8_worthOf.1.cls ≠ "java/lang/invoke/VarHandle") ∧ (parseMethodDescriptor m_X8_worthOf.1.desc).map (fun d => d.parameters.length) = some 2 := ⟨by decide +kernel, zti 670 (by decide +kernel) (by decide +kernel), zti 1 (by decide +kernel) (by decide +kernel), ⟨by decide +kernel, by decide +kernel⟩, by decide +kernel⟩
theorem ck1_X8_worthOf : Cond.instanceMethod m_X8_worthOf.1 ∈ zTB := zti 669 (by decide +kernel) (by decide +kernel)
theorem ci_X8_worthOf : Cond.instanceMethod m_X8_worthOf.1 ∈ zTB ∧ Cond.selects m_X8_worthOf.1.cls m_X8_worthOf.1 m_X8_worthOf.1 ∈ zTB := ⟨ck1_X8_worthOf, zpi (n := 11) 19 (by decide +kernel) (by decide +kernel)⟩
theorem ck_X9_init : plainName m_X9_init.1.cls = true ∧ Cond.code m_X9_init.1 m_X9_init.2.1 m_X9_init.2.2.1 m_X9_init.2.2.2.1 ∈ zTB ∧ Cond.initialized m_X9_init.1.cls ∈ zTB ∧ (m_X9_init.1.cls ≠ "java/lang/invoke/MethodHandle" ∧ m_X9_init.1.cls ≠ "java/lang/invoke/VarHandle") ∧ (parseMethodDescriptor m_X9_init.1.desc).map (fun d => d.parameters.length) = some 0 := ⟨by decide +kernel, zti 675 (by decide +kernel) (by decide +kernel), zti 10 (by decide +kernel) (by decide +kernel), ⟨by decide +kernel, by decide +kernel⟩, by decide +kernel⟩
theorem ck1_X9_init : Cond.instanceMethod m_X9_init.1 ∈ zTB := zti 674 (by decide +kernel) (by decide +kernel)
theorem ck_J4_init_d00df : plainName m_J4_init_d00df.1.cls = true ∧ Cond.code m_J4_init_d00df.1 m_J4_init_d00df.2.1 m_J4_init_d00df.2.2.1 m_J4_init_d00df.2.2.2.1 ∈ zTB ∧ Cond.initialized m_J4_init_d00df.1.cls ∈ zTB ∧ (m_J4_init_d00df.1.cls ≠ "java/lang/invoke/MethodHandle" ∧ m_J4_init_d00df.1.cls ≠ "java/lang/invoke/VarHandle") ∧ (parseMethodDescriptor m_J4_init_d00df.1.desc).map (fun d => d.parameters.length) = some 1 := ⟨by decide +kernel, zti 759 (by decide +kernel) (by decide +kernel), zti 13 (by decide +kernel) (by decide +kernel), ⟨by decide +kernel, by decide +kernel⟩, by decide +kernel⟩
theorem ck1_J4_init_d00df : Cond.instanceMethod m_J4_init_d00df.1 ∈ zTB := zti 758 (by decide +kernel) (by decide +kernel)
theorem ck_J4_append_15ec4 : plainName m_J4_append_15ec4.1.cls = true ∧ Cond.code m_J4_append_15ec4.1 m_J4_append_15ec4.2.1 m_J4_append_15ec4.2.2.1 m_J4_append_15ec4.2.2.2.1 ∈ zTB ∧ Cond.initialized m_J4_append_15ec4.1.cls ∈ zTB ∧ (m_J4_append_15ec4.1.cls ≠ "java/lang/invoke/MethodHandle" ∧ m_J4_append_15ec4.1.cls ≠ "java/lang/invoke/VarHandle") ∧ (parseMethodDescriptor m_J4_append_15ec4.1.desc).map (fun d => d.parameters.length) = some 1 := ⟨by decide +kernel, zti 790 (by decide +kernel) (by decide +kernel), zti 13 (by decide +kernel) (by decide +kernel), ⟨by decide +kernel, by decide +kernel⟩, by decide +kernel⟩
theorem ck1_J4_append_15ec4 : Cond.instanceMethod m_J4_append_15ec4.1 ∈ zTB := zti 788 (by decide +kernel) (by decide +kernel)
theorem ci_J4_append_15ec4 : Cond.instanceMethod m_J4_append_15ec4.1 ∈ zTB ∧ Cond.selects m_J4_append_15ec4.1.cls m_J4_append_15ec4.1 m_J4_append_15ec4.1 ∈ zTB := ⟨ck1_J4_append_15ec4, zti 789 (by decide +kernel) (by decide +kernel)⟩
theorem ck_J4_append_bf812 : plainName m_J4_append_bf812.1.cls = true ∧ Cond.code m_J4_append_bf812.1 m_J4_append_bf812.2.1 m_J4_append_bf812.2.2.1 m_J4_append_bf812.2.2.2.1 ∈ zTB ∧ Cond.initialized m_J4_append_bf812.1.cls ∈ zTB ∧ (m_J4_append_bf812.1.cls ≠ "java/lang/invoke/MethodHandle" ∧ m_J4_append_bf812.1.cls ≠ "java/lang/invoke/VarHandle") ∧ (parseMethodDescriptor m_J4_append_bf812.1.desc).map (fun d => d.parameters.length) = some 1 := ⟨by decide +kernel, zti 885 (by decide +kernel) (by decide +kernel), zti 13 (by decide +kernel) (by decide +kernel), ⟨by decide +kernel, by decide +kernel⟩, by decide +kernel⟩
theorem ck1_J4_append_bf812 : Cond.instanceMethod m_J4_append_bf812.1 ∈ zTB := zti 883 (by decide +kernel) (by decide +kernel)
theorem ci_J4_append_bf812 : Cond.instanceMethod m_J4_append_bf812.1 ∈ zTB ∧ Cond.selects m_J4_append_bf812.1.cls m_J4_append_bf812.1 m_J4_append_bf812.1 ∈ zTB := ⟨ck1_J4_append_bf812, zti 884 (by decide +kernel) (by decide +kernel)⟩
theorem ck_J4_append_cf468 : plainName m_J4_append_cf468.1.cls = true ∧ Cond.code m_J4_append_cf468.1 m_J4_append_cf468.2.1 m_J4_append_cf468.2.2.1 m_J4_append_cf468.2.2.2.1 ∈ zTB ∧ Cond.initialized m_J4_append_cf468.1.cls ∈ zTB ∧ (m_J4_append_cf468.1.cls ≠ "java/lang/invoke/MethodHandle" ∧ m_J4_append_cf468.1.cls ≠ "java/lang/invoke/VarHandle") ∧ (parseMethodDescriptor m_J4_append_cf468.1.desc).map (fun d => d.parameters.length) = some 1 := ⟨by decide +kernel, zti 910 (by decide +kernel) (by decide +kernel), zti 13 (by decide +kernel) (by decide +kernel), ⟨by decide +kernel, by decide +kernel⟩, by decide +kernel⟩
theorem ck1_J4_append_cf468 : Cond.instanceMethod m_J4_append_cf468.1 ∈ zTB := zti 908 (by decide +kernel) (by decide +kernel)
theorem ci_J4_append_cf468 : Cond.instanceMethod m_J4_append_cf468.1 ∈ zTB ∧ Cond.selects m_J4_append_cf468.1.cls m_J4_append_cf468.1 m_J4_append_cf468.1 ∈ zTB := ⟨ck1_J4_append_cf468, zti 909 (by decide +kernel) (by decide +kernel)⟩
theorem ck_J4_length_8abf5 : plainName m_J4_length_8abf5.1.cls = true ∧ Cond.code m_J4_length_8abf5.1 m_J4_length_8abf5.2.1 m_J4_length_8abf5.2.2.1 m_J4_length_8abf5.2.2.2.1 ∈ zTB ∧ Cond.initialized m_J4_length_8abf5.1.cls ∈ zTB ∧ (m_J4_length_8abf5.1.cls ≠ "java/lang/invoke/MethodHandle" ∧ m_J4_length_8abf5.1.cls ≠ "java/lang/invoke/VarHandle") ∧ (parseMethodDescriptor m_J4_length_8abf5.1.desc).map (fun d => d.parameters.length) = some 0 := ⟨by decide +kernel, zti 923 (by decide +kernel) (by decide +kernel), zti 13 (by decide +kernel) (by decide +kernel), ⟨by decide +kernel, by decide +kernel⟩, by decide +kernel⟩
theorem ck1_J4_length_8abf5 : Cond.instanceMethod m_J4_length_8abf5.1 ∈ zTB := zti 921 (by decide +kernel) (by decide +kernel)
theorem ci_J4_length_8abf5 : Cond.instanceMethod m_J4_length_8abf5.1 ∈ zTB ∧ Cond.selects m_J4_length_8abf5.1.cls m_J4_length_8abf5.1 m_J4_length_8abf5.1 ∈ zTB := ⟨ck1_J4_length_8abf5, zti 922 (by decide +kernel) (by decide +kernel)⟩
theorem ck_J4_toString_0e30d : plainName m_J4_toString_0e30d.1.cls = true ∧ Cond.code m_J4_toString_0e30d.1 m_J4_toString_0e30d.2.1 m_J4_toString_0e30d.2.2.1 m_J4_toString_0e30d.2.2.2.1 ∈ zTB ∧ Cond.initialized m_J4_toString_0e30d.1.cls ∈ zTB ∧ (m_J4_toString_0e30d.1.cls ≠ "java/lang/invoke/MethodHandle" ∧ m_J4_toString_0e30d.1.cls ≠ "java/lang/invoke/VarHandle") ∧ (parseMethodDescriptor m_J4_toString_0e30d.1.desc).map (fun d => d.parameters.length) = some 0 := ⟨by decide +kernel, zti 937 (by decide +kernel) (by decide +kernel), zti 13 (by decide +kernel) (by decide +kernel), ⟨by decide +kernel, by decide +kernel⟩, by decide +kernel⟩
theorem ck1_J4_toString_0e30d : Cond.instanceMethod m_J4_toString_0e30d.1 ∈ zTB := zti 935 (by decide +kernel) (by decide +kernel)
theorem ci_J4_toString_0e30d : Cond.instanceMethod m_J4_toString_0e30d.1 ∈ zTB ∧ Cond.selects m_J4_toString_0e30d.1.cls m_J4_toString_0e30d.1 m_J4_toString_0e30d.1 ∈ zTB := ⟨ck1_J4_toString_0e30d, zti 936 (by decide +kernel) (by decide +kernel)⟩
theorem ck_L_cell : plainName m_L_cell.1.cls = true ∧ Cond.code m_L_cell.1 m_L_cell.2.1 m_L_cell.2.2.1 m_L_cell.2.2.2.1 ∈ zTB ∧ Cond.initialized m_L_cell.1.cls ∈ zTB ∧ (m_L_cell.1.cls ≠ "java/lang/invoke/MethodHandle" ∧ m_L_cell.1.cls ≠ "java/lang/invoke/VarHandle") ∧ (parseMethodDescriptor m_L_cell.1.desc).map (fun d => d.parameters.length) = some 2 := ⟨by decide +kernel, zti 989 (by decide +kernel) (by decide +kernel), zti 0 (by decide +kernel) (by decide +kernel), ⟨by decide +kernel, by decide +kernel⟩, by decide +kernel⟩
theorem ct_L_cell : Cond.static m_L_cell.1 ∈ zTB := zti 988 (by decide +kernel) (by decide +kernel)
theorem ck_X9_comes : plainName m_X9_comes.1.cls = true ∧ Cond.code m_X9_comes.1 m_X9_comes.2.1 m_X9_comes.2.2.1 m_X9_comes.2.2.2.1 ∈ zTB ∧ Cond.initialized m_X9_comes.1.cls ∈ zTB ∧ (m_X9_comes.1.cls ≠ "java/lang/invoke/MethodHandle" ∧ m_X9_comes.1.cls ≠ "java/lang/invoke/VarHandle") ∧ (parseMethodDescriptor m_X9_comes.1.desc).map (fun d => d.parameters.length) = some 3 := ⟨by decide +kernel, zti 750 (by decide +kernel) (by decide +kernel), zti 10 (by decide +kernel) (by decide +kernel), ⟨by decide +kernel, by decide +kernel⟩, by decide +kernel⟩
theorem ck1_X9_comes : Cond.instanceMethod m_X9_comes.1 ∈ zTB := zti 748 (by decide +kernel) (by decide +kernel)
theorem ci_X9_comes : Cond.instanceMethod m_X9_comes.1 ∈ zTB ∧ Cond.selects m_X9_comes.1.cls m_X9_comes.1 m_X9_comes.1 ∈ zTB := ⟨ck1_X9_comes, zti 749 (by decide +kernel) (by decide +kernel)⟩
theorem ck_X10_orders : plainName m_X10_orders.1.cls = true ∧ Cond.code m_X10_orders.1 m_X10_orders.2.1 m_X10_orders.2.2.1 m_X10_orders.2.2.2.1 ∈ zTB ∧ Cond.initialized m_X10_orders.1.cls ∈ zTB ∧ (m_X10_orders.1.cls ≠ "java/lang/invoke/MethodHandle" ∧ m_X10_orders.1.cls ≠ "java/lang/invoke/VarHandle") ∧ (parseMethodDescriptor m_X10_orders.1.desc).map (fun d => d.parameters.length) = some 3 := ⟨by decide +kernel, zti 1123 (by decide +kernel) (by decide +kernel), zti 22 (by decide +kernel) (by decide +kernel), ⟨by decide +kernel, by decide +kernel⟩, by decide +kernel⟩
theorem ct_X10_orders : Cond.static m_X10_orders.1 ∈ zTB := zti 1122 (by decide +kernel) (by decide +kernel)
theorem ck_J0_coder_7d493 : plainName m_J0_coder_7d493.1.cls = true ∧ Cond.code m_J0_coder_7d493.1 m_J0_coder_7d493.2.1 m_J0_coder_7d493.2.2.1 m_J0_coder_7d493.2.2.2.1 ∈ zTB ∧ Cond.initialized m_J0_coder_7d493.1.cls ∈ zTB ∧ (m_J0_coder_7d493.1.cls ≠ "java/lang/invoke/MethodHandle" ∧ m_J0_coder_7d493.1.cls ≠ "java/lang/invoke/VarHandle") ∧ (parseMethodDescriptor m_J0_coder_7d493.1.desc).map (fun d => d.parameters.length) = some 0 := ⟨by decide +kernel, zti 325 (by decide +kernel) (by decide +kernel), zti 14 (by decide +kernel) (by decide +kernel), ⟨by decide +kernel, by decide +kernel⟩, by decide +kernel⟩
theorem ck1_J0_coder_7d493 : Cond.instanceMethod m_J0_coder_7d493.1 ∈ zTB := zti 323 (by decide +kernel) (by decide +kernel)
theorem ci_J0_coder_7d493 : Cond.instanceMethod m_J0_coder_7d493.1 ∈ zTB ∧ Cond.selects m_J0_coder_7d493.1.cls m_J0_coder_7d493.1 m_J0_coder_7d493.1 ∈ zTB := ⟨ck1_J0_coder_7d493, zti 324 (by decide +kernel) (by decide +kernel)⟩
theorem ck_J0_isLatin1_aae02 : plainName m_J0_isLatin1_aae02.1.cls = true ∧ Cond.code m_J0_isLatin1_aae02.1 m_J0_isLatin1_aae02.2.1 m_J0_isLatin1_aae02.2.2.1 m_J0_isLatin1_aae02.2.2.2.1 ∈ zTB ∧ Cond.initialized m_J0_isLatin1_aae02.1.cls ∈ zTB ∧ (m_J0_isLatin1_aae02.1.cls ≠ "java/lang/invoke/MethodHandle" ∧ m_J0_isLatin1_aae02.1.cls ≠ "java/lang/invoke/VarHandle") ∧ (parseMethodDescriptor m_J0_isLatin1_aae02.1.desc).map (fun d => d.parameters.length) = some 0 := ⟨by decide +kernel, zti 335 (by decide +kernel) (by decide +kernel), zti 14 (by decide +kernel) (by decide +kernel), ⟨by decide +kernel, by decide +kernel⟩, by decide +kernel⟩
theorem ck1_J0_isLatin1_aae02 : Cond.instanceMethod m_J0_isLatin1_aae02.1 ∈ zTB := zti 333 (by decide +kernel) (by decide +kernel)
theorem ci_J0_isLatin1_aae02 : Cond.instanceMethod m_J0_isLatin1_aae02.1 ∈ zTB ∧ Cond.selects m_J0_isLatin1_aae02.1.cls m_J0_isLatin1_aae02.1 m_J0_isLatin1_aae02.1 ∈ zTB := ⟨ck1_J0_isLatin1_aae02, zti 334 (by decide +kernel) (by decide +kernel)⟩
theorem ck_J1_charAt_3b067 : plainName m_J1_charAt_3b067.1.cls = true ∧ Cond.code m_J1_charAt_3b067.1 m_J1_charAt_3b067.2.1 m_J1_charAt_3b067.2.2.1 m_J1_charAt_3b067.2.2.2.1 ∈ zTB ∧ Cond.initialized m_J1_charAt_3b067.1.cls ∈ zTB ∧ (m_J1_charAt_3b067.1.cls ≠ "java/lang/invoke/MethodHandle" ∧ m_J1_charAt_3b067.1.cls ≠ "java/lang/invoke/VarHandle") ∧ (parseMethodDescriptor m_J1_charAt_3b067.1.desc).map (fun d => d.parameters.length) = some 2 := ⟨by decide +kernel, zti 338 (by decide +kernel) (by decide +kernel), zti 20 (by decide +kernel) (by decide +kernel), ⟨by decide +kernel, by decide +kernel⟩, by decide +kernel⟩
theorem ct_J1_charAt_3b067 : Cond.static m_J1_charAt_3b067.1 ∈ zTB := zti 337 (by decide +kernel) (by decide +kernel)
theorem ck_J0_checkIndex_df160 : plainName m_J0_checkIndex_df160.1.cls = true ∧ Cond.code m_J0_checkIndex_df160.1 m_J0_checkIndex_df160.2.1 m_J0_checkIndex_df160.2.2.1 m_J0_checkIndex_df160.2.2.2.1 ∈ zTB ∧ Cond.initialized m_J0_checkIndex_df160.1.cls ∈ zTB ∧ (m_J0_checkIndex_df160.1.cls ≠ "java/lang/invoke/MethodHandle" ∧ m_J0_checkIndex_df160.1.cls ≠ "java/lang/invoke/VarHandle") ∧ (parseMethodDescriptor m_J0_checkIndex_df160.1.desc).map (fun d => d.parameters.length) = some 2 := ⟨by decide +kernel, zti 341 (by decide +kernel) (by decide +kernel), zti 14 (by decide +kernel) (by decide +kernel), ⟨by decide +kernel, by decide +kernel⟩, by decide +kernel⟩
theorem ct_J0_checkIndex_df160 : Cond.static m_J0_checkIndex_df160.1 ∈ zTB := zti 340 (by decide +kernel) (by decide +kernel)
theorem ck_J3_checkIndex_8e157 : plainName m_J3_checkIndex_8e157.1.cls = true ∧ Cond.code m_J3_checkIndex_8e157.1 m_J3_checkIndex_8e157.2.1 m_J3_checkIndex_8e157.2.2.1 m_J3_checkIndex_8e157.2.2.2.1 ∈ zTB ∧ Cond.initialized m_J3_checkIndex_8e157.1.cls ∈ zTB ∧ (m_J3_checkIndex_8e157.1.cls ≠ "java/lang/invoke/MethodHandle" ∧ m_J3_checkIndex_8e157.1.cls ≠ "java/lang/invoke/VarHandle") ∧ (parseMethodDescriptor m_J3_checkIndex_8e157.1.desc).map (fun d => d.parameters.length) = some 3 := ⟨by decide +kernel, zti 346 (by decide +kernel) (by decide +kernel), zti 19 (by decide +kernel) (by decide +kernel), ⟨by decide +kernel, by decide +kernel⟩, by decide +kernel⟩
theorem ct_J3_checkIndex_8e157 : Cond.static m_J3_checkIndex_8e157.1 ∈ zTB := zti 345 (by decide +kernel) (by decide +kernel)
theorem ck_J5_init_d00df : plainName m_J5_init_d00df.1.cls = true ∧ Cond.code m_J5_init_d00df.1 m_J5_init_d00df.2.1 m_J5_init_d00df.2.2.1 m_J5_init_d00df.2.2.2.1 ∈ zTB ∧ Cond.initialized m_J5_init_d00df.1.cls ∈ zTB ∧ (m_J5_init_d00df.1.cls ≠ "java/lang/invoke/MethodHandle" ∧ m_J5_init_d00df.1.cls ≠ "java/lang/invoke/VarHandle") ∧ (parseMethodDescriptor m_J5_init_d00df.1.desc).map (fun d => d.parameters.length) = some 1 := ⟨by decide +kernel, zti 762 (by decide +kernel) (by decide +kernel), zti 12 (by decide +kernel) (by decide +kernel), ⟨by decide +kernel, by decide +kernel⟩, by decide +kernel⟩
theorem ck1_J5_init_d00df : Cond.instanceMethod m_J5_init_d00df.1 ∈ zTB := zti 761 (by decide +kernel) (by decide +kernel)
theorem ck_J5_append_cf1ce : plainName m_J5_append_cf1ce.1.cls = true ∧ Cond.code m_J5_append_cf1ce.1 m_J5_append_cf1ce.2.1 m_J5_append_cf1ce.2.2.1 m_J5_append_cf1ce.2.2.2.1 ∈ zTB ∧ Cond.initialized m_J5_append_cf1ce.1.cls ∈ zTB ∧ (m_J5_append_cf1ce.1.cls ≠ "java/lang/invoke/MethodHandle" ∧ m_J5_append_cf1ce.1.cls ≠ "java/lang/invoke/VarHandle") ∧ (parseMethodDescriptor m_J5_append_cf1ce.1.desc).map (fun d => d.parameters.length) = some 1 := ⟨by decide +kernel, zti 793 (by decide +kernel) (by decide +kernel), zti 12 (by decide +kernel) (by decide +kernel), ⟨by decide +kernel, by decide +kernel⟩, by decide +kernel⟩
theorem ck1_J5_append_cf1ce : Cond.instanceMethod m_J5_append_cf1ce.1 ∈ zTB := zti 792 (by decide +kernel) (by decide +kernel)
theorem ck_J5_append_3fe6f : plainName m_J5_append_3fe6f.1.cls = true ∧ Cond.code m_J5_append_3fe6f.1 m_J5_append_3fe6f.2.1 m_J5_append_3fe6f.2.2.1 m_J5_append_3fe6f.2.2.2.1 ∈ zTB ∧ Cond.initialized m_J5_append_3fe6f.1.cls ∈ zTB ∧ (m_J5_append_3fe6f.1.cls ≠ "java/lang/invoke/MethodHandle" ∧ m_J5_append_3fe6f.1.cls ≠ "java/lang/invoke/VarHandle") ∧ (parseMethodDescriptor m_J5_append_3fe6f.1.desc).map (fun d => d.parameters.length) = some 1 := ⟨by decide +kernel, zti 913 (by decide +kernel) (by decide +kernel), zti 12 (by decide +kernel) (by decide +kernel), ⟨by decide +kernel, by decide +kernel⟩, by decide +kernel⟩
theorem ck1_J5_append_3fe6f : Cond.instanceMethod m_J5_append_3fe6f.1 ∈ zTB := zti 912 (by decide +kernel) (by decide +kernel)
theorem ck_J5_append_c97b9 : plainName m_J5_append_c97b9.1.cls = true ∧ Cond.code m_J5_append_c97b9.1 m_J5_append_c97b9.2.1 m_J5_append_c97b9.2.2.1 m_J5_append_c97b9.2.2.2.1 ∈ zTB ∧ Cond.initialized m_J5_append_c97b9.1.cls ∈ zTB ∧ (m_J5_append_c97b9.1.cls ≠ "java/lang/invoke/MethodHandle" ∧ m_J5_append_c97b9.1.cls ≠ "java/lang/invoke/VarHandle") ∧ (parseMethodDescriptor m_J5_append_c97b9.1.desc).map (fun d => d.parameters.length) = some 1 := ⟨by decide +kernel, zti 888 (by decide +kernel) (by decide +kernel), zti 12 (by decide +kernel) (by decide +kernel), ⟨by decide +kernel, by decide +kernel⟩, by decide +kernel⟩
theorem ck1_J5_append_c97b9 : Cond.instanceMethod m_J5_append_c97b9.1 ∈ zTB := zti 887 (by decide +kernel) (by decide +kernel)
theorem ck_J0_init_81219 : plainName m_J0_init_81219.1.cls = true ∧ Cond.code m_J0_init_81219.1 m_J0_init_81219.2.1 m_J0_init_81219.2.2.1 m_J0_init_81219.2.2.2.1 ∈ zTB ∧ Cond.initialized m_J0_init_81219.1.cls ∈ zTB ∧ (m_J0_init_81219.1.cls ≠ "java/lang/invoke/MethodHandle" ∧ m_J0_init_81219.1.cls ≠ "java/lang/invoke/VarHandle") ∧ (parseMethodDescriptor m_J0_init_81219.1.desc).map (fun d => d.parameters.length) = some 1 := ⟨by decide +kernel, zti 942 (by decide +kernel) (by decide +kernel), zti 14 (by decide +kernel) (by decide +kernel), ⟨by decide +kernel, by decide +kernel⟩, by decide +kernel⟩
theorem ck1_J0_init_81219 : Cond.instanceMethod m_J0_init_81219.1 ∈ zTB := zti 941 (by decide +kernel) (by decide +kernel)
theorem ck_J5_length_8abf5 : plainName m_J5_length_8abf5.1.cls = true ∧ Cond.code m_J5_length_8abf5.1 m_J5_length_8abf5.2.1 m_J5_length_8abf5.2.2.1 m_J5_length_8abf5.2.2.2.1 ∈ zTB ∧ Cond.initialized m_J5_length_8abf5.1.cls ∈ zTB ∧ (m_J5_length_8abf5.1.cls ≠ "java/lang/invoke/MethodHandle" ∧ m_J5_length_8abf5.1.cls ≠ "java/lang/invoke/VarHandle") ∧ (parseMethodDescriptor m_J5_length_8abf5.1.desc).map (fun d => d.parameters.length) = some 0 := ⟨by decide +kernel, zti 926 (by decide +kernel) (by decide +kernel), zti 12 (by decide +kernel) (by decide +kernel), ⟨by decide +kernel, by decide +kernel⟩, by decide +kernel⟩
theorem ck1_J5_length_8abf5 : Cond.instanceMethod m_J5_length_8abf5.1 ∈ zTB := zti 925 (by decide +kernel) (by decide +kernel)
theorem ck_J5_ensureCapacityInternal_d00df : plainName m_J5_ensureCapacityInternal_d00df.1.cls = true ∧ Cond.code m_J5_ensureCapacityInternal_d00df.1 m_J5_ensureCapacityInternal_d00df.2.1 m_J5_ensureCapacityInternal_d00df.2.2.1 m_J5_ensureCapacityInternal_d00df.2.2.2.1 ∈ zTB ∧ Cond.initialized m_J5_ensureCapacityInternal_d00df.1.cls ∈ zTB ∧ (m_J5_ensureCapacityInternal_d00df.1.cls ≠ "java/lang/invoke/MethodHandle" ∧ m_J5_ensureCapacityInternal_d00df.1.cls ≠ "java/lang/invoke/VarHandle") ∧ (parseMethodDescriptor m_J5_ensureCapacityInternal_d00df.1.desc).map (fun d => d.parameters.length) = some 1 := ⟨by decide +kernel, zti 801 (by decide +kernel) (by decide +kernel), zti 12 (by decide +kernel) (by decide +kernel), ⟨by decide +kernel, by decide +kernel⟩, by decide +kernel⟩
theorem ck1_J5_ensureCapacityInternal_d00df : Cond.instanceMethod m_J5_ensureCapacityInternal_d00df.1 ∈ zTB := zti 800 (by decide +kernel) (by decide +kernel)
theorem ck_J5_putStringAt_47b60 : plainName m_J5_putStringAt_47b60.1.cls = true ∧ Cond.code m_J5_putStringAt_47b60.1 m_J5_putStringAt_47b60.2.1 m_J5_putStringAt_47b60.2.2.1 m_J5_putStringAt_47b60.2.2.2.1 ∈ zTB ∧ Cond.initialized m_J5_putStringAt_47b60.1.cls ∈ zTB ∧ (m_J5_putStringAt_47b60.1.cls ≠ "java/lang/invoke/MethodHandle" ∧ m_J5_putStringAt_47b60.1.cls ≠ "java/lang/invoke/VarHandle") ∧ (parseMethodDescriptor m_J5_putStringAt_47b60.1.desc).map (fun d => d.parameters.length) = some 2 := ⟨by decide +kernel, zti 849 (by decide +kernel) (by decide +kernel), zti 12 (by decide +kernel) (by decide +kernel), ⟨by decide +kernel, by decide +kernel⟩, by decide +kernel⟩
theorem ck1_J5_putStringAt_47b60 : Cond.instanceMethod m_J5_putStringAt_47b60.1 ∈ zTB := zti 848 (by decide +kernel) (by decide +kernel)
theorem ck_J5_isLatin1_aae02 : plainName m_J5_isLatin1_aae02.1.cls = true ∧ Cond.code m_J5_isLatin1_aae02.1 m_J5_isLatin1_aae02.2.1 m_J5_isLatin1_aae02.2.2.1 m_J5_isLatin1_aae02.2.2.2.1 ∈ zTB ∧ Cond.initialized m_J5_isLatin1_aae02.1.cls ∈ zTB ∧ (m_J5_isLatin1_aae02.1.cls ≠ "java/lang/invoke/MethodHandle" ∧ m_J5_isLatin1_aae02.1.cls ≠ "java/lang/invoke/VarHandle") ∧ (parseMethodDescriptor m_J5_isLatin1_aae02.1.desc).map (fun d => d.parameters.length) = some 0 := ⟨by decide +kernel, zti 829 (by decide +kernel) (by decide +kernel), zti 12 (by decide +kernel) (by decide +kernel), ⟨by decide +kernel, by decide +kernel⟩, by decide +kernel⟩
theorem ck1_J5_isLatin1_aae02 : Cond.instanceMethod m_J5_isLatin1_aae02.1 ∈ zTB := zti 826 (by decide +kernel) (by decide +kernel)
theorem ck_J1_canEncode_fc78d : plainName m_J1_canEncode_fc78d.1.cls = true ∧ Cond.code m_J1_canEncode_fc78d.1 m_J1_canEncode_fc78d.2.1 m_J1_canEncode_fc78d.2.2.1 m_J1_canEncode_fc78d.2.2.2.1 ∈ zTB ∧ Cond.initialized m_J1_canEncode_fc78d.1.cls ∈ zTB ∧ (m_J1_canEncode_fc78d.1.cls ≠ "java/lang/invoke/MethodHandle" ∧ m_J1_canEncode_fc78d.1.cls ≠ "java/lang/invoke/VarHandle") ∧ (parseMethodDescriptor m_J1_canEncode_fc78d.1.desc).map (fun d => d.parameters.length) = some 1 := ⟨by decide +kernel, zti 916 (by decide +kernel) (by decide +kernel), zti 20 (by decide +kernel) (by decide +kernel), ⟨by decide +kernel, by decide +kernel⟩, by decide +kernel⟩
theorem ct_J1_canEncode_fc78d : Cond.static m_J1_canEncode_fc78d.1 ∈ zTB := zti 915 (by decide +kernel) (by decide +kernel)
theorem ck_J6_stringSize_0f7a4 : plainName m_J6_stringSize_0f7a4.1.cls = true ∧ Cond.code m_J6_stringSize_0f7a4.1 m_J6_stringSize_0f7a4.2.1 m_J6_stringSize_0f7a4.2.2.1 m_J6_stringSize_0f7a4.2.2.2.1 ∈ zTB ∧ Cond.initialized m_J6_stringSize_0f7a4.1.cls ∈ zTB ∧ (m_J6_stringSize_0f7a4.1.cls ≠ "java/lang/invoke/MethodHandle" ∧ m_J6_stringSize_0f7a4.1.cls ≠ "java/lang/invoke/VarHandle") ∧ (parseMethodDescriptor m_J6_stringSize_0f7a4.1.desc).map (fun d => d.parameters.length) = some 1 := ⟨by decide +kernel, zti 891 (by decide +kernel) (by decide +kernel), zti 21 (by decide +kernel) (by decide +kernel), ⟨by decide +kernel, by decide +kernel⟩, by decide +kernel⟩
theorem ct_J6_stringSize_0f7a4 : Cond.static m_J6_stringSize_0f7a4.1 ∈ zTB := zti 890 (by decide +kernel) (by decide +kernel)
theorem ck_J6_getChars_ba4f3 : plainName m_J6_getChars_ba4f3.1.cls = true ∧ Cond.code m_J6_getChars_ba4f3.1 m_J6_getChars_ba4f3.2.1 m_J6_getChars_ba4f3.2.2.1 m_J6_getChars_ba4f3.2.2.2.1 ∈ zTB ∧ Cond.initialized m_J6_getChars_ba4f3.1.cls ∈ zTB ∧ (m_J6_getChars_ba4f3.1.cls ≠ "java/lang/invoke/MethodHandle" ∧ m_J6_getChars_ba4f3.1.cls ≠ "java/lang/invoke/VarHandle") ∧ (parseMethodDescriptor m_J6_getChars_ba4f3.1.desc).map (fun d => d.parameters.length) = some 3 := ⟨by decide +kernel, zti 894 (by decide +kernel) (by decide +kernel), zti 21 (by decide +kernel) (by decide +kernel), ⟨by decide +kernel, by decide +kernel⟩, by decide +kernel⟩
theorem ct_J6_getChars_ba4f3 : Cond.static m_J6_getChars_ba4f3.1 ∈ zTB := zti 893 (by decide +kernel) (by decide +kernel)
theorem ck_J5_inflateIfNeededFor_a7421 : plainName m_J5_inflateIfNeededFor_a7421.1.cls = true ∧ Cond.code m_J5_inflateIfNeededFor_a7421.1 m_J5_inflateIfNeededFor_a7421.2.1 m_J5_inflateIfNeededFor_a7421.2.2.1 m_J5_inflateIfNeededFor_a7421.2.2.2.1 ∈ zTB ∧ Cond.initialized m_J5_inflateIfNeededFor_a7421.1.cls ∈ zTB ∧ (m_J5_inflateIfNeededFor_a7421.1.cls ≠ "java/lang/invoke/MethodHandle" ∧ m_J5_inflateIfNeededFor_a7421.1.cls ≠ "java/lang/invoke/VarHandle") ∧ (parseMethodDescriptor m_J5_inflateIfNeededFor_a7421.1.desc).map (fun d => d.parameters.length) = some 1 := ⟨by decide +kernel, zti 853 (by decide +kernel) (by decide +kernel), zti 12 (by decide +kernel) (by decide +kernel), ⟨by decide +kernel, by decide +kernel⟩, by decide +kernel⟩
theorem ck1_J5_inflateIfNeededFor_a7421 : Cond.instanceMethod m_J5_inflateIfNeededFor_a7421.1 ∈ zTB := zti 852 (by decide +kernel) (by decide +kernel)
theorem ck_J0_getBytes_840e7 : plainName m_J0_getBytes_840e7.1.cls = true ∧ Cond.code m_J0_getBytes_840e7.1 m_J0_getBytes_840e7.2.1 m_J0_getBytes_840e7.2.2.1 m_J0_getBytes_840e7.2.2.2.1 ∈ zTB ∧ Cond.initialized m_J0_getBytes_840e7.1.cls ∈ zTB ∧ (m_J0_getBytes_840e7.1.cls ≠ "java/lang/invoke/MethodHandle" ∧ m_J0_getBytes_840e7.1.cls ≠ "java/lang/invoke/VarHandle") ∧ (parseMethodDescriptor m_J0_getBytes_840e7.1.desc).map (fun d => d.parameters.length) = some 3 := ⟨by decide +kernel, zti 877 (by decide +kernel) (by decide +kernel), zti 14 (by decide +kernel) (by decide +kernel), ⟨by decide +kernel, by decide +kernel⟩, by decide +kernel⟩
theorem ck1_J0_getBytes_840e7 : Cond.instanceMethod m_J0_getBytes_840e7.1 ∈ zTB := zti 875 (by decide +kernel) (by decide +kernel)
theorem ci_J0_getBytes_840e7 : Cond.instanceMethod m_J0_getBytes_840e7.1 ∈ zTB ∧ Cond.selects m_J0_getBytes_840e7.1.cls m_J0_getBytes_840e7.1 m_J0_getBytes_840e7.1 ∈ zTB := ⟨ck1_J0_getBytes_840e7, zti 876 (by decide +kernel) (by decide +kernel)⟩
theorem ck_J0_init_db425 : plainName m_J0_init_db425.1.cls = true ∧ Cond.code m_J0_init_db425.1 m_J0_init_db425.2.1 m_J0_init_db425.2.2.1 m_J0_init_db425.2.2.2.1 ∈ zTB ∧ Cond.initialized m_J0_init_db425.1.cls ∈ zTB ∧ (m_J0_init_db425.1.cls ≠ "java/lang/invoke/MethodHandle" ∧ m_J0_init_db425.1.cls ≠ "java/lang/invoke/VarHandle") ∧ (parseMethodDescriptor m_J0_init_db425.1.desc).map (fun d => d.parameters.length) = some 2 := ⟨by decide +kernel, zti 945 (by decide +kernel) (by decide +kernel), zti 14 (by decide +kernel) (by decide +kernel), ⟨by decide +kernel, by decide +kernel⟩, by decide +kernel⟩
theorem ck1_J0_init_db425 : Cond.instanceMethod m_J0_init_db425.1 ∈ zTB := zti 944 (by decide +kernel) (by decide +kernel)
theorem ck_J5_getValue_6d5f1 : plainName m_J5_getValue_6d5f1.1.cls = true ∧ Cond.code m_J5_getValue_6d5f1.1 m_J5_getValue_6d5f1.2.1 m_J5_getValue_6d5f1.2.2.1 m_J5_getValue_6d5f1.2.2.2.1 ∈ zTB ∧ Cond.initialized m_J5_getValue_6d5f1.1.cls ∈ zTB ∧ (m_J5_getValue_6d5f1.1.cls ≠ "java/lang/invoke/MethodHandle" ∧ m_J5_getValue_6d5f1.1.cls ≠ "java/lang/invoke/VarHandle") ∧ (parseMethodDescriptor m_J5_getValue_6d5f1.1.desc).map (fun d => d.parameters.length) = some 0 := ⟨by decide +kernel, zti 951 (by decide +kernel) (by decide +kernel), zti 12 (by decide +kernel) (by decide +kernel), ⟨by decide +kernel, by decide +kernel⟩, by decide +kernel⟩
theorem ck1_J5_getValue_6d5f1 : Cond.instanceMethod m_J5_getValue_6d5f1.1 ∈ zTB := zti 948 (by decide +kernel) (by decide +kernel)
theorem ck_J7_copyOfRange_39247 : plainName m_J7_copyOfRange_39247.1.cls = true ∧ Cond.code m_J7_copyOfRange_39247.1 m_J7_copyOfRange_39247.2.1 m_J7_copyOfRange_39247.2.2.1 m_J7_copyOfRange_39247.2.2.2.1 ∈ zTB ∧ Cond.initialized m_J7_copyOfRange_39247.1.cls ∈ zTB ∧ (m_J7_copyOfRange_39247.1.cls ≠ "java/lang/invoke/MethodHandle" ∧ m_J7_copyOfRange_39247.1.cls ≠ "java/lang/invoke/VarHandle") ∧ (parseMethodDescriptor m_J7_copyOfRange_39247.1.desc).map (fun d => d.parameters.length) = some 3 := ⟨by decide +kernel, zti 956 (by decide +kernel) (by decide +kernel), zti 17 (by decide +kernel) (by decide +kernel), ⟨by decide +kernel, by decide +kernel⟩, by decide +kernel⟩
theorem ct_J7_copyOfRange_39247 : Cond.static m_J7_copyOfRange_39247.1 ∈ zTB := zti 955 (by decide +kernel) (by decide +kernel)
theorem ck_J7_copyOfRangeByte_39247 : plainName m_J7_copyOfRangeByte_39247.1.cls = true ∧ Cond.code m_J7_copyOfRangeByte_39247.1 m_J7_copyOfRangeByte_39247.2.1 m_J7_copyOfRangeByte_39247.2.2.1 m_J7_copyOfRangeByte_39247.2.2.2.1 ∈ zTB ∧ Cond.initialized m_J7_copyOfRangeByte_39247.1.cls ∈ zTB ∧ (m_J7_copyOfRangeByte_39247.1.cls ≠ "java/lang/invoke/MethodHandle" ∧ m_J7_copyOfRangeByte_39247.1.cls ≠ "java/lang/invoke/VarHandle") ∧ (parseMethodDescriptor m_J7_copyOfRangeByte_39247.1.desc).map (fun d => d.parameters.length) = some 3 := ⟨by decide +kernel, zti 959 (by decide +kernel) (by decide +kernel), zti 17 (by decide +kernel) (by decide +kernel), ⟨by decide +kernel, by decide +kernel⟩, by decide +kernel⟩
theorem ct_J7_copyOfRangeByte_39247 : Cond.static m_J7_copyOfRangeByte_39247.1 ∈ zTB := zti 958 (by decide +kernel) (by decide +kernel)
theorem ck_J7_checkLength_df160 : plainName m_J7_checkLength_df160.1.cls = true ∧ Cond.code m_J7_checkLength_df160.1 m_J7_checkLength_df160.2.1 m_J7_checkLength_df160.2.2.1 m_J7_checkLength_df160.2.2.2.1 ∈ zTB ∧ Cond.initialized m_J7_checkLength_df160.1.cls ∈ zTB ∧ (m_J7_checkLength_df160.1.cls ≠ "java/lang/invoke/MethodHandle" ∧ m_J7_checkLength_df160.1.cls ≠ "java/lang/invoke/VarHandle") ∧ (parseMethodDescriptor m_J7_checkLength_df160.1.desc).map (fun d => d.parameters.length) = some 2 := ⟨by decide +kernel, zti 962 (by decide +kernel) (by decide +kernel), zti 17 (by decide +kernel) (by decide +kernel), ⟨by decide +kernel, by decide +kernel⟩, by decide +kernel⟩
theorem ct_J7_checkLength_df160 : Cond.static m_J7_checkLength_df160.1 ∈ zTB := zti 961 (by decide +kernel) (by decide +kernel)
theorem ck_X8_feed : plainName m_X8_feed.1.cls = true ∧ Cond.code m_X8_feed.1 m_X8_feed.2.1 m_X8_feed.2.2.1 m_X8_feed.2.2.2.1 ∈ zTB ∧ Cond.initialized m_X8_feed.1.cls ∈ zTB ∧ (m_X8_feed.1.cls ≠ "java/lang/invoke/MethodHandle" ∧ m_X8_feed.1.cls ≠ "java/lang/invoke/VarHandle") ∧ (parseMethodDescriptor m_X8_feed.1.desc).map (fun d => d.parameters.length) = some 5 := ⟨by decide +kernel, zti 1030 (by decide +kernel) (by decide +kernel), zti 1 (by decide +kernel) (by decide +kernel), ⟨by decide +kernel, by decide +kernel⟩, by decide +kernel⟩
theorem ck1_X8_feed : Cond.instanceMethod m_X8_feed.1 ∈ zTB := zti 1028 (by decide +kernel) (by decide +kernel)
theorem ci_X8_feed : Cond.instanceMethod m_X8_feed.1 ∈ zTB ∧ Cond.selects m_X8_feed.1.cls m_X8_feed.1 m_X8_feed.1 ∈ zTB := ⟨ck1_X8_feed, zti 1029 (by decide +kernel) (by decide +kernel)⟩
theorem ck_X8_end : plainName m_X8_end.1.cls = true ∧ Cond.code m_X8_end.1 m_X8_end.2.1 m_X8_end.2.2.1 m_X8_end.2.2.2.1 ∈ zTB ∧ Cond.initialized m_X8_end.1.cls ∈ zTB ∧ (m_X8_end.1.cls ≠ "java/lang/invoke/MethodHandle" ∧ m_X8_end.1.cls ≠ "java/lang/invoke/VarHandle") ∧ (parseMethodDescriptor m_X8_end.1.desc).map (fun d => d.parameters.length) = some 1 := ⟨by decide +kernel, zti 1038 (by decide +kernel) (by decide +kernel), zti 1 (by decide +kernel) (by decide +kernel), ⟨by decide +kernel, by decide +kernel⟩, by decide +kernel⟩
theorem ck1_X8_end : Cond.instanceMethod m_X8_end.1 ∈ zTB := zti 1036 (by decide +kernel) (by decide +kernel)
theorem ci_X8_end : Cond.instanceMethod m_X8_end.1 ∈ zTB ∧ Cond.selects m_X8_end.1.cls m_X8_end.1 m_X8_end.1 ∈ zTB := ⟨ck1_X8_end, zti 1037 (by decide +kernel) (by decide +kernel)⟩
theorem ck_X10_init : plainName m_X10_init.1.cls = true ∧ Cond.code m_X10_init.1 m_X10_init.2.1 m_X10_init.2.2.1 m_X10_init.2.2.2.1 ∈ zTB ∧ Cond.initialized m_X10_init.1.cls ∈ zTB ∧ (m_X10_init.1.cls ≠ "java/lang/invoke/MethodHandle" ∧ m_X10_init.1.cls ≠ "java/lang/invoke/VarHandle") ∧ (parseMethodDescriptor m_X10_init.1.desc).map (fun d => d.parameters.length) = some 3 := ⟨by decide +kernel, zti 1118 (by decide +kernel) (by decide +kernel), zti 22 (by decide +kernel) (by decide +kernel), ⟨by decide +kernel, by decide +kernel⟩, by decide +kernel⟩
theorem ck1_X10_init : Cond.instanceMethod m_X10_init.1 ∈ zTB := zti 1117 (by decide +kernel) (by decide +kernel)
theorem ck_X10_by : plainName m_X10_by.1.cls = true ∧ Cond.code m_X10_by.1 m_X10_by.2.1 m_X10_by.2.2.1 m_X10_by.2.2.2.1 ∈ zTB ∧ Cond.initialized m_X10_by.1.cls ∈ zTB ∧ (m_X10_by.1.cls ≠ "java/lang/invoke/MethodHandle" ∧ m_X10_by.1.cls ≠ "java/lang/invoke/VarHandle") ∧ (parseMethodDescriptor m_X10_by.1.desc).map (fun d => d.parameters.length) = some 2 := ⟨by decide +kernel, zti 1159 (by decide +kernel) (by decide +kernel), zti 22 (by decide +kernel) (by decide +kernel), ⟨by decide +kernel, by decide +kernel⟩, by decide +kernel⟩
theorem ck1_X10_by : Cond.instanceMethod m_X10_by.1 ∈ zTB := zti 1157 (by decide +kernel) (by decide +kernel)
theorem ci_X10_by : Cond.instanceMethod m_X10_by.1 ∈ zTB ∧ Cond.selects m_X10_by.1.cls m_X10_by.1 m_X10_by.1 ∈ zTB := ⟨ck1_X10_by, zti 1158 (by decide +kernel) (by decide +kernel)⟩
theorem ck_X10_doneOf : plainName m_X10_doneOf.1.cls = true ∧ Cond.code m_X10_doneOf.1 m_X10_doneOf.2.1 m_X10_doneOf.2.2.1 m_X10_doneOf.2.2.2.1 ∈ zTB ∧ Cond.initialized m_X10_doneOf.1.cls ∈ zTB ∧ (m_X10_doneOf.1.cls ≠ "java/lang/invoke/MethodHandle" ∧ m_X10_doneOf.1.cls ≠ "java/lang/invoke/VarHandle") ∧ (parseMethodDescriptor m_X10_doneOf.1.desc).map (fun d => d.parameters.length) = some 1 := ⟨by decide +kernel, zti 1169 (by decide +kernel) (by decide +kernel), zti 22 (by decide +kernel) (by decide +kernel), ⟨by decide +kernel, by decide +kernel⟩, by decide +kernel⟩
theorem ck1_X10_doneOf : Cond.instanceMethod m_X10_doneOf.1 ∈ zTB := zti 1167 (by decide +kernel) (by decide +kernel)
theorem ci_X10_doneOf : Cond.instanceMethod m_X10_doneOf.1 ∈ zTB ∧ Cond.selects m_X10_doneOf.1.cls m_X10_doneOf.1 m_X10_doneOf.1 ∈ zTB := ⟨ck1_X10_doneOf, zti 1168 (by decide +kernel) (by decide +kernel)⟩
theorem ck_X9_copy : plainName m_X9_copy.1.cls = true ∧ Cond.code m_X9_copy.1 m_X9_copy.2.1 m_X9_copy.2.2.1 m_X9_copy.2.2.2.1 ∈ zTB ∧ Cond.initialized m_X9_copy.1.cls ∈ zTB ∧ (m_X9_copy.1.cls ≠ "java/lang/invoke/MethodHandle" ∧ m_X9_copy.1.cls ≠ "java/lang/invoke/VarHandle") ∧ (parseMethodDescriptor m_X9_copy.1.desc).map (fun d => d.parameters.length) = some 0 := ⟨by decide +kernel, zti 736 (by decide +kernel) (by decide +kernel), zti 10 (by decide +kernel) (by decide +kernel), ⟨by decide +kernel, by decide +kernel⟩, by decide +kernel⟩
theorem ck1_X9_copy : Cond.instanceMethod m_X9_copy.1 ∈ zTB := zti 734 (by decide +kernel) (by decide +kernel)
theorem ci_X9_copy : Cond.instanceMethod m_X9_copy.1 ∈ zTB ∧ Cond.selects m_X9_copy.1.cls m_X9_copy.1 m_X9_copy.1 ∈ zTB := ⟨ck1_X9_copy, zti 735 (by decide +kernel) (by decide +kernel)⟩
theorem ck_L_deal : plainName m_L_deal.1.cls = true ∧ Cond.code m_L_deal.1 m_L_deal.2.1 m_L_deal.2.2.1 m_L_deal.2.2.2.1 ∈ zTB ∧ Cond.initialized m_L_deal.1.cls ∈ zTB ∧ (m_L_deal.1.cls ≠ "java/lang/invoke/MethodHandle" ∧ m_L_deal.1.cls ≠ "java/lang/invoke/VarHandle") ∧ (parseMethodDescriptor m_L_deal.1.desc).map (fun d => d.parameters.length) = some 4 := ⟨by decide +kernel, zti 1165 (by decide +kernel) (by decide +kernel), zti 0 (by decide +kernel) (by decide +kernel), ⟨by decide +kernel, by decide +kernel⟩, by decide +kernel⟩
theorem ct_L_deal : Cond.static m_L_deal.1 ∈ zTB := zti 1164 (by decide +kernel) (by decide +kernel)
theorem ck_X8_count : plainName m_X8_count.1.cls = true ∧ Cond.code m_X8_count.1 m_X8_count.2.1 m_X8_count.2.2.1 m_X8_count.2.2.2.1 ∈ zTB ∧ Cond.initialized m_X8_count.1.cls ∈ zTB ∧ (m_X8_count.1.cls ≠ "java/lang/invoke/MethodHandle" ∧ m_X8_count.1.cls ≠ "java/lang/invoke/VarHandle") ∧ (parseMethodDescriptor m_X8_count.1.desc).map (fun d => d.parameters.length) = some 1 := ⟨by decide +kernel, zti 654 (by decide +kernel) (by decide +kernel), zti 1 (by decide +kernel) (by decide +kernel), ⟨by decide +kernel, by decide +kernel⟩, by decide +kernel⟩
theorem ck1_X8_count : Cond.instanceMethod m_X8_count.1 ∈ zTB := zti 652 (by decide +kernel) (by decide +kernel)
theorem ci_X8_count : Cond.instanceMethod m_X8_count.1 ∈ zTB ∧ Cond.selects m_X8_count.1.cls m_X8_count.1 m_X8_count.1 ∈ zTB := ⟨ck1_X8_count, zti 653 (by decide +kernel) (by decide +kernel)⟩
theorem ck_X8_trader : plainName m_X8_trader.1.cls = true ∧ Cond.code m_X8_trader.1 m_X8_trader.2.1 m_X8_trader.2.2.1 m_X8_trader.2.2.2.1 ∈ zTB ∧ Cond.initialized m_X8_trader.1.cls ∈ zTB ∧ (m_X8_trader.1.cls ≠ "java/lang/invoke/MethodHandle" ∧ m_X8_trader.1.cls ≠ "java/lang/invoke/VarHandle") ∧ (parseMethodDescriptor m_X8_trader.1.desc).map (fun d => d.parameters.length) = some 2 := ⟨by decide +kernel, zti 1045 (by decide +kernel) (by decide +kernel), zti 1 (by decide +kernel) (by decide +kernel), ⟨by decide +kernel, by decide +kernel⟩, by decide +kernel⟩
theorem ck1_X8_trader : Cond.instanceMethod m_X8_trader.1 ∈ zTB := zti 1043 (by decide +kernel) (by decide +kernel)
theorem ci_X8_trader : Cond.instanceMethod m_X8_trader.1 ∈ zTB ∧ Cond.selects m_X8_trader.1.cls m_X8_trader.1 m_X8_trader.1 ∈ zTB := ⟨ck1_X8_trader, zti 1044 (by decide +kernel) (by decide +kernel)⟩
theorem ck_X9_told : plainName m_X9_told.1.cls = true ∧ Cond.code m_X9_told.1 m_X9_told.2.1 m_X9_told.2.2.1 m_X9_told.2.2.2.1 ∈ zTB ∧ Cond.initialized m_X9_told.1.cls ∈ zTB ∧ (m_X9_told.1.cls ≠ "java/lang/invoke/MethodHandle" ∧ m_X9_told.1.cls ≠ "java/lang/invoke/VarHandle") ∧ (parseMethodDescriptor m_X9_told.1.desc).map (fun d => d.parameters.length) = some 0 := ⟨by decide +kernel, zti 754 (by decide +kernel) (by decide +kernel), zti 10 (by decide +kernel) (by decide +kernel), ⟨by decide +kernel, by decide +kernel⟩, by decide +kernel⟩
theorem ck1_X9_told : Cond.instanceMethod m_X9_told.1 ∈ zTB := zti 752 (by decide +kernel) (by decide +kernel)
theorem ci_X9_told : Cond.instanceMethod m_X9_told.1 ∈ zTB ∧ Cond.selects m_X9_told.1.cls m_X9_told.1 m_X9_told.1 ∈ zTB := ⟨ck1_X9_told, zti 753 (by decide +kernel) (by decide +kernel)⟩
theorem ck_X8_letter : plainName m_X8_letter.1.cls = true ∧ Cond.code m_X8_letter.1 m_X8_letter.2.1 m_X8_letter.2.2.1 m_X8_letter.2.2.2.1 ∈ zTB ∧ Cond.initialized m_X8_letter.1.cls ∈ zTB ∧ (m_X8_letter.1.cls ≠ "java/lang/invoke/MethodHandle" ∧ m_X8_letter.1.cls ≠ "java/lang/invoke/VarHandle") ∧ (parseMethodDescriptor m_X8_letter.1.desc).map (fun d => d.parameters.length) = some 1 := ⟨by decide +kernel, zti 1060 (by decide +kernel) (by decide +kernel), zti 1 (by decide +kernel) (by decide +kernel), ⟨by decide +kernel, by decide +kernel⟩, by decide +kernel⟩
theorem ck1_X8_letter : Cond.instanceMethod m_X8_letter.1 ∈ zTB := zti 1058 (by decide +kernel) (by decide +kernel)
theorem ci_X8_letter : Cond.instanceMethod m_X8_letter.1 ∈ zTB ∧ Cond.selects m_X8_letter.1.cls m_X8_letter.1 m_X8_letter.1 ∈ zTB := ⟨ck1_X8_letter, zti 1059 (by decide +kernel) (by decide +kernel)⟩
theorem ck_X8_audit : plainName m_X8_audit.1.cls = true ∧ Cond.code m_X8_audit.1 m_X8_audit.2.1 m_X8_audit.2.2.1 m_X8_audit.2.2.2.1 ∈ zTB ∧ Cond.initialized m_X8_audit.1.cls ∈ zTB ∧ (m_X8_audit.1.cls ≠ "java/lang/invoke/MethodHandle" ∧ m_X8_audit.1.cls ≠ "java/lang/invoke/VarHandle") ∧ (parseMethodDescriptor m_X8_audit.1.desc).map (fun d => d.parameters.length) = some 1 := ⟨by decide +kernel, zti 1101 (by decide +kernel) (by decide +kernel), zti 1 (by decide +kernel) (by decide +kernel), ⟨by decide +kernel, by decide +kernel⟩, by decide +kernel⟩
theorem ck1_X8_audit : Cond.instanceMethod m_X8_audit.1 ∈ zTB := zti 1099 (by decide +kernel) (by decide +kernel)
theorem ci_X8_audit : Cond.instanceMethod m_X8_audit.1 ∈ zTB ∧ Cond.selects m_X8_audit.1.cls m_X8_audit.1 m_X8_audit.1 ∈ zTB := ⟨ck1_X8_audit, zti 1100 (by decide +kernel) (by decide +kernel)⟩
theorem ck_L_takings : plainName m_L_takings.1.cls = true ∧ Cond.code m_L_takings.1 m_L_takings.2.1 m_L_takings.2.2.1 m_L_takings.2.2.2.1 ∈ zTB ∧ Cond.initialized m_L_takings.1.cls ∈ zTB ∧ (m_L_takings.1.cls ≠ "java/lang/invoke/MethodHandle" ∧ m_L_takings.1.cls ≠ "java/lang/invoke/VarHandle") ∧ (parseMethodDescriptor m_L_takings.1.desc).map (fun d => d.parameters.length) = some 3 := ⟨by decide +kernel, zti 1162 (by decide +kernel) (by decide +kernel), zti 0 (by decide +kernel) (by decide +kernel), ⟨by decide +kernel, by decide +kernel⟩, by decide +kernel⟩
theorem ct_L_takings : Cond.static m_L_takings.1 ∈ zTB := zti 1161 (by decide +kernel) (by decide +kernel)
theorem ck_X8_init : plainName m_X8_init.1.cls = true ∧ Cond.code m_X8_init.1 m_X8_init.2.1 m_X8_init.2.2.1 m_X8_init.2.2.2.1 ∈ zTB ∧ Cond.initialized m_X8_init.1.cls ∈ zTB ∧ (m_X8_init.1.cls ≠ "java/lang/invoke/MethodHandle" ∧ m_X8_init.1.cls ≠ "java/lang/invoke/VarHandle") ∧ (parseMethodDescriptor m_X8_init.1.desc).map (fun d => d.parameters.length) = some 0 := ⟨by decide +kernel, zti 27 (by decide +kernel) (by decide +kernel), zti 1 (by decide +kernel) (by decide +kernel), ⟨by decide +kernel, by decide +kernel⟩, by decide +kernel⟩
theorem ck1_X8_init : Cond.instanceMethod m_X8_init.1 ∈ zTB := zti 26 (by decide +kernel) (by decide +kernel)
theorem ck_L_same : plainName m_L_same.1.cls = true ∧ Cond.code m_L_same.1 m_L_same.2.1 m_L_same.2.2.1 m_L_same.2.2.2.1 ∈ zTB ∧ Cond.initialized m_L_same.1.cls ∈ zTB ∧ (m_L_same.1.cls ≠ "java/lang/invoke/MethodHandle" ∧ m_L_same.1.cls ≠ "java/lang/invoke/VarHandle") ∧ (parseMethodDescriptor m_L_same.1.desc).map (fun d => d.parameters.length) = some 2 := ⟨by decide +kernel, zti 1041 (by decide +kernel) (by decide +kernel), zti 0 (by decide +kernel) (by decide +kernel), ⟨by decide +kernel, by decide +kernel⟩, by decide +kernel⟩
theorem ct_L_same : Cond.static m_L_same.1 ∈ zTB := zti 1040 (by decide +kernel) (by decide +kernel)
theorem ck_X8_undo : plainName m_X8_undo.1.cls = true ∧ Cond.code m_X8_undo.1 m_X8_undo.2.1 m_X8_undo.2.2.1 m_X8_undo.2.2.2.1 ∈ zTB ∧ Cond.initialized m_X8_undo.1.cls ∈ zTB ∧ (m_X8_undo.1.cls ≠ "java/lang/invoke/MethodHandle" ∧ m_X8_undo.1.cls ≠ "java/lang/invoke/VarHandle") ∧ (parseMethodDescriptor m_X8_undo.1.desc).map (fun d => d.parameters.length) = some 0 := ⟨by decide +kernel, zti 616 (by decide +kernel) (by decide +kernel), zti 1 (by decide +kernel) (by decide +kernel), ⟨by decide +kernel, by decide +kernel⟩, by decide +kernel⟩
theorem ck1_X8_undo : Cond.instanceMethod m_X8_undo.1 ∈ zTB := zti 614 (by decide +kernel) (by decide +kernel)
theorem ci_X8_undo : Cond.instanceMethod m_X8_undo.1 ∈ zTB ∧ Cond.selects m_X8_undo.1.cls m_X8_undo.1 m_X8_undo.1 ∈ zTB := ⟨ck1_X8_undo, zti 615 (by decide +kernel) (by decide +kernel)⟩
theorem ck_X8_back : plainName m_X8_back.1.cls = true ∧ Cond.code m_X8_back.1 m_X8_back.2.1 m_X8_back.2.2.1 m_X8_back.2.2.2.1 ∈ zTB ∧ Cond.initialized m_X8_back.1.cls ∈ zTB ∧ (m_X8_back.1.cls ≠ "java/lang/invoke/MethodHandle" ∧ m_X8_back.1.cls ≠ "java/lang/invoke/VarHandle") ∧ (parseMethodDescriptor m_X8_back.1.desc).map (fun d => d.parameters.length) = some 1 := ⟨by decide +kernel, zti 642 (by decide +kernel) (by decide +kernel), zti 1 (by decide +kernel) (by decide +kernel), ⟨by decide +kernel, by decide +kernel⟩, by decide +kernel⟩
theorem ck1_X8_back : Cond.instanceMethod m_X8_back.1 ∈ zTB := zti 640 (by decide +kernel) (by decide +kernel)
theorem ci_X8_back : Cond.instanceMethod m_X8_back.1 ∈ zTB ∧ Cond.selects m_X8_back.1.cls m_X8_back.1 m_X8_back.1 ∈ zTB := ⟨ck1_X8_back, zti 641 (by decide +kernel) (by decide +kernel)⟩
theorem ck_X8_keep : plainName m_X8_keep.1.cls = true ∧ Cond.code m_X8_keep.1 m_X8_keep.2.1 m_X8_keep.2.2.1 m_X8_keep.2.2.2.1 ∈ zTB ∧ Cond.initialized m_X8_keep.1.cls ∈ zTB ∧ (m_X8_keep.1.cls ≠ "java/lang/invoke/MethodHandle" ∧ m_X8_keep.1.cls ≠ "java/lang/invoke/VarHandle") ∧ (parseMethodDescriptor m_X8_keep.1.desc).map (fun d => d.parameters.length) = some 1 := ⟨by decide +kernel, zti 624 (by decide +kernel) (by decide +kernel), zti 1 (by decide +kernel) (by decide +kernel), ⟨by decide +kernel, by decide +kernel⟩, by decide +kernel⟩
theorem ck1_X8_keep : Cond.instanceMethod m_X8_keep.1 ∈ zTB := zti 622 (by decide +kernel) (by decide +kernel)
theorem ci_X8_keep : Cond.instanceMethod m_X8_keep.1 ∈ zTB ∧ Cond.selects m_X8_keep.1.cls m_X8_keep.1 m_X8_keep.1 ∈ zTB := ⟨ck1_X8_keep, zti 623 (by decide +kernel) (by decide +kernel)⟩
theorem ck_X8_close : plainName m_X8_close.1.cls = true ∧ Cond.code m_X8_close.1 m_X8_close.2.1 m_X8_close.2.2.1 m_X8_close.2.2.2.1 ∈ zTB ∧ Cond.initialized m_X8_close.1.cls ∈ zTB ∧ (m_X8_close.1.cls ≠ "java/lang/invoke/MethodHandle" ∧ m_X8_close.1.cls ≠ "java/lang/invoke/VarHandle") ∧ (parseMethodDescriptor m_X8_close.1.desc).map (fun d => d.parameters.length) = some 1 := ⟨by decide +kernel, zti 514 (by decide +kernel) (by decide +kernel), zti 1 (by decide +kernel) (by decide +kernel), ⟨by decide +kernel, by decide +kernel⟩, by decide +kernel⟩
theorem ck1_X8_close : Cond.instanceMethod m_X8_close.1 ∈ zTB := zti 512 (by decide +kernel) (by decide +kernel)
theorem ci_X8_close : Cond.instanceMethod m_X8_close.1 ∈ zTB ∧ Cond.selects m_X8_close.1.cls m_X8_close.1 m_X8_close.1 ∈ zTB := ⟨ck1_X8_close, zti 513 (by decide +kernel) (by decide +kernel)⟩
theorem ck_X9_some : plainName m_X9_some.1.cls = true ∧ Cond.code m_X9_some.1 m_X9_some.2.1 m_X9_some.2.2.1 m_X9_some.2.2.2.1 ∈ zTB ∧ Cond.initialized m_X9_some.1.cls ∈ zTB ∧ (m_X9_some.1.cls ≠ "java/lang/invoke/MethodHandle" ∧ m_X9_some.1.cls ≠ "java/lang/invoke/VarHandle") ∧ (parseMethodDescriptor m_X9_some.1.desc).map (fun d => d.parameters.length) = some 4 := ⟨by decide +kernel, zti 986 (by decide +kernel) (by decide +kernel), zti 10 (by decide +kernel) (by decide +kernel), ⟨by decide +kernel, by decide +kernel⟩, by decide +kernel⟩
theorem ct_X9_some : Cond.static m_X9_some.1 ∈ zTB := zti 985 (by decide +kernel) (by decide +kernel)
theorem ck_L_says : plainName m_L_says.1.cls = true ∧ Cond.code m_L_says.1 m_L_says.2.1 m_L_says.2.2.1 m_L_says.2.2.2.1 ∈ zTB ∧ Cond.initialized m_L_says.1.cls ∈ zTB ∧ (m_L_says.1.cls ≠ "java/lang/invoke/MethodHandle" ∧ m_L_says.1.cls ≠ "java/lang/invoke/VarHandle") ∧ (parseMethodDescriptor m_L_says.1.desc).map (fun d => d.parameters.length) = some 2 := ⟨by decide +kernel, zti 996 (by decide +kernel) (by decide +kernel), zti 0 (by decide +kernel) (by decide +kernel), ⟨by decide +kernel, by decide +kernel⟩, by decide +kernel⟩
theorem ct_L_says : Cond.static m_L_says.1 ∈ zTB := zti 995 (by decide +kernel) (by decide +kernel)
theorem ck_X8_tell : plainName m_X8_tell.1.cls = true ∧ Cond.code m_X8_tell.1 m_X8_tell.2.1 m_X8_tell.2.2.1 m_X8_tell.2.2.2.1 ∈ zTB ∧ Cond.initialized m_X8_tell.1.cls ∈ zTB ∧ (m_X8_tell.1.cls ≠ "java/lang/invoke/MethodHandle" ∧ m_X8_tell.1.cls ≠ "java/lang/invoke/VarHandle") ∧ (parseMethodDescriptor m_X8_tell.1.desc).map (fun d => d.parameters.length) = some 0 := ⟨by decide +kernel, zti 285 (by decide +kernel) (by decide +kernel), zti 1 (by decide +kernel) (by decide +kernel), ⟨by decide +kernel, by decide +kernel⟩, by decide +kernel⟩
theorem ck1_X8_tell : Cond.instanceMethod m_X8_tell.1 ∈ zTB := zti 283 (by decide +kernel) (by decide +kernel)
theorem ci_X8_tell : Cond.instanceMethod m_X8_tell.1 ∈ zTB ∧ Cond.selects m_X8_tell.1.cls m_X8_tell.1 m_X8_tell.1 ∈ zTB := ⟨ck1_X8_tell, zti 284 (by decide +kernel) (by decide +kernel)⟩
theorem ck_X8_come : plainName m_X8_come.1.cls = true ∧ Cond.code m_X8_come.1 m_X8_come.2.1 m_X8_come.2.2.1 m_X8_come.2.2.2.1 ∈ zTB ∧ Cond.initialized m_X8_come.1.cls ∈ zTB ∧ (m_X8_come.1.cls ≠ "java/lang/invoke/MethodHandle" ∧ m_X8_come.1.cls ≠ "java/lang/invoke/VarHandle") ∧ (parseMethodDescriptor m_X8_come.1.desc).map (fun d => d.parameters.length) = some 2 := ⟨by decide +kernel, zti 456 (by decide +kernel) (by decide +kernel), zti 1 (by decide +kernel) (by decide +kernel), ⟨by decide +kernel, by decide +kernel⟩, by decide +kernel⟩
theorem ck1_X8_come : Cond.instanceMethod m_X8_come.1 ∈ zTB := zti 454 (by decide +kernel) (by decide +kernel)
theorem ci_X8_come : Cond.instanceMethod m_X8_come.1 ∈ zTB ∧ Cond.selects m_X8_come.1.cls m_X8_come.1 m_X8_come.1 ∈ zTB := ⟨ck1_X8_come, zti 455 (by decide +kernel) (by decide +kernel)⟩
theorem ck_L_goesOn : plainName m_L_goesOn.1.cls = true ∧ Cond.code m_L_goesOn.1 m_L_goesOn.2.1 m_L_goesOn.2.2.1 m_L_goesOn.2.2.2.1 ∈ zTB ∧ Cond.initialized m_L_goesOn.1.cls ∈ zTB ∧ (m_L_goesOn.1.cls ≠ "java/lang/invoke/MethodHandle" ∧ m_L_goesOn.1.cls ≠ "java/lang/invoke/VarHandle") ∧ (parseMethodDescriptor m_L_goesOn.1.desc).map (fun d => d.parameters.length) = some 3 := ⟨by decide +kernel, zti 1174 (by decide +kernel) (by decide +kernel), zti 0 (by decide +kernel) (by decide +kernel), ⟨by decide +kernel, by decide +kernel⟩, by decide +kernel⟩
theorem ct_L_goesOn : Cond.static m_L_goesOn.1 ∈ zTB := zti 1173 (by decide +kernel) (by decide +kernel)
theorem ck_X8_add : plainName m_X8_add.1.cls = true ∧ Cond.code m_X8_add.1 m_X8_add.2.1 m_X8_add.2.2.1 m_X8_add.2.2.2.1 ∈ zTB ∧ Cond.initialized m_X8_add.1.cls ∈ zTB ∧ (m_X8_add.1.cls ≠ "java/lang/invoke/MethodHandle" ∧ m_X8_add.1.cls ≠ "java/lang/invoke/VarHandle") ∧ (parseMethodDescriptor m_X8_add.1.desc).map (fun d => d.parameters.length) = some 2 := ⟨by decide +kernel, zti 474 (by decide +kernel) (by decide +kernel), zti 1 (by decide +kernel) (by decide +kernel), ⟨by decide +kernel, by decide +kernel⟩, by decide +kernel⟩
theorem ck1_X8_add : Cond.instanceMethod m_X8_add.1 ∈ zTB := zti 472 (by decide +kernel) (by decide +kernel)
theorem ci_X8_add : Cond.instanceMethod m_X8_add.1 ∈ zTB ∧ Cond.selects m_X8_add.1.cls m_X8_add.1 m_X8_add.1 ∈ zTB := ⟨ck1_X8_add, zti 473 (by decide +kernel) (by decide +kernel)⟩
theorem ck_X8_say : plainName m_X8_say.1.cls = true ∧ Cond.code m_X8_say.1 m_X8_say.2.1 m_X8_say.2.2.1 m_X8_say.2.2.2.1 ∈ zTB ∧ Cond.initialized m_X8_say.1.cls ∈ zTB ∧ (m_X8_say.1.cls ≠ "java/lang/invoke/MethodHandle" ∧ m_X8_say.1.cls ≠ "java/lang/invoke/VarHandle") ∧ (parseMethodDescriptor m_X8_say.1.desc).map (fun d => d.parameters.length) = some 3 := ⟨by decide +kernel, zti 485 (by decide +kernel) (by decide +kernel), zti 1 (by decide +kernel) (by decide +kernel), ⟨by decide +kernel, by decide +kernel⟩, by decide +kernel⟩
theorem ck1_X8_say : Cond.instanceMethod m_X8_say.1 ∈ zTB := zti 483 (by decide +kernel) (by decide +kernel)
theorem ci_X8_say : Cond.instanceMethod m_X8_say.1 ∈ zTB ∧ Cond.selects m_X8_say.1.cls m_X8_say.1 m_X8_say.1 ∈ zTB := ⟨ck1_X8_say, zti 484 (by decide +kernel) (by decide +kernel)⟩
theorem ck_X8_leave : plainName m_X8_leave.1.cls = true ∧ Cond.code m_X8_leave.1 m_X8_leave.2.1 m_X8_leave.2.2.1 m_X8_leave.2.2.2.1 ∈ zTB ∧ Cond.initialized m_X8_leave.1.cls ∈ zTB ∧ (m_X8_leave.1.cls ≠ "java/lang/invoke/MethodHandle" ∧ m_X8_leave.1.cls ≠ "java/lang/invoke/VarHandle") ∧ (parseMethodDescriptor m_X8_leave.1.desc).map (fun d => d.parameters.length) = some 1 := ⟨by decide +kernel, zti 492 (by decide +kernel) (by decide +kernel), zti 1 (by decide +kernel) (by decide +kernel), ⟨by decide +kernel, by decide +kernel⟩, by decide +kernel⟩
theorem ck1_X8_leave : Cond.instanceMethod m_X8_leave.1 ∈ zTB := zti 490 (by decide +kernel) (by decide +kernel)
theorem ci_X8_leave : Cond.instanceMethod m_X8_leave.1 ∈ zTB ∧ Cond.selects m_X8_leave.1.cls m_X8_leave.1 m_X8_leave.1 ∈ zTB := ⟨ck1_X8_leave, zti 491 (by decide +kernel) (by decide +kernel)⟩
theorem ck_X8_fee : plainName m_X8_fee.1.cls = true ∧ Cond.code m_X8_fee.1 m_X8_fee.2.1 m_X8_fee.2.2.1 m_X8_fee.2.2.2.1 ∈ zTB ∧ Cond.initialized m_X8_fee.1.cls ∈ zTB ∧ (m_X8_fee.1.cls ≠ "java/lang/invoke/MethodHandle" ∧ m_X8_fee.1.cls ≠ "java/lang/invoke/VarHandle") ∧ (parseMethodDescriptor m_X8_fee.1.desc).map (fun d => d.parameters.length) = some 1 := ⟨by decide +kernel, zti 500 (by decide +kernel) (by decide +kernel), zti 1 (by decide +kernel) (by decide +kernel), ⟨by decide +kernel, by decide +kernel⟩, by decide +kernel⟩
theorem ck1_X8_fee : Cond.instanceMethod m_X8_fee.1 ∈ zTB := zti 498 (by decide +kernel) (by decide +kernel)
theorem ci_X8_fee : Cond.instanceMethod m_X8_fee.1 ∈ zTB ∧ Cond.selects m_X8_fee.1.cls m_X8_fee.1 m_X8_fee.1 ∈ zTB := ⟨ck1_X8_fee, zti 499 (by decide +kernel) (by decide +kernel)⟩
theorem ck_X8_law : plainName m_X8_law.1.cls = true ∧ Cond.code m_X8_law.1 m_X8_law.2.1 m_X8_law.2.2.1 m_X8_law.2.2.2.1 ∈ zTB ∧ Cond.initialized m_X8_law.1.cls ∈ zTB ∧ (m_X8_law.1.cls ≠ "java/lang/invoke/MethodHandle" ∧ m_X8_law.1.cls ≠ "java/lang/invoke/VarHandle") ∧ (parseMethodDescriptor m_X8_law.1.desc).map (fun d => d.parameters.length) = some 1 := ⟨by decide +kernel, zti 507 (by decide +kernel) (by decide +kernel), zti 1 (by decide +kernel) (by decide +kernel), ⟨by decide +kernel, by decide +kernel⟩, by decide +kernel⟩
theorem ck1_X8_law : Cond.instanceMethod m_X8_law.1 ∈ zTB := zti 505 (by decide +kernel) (by decide +kernel)
theorem ci_X8_law : Cond.instanceMethod m_X8_law.1 ∈ zTB ∧ Cond.selects m_X8_law.1.cls m_X8_law.1 m_X8_law.1 ∈ zTB := ⟨ck1_X8_law, zti 506 (by decide +kernel) (by decide +kernel)⟩
theorem ck_L_closes : plainName m_L_closes.1.cls = true ∧ Cond.code m_L_closes.1 m_L_closes.2.1 m_L_closes.2.2.1 m_L_closes.2.2.2.1 ∈ zTB ∧ Cond.initialized m_L_closes.1.cls ∈ zTB ∧ (m_L_closes.1.cls ≠ "java/lang/invoke/MethodHandle" ∧ m_L_closes.1.cls ≠ "java/lang/invoke/VarHandle") ∧ (parseMethodDescriptor m_L_closes.1.desc).map (fun d => d.parameters.length) = some 2 := ⟨by decide +kernel, zti 1113 (by decide +kernel) (by decide +kernel), zti 0 (by decide +kernel) (by decide +kernel), ⟨by decide +kernel, by decide +kernel⟩, by decide +kernel⟩
theorem ct_L_closes : Cond.static m_L_closes.1 ∈ zTB := zti 1112 (by decide +kernel) (by decide +kernel)
theorem cv0_30 : zCV "TradeHall$Book" 30 m_X1_gradeOf 1 1 := ⟨⟨ck_X1_gradeOf.1, ck_X1_gradeOf.2.1, ck_X1_gradeOf.2.2.1, ck_X1_gradeOf.2.2.2.1, ck_X1_gradeOf.2.2.2.2, Or.inl (zti 526 (by decide +kernel) (by decide +kernel))⟩, ci_X1_gradeOf.1, ci_X1_gradeOf.2, by decide, TX1, 13, rfl⟩
theorem cs0_34 : zCS "TradeHall$Book" 34 m_X8_bit 1 := ⟨⟨ck_X8_bit.1, ck_X8_bit.2.1, ck_X8_bit.2.2.1, ck_X8_bit.2.2.2.1, ck_X8_bit.2.2.2.2, Or.inr ⟨_, zni (w := .methodLinkNest "TradeHall$Book" 34 yX8_bit "TradeHall") 530 (by decide +kernel) (by decide +kernel)⟩⟩, ct_X8_bit⟩
theorem cv0_37 : zCV "TradeHall$Book" 37 m_X0_takeTrader 3 0 := ⟨⟨ck_X0_takeTrader.1, ck_X0_takeTrader.2.1, ck_X0_takeTrader.2.2.1, ck_X0_takeTrader.2.2.2.1, ck_X0_takeTrader.2.2.2.2, Or.inl (zti 531 (by decide +kernel) (by decide +kernel))⟩, ci_X0_takeTrader.1, ci_X0_takeTrader.2, by decide, TX0, 11, rfl⟩
theorem cv0_41 : zCV "TradeHall$Book" 41 m_X1_isSeller 1 1 := ⟨⟨ck_X1_isSeller.1, ck_X1_isSeller.2.1, ck_X1_isSeller.2.2.1, ck_X1_isSeller.2.2.2.1, ck_X1_isSeller.2.2.2.2, Or.inl (zti 535 (by decide +kernel) (by decide +kernel))⟩, ci_X1_isSeller.1, ci_X1_isSeller.2, by decide, TX1, 13, rfl⟩
theorem cv0_45 : zCV "TradeHall$Book" 45 m_X1_unitsOf 1 1 := ⟨⟨ck_X1_unitsOf.1, ck_X1_unitsOf.2.1, ck_X1_unitsOf.2.2.1, ck_X1_unitsOf.2.2.2.1, ck_X1_unitsOf.2.2.2.2, Or.inl (zti 536 (by decide +kernel) (by decide +kernel))⟩, ci_X1_unitsOf.1, ci_X1_unitsOf.2, by decide, TX1, 13, rfl⟩
theorem cv0_48 : zCV "TradeHall$Book" 48 m_X1_said 2 1 := ⟨⟨ck_X1_said.1, ck_X1_said.2.1, ck_X1_said.2.2.1, ck_X1_said.2.2.2.1, ck_X1_said.2.2.2.2, Or.inl (zti 537 (by decide +kernel) (by decide +kernel))⟩, ci_X1_said.1, ci_X1_said.2, by decide, TX1, 13, rfl⟩
theorem cm0_52 : zMn "TradeHall$Book" 52 := ⟨zti 538 (by decide +kernel) (by decide +kernel), zti 382 (by decide +kernel) (by decide +kernel), zti 11 (by decide +kernel) (by decide +kernel), zti 383 (by decide +kernel) (by decide +kernel)⟩
theorem cm0_57 : zMx "TradeHall$Book" 57 := ⟨zti 539 (by decide +kernel) (by decide +kernel), zti 540 (by decide +kernel) (by decide +kernel), zti 11 (by decide +kernel) (by decide +kernel), zti 541 (by decide +kernel) (by decide +kernel)⟩
theorem cs0_60 : zCS "TradeHall$Book" 60 m_X0_insert 3 := ⟨⟨ck_X0_insert.1, ck_X0_insert.2.1, ck_X0_insert.2.2.1, ck_X0_insert.2.2.2.1, ck_X0_insert.2.2.2.2, Or.inl (zti 542 (by decide +kernel) (by decide +kernel))⟩, ct_X0_insert⟩
theorem cv0_70 : zCV "TradeHall$Book" 70 m_X0_slotAt 2 0 := ⟨⟨ck_X0_slotAt.1, ck_X0_slotAt.2.1, ck_X0_slotAt.2.2.1, ck_X0_slotAt.2.2.2.1, ck_X0_slotAt.2.2.2.2, Or.inl (zti 578 (by decide +kernel) (by decide +kernel))⟩, ci_X0_slotAt.1, ci_X0_slotAt.2, by decide, TX0, 11, rfl⟩
theorem cv0_77 : zCV "TradeHall$Book" 77 m_X0_ask 1 0 := ⟨⟨ck_X0_ask.1, ck_X0_ask.2.1, ck_X0_ask.2.2.1, ck_X0_ask.2.2.2.1, ck_X0_ask.2.2.2.2, Or.inl (zti 553 (by decide +kernel) (by decide +kernel))⟩, ci_X0_ask.1, ci_X0_ask.2, by decide, TX0, 11, rfl⟩
theorem cv0_80 : zCV "TradeHall$Book" 80 m_X0_bid 1 0 := ⟨⟨ck_X0_bid.1, ck_X0_bid.2.1, ck_X0_bid.2.2.1, ck_X0_bid.2.2.2.1, ck_X0_bid.2.2.2.2, Or.inl (zti 549 (by decide +kernel) (by decide +kernel))⟩, ci_X0_bid.1, ci_X0_bid.2, by decide, TX0, 11, rfl⟩
theorem cv0_95 : zCV "TradeHall$Book" 95 m_X0_priceForAll 0 0 := ⟨⟨ck_X0_priceForAll.1, ck_X0_priceForAll.2.1, ck_X0_priceForAll.2.2.1, ck_X0_priceForAll.2.2.2.1, ck_X0_priceForAll.2.2.2.2, Or.inl (zti 557 (by decide +kernel) (by decide +kernel))⟩, ci_X0_priceForAll.1, ci_X0_priceForAll.2, by decide, TX0, 11, rfl⟩
theorem cv0_99 : zCV "TradeHall$Book" 99 m_X0_lastBid 0 0 := ⟨⟨ck_X0_lastBid.1, ck_X0_lastBid.2.1, ck_X0_lastBid.2.2.1, ck_X0_lastBid.2.2.2.1, ck_X0_lastBid.2.2.2.2, Or.inl (zti 561 (by decide +kernel) (by decide +kernel))⟩, ci_X0_lastBid.1, ci_X0_lastBid.2, by decide, TX0, 11, rfl⟩
theorem cv0_105 : zCV "TradeHall$Book" 105 m_X0_lastAsk 0 0 := ⟨⟨ck_X0_lastAsk.1, ck_X0_lastAsk.2.1, ck_X0_lastAsk.2.2.1, ck_X0_lastAsk.2.2.2.1, ck_X0_lastAsk.2.2.2.2, Or.inl (zti 565 (by decide +kernel) (by decide +kernel))⟩, ci_X0_lastAsk.1, ci_X0_lastAsk.2, by decide, TX0, 11, rfl⟩
theorem cv0_114 : zCV "TradeHall$Book" 114 m_X0_traderAt 2 0 := ⟨⟨ck_X0_traderAt.1, ck_X0_traderAt.2.1, ck_X0_traderAt.2.2.1, ck_X0_traderAt.2.2.2.1, ck_X0_traderAt.2.2.2.2, Or.inl (zti 574 (by decide +kernel) (by decide +kernel))⟩, ci_X0_traderAt.1, ci_X0_traderAt.2, by decide, TX0, 11, rfl⟩
theorem cv0_117 : zCV "TradeHall$Book" 117 m_X0_doneOf 2 0 := ⟨⟨ck_X0_doneOf.1, ck_X0_doneOf.2.1, ck_X0_doneOf.2.2.1, ck_X0_doneOf.2.2.2.1, ck_X0_doneOf.2.2.2.2, Or.inl (zti 586 (by decide +kernel) (by decide +kernel))⟩, ci_X0_doneOf.1, ci_X0_doneOf.2, by decide, TX0, 11, rfl⟩
theorem cv0_120 : zCV "TradeHall$Book" 120 m_X0_amountsDone 2 0 := ⟨⟨ck_X0_amountsDone.1, ck_X0_amountsDone.2.1, ck_X0_amountsDone.2.2.1, ck_X0_amountsDone.2.2.2.1, ck_X0_amountsDone.2.2.2.2, Or.inl (zti 587 (by decide +kernel) (by decide +kernel))⟩, ci_X0_amountsDone.1, ci_X0_amountsDone.2, by decide, TX0, 11, rfl⟩
theorem cv0_123 : zCV "TradeHall$Book" 123 m_X0_worthWithout 1 0 := ⟨⟨ck_X0_worthWithout.1, ck_X0_worthWithout.2.1, ck_X0_worthWithout.2.2.1, ck_X0_worthWithout.2.2.2.1, ck_X0_worthWithout.2.2.2.2, Or.inl (zti 595 (by decide +kernel) (by decide +kernel))⟩, ci_X0_worthWithout.1, ci_X0_worthWithout.2, by decide, TX0, 11, rfl⟩
theorem cv0_126 : zCV "TradeHall$Book" 126 m_X0_amount 2 0 := ⟨⟨ck_X0_amount.1, ck_X0_amount.2.1, ck_X0_amount.2.2.1, ck_X0_amount.2.2.2.1, ck_X0_amount.2.2.2.2, Or.inl (zti 591 (by decide +kernel) (by decide +kernel))⟩, ci_X0_amount.1, ci_X0_amount.2, by decide, TX0, 11, rfl⟩
theorem cm1_53 : zCp "TradeHall$Hall" 53 := ⟨zti 445 (by decide +kernel) (by decide +kernel), zti 447 (by decide +kernel) (by decide +kernel), zti 446 (by decide +kernel) (by decide +kernel), zti 18 (by decide +kernel) (by decide +kernel)⟩
theorem cv1_59 : zCV "TradeHall$Hall" 59 m_X1_has 1 1 := ⟨⟨ck_X1_has.1, ck_X1_has.2.1, ck_X1_has.2.2.1, ck_X1_has.2.2.2.1, ck_X1_has.2.2.2.2, Or.inl (zti 396 (by decide +kernel) (by decide +kernel))⟩, ci_X1_has.1, ci_X1_has.2, by decide, TX1, 13, rfl⟩
theorem cv1_63 : zCV "TradeHall$Hall" 63 m_X1_hasUnit 2 1 := ⟨⟨ck_X1_hasUnit.1, ck_X1_hasUnit.2.1, ck_X1_hasUnit.2.2.1, ck_X1_hasUnit.2.2.2.1, ck_X1_hasUnit.2.2.2.2, Or.inl (zti 400 (by decide +kernel) (by decide +kernel))⟩, ci_X1_hasUnit.1, ci_X1_hasUnit.2, by decide, TX1, 13, rfl⟩
theorem cv1_71 : zCV "TradeHall$Hall" 71 m_X1_isSeller 1 1 := ⟨⟨ck_X1_isSeller.1, ck_X1_isSeller.2.1, ck_X1_isSeller.2.2.1, ck_X1_isSeller.2.2.2.1, ck_X1_isSeller.2.2.2.2, Or.inl (zti 392 (by decide +kernel) (by decide +kernel))⟩, ci_X1_isSeller.1, ci_X1_isSeller.2, by decide, TX1, 13, rfl⟩
theorem cv1_67 : zCV "TradeHall$Hall" 67 m_X1_said 2 1 := ⟨⟨ck_X1_said.1, ck_X1_said.2.1, ck_X1_said.2.2.1, ck_X1_said.2.2.2.1, ck_X1_said.2.2.2.2, Or.inl (zti 404 (by decide +kernel) (by decide +kernel))⟩, ci_X1_said.1, ci_X1_said.2, by decide, TX1, 13, rfl⟩
theorem cs1_74 : zCS "TradeHall$Hall" 74 m_X1_inOrder 3 := ⟨⟨ck_X1_inOrder.1, ck_X1_inOrder.2.1, ck_X1_inOrder.2.2.1, ck_X1_inOrder.2.2.2.1, ck_X1_inOrder.2.2.2.2, Or.inl (zti 408 (by decide +kernel) (by decide +kernel))⟩, ct_X1_inOrder⟩
theorem cv1_78 : zCV "TradeHall$Hall" 78 m_X1_unitsOf 1 1 := ⟨⟨ck_X1_unitsOf.1, ck_X1_unitsOf.2.1, ck_X1_unitsOf.2.2.1, ck_X1_unitsOf.2.2.2.1, ck_X1_unitsOf.2.2.2.2, Or.inl (zti 415 (by decide +kernel) (by decide +kernel))⟩, ci_X1_unitsOf.1, ci_X1_unitsOf.2, by decide, TX1, 13, rfl⟩
theorem cv1_82 : zCV "TradeHall$Hall" 82 m_X1_setSaid 3 1 := ⟨⟨ck_X1_setSaid.1, ck_X1_setSaid.2.1, ck_X1_setSaid.2.2.1, ck_X1_setSaid.2.2.2.1, ck_X1_setSaid.2.2.2.2, Or.inl (zti 419 (by decide +kernel) (by decide +kernel))⟩, ci_X1_setSaid.1, ci_X1_setSaid.2, by decide, TX1, 13, rfl⟩
theorem cv1_86 : zCV "TradeHall$Hall" 86 m_X1_dropFirst 2 1 := ⟨⟨ck_X1_dropFirst.1, ck_X1_dropFirst.2.1, ck_X1_dropFirst.2.2.1, ck_X1_dropFirst.2.2.2.1, ck_X1_dropFirst.2.2.2.2, Or.inl (zti 603 (by decide +kernel) (by decide +kernel))⟩, ci_X1_dropFirst.1, ci_X1_dropFirst.2, by decide, TX1, 13, rfl⟩
theorem cm1_90 : zMx "TradeHall$Hall" 90 := ⟨zti 612 (by decide +kernel) (by decide +kernel), zti 540 (by decide +kernel) (by decide +kernel), zti 11 (by decide +kernel) (by decide +kernel), zti 541 (by decide +kernel) (by decide +kernel)⟩
theorem cv1_95 : zCV "TradeHall$Hall" 95 m_X1_purseOf 1 1 := ⟨⟨ck_X1_purseOf.1, ck_X1_purseOf.2.1, ck_X1_purseOf.2.2.1, ck_X1_purseOf.2.2.2.1, ck_X1_purseOf.2.2.2.2, Or.inl (zti 1106 (by decide +kernel) (by decide +kernel))⟩, ci_X1_purseOf.1, ci_X1_purseOf.2, by decide, TX1, 13, rfl⟩
theorem cv2_25 : zCV "TradeHall$History" 25 m_X2_at 1 2 := ⟨⟨ck_X2_at.1, ck_X2_at.2.1, ck_X2_at.2.2.1, ck_X2_at.2.2.2.1, ck_X2_at.2.2.2.2, Or.inl (zti 464 (by decide +kernel) (by decide +kernel))⟩, ci_X2_at.1, ci_X2_at.2, by decide, TX2, 3, rfl⟩
theorem cv2_29 : zCV "TradeHall$History" 29 m_X1_copyFrom 1 1 := ⟨⟨ck_X1_copyFrom.1, ck_X1_copyFrom.2.1, ck_X1_copyFrom.2.2.1, ck_X1_copyFrom.2.2.2.1, ck_X1_copyFrom.2.2.2.2, Or.inl (zti 468 (by decide +kernel) (by decide +kernel))⟩, ci_X1_copyFrom.1, ci_X1_copyFrom.2, by decide, TX1, 13, rfl⟩
theorem cm2_33 : zMn "TradeHall$History" 33 := ⟨zti 469 (by decide +kernel) (by decide +kernel), zti 382 (by decide +kernel) (by decide +kernel), zti 11 (by decide +kernel) (by decide +kernel), zti 383 (by decide +kernel) (by decide +kernel)⟩
theorem cv3_22 : zCV "TradeHall$Letters" 22 m_X1_isSeller 1 1 := ⟨⟨ck_X1_isSeller.1, ck_X1_isSeller.2.1, ck_X1_isSeller.2.2.1, ck_X1_isSeller.2.2.2.1, ck_X1_isSeller.2.2.2.2, Or.inl (zti 1065 (by decide +kernel) (by decide +kernel))⟩, ci_X1_isSeller.1, ci_X1_isSeller.2, by decide, TX1, 13, rfl⟩
theorem cv3_30 : zCV "TradeHall$Letters" 30 m_X3_beginPart 1 3 := ⟨⟨ck_X3_beginPart.1, ck_X3_beginPart.2.1, ck_X3_beginPart.2.2.1, ck_X3_beginPart.2.2.2.1, ck_X3_beginPart.2.2.2.2, Or.inl (zti 1068 (by decide +kernel) (by decide +kernel))⟩, ci_X3_beginPart.1, ci_X3_beginPart.2, by decide, TX3, 2, rfl⟩
theorem cv3_34 : zCV "TradeHall$Letters" 34 m_X1_gradeOf 1 1 := ⟨⟨ck_X1_gradeOf.1, ck_X1_gradeOf.2.1, ck_X1_gradeOf.2.2.1, ck_X1_gradeOf.2.2.2.1, ck_X1_gradeOf.2.2.2.2, Or.inl (zti 1082 (by decide +kernel) (by decide +kernel))⟩, ci_X1_gradeOf.1, ci_X1_gradeOf.2, by decide, TX1, 13, rfl⟩
theorem cv3_38 : zCV "TradeHall$Letters" 38 m_X3_putNumber 1 3 := ⟨⟨ck_X3_putNumber.1, ck_X3_putNumber.2.1, ck_X3_putNumber.2.2.1, ck_X3_putNumber.2.2.2.1, ck_X3_putNumber.2.2.2.2, Or.inl (zti 1083 (by decide +kernel) (by decide +kernel))⟩, ci_X3_putNumber.1, ci_X3_putNumber.2, by decide, TX3, 2, rfl⟩
theorem cv3_42 : zCV "TradeHall$Letters" 42 m_X1_unitsOf 1 1 := ⟨⟨ck_X1_unitsOf.1, ck_X1_unitsOf.2.1, ck_X1_unitsOf.2.2.1, ck_X1_unitsOf.2.2.2.1, ck_X1_unitsOf.2.2.2.2, Or.inl (zti 1087 (by decide +kernel) (by decide +kernel))⟩, ci_X1_unitsOf.1, ci_X1_unitsOf.2, by decide, TX1, 13, rfl⟩
theorem cv3_45 : zCV "TradeHall$Letters" 45 m_X1_said 2 1 := ⟨⟨ck_X1_said.1, ck_X1_said.2.1, ck_X1_said.2.2.1, ck_X1_said.2.2.2.1, ck_X1_said.2.2.2.2, Or.inl (zti 1088 (by decide +kernel) (by decide +kernel))⟩, ci_X1_said.1, ci_X1_said.2, by decide, TX1, 13, rfl⟩
theorem cv3_57 : zCV "TradeHall$Letters" 57 m_X3_put 1 3 := ⟨⟨ck_X3_put.1, ck_X3_put.2.1, ck_X3_put.2.2.1, ck_X3_put.2.2.2.1, ck_X3_put.2.2.2.2, Or.inl (zti 1072 (by decide +kernel) (by decide +kernel))⟩, ci_X3_put.1, ci_X3_put.2, by decide, TX3, 2, rfl⟩
theorem cs3_60 : zCS "TradeHall$Letters" 60 m_X8_lawWord 1 := ⟨⟨ck_X8_lawWord.1, ck_X8_lawWord.2.1, ck_X8_lawWord.2.2.1, ck_X8_lawWord.2.2.2.1, ck_X8_lawWord.2.2.2.2, Or.inr ⟨_, zni (w := .methodLinkNest "TradeHall$Letters" 60 yX8_lawWord "TradeHall") 1091 (by decide +kernel) (by decide +kernel)⟩⟩, ct_X8_lawWord⟩
theorem cv3_64 : zCV "TradeHall$Letters" 64 m_X3_putWord 1 3 := ⟨⟨ck_X3_putWord.1, ck_X3_putWord.2.1, ck_X3_putWord.2.2.1, ck_X3_putWord.2.2.2.1, ck_X3_putWord.2.2.2.2, Or.inl (zti 1076 (by decide +kernel) (by decide +kernel))⟩, ci_X3_putWord.1, ci_X3_putWord.2, by decide, TX3, 2, rfl⟩
theorem ct3_67 : zCB "TradeHall$Letters" 67 m_J0_length_8abf5 0 ∧ Cond.instanceMethod m_J0_length_8abf5.1 ∈ zTB ∧ Cond.selects m_J0_length_8abf5.1.cls m_J0_length_8abf5.1 m_J0_length_8abf5.1 ∈ zTB ∧ m_J0_length_8abf5.1.cls = "java/lang/String" := ⟨⟨ck_J0_length_8abf5.1, ck_J0_length_8abf5.2.1, ck_J0_length_8abf5.2.2.1, ck_J0_length_8abf5.2.2.2.1, ck_J0_length_8abf5.2.2.2.2, Or.inl (zti 1080 (by decide +kernel) (by decide +kernel))⟩, ci_J0_length_8abf5.1, ci_J0_length_8abf5.2, rfl⟩
theorem cv3_67 : zCV "TradeHall$Letters" 67 m_J0_length_8abf5 0 66 := ⟨ct3_67.1, ci_J0_length_8abf5.1, ci_J0_length_8abf5.2, by decide, TJ0, 4, rfl⟩
theorem ct3_73 : zCB "TradeHall$Letters" 73 m_J0_charAt_5068e 1 ∧ Cond.instanceMethod m_J0_charAt_5068e.1 ∈ zTB ∧ Cond.selects m_J0_charAt_5068e.1.cls m_J0_charAt_5068e.1 m_J0_charAt_5068e.1 ∈ zTB ∧ m_J0_charAt_5068e.1.cls = "java/lang/String" := ⟨⟨ck_J0_charAt_5068e.1, ck_J0_charAt_5068e.2.1, ck_J0_charAt_5068e.2.2.1, ck_J0_charAt_5068e.2.2.2.1, ck_J0_charAt_5068e.2.2.2.2, Or.inl (zti 1081 (by decide +kernel) (by decide +kernel))⟩, ci_J0_charAt_5068e.1, ci_J0_charAt_5068e.2, rfl⟩
theorem cv3_73 : zCV "TradeHall$Letters" 73 m_J0_charAt_5068e 1 66 := ⟨ct3_73.1, ci_J0_charAt_5068e.1, ci_J0_charAt_5068e.2, by decide, TJ0, 4, rfl⟩
theorem cs6_22 : zCS "TradeHall$Shelves" 22 m_X8_bit 1 := ⟨⟨ck_X8_bit.1, ck_X8_bit.2.1, ck_X8_bit.2.2.1, ck_X8_bit.2.2.2.1, ck_X8_bit.2.2.2.2, Or.inr ⟨_, zni (w := .methodLinkNest "TradeHall$Shelves" 22 yX8_bit "TradeHall") 638 (by decide +kernel) (by decide +kernel)⟩⟩, ct_X8_bit⟩
theorem cv6_26 : zCV "TradeHall$Shelves" 26 m_X6_at 1 6 := ⟨⟨ck_X6_at.1, ck_X6_at.2.1, ck_X6_at.2.2.1, ck_X6_at.2.2.2.1, ck_X6_at.2.2.2.2, Or.inl (zti 632 (by decide +kernel) (by decide +kernel))⟩, ci_X6_at.1, ci_X6_at.2, by decide, TX6, 2, rfl⟩
theorem cv6_30 : zCV "TradeHall$Shelves" 30 m_X1_copyFrom 1 1 := ⟨⟨ck_X1_copyFrom.1, ck_X1_copyFrom.2.1, ck_X1_copyFrom.2.2.1, ck_X1_copyFrom.2.2.2.1, ck_X1_copyFrom.2.2.2.2, Or.inl (zti 637 (by decide +kernel) (by decide +kernel))⟩, ci_X1_copyFrom.1, ci_X1_copyFrom.2, by decide, TX1, 13, rfl⟩
theorem cs6_34 : zCS "TradeHall$Shelves" 34 m_X8_isShelf 1 := ⟨⟨ck_X8_isShelf.1, ck_X8_isShelf.2.1, ck_X8_isShelf.2.2.1, ck_X8_isShelf.2.2.2.1, ck_X8_isShelf.2.2.2.2, Or.inr ⟨_, zni (w := .methodLinkNest "TradeHall$Shelves" 34 yX8_isShelf "TradeHall") 636 (by decide +kernel) (by decide +kernel)⟩⟩, ct_X8_isShelf⟩
theorem cv7_26 : zCV "TradeHall$Tape" 26 m_X1_clear 0 1 := ⟨⟨ck_X1_clear.1, ck_X1_clear.2.1, ck_X1_clear.2.2.1, ck_X1_clear.2.2.2.1, ck_X1_clear.2.2.2.2, Or.inl (zti 290 (by decide +kernel) (by decide +kernel))⟩, ci_X1_clear.1, ci_X1_clear.2, by decide, TX1, 13, rfl⟩
theorem cv7_42 : zCV "TradeHall$Tape" 42 m_X7_skipBlanks 0 7 := ⟨⟨ck_X7_skipBlanks.1, ck_X7_skipBlanks.2.1, ck_X7_skipBlanks.2.2.1, ck_X7_skipBlanks.2.2.2.1, ck_X7_skipBlanks.2.2.2.2, Or.inl (zti 294 (by decide +kernel) (by decide +kernel))⟩, ci_X7_skipBlanks.1, ci_X7_skipBlanks.2, by decide, TX7, 7, rfl⟩
theorem cv7_45 : zCV "TradeHall$Tape" 45 m_X7_readPart 0 7 := ⟨⟨ck_X7_readPart.1, ck_X7_readPart.2.1, ck_X7_readPart.2.2.1, ck_X7_readPart.2.2.2.1, ck_X7_readPart.2.2.2.2, Or.inl (zti 302 (by decide +kernel) (by decide +kernel))⟩, ci_X7_readPart.1, ci_X7_readPart.2, by decide, TX7, 7, rfl⟩
theorem cv7_48 : zCV "TradeHall$Tape" 48 m_X7_byteAt 1 7 := ⟨⟨ck_X7_byteAt.1, ck_X7_byteAt.2.1, ck_X7_byteAt.2.2.1, ck_X7_byteAt.2.2.2.1, ck_X7_byteAt.2.2.2.2, Or.inl (zti 298 (by decide +kernel) (by decide +kernel))⟩, ci_X7_byteAt.1, ci_X7_byteAt.2, by decide, TX7, 7, rfl⟩
theorem cv7_52 : zCV "TradeHall$Tape" 52 m_X7_note 2 7 := ⟨⟨ck_X7_note.1, ck_X7_note.2.1, ck_X7_note.2.2.1, ck_X7_note.2.2.2.1, ck_X7_note.2.2.2.2, Or.inl (zti 370 (by decide +kernel) (by decide +kernel))⟩, ci_X7_note.1, ci_X7_note.2, by decide, TX7, 7, rfl⟩
theorem cv7_56 : zCV "TradeHall$Tape" 56 m_X7_skipWord 0 7 := ⟨⟨ck_X7_skipWord.1, ck_X7_skipWord.2.1, ck_X7_skipWord.2.2.1, ck_X7_skipWord.2.2.2.1, ck_X7_skipWord.2.2.2.2, Or.inl (zti 306 (by decide +kernel) (by decide +kernel))⟩, ci_X7_skipWord.1, ci_X7_skipWord.2, by decide, TX7, 7, rfl⟩
theorem cv7_61 : zCV "TradeHall$Tape" 61 m_X7_isWord 2 7 := ⟨⟨ck_X7_isWord.1, ck_X7_isWord.2.1, ck_X7_isWord.2.2.1, ck_X7_isWord.2.2.2.1, ck_X7_isWord.2.2.2.2, Or.inl (zti 314 (by decide +kernel) (by decide +kernel))⟩, ci_X7_isWord.1, ci_X7_isWord.2, by decide, TX7, 7, rfl⟩
theorem cv7_65 : zCV "TradeHall$Tape" 65 m_X7_readTrader 2 7 := ⟨⟨ck_X7_readTrader.1, ck_X7_readTrader.2.1, ck_X7_readTrader.2.2.1, ck_X7_readTrader.2.2.2.1, ck_X7_readTrader.2.2.2.2, Or.inl (zti 366 (by decide +kernel) (by decide +kernel))⟩, ci_X7_readTrader.1, ci_X7_readTrader.2, by decide, TX7, 7, rfl⟩
theorem cv7_73 : zCV "TradeHall$Tape" 73 m_X7_readFee 1 7 := ⟨⟨ck_X7_readFee.1, ck_X7_readFee.2.1, ck_X7_readFee.2.2.1, ck_X7_readFee.2.2.2.1, ck_X7_readFee.2.2.2.2, Or.inl (zti 425 (by decide +kernel) (by decide +kernel))⟩, ci_X7_readFee.1, ci_X7_readFee.2, by decide, TX7, 7, rfl⟩
theorem cv7_79 : zCV "TradeHall$Tape" 79 m_X7_readLaw 1 7 := ⟨⟨ck_X7_readLaw.1, ck_X7_readLaw.2.1, ck_X7_readLaw.2.2.1, ck_X7_readLaw.2.2.2.1, ck_X7_readLaw.2.2.2.2, Or.inl (zti 430 (by decide +kernel) (by decide +kernel))⟩, ci_X7_readLaw.1, ci_X7_readLaw.2, by decide, TX7, 7, rfl⟩
theorem cv7_83 : zCV "TradeHall$Tape" 83 m_X7_readNumber 1 7 := ⟨⟨ck_X7_readNumber.1, ck_X7_readNumber.2.1, ck_X7_readNumber.2.2.1, ck_X7_readNumber.2.2.2.1, ck_X7_readNumber.2.2.2.2, Or.inl (zti 374 (by decide +kernel) (by decide +kernel))⟩, ci_X7_readNumber.1, ci_X7_readNumber.2, by decide, TX7, 7, rfl⟩
theorem cv7_86 : zCV "TradeHall$Tape" 86 m_X1_enter 2 1 := ⟨⟨ck_X1_enter.1, ck_X1_enter.2.1, ck_X1_enter.2.2.1, ck_X1_enter.2.2.2.1, ck_X1_enter.2.2.2.2, Or.inl (zti 384 (by decide +kernel) (by decide +kernel))⟩, ci_X1_enter.1, ci_X1_enter.2, by decide, TX1, 13, rfl⟩
theorem cs7_90 : zCS "TradeHall$Tape" 90 m_X7_isDigit 1 := ⟨⟨ck_X7_isDigit.1, ck_X7_isDigit.2.1, ck_X7_isDigit.2.2.1, ck_X7_isDigit.2.2.2.1, ck_X7_isDigit.2.2.2.2, Or.inl (zti 378 (by decide +kernel) (by decide +kernel))⟩, ct_X7_isDigit⟩
theorem cv7_94 : zCV "TradeHall$Tape" 94 m_X1_fits 3 1 := ⟨⟨ck_X1_fits.1, ck_X1_fits.2.1, ck_X1_fits.2.2.1, ck_X1_fits.2.2.2.1, ck_X1_fits.2.2.2.2, Or.inl (zti 388 (by decide +kernel) (by decide +kernel))⟩, ci_X1_fits.1, ci_X1_fits.2, by decide, TX1, 13, rfl⟩
theorem cv7_98 : zCV "TradeHall$Tape" 98 m_X1_append 2 1 := ⟨⟨ck_X1_append.1, ck_X1_append.2.1, ck_X1_append.2.2.1, ck_X1_append.2.2.2.1, ck_X1_append.2.2.2.2, Or.inl (zti 411 (by decide +kernel) (by decide +kernel))⟩, ci_X1_append.1, ci_X1_append.2, by decide, TX1, 13, rfl⟩
theorem cs7_104 : zCS "TradeHall$Tape" 104 m_X8_lawWord 1 := ⟨⟨ck_X8_lawWord.1, ck_X8_lawWord.2.1, ck_X8_lawWord.2.2.1, ck_X8_lawWord.2.2.2.1, ck_X8_lawWord.2.2.2.2, Or.inr ⟨_, zni (w := .methodLinkNest "TradeHall$Tape" 104 yX8_lawWord "TradeHall") 434 (by decide +kernel) (by decide +kernel)⟩⟩, ct_X8_lawWord⟩
theorem cm7_110 : zMn "TradeHall$Tape" 110 := ⟨zti 381 (by decide +kernel) (by decide +kernel), zti 382 (by decide +kernel) (by decide +kernel), zti 11 (by decide +kernel) (by decide +kernel), zti 383 (by decide +kernel) (by decide +kernel)⟩
theorem cs7_115 : zCS "TradeHall$Tape" 115 m_X7_isSmallLetter 1 := ⟨⟨ck_X7_isSmallLetter.1, ck_X7_isSmallLetter.2.1, ck_X7_isSmallLetter.2.2.1, ck_X7_isSmallLetter.2.2.2.1, ck_X7_isSmallLetter.2.2.2.2, Or.inl (zti 310 (by decide +kernel) (by decide +kernel))⟩, ct_X7_isSmallLetter⟩
theorem ct7_118 : zCB "TradeHall$Tape" 118 m_J0_length_8abf5 0 ∧ Cond.instanceMethod m_J0_length_8abf5.1 ∈ zTB ∧ Cond.selects m_J0_length_8abf5.1.cls m_J0_length_8abf5.1 m_J0_length_8abf5.1 ∈ zTB ∧ m_J0_length_8abf5.1.cls = "java/lang/String" := ⟨⟨ck_J0_length_8abf5.1, ck_J0_length_8abf5.2.1, ck_J0_length_8abf5.2.2.1, ck_J0_length_8abf5.2.2.2.1, ck_J0_length_8abf5.2.2.2.2, Or.inl (zti 318 (by decide +kernel) (by decide +kernel))⟩, ci_J0_length_8abf5.1, ci_J0_length_8abf5.2, rfl⟩
theorem cv7_118 : zCV "TradeHall$Tape" 118 m_J0_length_8abf5 0 66 := ⟨ct7_118.1, ci_J0_length_8abf5.1, ci_J0_length_8abf5.2, by decide, TJ0, 4, rfl⟩
theorem ct7_124 : zCB "TradeHall$Tape" 124 m_J0_charAt_5068e 1 ∧ Cond.instanceMethod m_J0_charAt_5068e.1 ∈ zTB ∧ Cond.selects m_J0_charAt_5068e.1.cls m_J0_charAt_5068e.1 m_J0_charAt_5068e.1 ∈ zTB ∧ m_J0_charAt_5068e.1.cls = "java/lang/String" := ⟨⟨ck_J0_charAt_5068e.1, ck_J0_charAt_5068e.2.1, ck_J0_charAt_5068e.2.2.1, ck_J0_charAt_5068e.2.2.2.1, ck_J0_charAt_5068e.2.2.2.2, Or.inl (zti 328 (by decide +kernel) (by decide +kernel))⟩, ci_J0_charAt_5068e.1, ci_J0_charAt_5068e.2, rfl⟩
theorem cv7_124 : zCV "TradeHall$Tape" 124 m_J0_charAt_5068e 1 66 := ⟨ct7_124.1, ci_J0_charAt_5068e.1, ci_J0_charAt_5068e.2, by decide, TJ0, 4, rfl⟩
theorem cv8_80 : zCV "TradeHall" 80 m_X7_append 1 7 := ⟨⟨ck_X7_append.1, ck_X7_append.2.1, ck_X7_append.2.2.1, ck_X7_append.2.2.2.1, ck_X7_append.2.2.2.2, Or.inl (zti 1031 (by decide +kernel) (by decide +kernel))⟩, ci_X7_append.1, ci_X7_append.2, by decide, TX7, 7, rfl⟩
theorem cv8_84 : zCV "TradeHall" 84 m_X7_read 0 7 := ⟨⟨ck_X7_read.1, ck_X7_read.2.1, ck_X7_read.2.2.1, ck_X7_read.2.2.2.1, ck_X7_read.2.2.2.2, Or.inl (zti 286 (by decide +kernel) (by decide +kernel))⟩, ci_X7_read.1, ci_X7_read.2, by decide, TX7, 7, rfl⟩
theorem cv8_91 : zCV "TradeHall" 91 m_X1_copyFrom 1 1 := ⟨⟨ck_X1_copyFrom.1, ck_X1_copyFrom.2.1, ck_X1_copyFrom.2.2.1, ck_X1_copyFrom.2.2.2.1, ck_X1_copyFrom.2.2.2.2, Or.inl (zti 441 (by decide +kernel) (by decide +kernel))⟩, ci_X1_copyFrom.1, ci_X1_copyFrom.2, by decide, TX1, 13, rfl⟩
theorem cv8_95 : zCV "TradeHall" 95 m_X2_forget 0 2 := ⟨⟨ck_X2_forget.1, ck_X2_forget.2.1, ck_X2_forget.2.2.1, ck_X2_forget.2.2.2.1, ck_X2_forget.2.2.2.2, Or.inl (zti 448 (by decide +kernel) (by decide +kernel))⟩, ci_X2_forget.1, ci_X2_forget.2, by decide, TX2, 3, rfl⟩
theorem cs8_99 : zCS "TradeHall" 99 m_X8_isGrade 1 := ⟨⟨ck_X8_isGrade.1, ck_X8_isGrade.2.1, ck_X8_isGrade.2.2.1, ck_X8_isGrade.2.2.2.1, ck_X8_isGrade.2.2.2.2, Or.inl (zti 457 (by decide +kernel) (by decide +kernel))⟩, ct_X8_isGrade⟩
theorem cv8_103 : zCV "TradeHall" 103 m_X2_remember 1 2 := ⟨⟨ck_X2_remember.1, ck_X2_remember.2.1, ck_X2_remember.2.2.1, ck_X2_remember.2.2.2.1, ck_X2_remember.2.2.2.2, Or.inl (zti 460 (by decide +kernel) (by decide +kernel))⟩, ci_X2_remember.1, ci_X2_remember.2, by decide, TX2, 3, rfl⟩
theorem cv8_106 : zCV "TradeHall" 106 m_X1_enter 2 1 := ⟨⟨ck_X1_enter.1, ck_X1_enter.2.1, ck_X1_enter.2.2.1, ck_X1_enter.2.2.2.1, ck_X1_enter.2.2.2.2, Or.inl (zti 470 (by decide +kernel) (by decide +kernel))⟩, ci_X1_enter.1, ci_X1_enter.2, by decide, TX1, 13, rfl⟩
theorem cv8_110 : zCV "TradeHall" 110 m_X1_has 1 1 := ⟨⟨ck_X1_has.1, ck_X1_has.2.1, ck_X1_has.2.2.1, ck_X1_has.2.2.2.1, ck_X1_has.2.2.2.2, Or.inl (zti 475 (by decide +kernel) (by decide +kernel))⟩, ci_X1_has.1, ci_X1_has.2, by decide, TX1, 13, rfl⟩
theorem cs8_113 : zCS "TradeHall" 113 m_X8_isValue 1 := ⟨⟨ck_X8_isValue.1, ck_X8_isValue.2.1, ck_X8_isValue.2.2.1, ck_X8_isValue.2.2.2.1, ck_X8_isValue.2.2.2.2, Or.inl (zti 476 (by decide +kernel) (by decide +kernel))⟩, ct_X8_isValue⟩
theorem cv8_116 : zCV "TradeHall" 116 m_X1_unitsOf 1 1 := ⟨⟨ck_X1_unitsOf.1, ck_X1_unitsOf.2.1, ck_X1_unitsOf.2.2.1, ck_X1_unitsOf.2.2.2.1, ck_X1_unitsOf.2.2.2.2, Or.inl (zti 479 (by decide +kernel) (by decide +kernel))⟩, ci_X1_unitsOf.1, ci_X1_unitsOf.2, by decide, TX1, 13, rfl⟩
theorem cv8_120 : zCV "TradeHall" 120 m_X1_fits 3 1 := ⟨⟨ck_X1_fits.1, ck_X1_fits.2.1, ck_X1_fits.2.2.1, ck_X1_fits.2.2.2.1, ck_X1_fits.2.2.2.2, Or.inl (zti 480 (by decide +kernel) (by decide +kernel))⟩, ci_X1_fits.1, ci_X1_fits.2, by decide, TX1, 13, rfl⟩
theorem cv8_124 : zCV "TradeHall" 124 m_X1_append 2 1 := ⟨⟨ck_X1_append.1, ck_X1_append.2.1, ck_X1_append.2.2.1, ck_X1_append.2.2.2.1, ck_X1_append.2.2.2.2, Or.inl (zti 481 (by decide +kernel) (by decide +kernel))⟩, ci_X1_append.1, ci_X1_append.2, by decide, TX1, 13, rfl⟩
theorem cv8_127 : zCV "TradeHall" 127 m_X1_hasUnit 2 1 := ⟨⟨ck_X1_hasUnit.1, ck_X1_hasUnit.2.1, ck_X1_hasUnit.2.2.1, ck_X1_hasUnit.2.2.2.1, ck_X1_hasUnit.2.2.2.2, Or.inl (zti 486 (by decide +kernel) (by decide +kernel))⟩, ci_X1_hasUnit.1, ci_X1_hasUnit.2, by decide, TX1, 13, rfl⟩
theorem cv8_131 : zCV "TradeHall" 131 m_X1_said 2 1 := ⟨⟨ck_X1_said.1, ck_X1_said.2.1, ck_X1_said.2.2.1, ck_X1_said.2.2.2.1, ck_X1_said.2.2.2.2, Or.inl (zti 487 (by decide +kernel) (by decide +kernel))⟩, ci_X1_said.1, ci_X1_said.2, by decide, TX1, 13, rfl⟩
theorem cv8_134 : zCV "TradeHall" 134 m_X1_setSaid 3 1 := ⟨⟨ck_X1_setSaid.1, ck_X1_setSaid.2.1, ck_X1_setSaid.2.2.1, ck_X1_setSaid.2.2.2.1, ck_X1_setSaid.2.2.2.2, Or.inl (zti 488 (by decide +kernel) (by decide +kernel))⟩, ci_X1_setSaid.1, ci_X1_setSaid.2, by decide, TX1, 13, rfl⟩
theorem cv8_138 : zCV "TradeHall" 138 m_X1_dropFirst 2 1 := ⟨⟨ck_X1_dropFirst.1, ck_X1_dropFirst.2.1, ck_X1_dropFirst.2.2.1, ck_X1_dropFirst.2.2.2.1, ck_X1_dropFirst.2.2.2.2, Or.inl (zti 493 (by decide +kernel) (by decide +kernel))⟩, ci_X1_dropFirst.1, ci_X1_dropFirst.2, by decide, TX1, 13, rfl⟩
theorem cs8_142 : zCS "TradeHall" 142 m_X8_isFee 1 := ⟨⟨ck_X8_isFee.1, ck_X8_isFee.2.1, ck_X8_isFee.2.2.1, ck_X8_isFee.2.2.2.1, ck_X8_isFee.2.2.2.2, Or.inl (zti 501 (by decide +kernel) (by decide +kernel))⟩, ct_X8_isFee⟩
theorem cs8_148 : zCS "TradeHall" 148 m_X8_isLaw 1 := ⟨⟨ck_X8_isLaw.1, ck_X8_isLaw.2.1, ck_X8_isLaw.2.2.1, ck_X8_isLaw.2.2.2.1, ck_X8_isLaw.2.2.2.2, Or.inl (zti 508 (by decide +kernel) (by decide +kernel))⟩, ct_X8_isLaw⟩
theorem cv8_154 : zCV "TradeHall" 154 m_X8_settleGrade 1 8 := ⟨⟨ck_X8_settleGrade.1, ck_X8_settleGrade.2.1, ck_X8_settleGrade.2.2.1, ck_X8_settleGrade.2.2.2.1, ck_X8_settleGrade.2.2.2.2, Or.inl (zti 515 (by decide +kernel) (by decide +kernel))⟩, ci_X8_settleGrade.1, ci_X8_settleGrade.2, by decide, TX8, 11, rfl⟩
theorem cv8_160 : zCV "TradeHall" 160 m_X1_isSeller 1 1 := ⟨⟨ck_X1_isSeller.1, ck_X1_isSeller.2.1, ck_X1_isSeller.2.2.1, ck_X1_isSeller.2.2.2.1, ck_X1_isSeller.2.2.2.2, Or.inl (zti 569 (by decide +kernel) (by decide +kernel))⟩, ci_X1_isSeller.1, ci_X1_isSeller.2, by decide, TX1, 13, rfl⟩
theorem cv8_163 : zCV "TradeHall" 163 m_X0_doneOf 2 0 := ⟨⟨ck_X0_doneOf.1, ck_X0_doneOf.2.1, ck_X0_doneOf.2.2.1, ck_X0_doneOf.2.2.2.1, ck_X0_doneOf.2.2.2.2, Or.inl (zti 570 (by decide +kernel) (by decide +kernel))⟩, ci_X0_doneOf.1, ci_X0_doneOf.2, by decide, TX0, 11, rfl⟩
theorem cv8_166 : zCV "TradeHall" 166 m_X0_moneyOf 2 0 := ⟨⟨ck_X0_moneyOf.1, ck_X0_moneyOf.2.1, ck_X0_moneyOf.2.2.1, ck_X0_moneyOf.2.2.2.1, ck_X0_moneyOf.2.2.2.2, Or.inl (zti 582 (by decide +kernel) (by decide +kernel))⟩, ci_X0_moneyOf.1, ci_X0_moneyOf.2, by decide, TX0, 11, rfl⟩
theorem cv8_169 : zCV "TradeHall" 169 m_X1_trade 3 1 := ⟨⟨ck_X1_trade.1, ck_X1_trade.2.1, ck_X1_trade.2.2.1, ck_X1_trade.2.2.2.1, ck_X1_trade.2.2.2.2, Or.inl (zti 599 (by decide +kernel) (by decide +kernel))⟩, ci_X1_trade.1, ci_X1_trade.2, by decide, TX1, 13, rfl⟩
theorem cv8_172 : zCV "TradeHall" 172 m_X0_takings 0 0 := ⟨⟨ck_X0_takings.1, ck_X0_takings.2.1, ck_X0_takings.2.2.1, ck_X0_takings.2.2.2.1, ck_X0_takings.2.2.2.2, Or.inl (zti 604 (by decide +kernel) (by decide +kernel))⟩, ci_X0_takings.1, ci_X0_takings.2, by decide, TX0, 11, rfl⟩
theorem cv8_175 : zCV "TradeHall" 175 m_X1_noteClose 2 1 := ⟨⟨ck_X1_noteClose.1, ck_X1_noteClose.2.1, ck_X1_noteClose.2.2.1, ck_X1_noteClose.2.2.2.1, ck_X1_noteClose.2.2.2.2, Or.inl (zti 608 (by decide +kernel) (by decide +kernel))⟩, ci_X1_noteClose.1, ci_X1_noteClose.2, by decide, TX1, 13, rfl⟩
theorem cv8_178 : zCV "TradeHall" 178 m_X2_takeBack 1 2 := ⟨⟨ck_X2_takeBack.1, ck_X2_takeBack.2.1, ck_X2_takeBack.2.2.1, ck_X2_takeBack.2.2.2.1, ck_X2_takeBack.2.2.2.2, Or.inl (zti 617 (by decide +kernel) (by decide +kernel))⟩, ci_X2_takeBack.1, ci_X2_takeBack.2, by decide, TX2, 3, rfl⟩
theorem cs8_182 : zCS "TradeHall" 182 m_X8_isShelf 1 := ⟨⟨ck_X8_isShelf.1, ck_X8_isShelf.2.1, ck_X8_isShelf.2.2.1, ck_X8_isShelf.2.2.2.1, ck_X8_isShelf.2.2.2.2, Or.inl (zti 625 (by decide +kernel) (by decide +kernel))⟩, ct_X8_isShelf⟩
theorem cv8_185 : zCV "TradeHall" 185 m_X6_put 2 6 := ⟨⟨ck_X6_put.1, ck_X6_put.2.1, ck_X6_put.2.2.1, ck_X6_put.2.2.2.1, ck_X6_put.2.2.2.2, Or.inl (zti 628 (by decide +kernel) (by decide +kernel))⟩, ci_X6_put.1, ci_X6_put.2, by decide, TX6, 2, rfl⟩
theorem cv8_189 : zCV "TradeHall" 189 m_X6_holds 1 6 := ⟨⟨ck_X6_holds.1, ck_X6_holds.2.1, ck_X6_holds.2.2.1, ck_X6_holds.2.2.2.1, ck_X6_holds.2.2.2.2, Or.inl (zti 643 (by decide +kernel) (by decide +kernel))⟩, ci_X6_holds.1, ci_X6_holds.2, by decide, TX6, 2, rfl⟩
theorem cv8_192 : zCV "TradeHall" 192 m_X6_fetch 2 6 := ⟨⟨ck_X6_fetch.1, ck_X6_fetch.2.1, ck_X6_fetch.2.2.1, ck_X6_fetch.2.2.2.1, ck_X6_fetch.2.2.2.2, Or.inl (zti 647 (by decide +kernel) (by decide +kernel))⟩, ci_X6_fetch.1, ci_X6_fetch.2, by decide, TX6, 2, rfl⟩
theorem cv8_196 : zCV "TradeHall" 196 m_X1_gradeOf 1 1 := ⟨⟨ck_X1_gradeOf.1, ck_X1_gradeOf.2.1, ck_X1_gradeOf.2.2.1, ck_X1_gradeOf.2.2.2.1, ck_X1_gradeOf.2.2.2.2, Or.inl (zti 1047 (by decide +kernel) (by decide +kernel))⟩, ci_X1_gradeOf.1, ci_X1_gradeOf.2, by decide, TX1, 13, rfl⟩
theorem cv8_199 : zCV "TradeHall" 199 m_X1_purseOf 1 1 := ⟨⟨ck_X1_purseOf.1, ck_X1_purseOf.2.1, ck_X1_purseOf.2.2.1, ck_X1_purseOf.2.2.2.1, ck_X1_purseOf.2.2.2.2, Or.inl (zti 1048 (by decide +kernel) (by decide +kernel))⟩, ci_X1_purseOf.1, ci_X1_purseOf.2, by decide, TX1, 13, rfl⟩
theorem cv8_202 : zCV "TradeHall" 202 m_X1_tradedOf 1 1 := ⟨⟨ck_X1_tradedOf.1, ck_X1_tradedOf.2.1, ck_X1_tradedOf.2.2.1, ck_X1_tradedOf.2.2.2.1, ck_X1_tradedOf.2.2.2.2, Or.inl (zti 1052 (by decide +kernel) (by decide +kernel))⟩, ci_X1_tradedOf.1, ci_X1_tradedOf.2, by decide, TX1, 13, rfl⟩
theorem cv8_320 : zCV "TradeHall" 320 m_X1_allPurses 0 1 := ⟨⟨ck_X1_allPurses.1, ck_X1_allPurses.2.1, ck_X1_allPurses.2.2.1, ck_X1_allPurses.2.2.2.1, ck_X1_allPurses.2.2.2.2, Or.inl (zti 1102 (by decide +kernel) (by decide +kernel))⟩, ci_X1_allPurses.1, ci_X1_allPurses.2, by decide, TX1, 13, rfl⟩
theorem cv8_326 : zCV "TradeHall" 326 m_X1_richest 0 1 := ⟨⟨ck_X1_richest.1, ck_X1_richest.2.1, ck_X1_richest.2.2.1, ck_X1_richest.2.2.2.1, ck_X1_richest.2.2.2.2, Or.inl (zti 1107 (by decide +kernel) (by decide +kernel))⟩, ci_X1_richest.1, ci_X1_richest.2, by decide, TX1, 13, rfl⟩
theorem cv8_341 : zCV "TradeHall" 341 m_X3_write 1 3 := ⟨⟨ck_X3_write.1, ck_X3_write.2.1, ck_X3_write.2.2.1, ck_X3_write.2.2.2.1, ck_X3_write.2.2.2.2, Or.inl (zti 1061 (by decide +kernel) (by decide +kernel))⟩, ci_X3_write.1, ci_X3_write.2, by decide, TX3, 2, rfl⟩
theorem cv8_345 : zCV "TradeHall" 345 m_X3_at 1 3 := ⟨⟨ck_X3_at.1, ck_X3_at.2.1, ck_X3_at.2.2.1, ck_X3_at.2.2.2.1, ck_X3_at.2.2.2.2, Or.inl (zti 1092 (by decide +kernel) (by decide +kernel))⟩, ci_X3_at.1, ci_X3_at.2, by decide, TX3, 2, rfl⟩
theorem cv8_393 : zCV "TradeHall" 393 m_X1_allUnits 0 1 := ⟨⟨ck_X1_allUnits.1, ck_X1_allUnits.2.1, ck_X1_allUnits.2.2.1, ck_X1_allUnits.2.2.2.1, ck_X1_allUnits.2.2.2.2, Or.inl (zti 655 (by decide +kernel) (by decide +kernel))⟩, ci_X1_allUnits.1, ci_X1_allUnits.2, by decide, TX1, 13, rfl⟩
theorem cv8_400 : zCV "TradeHall" 400 m_X8_gradesWithTrades 0 8 := ⟨⟨ck_X8_gradesWithTrades.1, ck_X8_gradesWithTrades.2.1, ck_X8_gradesWithTrades.2.2.1, ck_X8_gradesWithTrades.2.2.2.1, ck_X8_gradesWithTrades.2.2.2.2, Or.inl (zti 659 (by decide +kernel) (by decide +kernel))⟩, ci_X8_gradesWithTrades.1, ci_X8_gradesWithTrades.2, by decide, TX8, 11, rfl⟩
theorem cv8_308 : zCV "TradeHall" 308 m_X8_worthOfAll 0 8 := ⟨⟨ck_X8_worthOfAll.1, ck_X8_worthOfAll.2.1, ck_X8_worthOfAll.2.2.1, ck_X8_worthOfAll.2.2.2.1, ck_X8_worthOfAll.2.2.2.2, Or.inl (zti 663 (by decide +kernel) (by decide +kernel))⟩, ci_X8_worthOfAll.1, ci_X8_worthOfAll.2, by decide, TX8, 11, rfl⟩
theorem cs8_255 : zCS "TradeHall" 255 m_X8_bit 1 := ⟨⟨ck_X8_bit.1, ck_X8_bit.2.1, ck_X8_bit.2.2.1, ck_X8_bit.2.2.2.1, ck_X8_bit.2.2.2.2, Or.inl (zti 519 (by decide +kernel) (by decide +kernel))⟩, ct_X8_bit⟩
theorem cv8_289 : zCV "TradeHall" 289 m_X0_take 3 0 := ⟨⟨ck_X0_take.1, ck_X0_take.2.1, ck_X0_take.2.2.1, ck_X0_take.2.2.2.1, ck_X0_take.2.2.2.2, Or.inl (zti 522 (by decide +kernel) (by decide +kernel))⟩, ci_X0_take.1, ci_X0_take.2, by decide, TX0, 11, rfl⟩
theorem cv8_293 : zCV "TradeHall" 293 m_X0_settle 2 0 := ⟨⟨ck_X0_settle.1, ck_X0_settle.2.1, ck_X0_settle.2.2.1, ck_X0_settle.2.2.2.1, ck_X0_settle.2.2.2.2, Or.inl (zti 545 (by decide +kernel) (by decide +kernel))⟩, ci_X0_settle.1, ci_X0_settle.2, by decide, TX0, 11, rfl⟩
theorem cv8_348 : zCV "TradeHall" 348 m_X8_worthOf 2 8 := ⟨⟨ck_X8_worthOf.1, ck_X8_worthOf.2.1, ck_X8_worthOf.2.2.1, ck_X8_worthOf.2.2.2.1, ck_X8_worthOf.2.2.2.2, Or.inl (zti 667 (by decide +kernel) (by decide +kernel))⟩, ci_X8_worthOf.1, ci_X8_worthOf.2, by decide, TX8, 11, rfl⟩
theorem cn9_28 : zCB "TradeHallLaw$Hall" 28 m_X9_init 0 ∧ Cond.instanceMethod m_X9_init.1 ∈ zTB ∧ m_X9_init.1.name = "<init>" ∧ m_X9_init.2.2.2.1 = none ∧ 64 ≠ 63 := ⟨⟨ck_X9_init.1, ck_X9_init.2.1, ck_X9_init.2.2.1, ck_X9_init.2.2.2.1, ck_X9_init.2.2.2.2, Or.inl (zti 738 (by decide +kernel) (by decide +kernel))⟩, ck1_X9_init, rfl, rfl, by decide⟩
theorem cm9_51 : zCp "TradeHallLaw$Hall" 51 := ⟨zti 739 (by decide +kernel) (by decide +kernel), zti 447 (by decide +kernel) (by decide +kernel), zti 446 (by decide +kernel) (by decide +kernel), zti 18 (by decide +kernel) (by decide +kernel)⟩
theorem cn9_64 : zCB "TradeHallLaw$Hall" 64 m_J4_init_d00df 1 ∧ Cond.instanceMethod m_J4_init_d00df.1 ∈ zTB ∧ m_J4_init_d00df.1.name = "<init>" ∧ m_J4_init_d00df.2.2.2.1 = none ∧ 67 ≠ 63 := ⟨⟨ck_J4_init_d00df.1, ck_J4_init_d00df.2.1, ck_J4_init_d00df.2.2.1, ck_J4_init_d00df.2.2.2.1, ck_J4_init_d00df.2.2.2.2, Or.inl (zti 757 (by decide +kernel) (by decide +kernel))⟩, ck1_J4_init_d00df, rfl, rfl, by decide⟩
theorem cv9_71 : zCV "TradeHallLaw$Hall" 71 m_J4_append_15ec4 1 67 := ⟨⟨ck_J4_append_15ec4.1, ck_J4_append_15ec4.2.1, ck_J4_append_15ec4.2.2.1, ck_J4_append_15ec4.2.2.2.1, ck_J4_append_15ec4.2.2.2.2, Or.inl (zti 787 (by decide +kernel) (by decide +kernel))⟩, ci_J4_append_15ec4.1, ci_J4_append_15ec4.2, by decide, TJ4, 4, rfl⟩
theorem cv9_79 : zCV "TradeHallLaw$Hall" 79 m_J4_append_bf812 1 67 := ⟨⟨ck_J4_append_bf812.1, ck_J4_append_bf812.2.1, ck_J4_append_bf812.2.2.1, ck_J4_append_bf812.2.2.2.1, ck_J4_append_bf812.2.2.2.2, Or.inl (zti 882 (by decide +kernel) (by decide +kernel))⟩, ci_J4_append_bf812.1, ci_J4_append_bf812.2, by decide, TJ4, 4, rfl⟩
theorem cv9_82 : zCV "TradeHallLaw$Hall" 82 m_J4_append_cf468 1 67 := ⟨⟨ck_J4_append_cf468.1, ck_J4_append_cf468.2.1, ck_J4_append_cf468.2.2.1, ck_J4_append_cf468.2.2.2.1, ck_J4_append_cf468.2.2.2.2, Or.inl (zti 907 (by decide +kernel) (by decide +kernel))⟩, ci_J4_append_cf468.1, ci_J4_append_cf468.2, by decide, TJ4, 4, rfl⟩
theorem cv9_85 : zCV "TradeHallLaw$Hall" 85 m_J4_length_8abf5 0 67 := ⟨⟨ck_J4_length_8abf5.1, ck_J4_length_8abf5.2.1, ck_J4_length_8abf5.2.2.1, ck_J4_length_8abf5.2.2.2.1, ck_J4_length_8abf5.2.2.2.2, Or.inl (zti 920 (by decide +kernel) (by decide +kernel))⟩, ci_J4_length_8abf5.1, ci_J4_length_8abf5.2, by decide, TJ4, 4, rfl⟩
theorem cv9_103 : zCV "TradeHallLaw$Hall" 103 m_J4_toString_0e30d 0 67 := ⟨⟨ck_J4_toString_0e30d.1, ck_J4_toString_0e30d.2.1, ck_J4_toString_0e30d.2.2.1, ck_J4_toString_0e30d.2.2.2.1, ck_J4_toString_0e30d.2.2.2.2, Or.inl (zti 934 (by decide +kernel) (by decide +kernel))⟩, ci_J4_toString_0e30d.1, ci_J4_toString_0e30d.2, by decide, TJ4, 4, rfl⟩
theorem cs9_107 : zCS "TradeHallLaw$Hall" 107 m_L_cell 2 := ⟨⟨ck_L_cell.1, ck_L_cell.2.1, ck_L_cell.2.2.1, ck_L_cell.2.2.2.1, ck_L_cell.2.2.2.2, Or.inr ⟨_, zni (w := .methodLinkNest "TradeHallLaw$Hall" 107 yL_cell "TradeHallLaw") 987 (by decide +kernel) (by decide +kernel)⟩⟩, ct_L_cell⟩
theorem cm9_113 : zMx "TradeHallLaw$Hall" 113 := ⟨zti 991 (by decide +kernel) (by decide +kernel), zti 540 (by decide +kernel) (by decide +kernel), zti 11 (by decide +kernel) (by decide +kernel), zti 541 (by decide +kernel) (by decide +kernel)⟩
theorem cv9_119 : zCV "TradeHallLaw$Hall" 119 m_X9_comes 3 64 := ⟨⟨ck_X9_comes.1, ck_X9_comes.2.1, ck_X9_comes.2.2.1, ck_X9_comes.2.2.2.1, ck_X9_comes.2.2.2.2, Or.inl (zti 992 (by decide +kernel) (by decide +kernel))⟩, ci_X9_comes.1, ci_X9_comes.2, by decide, TX9, 12, rfl⟩
theorem cs10_43 : zCS "TradeHallLaw$Market" 43 m_X10_orders 3 := ⟨⟨ck_X10_orders.1, ck_X10_orders.2.1, ck_X10_orders.2.2.1, ck_X10_orders.2.2.2.1, ck_X10_orders.2.2.2.2, Or.inl (zti 1121 (by decide +kernel) (by decide +kernel))⟩, ct_X10_orders⟩
theorem ctJ0_335 : zCB "java/lang/String" 335 m_J0_coder_7d493 0 ∧ Cond.instanceMethod m_J0_coder_7d493.1 ∈ zTB ∧ Cond.selects m_J0_coder_7d493.1.cls m_J0_coder_7d493.1 m_J0_coder_7d493.1 ∈ zTB ∧ m_J0_coder_7d493.1.cls = "java/lang/String" := ⟨⟨ck_J0_coder_7d493.1, ck_J0_coder_7d493.2.1, ck_J0_coder_7d493.2.2.1, ck_J0_coder_7d493.2.2.2.1, ck_J0_coder_7d493.2.2.2.2, Or.inl (zti 322 (by decide +kernel) (by decide +kernel))⟩, ci_J0_coder_7d493.1, ci_J0_coder_7d493.2, rfl⟩
theorem cvJ0_335 : zCV "java/lang/String" 335 m_J0_coder_7d493 0 66 := ⟨ctJ0_335.1, ci_J0_coder_7d493.1, ci_J0_coder_7d493.2, by decide, TJ0, 4, rfl⟩
theorem ctJ0_492 : zCB "java/lang/String" 492 m_J0_isLatin1_aae02 0 ∧ Cond.instanceMethod m_J0_isLatin1_aae02.1 ∈ zTB ∧ Cond.selects m_J0_isLatin1_aae02.1.cls m_J0_isLatin1_aae02.1 m_J0_isLatin1_aae02.1 ∈ zTB ∧ m_J0_isLatin1_aae02.1.cls = "java/lang/String" := ⟨⟨ck_J0_isLatin1_aae02.1, ck_J0_isLatin1_aae02.2.1, ck_J0_isLatin1_aae02.2.2.1, ck_J0_isLatin1_aae02.2.2.2.1, ck_J0_isLatin1_aae02.2.2.2.2, Or.inl (zti 332 (by decide +kernel) (by decide +kernel))⟩, ci_J0_isLatin1_aae02.1, ci_J0_isLatin1_aae02.2, rfl⟩
theorem cvJ0_492 : zCV "java/lang/String" 492 m_J0_isLatin1_aae02 0 66 := ⟨ctJ0_492.1, ci_J0_isLatin1_aae02.1, ci_J0_isLatin1_aae02.2, by decide, TJ0, 4, rfl⟩
theorem csJ0_495 : zCS "java/lang/String" 495 m_J1_charAt_3b067 2 := ⟨⟨ck_J1_charAt_3b067.1, ck_J1_charAt_3b067.2.1, ck_J1_charAt_3b067.2.2.1, ck_J1_charAt_3b067.2.2.2.1, ck_J1_charAt_3b067.2.2.2.2, Or.inl (zti 336 (by decide +kernel) (by decide +kernel))⟩, ct_J1_charAt_3b067⟩
theorem csJ1_9 : zCS "java/lang/StringLatin1" 9 m_J0_checkIndex_df160 2 := ⟨⟨ck_J0_checkIndex_df160.1, ck_J0_checkIndex_df160.2.1, ck_J0_checkIndex_df160.2.2.1, ck_J0_checkIndex_df160.2.2.2.1, ck_J0_checkIndex_df160.2.2.2.2, Or.inl (zti 339 (by decide +kernel) (by decide +kernel))⟩, ct_J0_checkIndex_df160⟩
theorem csJ0_1059 : zCS "java/lang/String" 1059 m_J3_checkIndex_8e157 3 := ⟨⟨ck_J3_checkIndex_8e157.1, ck_J3_checkIndex_8e157.2.1, ck_J3_checkIndex_8e157.2.2.1, ck_J3_checkIndex_8e157.2.2.2.1, ck_J3_checkIndex_8e157.2.2.2.2, Or.inl (zti 344 (by decide +kernel) (by decide +kernel))⟩, ct_J3_checkIndex_8e157⟩
theorem cnJ4_1 : zCB "java/lang/StringBuilder" 1 m_J5_init_d00df 1 ∧ Cond.instanceMethod m_J5_init_d00df.1 ∈ zTB ∧ m_J5_init_d00df.1.name = "<init>" ∧ m_J5_init_d00df.2.2.2.1 = none ∧ 67 ≠ 63 := ⟨⟨ck_J5_init_d00df.1, ck_J5_init_d00df.2.1, ck_J5_init_d00df.2.2.1, ck_J5_init_d00df.2.2.2.1, ck_J5_init_d00df.2.2.2.2, Or.inl (zti 760 (by decide +kernel) (by decide +kernel))⟩, ck1_J5_init_d00df, rfl, rfl, by decide⟩
theorem cnJ4_137 : zCB "java/lang/StringBuilder" 137 m_J0_init_81219 1 ∧ Cond.instanceMethod m_J0_init_81219.1 ∈ zTB ∧ m_J0_init_81219.1.name = "<init>" ∧ m_J0_init_81219.2.2.2.1 = none ∧ 66 ≠ 63 := ⟨⟨ck_J0_init_81219.1, ck_J0_init_81219.2.1, ck_J0_init_81219.2.2.1, ck_J0_init_81219.2.2.2.1, ck_J0_init_81219.2.2.2.2, Or.inl (zti 940 (by decide +kernel) (by decide +kernel))⟩, ck1_J0_init_81219, rfl, rfl, by decide⟩
theorem ctJ5_32 : zCB "java/lang/AbstractStringBuilder" 32 m_J0_length_8abf5 0 ∧ Cond.instanceMethod m_J0_length_8abf5.1 ∈ zTB ∧ Cond.selects m_J0_length_8abf5.1.cls m_J0_length_8abf5.1 m_J0_length_8abf5.1 ∈ zTB ∧ m_J0_length_8abf5.1.cls = "java/lang/String" := ⟨⟨ck_J0_length_8abf5.1, ck_J0_length_8abf5.2.1, ck_J0_length_8abf5.2.2.1, ck_J0_length_8abf5.2.2.2.1, ck_J0_length_8abf5.2.2.2.2, Or.inl (zti 845 (by decide +kernel) (by decide +kernel))⟩, ci_J0_length_8abf5.1, ci_J0_length_8abf5.2, rfl⟩
theorem cvJ5_32 : zCV "java/lang/AbstractStringBuilder" 32 m_J0_length_8abf5 0 66 := ⟨ctJ5_32.1, ci_J0_length_8abf5.1, ci_J0_length_8abf5.2, by decide, TJ0, 4, rfl⟩
theorem csJ5_191 : zCS "java/lang/AbstractStringBuilder" 191 m_J1_canEncode_fc78d 1 := ⟨⟨ck_J1_canEncode_fc78d.1, ck_J1_canEncode_fc78d.2.1, ck_J1_canEncode_fc78d.2.2.1, ck_J1_canEncode_fc78d.2.2.2.1, ck_J1_canEncode_fc78d.2.2.2.2, Or.inl (zti 914 (by decide +kernel) (by decide +kernel))⟩, ct_J1_canEncode_fc78d⟩
theorem csJ5_245 : zCS "java/lang/AbstractStringBuilder" 245 m_J6_stringSize_0f7a4 1 := ⟨⟨ck_J6_stringSize_0f7a4.1, ck_J6_stringSize_0f7a4.2.1, ck_J6_stringSize_0f7a4.2.2.1, ck_J6_stringSize_0f7a4.2.2.2.1, ck_J6_stringSize_0f7a4.2.2.2.2, Or.inl (zti 889 (by decide +kernel) (by decide +kernel))⟩, ct_J6_stringSize_0f7a4⟩
theorem csJ5_248 : zCS "java/lang/AbstractStringBuilder" 248 m_J6_getChars_ba4f3 3 := ⟨⟨ck_J6_getChars_ba4f3.1, ck_J6_getChars_ba4f3.2.1, ck_J6_getChars_ba4f3.2.2.1, ck_J6_getChars_ba4f3.2.2.2.1, ck_J6_getChars_ba4f3.2.2.2.2, Or.inl (zti 892 (by decide +kernel) (by decide +kernel))⟩, ct_J6_getChars_ba4f3⟩
theorem ctJ5_40 : zCB "java/lang/AbstractStringBuilder" 40 m_J0_coder_7d493 0 ∧ Cond.instanceMethod m_J0_coder_7d493.1 ∈ zTB ∧ Cond.selects m_J0_coder_7d493.1.cls m_J0_coder_7d493.1 m_J0_coder_7d493.1 ∈ zTB ∧ m_J0_coder_7d493.1.cls = "java/lang/String" := ⟨⟨ck_J0_coder_7d493.1, ck_J0_coder_7d493.2.1, ck_J0_coder_7d493.2.2.1, ck_J0_coder_7d493.2.2.2.1, ck_J0_coder_7d493.2.2.2.2, Or.inl (zti 854 (by decide +kernel) (by decide +kernel))⟩, ci_J0_coder_7d493.1, ci_J0_coder_7d493.2, rfl⟩
theorem cvJ5_40 : zCV "java/lang/AbstractStringBuilder" 40 m_J0_coder_7d493 0 66 := ⟨ctJ5_40.1, ci_J0_coder_7d493.1, ci_J0_coder_7d493.2, by decide, TJ0, 4, rfl⟩
theorem ctJ5_399 : zCB "java/lang/AbstractStringBuilder" 399 m_J0_getBytes_840e7 3 ∧ Cond.instanceMethod m_J0_getBytes_840e7.1 ∈ zTB ∧ Cond.selects m_J0_getBytes_840e7.1.cls m_J0_getBytes_840e7.1 m_J0_getBytes_840e7.1 ∈ zTB ∧ m_J0_getBytes_840e7.1.cls = "java/lang/String" := ⟨⟨ck_J0_getBytes_840e7.1, ck_J0_getBytes_840e7.2.1, ck_J0_getBytes_840e7.2.2.1, ck_J0_getBytes_840e7.2.2.2.1, ck_J0_getBytes_840e7.2.2.2.2, Or.inl (zti 874 (by decide +kernel) (by decide +kernel))⟩, ci_J0_getBytes_840e7.1, ci_J0_getBytes_840e7.2, rfl⟩
theorem cvJ5_399 : zCV "java/lang/AbstractStringBuilder" 399 m_J0_getBytes_840e7 3 66 := ⟨ctJ5_399.1, ci_J0_getBytes_840e7.1, ci_J0_getBytes_840e7.2, by decide, TJ0, 4, rfl⟩
theorem cnJ0_489 : zCB "java/lang/String" 489 m_J0_init_db425 2 ∧ Cond.instanceMethod m_J0_init_db425.1 ∈ zTB ∧ m_J0_init_db425.1.name = "<init>" ∧ m_J0_init_db425.2.2.2.1 = none ∧ 66 ≠ 63 := ⟨⟨ck_J0_init_db425.1, ck_J0_init_db425.2.1, ck_J0_init_db425.2.2.1, ck_J0_init_db425.2.2.2.1, ck_J0_init_db425.2.2.2.2, Or.inl (zti 943 (by decide +kernel) (by decide +kernel))⟩, ck1_J0_init_db425, rfl, rfl, by decide⟩
theorem csJ0_54 : zCS "java/lang/String" 54 m_J7_copyOfRange_39247 3 := ⟨⟨ck_J7_copyOfRange_39247.1, ck_J7_copyOfRange_39247.2.1, ck_J7_copyOfRange_39247.2.2.1, ck_J7_copyOfRange_39247.2.2.2.1, ck_J7_copyOfRange_39247.2.2.2.2, Or.inl (zti 954 (by decide +kernel) (by decide +kernel))⟩, ct_J7_copyOfRange_39247⟩
theorem cmJ0_212 : zCp "java/lang/String" 212 := ⟨zti 878 (by decide +kernel) (by decide +kernel), zti 447 (by decide +kernel) (by decide +kernel), zti 446 (by decide +kernel) (by decide +kernel), zti 18 (by decide +kernel) (by decide +kernel)⟩
theorem csJ7_339 : zCS "java/util/Arrays" 339 m_J7_copyOfRangeByte_39247 3 := ⟨⟨ck_J7_copyOfRangeByte_39247.1, ck_J7_copyOfRangeByte_39247.2.1, ck_J7_copyOfRangeByte_39247.2.2.1, ck_J7_copyOfRangeByte_39247.2.2.2.1, ck_J7_copyOfRangeByte_39247.2.2.2.2, Or.inl (zti 957 (by decide +kernel) (by decide +kernel))⟩, ct_J7_copyOfRangeByte_39247⟩
theorem csJ7_343 : zCS "java/util/Arrays" 343 m_J7_checkLength_df160 2 := ⟨⟨ck_J7_checkLength_df160.1, ck_J7_checkLength_df160.2.1, ck_J7_checkLength_df160.2.2.1, ck_J7_checkLength_df160.2.2.2.1, ck_J7_checkLength_df160.2.2.2.2, Or.inl (zti 960 (by decide +kernel) (by decide +kernel))⟩, ct_J7_checkLength_df160⟩
theorem cmJ7_304 : zMn "java/util/Arrays" 304 := ⟨zti 823 (by decide +kernel) (by decide +kernel), zti 382 (by decide +kernel) (by decide +kernel), zti 11 (by decide +kernel) (by decide +kernel), zti 383 (by decide +kernel) (by decide +kernel)⟩
theorem cmJ7_150 : zCp "java/util/Arrays" 150 := ⟨zti 824 (by decide +kernel) (by decide +kernel), zti 447 (by decide +kernel) (by decide +kernel), zti 446 (by decide +kernel) (by decide +kernel), zti 18 (by decide +kernel) (by decide +kernel)⟩
theorem cvL_18 : zCV "TradeHallLaw" 18 m_X8_feed 5 8 := ⟨⟨ck_X8_feed.1, ck_X8_feed.2.1, ck_X8_feed.2.2.1, ck_X8_feed.2.2.2.1, ck_X8_feed.2.2.2.2, Or.inl (zti 1027 (by decide +kernel) (by decide +kernel))⟩, ci_X8_feed.1, ci_X8_feed.2, by decide, TX8, 11, rfl⟩
theorem cvL_24 : zCV "TradeHallLaw" 24 m_X8_end 1 8 := ⟨⟨ck_X8_end.1, ck_X8_end.2.1, ck_X8_end.2.2.1, ck_X8_end.2.2.2.1, ck_X8_end.2.2.2.2, Or.inl (zti 1035 (by decide +kernel) (by decide +kernel))⟩, ci_X8_end.1, ci_X8_end.2, by decide, TX8, 11, rfl⟩
theorem cnL_36 : zCB "TradeHallLaw" 36 m_X10_init 3 ∧ Cond.instanceMethod m_X10_init.1 ∈ zTB ∧ m_X10_init.1.name = "<init>" ∧ m_X10_init.2.2.2.1 = none ∧ 65 ≠ 63 := ⟨⟨ck_X10_init.1, ck_X10_init.2.1, ck_X10_init.2.2.1, ck_X10_init.2.2.2.1, ck_X10_init.2.2.2.2, Or.inl (zti 1116 (by decide +kernel) (by decide +kernel))⟩, ck1_X10_init, rfl, rfl, by decide⟩
theorem cvL_43 : zCV "TradeHallLaw" 43 m_X10_by 2 65 := ⟨⟨ck_X10_by.1, ck_X10_by.2.1, ck_X10_by.2.2.1, ck_X10_by.2.2.2.1, ck_X10_by.2.2.2.2, Or.inl (zti 1156 (by decide +kernel) (by decide +kernel))⟩, ci_X10_by.1, ci_X10_by.2, by decide, TX10, 9, rfl⟩
theorem cvL_47 : zCV "TradeHallLaw" 47 m_X10_doneOf 1 65 := ⟨⟨ck_X10_doneOf.1, ck_X10_doneOf.2.1, ck_X10_doneOf.2.2.1, ck_X10_doneOf.2.2.2.1, ck_X10_doneOf.2.2.2.2, Or.inl (zti 1166 (by decide +kernel) (by decide +kernel))⟩, ci_X10_doneOf.1, ci_X10_doneOf.2, by decide, TX10, 9, rfl⟩
theorem cvL_60 : zCV "TradeHallLaw" 60 m_X9_copy 0 64 := ⟨⟨ck_X9_copy.1, ck_X9_copy.2.1, ck_X9_copy.2.2.1, ck_X9_copy.2.2.2.1, ck_X9_copy.2.2.2.2, Or.inl (zti 733 (by decide +kernel) (by decide +kernel))⟩, ci_X9_copy.1, ci_X9_copy.2, by decide, TX9, 12, rfl⟩
theorem csL_74 : zCS "TradeHallLaw" 74 m_L_deal 4 := ⟨⟨ck_L_deal.1, ck_L_deal.2.1, ck_L_deal.2.2.1, ck_L_deal.2.2.2.1, ck_L_deal.2.2.2.2, Or.inl (zti 1163 (by decide +kernel) (by decide +kernel))⟩, ct_L_deal⟩
theorem cvL_83 : zCV "TradeHallLaw" 83 m_X8_count 1 8 := ⟨⟨ck_X8_count.1, ck_X8_count.2.1, ck_X8_count.2.2.1, ck_X8_count.2.2.2.1, ck_X8_count.2.2.2.2, Or.inl (zti 651 (by decide +kernel) (by decide +kernel))⟩, ci_X8_count.1, ci_X8_count.2, by decide, TX8, 11, rfl⟩
theorem cvL_89 : zCV "TradeHallLaw" 89 m_X8_trader 2 8 := ⟨⟨ck_X8_trader.1, ck_X8_trader.2.1, ck_X8_trader.2.2.1, ck_X8_trader.2.2.2.1, ck_X8_trader.2.2.2.2, Or.inl (zti 1042 (by decide +kernel) (by decide +kernel))⟩, ci_X8_trader.1, ci_X8_trader.2, by decide, TX8, 11, rfl⟩
theorem cvL_99 : zCV "TradeHallLaw" 99 m_X9_told 0 64 := ⟨⟨ck_X9_told.1, ck_X9_told.2.1, ck_X9_told.2.2.1, ck_X9_told.2.2.2.1, ck_X9_told.2.2.2.2, Or.inl (zti 751 (by decide +kernel) (by decide +kernel))⟩, ci_X9_told.1, ci_X9_told.2, by decide, TX9, 12, rfl⟩
theorem cvL_103 : zCV "TradeHallLaw" 103 m_X8_letter 1 8 := ⟨⟨ck_X8_letter.1, ck_X8_letter.2.1, ck_X8_letter.2.2.1, ck_X8_letter.2.2.2.1, ck_X8_letter.2.2.2.2, Or.inl (zti 1057 (by decide +kernel) (by decide +kernel))⟩, ci_X8_letter.1, ci_X8_letter.2, by decide, TX8, 11, rfl⟩
theorem ctL_106 : zCB "TradeHallLaw" 106 m_J0_length_8abf5 0 ∧ Cond.instanceMethod m_J0_length_8abf5.1 ∈ zTB ∧ Cond.selects m_J0_length_8abf5.1.cls m_J0_length_8abf5.1 m_J0_length_8abf5.1 ∈ zTB ∧ m_J0_length_8abf5.1.cls = "java/lang/String" := ⟨⟨ck_J0_length_8abf5.1, ck_J0_length_8abf5.2.1, ck_J0_length_8abf5.2.2.1, ck_J0_length_8abf5.2.2.2.1, ck_J0_length_8abf5.2.2.2.2, Or.inl (zti 1096 (by decide +kernel) (by decide +kernel))⟩, ci_J0_length_8abf5.1, ci_J0_length_8abf5.2, rfl⟩
theorem cvL_106 : zCV "TradeHallLaw" 106 m_J0_length_8abf5 0 66 := ⟨ctL_106.1, ci_J0_length_8abf5.1, ci_J0_length_8abf5.2, by decide, TJ0, 4, rfl⟩
theorem ctL_109 : zCB "TradeHallLaw" 109 m_J0_charAt_5068e 1 ∧ Cond.instanceMethod m_J0_charAt_5068e.1 ∈ zTB ∧ Cond.selects m_J0_charAt_5068e.1.cls m_J0_charAt_5068e.1 m_J0_charAt_5068e.1 ∈ zTB ∧ m_J0_charAt_5068e.1.cls = "java/lang/String" := ⟨⟨ck_J0_charAt_5068e.1, ck_J0_charAt_5068e.2.1, ck_J0_charAt_5068e.2.2.1, ck_J0_charAt_5068e.2.2.2.1, ck_J0_charAt_5068e.2.2.2.2, Or.inl (zti 1097 (by decide +kernel) (by decide +kernel))⟩, ci_J0_charAt_5068e.1, ci_J0_charAt_5068e.2, rfl⟩
theorem cvL_109 : zCV "TradeHallLaw" 109 m_J0_charAt_5068e 1 66 := ⟨ctL_109.1, ci_J0_charAt_5068e.1, ci_J0_charAt_5068e.2, by decide, TJ0, 4, rfl⟩
theorem cvL_110 : zCV "TradeHallLaw" 110 m_X8_audit 1 8 := ⟨⟨ck_X8_audit.1, ck_X8_audit.2.1, ck_X8_audit.2.2.1, ck_X8_audit.2.2.2.1, ck_X8_audit.2.2.2.2, Or.inl (zti 1098 (by decide +kernel) (by decide +kernel))⟩, ci_X8_audit.1, ci_X8_audit.2, by decide, TX8, 11, rfl⟩
theorem csL_128 : zCS "TradeHallLaw" 128 m_L_takings 3 := ⟨⟨ck_L_takings.1, ck_L_takings.2.1, ck_L_takings.2.2.1, ck_L_takings.2.2.2.1, ck_L_takings.2.2.2.2, Or.inl (zti 1160 (by decide +kernel) (by decide +kernel))⟩, ct_L_takings⟩
theorem cmL_132 : zCp "TradeHallLaw" 132 := ⟨zti 1170 (by decide +kernel) (by decide +kernel), zti 447 (by decide +kernel) (by decide +kernel), zti 446 (by decide +kernel) (by decide +kernel), zti 18 (by decide +kernel) (by decide +kernel)⟩
theorem cmL_138 : zMx "TradeHallLaw" 138 := ⟨zti 1171 (by decide +kernel) (by decide +kernel), zti 540 (by decide +kernel) (by decide +kernel), zti 11 (by decide +kernel) (by decide +kernel), zti 541 (by decide +kernel) (by decide +kernel)⟩
theorem cnL_144 : zCB "TradeHallLaw" 144 m_X9_init 0 ∧ Cond.instanceMethod m_X9_init.1 ∈ zTB ∧ m_X9_init.1.name = "<init>" ∧ m_X9_init.2.2.2.1 = none ∧ 64 ≠ 63 := ⟨⟨ck_X9_init.1, ck_X9_init.2.1, ck_X9_init.2.2.1, ck_X9_init.2.2.2.1, ck_X9_init.2.2.2.2, Or.inr ⟨_, zni (w := .methodLinkNest "TradeHallLaw" 144 yX9_init "TradeHallLaw") 673 (by decide +kernel) (by decide +kernel)⟩⟩, ck1_X9_init, rfl, rfl, by decide⟩
theorem csL_145 : zCS "TradeHallLaw" 145 m_L_same 2 := ⟨⟨ck_L_same.1, ck_L_same.2.1, ck_L_same.2.2.1, ck_L_same.2.2.2.1, ck_L_same.2.2.2.2, Or.inl (zti 1039 (by decide +kernel) (by decide +kernel))⟩, ct_L_same⟩
theorem cvL_149 : zCV "TradeHallLaw" 149 m_X8_undo 0 8 := ⟨⟨ck_X8_undo.1, ck_X8_undo.2.1, ck_X8_undo.2.2.1, ck_X8_undo.2.2.2.1, ck_X8_undo.2.2.2.2, Or.inl (zti 613 (by decide +kernel) (by decide +kernel))⟩, ci_X8_undo.1, ci_X8_undo.2, by decide, TX8, 11, rfl⟩
theorem cvL_152 : zCV "TradeHallLaw" 152 m_X8_back 1 8 := ⟨⟨ck_X8_back.1, ck_X8_back.2.1, ck_X8_back.2.2.1, ck_X8_back.2.2.2.1, ck_X8_back.2.2.2.2, Or.inl (zti 639 (by decide +kernel) (by decide +kernel))⟩, ci_X8_back.1, ci_X8_back.2, by decide, TX8, 11, rfl⟩
theorem cvL_155 : zCV "TradeHallLaw" 155 m_X8_keep 1 8 := ⟨⟨ck_X8_keep.1, ck_X8_keep.2.1, ck_X8_keep.2.2.1, ck_X8_keep.2.2.2.1, ck_X8_keep.2.2.2.2, Or.inl (zti 621 (by decide +kernel) (by decide +kernel))⟩, ci_X8_keep.1, ci_X8_keep.2, by decide, TX8, 11, rfl⟩
theorem cvL_158 : zCV "TradeHallLaw" 158 m_X8_close 1 8 := ⟨⟨ck_X8_close.1, ck_X8_close.2.1, ck_X8_close.2.2.1, ck_X8_close.2.2.2.1, ck_X8_close.2.2.2.2, Or.inl (zti 511 (by decide +kernel) (by decide +kernel))⟩, ci_X8_close.1, ci_X8_close.2, by decide, TX8, 11, rfl⟩
theorem csL_161 : zCS "TradeHallLaw" 161 m_L_cell 2 := ⟨⟨ck_L_cell.1, ck_L_cell.2.1, ck_L_cell.2.2.1, ck_L_cell.2.2.2.1, ck_L_cell.2.2.2.2, Or.inl (zti 993 (by decide +kernel) (by decide +kernel))⟩, ct_L_cell⟩
theorem csL_165 : zCS "TradeHallLaw" 165 m_X9_some 4 := ⟨⟨ck_X9_some.1, ck_X9_some.2.1, ck_X9_some.2.2.1, ck_X9_some.2.2.2.1, ck_X9_some.2.2.2.2, Or.inl (zti 984 (by decide +kernel) (by decide +kernel))⟩, ct_X9_some⟩
theorem csL_169 : zCS "TradeHallLaw" 169 m_L_says 2 := ⟨⟨ck_L_says.1, ck_L_says.2.1, ck_L_says.2.2.1, ck_L_says.2.2.2.1, ck_L_says.2.2.2.2, Or.inl (zti 994 (by decide +kernel) (by decide +kernel))⟩, ct_L_says⟩
theorem cvL_173 : zCV "TradeHallLaw" 173 m_X8_tell 0 8 := ⟨⟨ck_X8_tell.1, ck_X8_tell.2.1, ck_X8_tell.2.2.1, ck_X8_tell.2.2.2.1, ck_X8_tell.2.2.2.2, Or.inl (zti 282 (by decide +kernel) (by decide +kernel))⟩, ci_X8_tell.1, ci_X8_tell.2, by decide, TX8, 11, rfl⟩
theorem cvL_176 : zCV "TradeHallLaw" 176 m_X8_come 2 8 := ⟨⟨ck_X8_come.1, ck_X8_come.2.1, ck_X8_come.2.2.1, ck_X8_come.2.2.2.1, ck_X8_come.2.2.2.2, Or.inl (zti 453 (by decide +kernel) (by decide +kernel))⟩, ci_X8_come.1, ci_X8_come.2, by decide, TX8, 11, rfl⟩
theorem cvL_180 : zCV "TradeHallLaw" 180 m_X9_comes 3 64 := ⟨⟨ck_X9_comes.1, ck_X9_comes.2.1, ck_X9_comes.2.2.1, ck_X9_comes.2.2.2.1, ck_X9_comes.2.2.2.2, Or.inl (zti 747 (by decide +kernel) (by decide +kernel))⟩, ci_X9_comes.1, ci_X9_comes.2, by decide, TX9, 12, rfl⟩
theorem csL_184 : zCS "TradeHallLaw" 184 m_L_goesOn 3 := ⟨⟨ck_L_goesOn.1, ck_L_goesOn.2.1, ck_L_goesOn.2.2.1, ck_L_goesOn.2.2.2.1, ck_L_goesOn.2.2.2.2, Or.inl (zti 1172 (by decide +kernel) (by decide +kernel))⟩, ct_L_goesOn⟩
theorem cvL_188 : zCV "TradeHallLaw" 188 m_X8_add 2 8 := ⟨⟨ck_X8_add.1, ck_X8_add.2.1, ck_X8_add.2.2.1, ck_X8_add.2.2.2.1, ck_X8_add.2.2.2.2, Or.inl (zti 471 (by decide +kernel) (by decide +kernel))⟩, ci_X8_add.1, ci_X8_add.2, by decide, TX8, 11, rfl⟩
theorem cvL_191 : zCV "TradeHallLaw" 191 m_X8_say 3 8 := ⟨⟨ck_X8_say.1, ck_X8_say.2.1, ck_X8_say.2.2.1, ck_X8_say.2.2.2.1, ck_X8_say.2.2.2.2, Or.inl (zti 482 (by decide +kernel) (by decide +kernel))⟩, ci_X8_say.1, ci_X8_say.2, by decide, TX8, 11, rfl⟩
theorem cvL_200 : zCV "TradeHallLaw" 200 m_X8_leave 1 8 := ⟨⟨ck_X8_leave.1, ck_X8_leave.2.1, ck_X8_leave.2.2.1, ck_X8_leave.2.2.2.1, ck_X8_leave.2.2.2.2, Or.inl (zti 489 (by decide +kernel) (by decide +kernel))⟩, ci_X8_leave.1, ci_X8_leave.2, by decide, TX8, 11, rfl⟩
theorem cvL_203 : zCV "TradeHallLaw" 203 m_X8_fee 1 8 := ⟨⟨ck_X8_fee.1, ck_X8_fee.2.1, ck_X8_fee.2.2.1, ck_X8_fee.2.2.2.1, ck_X8_fee.2.2.2.2, Or.inl (zti 497 (by decide +kernel) (by decide +kernel))⟩, ci_X8_fee.1, ci_X8_fee.2, by decide, TX8, 11, rfl⟩
theorem cvL_205 : zCV "TradeHallLaw" 205 m_X8_law 1 8 := ⟨⟨ck_X8_law.1, ck_X8_law.2.1, ck_X8_law.2.2.1, ck_X8_law.2.2.2.1, ck_X8_law.2.2.2.2, Or.inl (zti 504 (by decide +kernel) (by decide +kernel))⟩, ci_X8_law.1, ci_X8_law.2, by decide, TX8, 11, rfl⟩
theorem csL_207 : zCS "TradeHallLaw" 207 m_L_closes 2 := ⟨⟨ck_L_closes.1, ck_L_closes.2.1, ck_L_closes.2.2.1, ck_L_closes.2.2.2.1, ck_L_closes.2.2.2.2, Or.inl (zti 1111 (by decide +kernel) (by decide +kernel))⟩, ct_L_closes⟩
theorem ci8_195 : Cond.constant "TradeHall" 195 (Int32.ofInt (-2147483648)) ∈ zTB := zti 1046 (by decide +kernel) (by decide +kernel)
theorem ciL_7 : Cond.constant "TradeHallLaw" 7 (Int32.ofInt (81001)) ∈ zTB := zti 990 (by decide +kernel) (by decide +kernel)
theorem ciL_98 : Cond.constant "TradeHallLaw" 98 (Int32.ofInt (-2147483648)) ∈ zTB := zti 1056 (by decide +kernel) (by decide +kernel)
end
section
/-! ===== small facts that the printed walks use ===== -/
theorem zj1 {i : Nat} : 1 * i + 0 = i := by omega
theorem zj0 {i b : Nat} : 0 * i + b = b := by omega
def zand (x y : Int) : Int := (Int32.ofInt x &&& Int32.ofInt y).toInt
def zor (x y : Int) : Int := (Int32.ofInt x ||| Int32.ofInt y).toInt
def zshl (x y : Int) : Int := (Int32.ofInt x <<< (Int32.ofInt y &&& 31)).toInt
def zshr (x y : Int) : Int := (Int32.ofInt x >>> (Int32.ofInt y &&& 31)).toInt
def zushr (x y : Int) : Int := ((Int32.ofInt x).toUInt32 >>> ((Int32.ofInt y).toUInt32 &&& Int32.toUInt32 31)).toInt32.toInt
def zi2b (x : Int) : Int := (Int32.ofInt x).toInt8.toInt32.toInt
def zlor (x y : Int) : Int := (Int64.ofInt x ||| Int64.ofInt y).toInt
def zlshl (x y : Int) : Int := (Int64.ofInt x <<< ((Int32.ofInt y).toInt64 &&& 63)).toInt
theorem zand_h {x y : Int} : Int32.ofInt x &&& Int32.ofInt y = Int32.ofInt (zand x y) := (Int32.ofInt_toInt _).symm
theorem zor_h {x y : Int} : Int32.ofInt x ||| Int32.ofInt y = Int32.ofInt (zor x y) := (Int32.ofInt_toInt _).symm
theorem zshl_h {x y : Int} : Int32.ofInt x <<< (Int32.ofInt y &&& 31) = Int32.ofInt (zshl x y) := (Int32.ofInt_toInt _).symm
theorem zshr_h {x y : Int} : Int32.ofInt x >>> (Int32.ofInt y &&& 31) = Int32.ofInt (zshr x y) := (Int32.ofInt_toInt _).symm
theorem zushr_h {x y : Int} : ((Int32.ofInt x).toUInt32 >>> ((Int32.ofInt y).toUInt32 &&& Int32.toUInt32 31)).toInt32 = Int32.ofInt (zushr x y) := (Int32.ofInt_toInt _).symm
theorem zi2b_h {x : Int} : (Int32.ofInt x).toInt8.toInt32 = Int32.ofInt (zi2b x) := (Int32.ofInt_toInt _).symm
theorem zlor_h {x y : Int} : Int64.ofInt x ||| Int64.ofInt y = Int64.ofInt (zlor x y) := (Int64.ofInt_toInt _).symm
theorem zlshl_h {x y : Int} : Int64.ofInt x <<< ((Int32.ofInt y).toInt64 &&& 63) = Int64.ofInt (zlshl x y) := (Int64.ofInt_toInt _).symm
theorem zi2b_r {x : Int} : -128 ≤ zi2b x ∧ zi2b x < 128 := by
  unfold zi2b
  rw [Int8.toInt_toInt32]
  have h1 := Int8.le_toInt (Int32.ofInt x).toInt8
  have h2 := Int8.toInt_lt (Int32.ofInt x).toInt8
  omega
theorem zI_of (x : Int32) : zI x.toInt := by
  have h1 := Int32.le_toInt x
  have h2 := Int32.toInt_lt x
  omega
theorem zI_and {x y : Int} : zI (zand x y) := zI_of _
theorem zI_or {x y : Int} : zI (zor x y) := zI_of _
theorem zI_shl {x y : Int} : zI (zshl x y) := zI_of _
theorem zI_shr {x y : Int} : zI (zshr x y) := zI_of _
theorem zI_ushr {x y : Int} : zI (zushr x y) := zI_of _
/-- a byte of a string constant -/
def zsb (i : Nat) (j : Int) : Int := ((zsByt.getD i []).getD j.toNat 0).toInt
theorem zsb_h (i : Nat) (j : Int) : (zsByt.getD i []).getD j.toNat 0 = Int32.ofInt (zsb i j) := (Int32.ofInt_toInt _).symm
theorem znar {x : Int} (h : x = 0 ∨ x = 1) : narrow .boolean (.int (Int32.ofInt x)) = .int (Int32.ofInt x) ∧ fits .boolean (.int (Int32.ofInt x)) = true := by
  rcases h with rfl | rfl <;> decide
theorem cf_9 : Cond.fieldLink "java/lang/String" 9 "java/lang/String" "value" "[B" ∈ zTB := zti 973 (by decide +kernel) (by decide +kernel)
theorem cf_15 : Cond.fieldLink "java/lang/String" 15 "java/lang/String" "coder" "B" ∈ zTB := zti 974 (by decide +kernel) (by decide +kernel)
theorem cf_38 : Cond.fieldLink "java/lang/String" 38 "java/lang/String" "COMPACT_STRINGS" "Z" ∈ zTB := zti 326 (by decide +kernel) (by decide +kernel)
theorem cf_1053 : Cond.fieldLink "java/lang/String" 1053 "jdk/internal/util/Preconditions" "SIOOBE_FORMATTER" "Ljava/util/function/BiFunction;" ∈ zTB := zti 342 (by decide +kernel) (by decide +kernel)
theorem za10 : zar 10 0 := by decide
theorem za11 : zar 11 0 := by decide
theorem za12 : zar 12 1 := by decide
theorem za13 : zar 13 0 := by decide
theorem za14 : zar 14 0 := by decide
theorem za15 : zar 15 0 := by decide
theorem za16 : zar 16 0 := by decide
theorem za17 : zar 17 0 := by decide
theorem za18 : zar 18 4 := by decide
theorem za19 : zar 19 0 := by decide
theorem za20 : zar 20 0 := by decide
theorem za21 : zar 21 0 := by decide
theorem za22 : zar 22 0 := by decide
theorem za23 : zar 23 4 := by decide
theorem za24 : zar 24 0 := by decide
theorem za25 : zar 25 0 := by decide
theorem za26 : zar 26 3 := by decide
theorem zd70 : zad 70 1 := by decide
theorem zd71 : zad 71 0 := by decide
theorem zd72 : zad 72 0 := by decide
theorem zd73 : zad 73 0 := by decide
theorem zd74 : zad 74 5 := by decide
theorem zd75 : zad 75 0 := by decide
theorem zd76 : zad 76 5 := by decide
theorem zd77 : zad 77 0 := by decide
theorem zd78 : zad 78 0 := by decide
theorem zd79 : zad 79 0 := by decide
theorem zd80 : zad 80 2 := by decide

section
variable {l : Launch} {X : zD} {T : zT} {pc pc' : Nat} {lv lv' : List (Nat × zV)} {st st' st0 : List zV} {M M' : zM}
theorem aw_eql {x y : Int} (h : x = y ∧ M' = M) (kk : AW l X T pc lv (zl y :: st) M) : AW l X T pc lv (zl x :: st) M' := by
  obtain ⟨rfl, rfl⟩ := h
  exact kk
theorem aw_eqr {k x y : Nat} (h : x = y ∧ M' = M) (kk : AW l X T pc lv (zr k y :: st) M) : AW l X T pc lv (zr k x :: st) M' := by
  obtain ⟨rfl, rfl⟩ := h
  exact kk
theorem aw_eqs2 {x y : Int} {M1 : zM} (h : x = y ∧ M' = M1) (kk : AW l X T pc lv (zi y :: st) M1) : AW l X T pc lv (zi x :: st) M' := by
  obtain ⟨rfl, rfl⟩ := h
  exact kk
theorem aw_rc {P : Int → zM → Prop} {x : Int} (hd : dec X pc = .ok (.ireturn, 1)) (hr : X.2.2.2.1 = some .char) (hz : narrow .char (.int (Int32.ofInt x)) = .int (Int32.ofInt x)) (h : P x M) : AW l X (zTi X P) pc lv [zi x] M := aw_creturn hd hr hz ⟨x, rfl, h⟩
theorem aw_rb {P : Int → zM → Prop} {x : Int} (hd : dec X pc = .ok (.ireturn, 1)) (hr : X.2.2.2.1 = some .byte) (hz : narrow .byte (.int (Int32.ofInt x)) = .int (Int32.ofInt x)) (h : P x M) : AW l X (zTi X P) pc lv [zi x] M := aw_breturn hd hr hz ⟨x, rfl, h⟩
theorem aw_dup2 {v w : zV} (hd : dec X pc = .ok (.dup2, 1)) (hp : pc + 1 = pc') (hv : zcat v = 1) (hw : zcat w = 1) (kk : AW l X T pc' lv (v :: w :: v :: w :: st) M) : AW l X T pc lv (v :: w :: st) M := by
  subst hp
  refine AW.go (fun _ h _ => zok1 (h v List.mem_cons_self) (zok1 (h w (List.mem_cons_of_mem _ List.mem_cons_self)) h)) ?_ kk
  intro g p e s m args below meth c H locs ls Q hC hW hS hlv host hk
  exact lv_dup2_11 hC.1 hC.2.1 hd (by rw [zcat_cv]; exact hv) (by rw [zcat_cv]; exact hw) hk
theorem aw_ldcw {ix : Nat} {n : Int} (hd : dec X pc = .ok (.ldc_w ix, 3)) (hp : pc + 3 = pc') (hc : Cond.constant X.1.cls ix (Int32.ofInt n) ∈ zTB) (kk : AW l X T pc' lv (zi n :: st) M) : AW l X T pc lv st M := by
  subst hp
  refine AW.go (fun _ h _ => zok1i h) ?_ kk
  intro g p e s m args below meth c H locs ls Q hC hW hS hlv host hk
  exact lv_ldcw hC.1 hC.2.1 hC.2.2.2.1 (hC.2.2.2.2.1 _ hc) hd hk
theorem zldcStringW {p : Program} {l : Launch} {e : Jvm.Env} {R : Room} {s : State} {m : MethodId} {args : Array Value} {below : List Frame} {meth : Method} {c : Code} {T : State} {locs : List Loc} {cells slots : Nat}
    (X : Stand p l e R s m args below meth c T locs cells slots) (hexec : p.tables.exec = Jvm.exec) {own text : String} {index : Nat} {a : Addr} (hown : s.vm.findClass own = some m.cls)
    (hconst : (Cond.stringRef own index text).before #[] s = true) (hev : (Term.string own index).eval #[] s none [] s = some (.ref a)) {g : JFrame} (hg : g.method = m) (hdg : decode c.code g.pc = .ok (.ldc_w index, 3)) :
    ∀ target, Steps p.tables e below (T.setTop { g with pc := g.pc + 3, stack := .ref a :: g.stack }) target → Steps p.tables e below (T.setTop g) target := by
  obtain ⟨k, cf, i, a', hk, hcf, hcp, -, hr, hev'⟩ := Cond.stringRef_spec hown hconst
  cases hev.symm.trans hev'
  obtain ⟨k', hk', he⟩ := X.warmed.alike.2.2 _ _ hk
  have hr' : k'.resolved[index]? = some (some (.string a)) := by
    rcases X.warmed.entry hk hk' index with h | ⟨h, -⟩
    · rw [h]; exact hr
    · rw [hr] at h; cases h
  intro target hrest
  subst hg
  jvm_step X.here [hexec, hdg, ldc_w.wp_string (e := e) (s := T) (f := g) X.here.top hk' (by rw [he]; exact hcf) hcp hr']
  exact hrest
theorem aw_ldcSw {ix i : Nat} {tx : String} (hd : dec X pc = .ok (.ldc_w ix, 3)) (hp : pc + 3 = pc') (h : (X.1.cls, ix, tx, i) ∈ zsRefs) (hi : i < zsN) (kk : AW l X T pc' lv (zr 61 i :: st) M) : AW l X T pc lv st M := by
  subst hp
  refine AW.go (fun _ h _ => zok1 (v := zr 61 i) (zok_n (by decide) hi) h) ?_ kk
  intro g p e s m args below meth c H locs ls Q hC hW hS hlv host hk
  rw [List.map_cons, zcv_r (by decide)] at hk
  have hR := hC.2.2.2.2.2.2.2.1.2.2.2.1 _ h
  intro U hU hX
  obtain ⟨t, a1, b1⟩ := hk U hU hX
  exact ⟨t, zldcStringW hX hC.1 hC.2.2.2.1 hR.1 hR.2 (g := F0 m pc ls (st.map (zcv g))) rfl (by rw [hC.2.1]; exact hd) t a1, b1⟩
end
end
section
set_option maxRecDepth 100000
theorem d_X0_take_0 : dec m_X0_take 0 = .ok (.aload_n 0, 1) := by decide +kernel
theorem d_X0_take_1 : dec m_X0_take 1 = .ok (.iconst 0, 1) := by decide +kernel
theorem d_X0_take_2 : dec m_X0_take 2 = .ok (.putfield 18, 3) := by decide +kernel
theorem d_X0_take_5 : dec m_X0_take 5 = .ok (.aload_n 0, 1) := by decide +kernel
theorem d_X0_take_6 : dec m_X0_take 6 = .ok (.iconst 0, 1) := by decide +kernel
theorem d_X0_take_7 : dec m_X0_take 7 = .ok (.putfield 22, 3) := by decide +kernel
theorem d_X0_take_10 : dec m_X0_take 10 = .ok (.iconst 0, 1) := by decide +kernel
theorem d_X0_take_11 : dec m_X0_take 11 = .ok (.istore 4, 2) := by decide +kernel
theorem d_X0_take_13 : dec m_X0_take 13 = .ok (.iload 4, 2) := by decide +kernel
theorem d_X0_take_15 : dec m_X0_take 15 = .ok (.aload_n 1, 1) := by decide +kernel
theorem d_X0_take_16 : dec m_X0_take 16 = .ok (.getfield 25, 3) := by decide +kernel
theorem d_X0_take_19 : dec m_X0_take 19 = .ok (.if_icmp .ge 53, 3) := by decide +kernel
theorem d_X0_take_22 : dec m_X0_take 22 = .ok (.iload_n 2, 1) := by decide +kernel
theorem d_X0_take_23 : dec m_X0_take 23 = .ok (.aload_n 1, 1) := by decide +kernel
theorem d_X0_take_24 : dec m_X0_take 24 = .ok (.iload 4, 2) := by decide +kernel
theorem d_X0_take_26 : dec m_X0_take 26 = .ok (.invokevirtual 30, 3) := by decide +kernel
theorem d_X0_take_29 : dec m_X0_take 29 = .ok (.invokestatic 34, 3) := by decide +kernel
theorem d_X0_take_32 : dec m_X0_take 32 = .ok (.iand, 1) := by decide +kernel
theorem d_X0_take_33 : dec m_X0_take 33 = .ok (.ifCond .eq 7, 3) := by decide +kernel
theorem d_X0_take_36 : dec m_X0_take 36 = .ok (.iconst 1, 1) := by decide +kernel
theorem d_X0_take_37 : dec m_X0_take 37 = .ok (.goto 4, 3) := by decide +kernel
theorem d_X0_take_40 : dec m_X0_take 40 = .ok (.iconst 0, 1) := by decide +kernel
theorem d_X0_take_41 : dec m_X0_take 41 = .ok (.istore 5, 2) := by decide +kernel
theorem d_X0_take_43 : dec m_X0_take 43 = .ok (.iload 5, 2) := by decide +kernel
theorem d_X0_take_45 : dec m_X0_take 45 = .ok (.ifCond .eq 21, 3) := by decide +kernel
theorem d_X0_take_48 : dec m_X0_take 48 = .ok (.iload_n 3, 1) := by decide +kernel
theorem d_X0_take_49 : dec m_X0_take 49 = .ok (.iload 4, 2) := by decide +kernel
theorem d_X0_take_51 : dec m_X0_take 51 = .ok (.invokestatic 34, 3) := by decide +kernel
theorem d_X0_take_54 : dec m_X0_take 54 = .ok (.iand, 1) := by decide +kernel
theorem d_X0_take_55 : dec m_X0_take 55 = .ok (.ifCond .ne 11, 3) := by decide +kernel
theorem d_X0_take_58 : dec m_X0_take 58 = .ok (.aload_n 0, 1) := by decide +kernel
theorem d_X0_take_59 : dec m_X0_take 59 = .ok (.aload_n 1, 1) := by decide +kernel
theorem d_X0_take_60 : dec m_X0_take 60 = .ok (.iload 4, 2) := by decide +kernel
theorem d_X0_take_62 : dec m_X0_take 62 = .ok (.iconst 0, 1) := by decide +kernel
theorem d_X0_take_63 : dec m_X0_take 63 = .ok (.invokevirtual 37, 3) := by decide +kernel
theorem d_X0_take_66 : dec m_X0_take 66 = .ok (.iinc 4 1, 3) := by decide +kernel
theorem d_X0_take_69 : dec m_X0_take 69 = .ok (.goto (-56), 3) := by decide +kernel
theorem d_X0_take_72 : dec m_X0_take 72 = .ok (.return_, 1) := by decide +kernel
theorem d_X0_takeTrader_0 : dec m_X0_takeTrader 0 = .ok (.aload_n 1, 1) := by decide +kernel
theorem d_X0_takeTrader_1 : dec m_X0_takeTrader 1 = .ok (.iload_n 2, 1) := by decide +kernel
theorem d_X0_takeTrader_2 : dec m_X0_takeTrader 2 = .ok (.invokevirtual 41, 3) := by decide +kernel
theorem d_X0_takeTrader_5 : dec m_X0_takeTrader 5 = .ok (.istore 4, 2) := by decide +kernel
theorem d_X0_takeTrader_7 : dec m_X0_takeTrader 7 = .ok (.aload_n 1, 1) := by decide +kernel
theorem d_X0_takeTrader_8 : dec m_X0_takeTrader 8 = .ok (.iload_n 2, 1) := by decide +kernel
theorem d_X0_takeTrader_9 : dec m_X0_takeTrader 9 = .ok (.invokevirtual 45, 3) := by decide +kernel
theorem d_X0_takeTrader_12 : dec m_X0_takeTrader 12 = .ok (.istore 5, 2) := by decide +kernel
theorem d_X0_takeTrader_14 : dec m_X0_takeTrader 14 = .ok (.iconst 0, 1) := by decide +kernel
theorem d_X0_takeTrader_15 : dec m_X0_takeTrader 15 = .ok (.istore 6, 2) := by decide +kernel
theorem d_X0_takeTrader_17 : dec m_X0_takeTrader 17 = .ok (.iload 6, 2) := by decide +kernel
theorem d_X0_takeTrader_19 : dec m_X0_takeTrader 19 = .ok (.iload 5, 2) := by decide +kernel
theorem d_X0_takeTrader_21 : dec m_X0_takeTrader 21 = .ok (.if_icmp .ge 100, 3) := by decide +kernel
theorem d_X0_takeTrader_24 : dec m_X0_takeTrader 24 = .ok (.aload_n 1, 1) := by decide +kernel
theorem d_X0_takeTrader_25 : dec m_X0_takeTrader 25 = .ok (.iload_n 2, 1) := by decide +kernel
theorem d_X0_takeTrader_26 : dec m_X0_takeTrader 26 = .ok (.iload 6, 2) := by decide +kernel
theorem d_X0_takeTrader_28 : dec m_X0_takeTrader 28 = .ok (.invokevirtual 48, 3) := by decide +kernel
theorem d_X0_takeTrader_31 : dec m_X0_takeTrader 31 = .ok (.iload_n 3, 1) := by decide +kernel
theorem d_X0_takeTrader_32 : dec m_X0_takeTrader 32 = .ok (.iadd, 1) := by decide +kernel
theorem d_X0_takeTrader_33 : dec m_X0_takeTrader 33 = .ok (.istore 7, 2) := by decide +kernel
theorem d_X0_takeTrader_35 : dec m_X0_takeTrader 35 = .ok (.iconst 0, 1) := by decide +kernel
theorem d_X0_takeTrader_36 : dec m_X0_takeTrader 36 = .ok (.iload 7, 2) := by decide +kernel
theorem d_X0_takeTrader_38 : dec m_X0_takeTrader 38 = .ok (.sipush 9999, 3) := by decide +kernel
theorem d_X0_takeTrader_41 : dec m_X0_takeTrader 41 = .ok (.invokestatic 52, 3) := by decide +kernel
theorem d_X0_takeTrader_44 : dec m_X0_takeTrader 44 = .ok (.invokestatic 57, 3) := by decide +kernel
theorem d_X0_takeTrader_47 : dec m_X0_takeTrader 47 = .ok (.istore 7, 2) := by decide +kernel
theorem d_X0_takeTrader_49 : dec m_X0_takeTrader 49 = .ok (.iload_n 2, 1) := by decide +kernel
theorem d_X0_takeTrader_50 : dec m_X0_takeTrader 50 = .ok (.iconst 4, 1) := by decide +kernel
theorem d_X0_takeTrader_51 : dec m_X0_takeTrader 51 = .ok (.imul, 1) := by decide +kernel
theorem d_X0_takeTrader_52 : dec m_X0_takeTrader 52 = .ok (.iload 6, 2) := by decide +kernel
theorem d_X0_takeTrader_54 : dec m_X0_takeTrader 54 = .ok (.iadd, 1) := by decide +kernel
theorem d_X0_takeTrader_55 : dec m_X0_takeTrader 55 = .ok (.istore 8, 2) := by decide +kernel
theorem d_X0_takeTrader_57 : dec m_X0_takeTrader 57 = .ok (.iload 4, 2) := by decide +kernel
theorem d_X0_takeTrader_59 : dec m_X0_takeTrader 59 = .ok (.ifCond .eq 29, 3) := by decide +kernel
theorem d_X0_takeTrader_62 : dec m_X0_takeTrader 62 = .ok (.aload_n 0, 1) := by decide +kernel
theorem d_X0_takeTrader_63 : dec m_X0_takeTrader 63 = .ok (.aload_n 0, 1) := by decide +kernel
theorem d_X0_takeTrader_64 : dec m_X0_takeTrader 64 = .ok (.getfield 15, 3) := by decide +kernel
theorem d_X0_takeTrader_67 : dec m_X0_takeTrader 67 = .ok (.aload_n 0, 1) := by decide +kernel
theorem d_X0_takeTrader_68 : dec m_X0_takeTrader 68 = .ok (.getfield 22, 3) := by decide +kernel
theorem d_X0_takeTrader_71 : dec m_X0_takeTrader 71 = .ok (.iload 7, 2) := by decide +kernel
theorem d_X0_takeTrader_73 : dec m_X0_takeTrader 73 = .ok (.bipush 80, 2) := by decide +kernel
theorem d_X0_takeTrader_75 : dec m_X0_takeTrader 75 = .ok (.imul, 1) := by decide +kernel
theorem d_X0_takeTrader_76 : dec m_X0_takeTrader 76 = .ok (.iload 8, 2) := by decide +kernel
theorem d_X0_takeTrader_78 : dec m_X0_takeTrader 78 = .ok (.iadd, 1) := by decide +kernel
theorem d_X0_takeTrader_79 : dec m_X0_takeTrader 79 = .ok (.invokestatic 60, 3) := by decide +kernel
theorem d_X0_takeTrader_82 : dec m_X0_takeTrader 82 = .ok (.putfield 22, 3) := by decide +kernel
theorem d_X0_takeTrader_85 : dec m_X0_takeTrader 85 = .ok (.goto 30, 3) := by decide +kernel
theorem d_X0_takeTrader_88 : dec m_X0_takeTrader 88 = .ok (.aload_n 0, 1) := by decide +kernel
theorem d_X0_takeTrader_89 : dec m_X0_takeTrader 89 = .ok (.aload_n 0, 1) := by decide +kernel
theorem d_X0_takeTrader_90 : dec m_X0_takeTrader 90 = .ok (.getfield 9, 3) := by decide +kernel
theorem d_X0_takeTrader_93 : dec m_X0_takeTrader 93 = .ok (.aload_n 0, 1) := by decide +kernel
theorem d_X0_takeTrader_94 : dec m_X0_takeTrader 94 = .ok (.getfield 18, 3) := by decide +kernel
theorem d_X0_takeTrader_97 : dec m_X0_takeTrader 97 = .ok (.sipush 9999, 3) := by decide +kernel
theorem d_X0_takeTrader_100 : dec m_X0_takeTrader 100 = .ok (.iload 7, 2) := by decide +kernel
theorem d_X0_takeTrader_102 : dec m_X0_takeTrader 102 = .ok (.isub, 1) := by decide +kernel
theorem d_X0_takeTrader_103 : dec m_X0_takeTrader 103 = .ok (.bipush 80, 2) := by decide +kernel
theorem d_X0_takeTrader_105 : dec m_X0_takeTrader 105 = .ok (.imul, 1) := by decide +kernel
theorem d_X0_takeTrader_106 : dec m_X0_takeTrader 106 = .ok (.iload 8, 2) := by decide +kernel
theorem d_X0_takeTrader_108 : dec m_X0_takeTrader 108 = .ok (.iadd, 1) := by decide +kernel
theorem d_X0_takeTrader_109 : dec m_X0_takeTrader 109 = .ok (.invokestatic 60, 3) := by decide +kernel
theorem d_X0_takeTrader_112 : dec m_X0_takeTrader 112 = .ok (.putfield 18, 3) := by decide +kernel
theorem d_X0_takeTrader_115 : dec m_X0_takeTrader 115 = .ok (.iinc 6 1, 3) := by decide +kernel
theorem d_X0_takeTrader_118 : dec m_X0_takeTrader 118 = .ok (.goto (-101), 3) := by decide +kernel
theorem d_X0_takeTrader_121 : dec m_X0_takeTrader 121 = .ok (.return_, 1) := by decide +kernel
theorem d_X0_insert_0 : dec m_X0_insert 0 = .ok (.iload_n 1, 1) := by decide +kernel
theorem d_X0_insert_1 : dec m_X0_insert 1 = .ok (.ifCond .lt 9, 3) := by decide +kernel
theorem d_X0_insert_4 : dec m_X0_insert 4 = .ok (.iload_n 1, 1) := by decide +kernel
theorem d_X0_insert_5 : dec m_X0_insert 5 = .ok (.aload_n 0, 1) := by decide +kernel
theorem d_X0_insert_6 : dec m_X0_insert 6 = .ok (.arraylength, 1) := by decide +kernel
theorem d_X0_insert_7 : dec m_X0_insert 7 = .ok (.if_icmp .lt 5, 3) := by decide +kernel
theorem d_X0_insert_10 : dec m_X0_insert 10 = .ok (.iload_n 1, 1) := by decide +kernel
theorem d_X0_insert_11 : dec m_X0_insert 11 = .ok (.ireturn, 1) := by decide +kernel
theorem d_X0_insert_12 : dec m_X0_insert 12 = .ok (.iload_n 1, 1) := by decide +kernel
theorem d_X0_insert_13 : dec m_X0_insert 13 = .ok (.istore_n 3, 1) := by decide +kernel
theorem d_X0_insert_14 : dec m_X0_insert 14 = .ok (.iload_n 3, 1) := by decide +kernel
theorem d_X0_insert_15 : dec m_X0_insert 15 = .ok (.ifCond .le 26, 3) := by decide +kernel
theorem d_X0_insert_18 : dec m_X0_insert 18 = .ok (.aload_n 0, 1) := by decide +kernel
theorem d_X0_insert_19 : dec m_X0_insert 19 = .ok (.iload_n 3, 1) := by decide +kernel
theorem d_X0_insert_20 : dec m_X0_insert 20 = .ok (.iconst 1, 1) := by decide +kernel
theorem d_X0_insert_21 : dec m_X0_insert 21 = .ok (.isub, 1) := by decide +kernel
theorem d_X0_insert_22 : dec m_X0_insert 22 = .ok (.iaload, 1) := by decide +kernel
theorem d_X0_insert_23 : dec m_X0_insert 23 = .ok (.iload_n 2, 1) := by decide +kernel
theorem d_X0_insert_24 : dec m_X0_insert 24 = .ok (.if_icmp .le 17, 3) := by decide +kernel
theorem d_X0_insert_27 : dec m_X0_insert 27 = .ok (.aload_n 0, 1) := by decide +kernel
theorem d_X0_insert_28 : dec m_X0_insert 28 = .ok (.iload_n 3, 1) := by decide +kernel
theorem d_X0_insert_29 : dec m_X0_insert 29 = .ok (.aload_n 0, 1) := by decide +kernel
theorem d_X0_insert_30 : dec m_X0_insert 30 = .ok (.iload_n 3, 1) := by decide +kernel
theorem d_X0_insert_31 : dec m_X0_insert 31 = .ok (.iconst 1, 1) := by decide +kernel
theorem d_X0_insert_32 : dec m_X0_insert 32 = .ok (.isub, 1) := by decide +kernel
theorem d_X0_insert_33 : dec m_X0_insert 33 = .ok (.iaload, 1) := by decide +kernel
theorem d_X0_insert_34 : dec m_X0_insert 34 = .ok (.iastore, 1) := by decide +kernel
theorem d_X0_insert_35 : dec m_X0_insert 35 = .ok (.iinc 3 (-1), 3) := by decide +kernel
theorem d_X0_insert_38 : dec m_X0_insert 38 = .ok (.goto (-24), 3) := by decide +kernel
theorem d_X0_insert_41 : dec m_X0_insert 41 = .ok (.aload_n 0, 1) := by decide +kernel
theorem d_X0_insert_42 : dec m_X0_insert 42 = .ok (.iload_n 3, 1) := by decide +kernel
theorem d_X0_insert_43 : dec m_X0_insert 43 = .ok (.iload_n 2, 1) := by decide +kernel
theorem d_X0_insert_44 : dec m_X0_insert 44 = .ok (.iastore, 1) := by decide +kernel
theorem d_X0_insert_45 : dec m_X0_insert 45 = .ok (.iload_n 1, 1) := by decide +kernel
theorem d_X0_insert_46 : dec m_X0_insert 46 = .ok (.iconst 1, 1) := by decide +kernel
theorem d_X0_insert_47 : dec m_X0_insert 47 = .ok (.iadd, 1) := by decide +kernel
theorem d_X0_insert_48 : dec m_X0_insert 48 = .ok (.ireturn, 1) := by decide +kernel
theorem d_X0_traderAt_0 : dec m_X0_traderAt 0 = .ok (.aload_n 0, 1) := by decide +kernel
theorem d_X0_traderAt_1 : dec m_X0_traderAt 1 = .ok (.iload_n 1, 1) := by decide +kernel
theorem d_X0_traderAt_2 : dec m_X0_traderAt 2 = .ok (.iload_n 2, 1) := by decide +kernel
theorem d_X0_traderAt_3 : dec m_X0_traderAt 3 = .ok (.invokevirtual 70, 3) := by decide +kernel
theorem d_X0_traderAt_6 : dec m_X0_traderAt 6 = .ok (.iconst 4, 1) := by decide +kernel
theorem d_X0_traderAt_7 : dec m_X0_traderAt 7 = .ok (.idiv, 1) := by decide +kernel
theorem d_X0_traderAt_8 : dec m_X0_traderAt 8 = .ok (.ireturn, 1) := by decide +kernel
theorem d_X0_slotAt_0 : dec m_X0_slotAt 0 = .ok (.iload_n 2, 1) := by decide +kernel
theorem d_X0_slotAt_1 : dec m_X0_slotAt 1 = .ok (.ifCond .lt 28, 3) := by decide +kernel
theorem d_X0_slotAt_4 : dec m_X0_slotAt 4 = .ok (.iload_n 2, 1) := by decide +kernel
theorem d_X0_slotAt_5 : dec m_X0_slotAt 5 = .ok (.bipush 80, 2) := by decide +kernel
theorem d_X0_slotAt_7 : dec m_X0_slotAt 7 = .ok (.if_icmp .ge 22, 3) := by decide +kernel
theorem d_X0_slotAt_10 : dec m_X0_slotAt 10 = .ok (.iload_n 2, 1) := by decide +kernel
theorem d_X0_slotAt_11 : dec m_X0_slotAt 11 = .ok (.iload_n 1, 1) := by decide +kernel
theorem d_X0_slotAt_12 : dec m_X0_slotAt 12 = .ok (.ifCond .eq 10, 3) := by decide +kernel
theorem d_X0_slotAt_15 : dec m_X0_slotAt 15 = .ok (.aload_n 0, 1) := by decide +kernel
theorem d_X0_slotAt_16 : dec m_X0_slotAt 16 = .ok (.getfield 22, 3) := by decide +kernel
theorem d_X0_slotAt_19 : dec m_X0_slotAt 19 = .ok (.goto 7, 3) := by decide +kernel
theorem d_X0_slotAt_22 : dec m_X0_slotAt 22 = .ok (.aload_n 0, 1) := by decide +kernel
theorem d_X0_slotAt_23 : dec m_X0_slotAt 23 = .ok (.getfield 18, 3) := by decide +kernel
theorem d_X0_slotAt_26 : dec m_X0_slotAt 26 = .ok (.if_icmp .lt 6, 3) := by decide +kernel
theorem d_X0_slotAt_29 : dec m_X0_slotAt 29 = .ok (.bipush 80, 2) := by decide +kernel
theorem d_X0_slotAt_31 : dec m_X0_slotAt 31 = .ok (.ireturn, 1) := by decide +kernel
theorem d_X0_slotAt_32 : dec m_X0_slotAt 32 = .ok (.iload_n 1, 1) := by decide +kernel
theorem d_X0_slotAt_33 : dec m_X0_slotAt 33 = .ok (.ifCond .eq 12, 3) := by decide +kernel
theorem d_X0_slotAt_36 : dec m_X0_slotAt 36 = .ok (.aload_n 0, 1) := by decide +kernel
theorem d_X0_slotAt_37 : dec m_X0_slotAt 37 = .ok (.getfield 15, 3) := by decide +kernel
theorem d_X0_slotAt_40 : dec m_X0_slotAt 40 = .ok (.iload_n 2, 1) := by decide +kernel
theorem d_X0_slotAt_41 : dec m_X0_slotAt 41 = .ok (.iaload, 1) := by decide +kernel
theorem d_X0_slotAt_42 : dec m_X0_slotAt 42 = .ok (.goto 9, 3) := by decide +kernel
theorem d_X0_slotAt_45 : dec m_X0_slotAt 45 = .ok (.aload_n 0, 1) := by decide +kernel
theorem d_X0_slotAt_46 : dec m_X0_slotAt 46 = .ok (.getfield 9, 3) := by decide +kernel
theorem d_X0_slotAt_49 : dec m_X0_slotAt 49 = .ok (.iload_n 2, 1) := by decide +kernel
theorem d_X0_slotAt_50 : dec m_X0_slotAt 50 = .ok (.iaload, 1) := by decide +kernel
theorem d_X0_slotAt_51 : dec m_X0_slotAt 51 = .ok (.bipush 80, 2) := by decide +kernel
theorem d_X0_slotAt_53 : dec m_X0_slotAt 53 = .ok (.irem, 1) := by decide +kernel
theorem d_X0_slotAt_54 : dec m_X0_slotAt 54 = .ok (.ireturn, 1) := by decide +kernel
theorem d_X0_bid_0 : dec m_X0_bid 0 = .ok (.iload_n 1, 1) := by decide +kernel
theorem d_X0_bid_1 : dec m_X0_bid 1 = .ok (.ifCond .lt 33, 3) := by decide +kernel
theorem d_X0_bid_4 : dec m_X0_bid 4 = .ok (.iload_n 1, 1) := by decide +kernel
theorem d_X0_bid_5 : dec m_X0_bid 5 = .ok (.aload_n 0, 1) := by decide +kernel
theorem d_X0_bid_6 : dec m_X0_bid 6 = .ok (.getfield 18, 3) := by decide +kernel
theorem d_X0_bid_9 : dec m_X0_bid 9 = .ok (.if_icmp .ge 25, 3) := by decide +kernel
theorem d_X0_bid_12 : dec m_X0_bid 12 = .ok (.iload_n 1, 1) := by decide +kernel
theorem d_X0_bid_13 : dec m_X0_bid 13 = .ok (.bipush 80, 2) := by decide +kernel
theorem d_X0_bid_15 : dec m_X0_bid 15 = .ok (.if_icmp .ge 19, 3) := by decide +kernel
theorem d_X0_bid_18 : dec m_X0_bid 18 = .ok (.sipush 9999, 3) := by decide +kernel
theorem d_X0_bid_21 : dec m_X0_bid 21 = .ok (.aload_n 0, 1) := by decide +kernel
theorem d_X0_bid_22 : dec m_X0_bid 22 = .ok (.getfield 9, 3) := by decide +kernel
theorem d_X0_bid_25 : dec m_X0_bid 25 = .ok (.iload_n 1, 1) := by decide +kernel
theorem d_X0_bid_26 : dec m_X0_bid 26 = .ok (.iaload, 1) := by decide +kernel
theorem d_X0_bid_27 : dec m_X0_bid 27 = .ok (.bipush 80, 2) := by decide +kernel
theorem d_X0_bid_29 : dec m_X0_bid 29 = .ok (.idiv, 1) := by decide +kernel
theorem d_X0_bid_30 : dec m_X0_bid 30 = .ok (.isub, 1) := by decide +kernel
theorem d_X0_bid_31 : dec m_X0_bid 31 = .ok (.goto 4, 3) := by decide +kernel
theorem d_X0_bid_34 : dec m_X0_bid 34 = .ok (.iconst (-1), 1) := by decide +kernel
theorem d_X0_bid_35 : dec m_X0_bid 35 = .ok (.ireturn, 1) := by decide +kernel
theorem d_X0_ask_0 : dec m_X0_ask 0 = .ok (.iload_n 1, 1) := by decide +kernel
theorem d_X0_ask_1 : dec m_X0_ask 1 = .ok (.ifCond .lt 34, 3) := by decide +kernel
theorem d_X0_ask_4 : dec m_X0_ask 4 = .ok (.iload_n 1, 1) := by decide +kernel
theorem d_X0_ask_5 : dec m_X0_ask 5 = .ok (.aload_n 0, 1) := by decide +kernel
theorem d_X0_ask_6 : dec m_X0_ask 6 = .ok (.getfield 22, 3) := by decide +kernel
theorem d_X0_ask_9 : dec m_X0_ask 9 = .ok (.if_icmp .ge 26, 3) := by decide +kernel
theorem d_X0_ask_12 : dec m_X0_ask 12 = .ok (.iload_n 1, 1) := by decide +kernel
theorem d_X0_ask_13 : dec m_X0_ask 13 = .ok (.bipush 80, 2) := by decide +kernel
theorem d_X0_ask_15 : dec m_X0_ask 15 = .ok (.if_icmp .ge 20, 3) := by decide +kernel
theorem d_X0_ask_18 : dec m_X0_ask 18 = .ok (.aload_n 0, 1) := by decide +kernel
theorem d_X0_ask_19 : dec m_X0_ask 19 = .ok (.getfield 15, 3) := by decide +kernel
theorem d_X0_ask_22 : dec m_X0_ask 22 = .ok (.iload_n 1, 1) := by decide +kernel
theorem d_X0_ask_23 : dec m_X0_ask 23 = .ok (.iaload, 1) := by decide +kernel
theorem d_X0_ask_24 : dec m_X0_ask 24 = .ok (.bipush 80, 2) := by decide +kernel
theorem d_X0_ask_26 : dec m_X0_ask 26 = .ok (.idiv, 1) := by decide +kernel
theorem d_X0_ask_27 : dec m_X0_ask 27 = .ok (.aload_n 0, 1) := by decide +kernel
theorem d_X0_ask_28 : dec m_X0_ask 28 = .ok (.getfield 74, 3) := by decide +kernel
theorem d_X0_ask_31 : dec m_X0_ask 31 = .ok (.iadd, 1) := by decide +kernel
theorem d_X0_ask_32 : dec m_X0_ask 32 = .ok (.goto 4, 3) := by decide +kernel
theorem d_X0_ask_35 : dec m_X0_ask 35 = .ok (.iconst (-1), 1) := by decide +kernel
theorem d_X0_ask_36 : dec m_X0_ask 36 = .ok (.ireturn, 1) := by decide +kernel
theorem d_X0_amount_0 : dec m_X0_amount 0 = .ok (.iload_n 1, 1) := by decide +kernel
theorem d_X0_amount_1 : dec m_X0_amount 1 = .ok (.ifCond .eq 11, 3) := by decide +kernel
theorem d_X0_amount_4 : dec m_X0_amount 4 = .ok (.aload_n 0, 1) := by decide +kernel
theorem d_X0_amount_5 : dec m_X0_amount 5 = .ok (.iload_n 2, 1) := by decide +kernel
theorem d_X0_amount_6 : dec m_X0_amount 6 = .ok (.invokevirtual 77, 3) := by decide +kernel
theorem d_X0_amount_9 : dec m_X0_amount 9 = .ok (.goto 8, 3) := by decide +kernel
theorem d_X0_amount_12 : dec m_X0_amount 12 = .ok (.aload_n 0, 1) := by decide +kernel
theorem d_X0_amount_13 : dec m_X0_amount 13 = .ok (.iload_n 2, 1) := by decide +kernel
theorem d_X0_amount_14 : dec m_X0_amount 14 = .ok (.invokevirtual 80, 3) := by decide +kernel
theorem d_X0_amount_17 : dec m_X0_amount 17 = .ok (.ireturn, 1) := by decide +kernel
theorem d_X0_lastBid_0 : dec m_X0_lastBid 0 = .ok (.aload_n 0, 1) := by decide +kernel
theorem d_X0_lastBid_1 : dec m_X0_lastBid 1 = .ok (.aload_n 0, 1) := by decide +kernel
theorem d_X0_lastBid_2 : dec m_X0_lastBid 2 = .ok (.getfield 83, 3) := by decide +kernel
theorem d_X0_lastBid_5 : dec m_X0_lastBid 5 = .ok (.iconst 1, 1) := by decide +kernel
theorem d_X0_lastBid_6 : dec m_X0_lastBid 6 = .ok (.isub, 1) := by decide +kernel
theorem d_X0_lastBid_7 : dec m_X0_lastBid 7 = .ok (.invokevirtual 80, 3) := by decide +kernel
theorem d_X0_lastBid_10 : dec m_X0_lastBid 10 = .ok (.ireturn, 1) := by decide +kernel
theorem d_X0_lastAsk_0 : dec m_X0_lastAsk 0 = .ok (.aload_n 0, 1) := by decide +kernel
theorem d_X0_lastAsk_1 : dec m_X0_lastAsk 1 = .ok (.aload_n 0, 1) := by decide +kernel
theorem d_X0_lastAsk_2 : dec m_X0_lastAsk 2 = .ok (.getfield 83, 3) := by decide +kernel
theorem d_X0_lastAsk_5 : dec m_X0_lastAsk 5 = .ok (.iconst 1, 1) := by decide +kernel
theorem d_X0_lastAsk_6 : dec m_X0_lastAsk 6 = .ok (.isub, 1) := by decide +kernel
theorem d_X0_lastAsk_7 : dec m_X0_lastAsk 7 = .ok (.invokevirtual 77, 3) := by decide +kernel
theorem d_X0_lastAsk_10 : dec m_X0_lastAsk 10 = .ok (.ireturn, 1) := by decide +kernel
theorem d_X0_settle_0 : dec m_X0_settle 0 = .ok (.aload_n 0, 1) := by decide +kernel
theorem d_X0_settle_1 : dec m_X0_settle 1 = .ok (.iload_n 1, 1) := by decide +kernel
theorem d_X0_settle_2 : dec m_X0_settle 2 = .ok (.putfield 74, 3) := by decide +kernel
theorem d_X0_settle_5 : dec m_X0_settle 5 = .ok (.aload_n 0, 1) := by decide +kernel
theorem d_X0_settle_6 : dec m_X0_settle 6 = .ok (.iload_n 2, 1) := by decide +kernel
theorem d_X0_settle_7 : dec m_X0_settle 7 = .ok (.putfield 86, 3) := by decide +kernel
theorem d_X0_settle_10 : dec m_X0_settle 10 = .ok (.aload_n 0, 1) := by decide +kernel
theorem d_X0_settle_11 : dec m_X0_settle 11 = .ok (.iconst 0, 1) := by decide +kernel
theorem d_X0_settle_12 : dec m_X0_settle 12 = .ok (.putfield 83, 3) := by decide +kernel
theorem d_X0_settle_15 : dec m_X0_settle 15 = .ok (.aload_n 0, 1) := by decide +kernel
theorem d_X0_settle_16 : dec m_X0_settle 16 = .ok (.iconst 0, 1) := by decide +kernel
theorem d_X0_settle_17 : dec m_X0_settle 17 = .ok (.putfield 89, 3) := by decide +kernel
theorem d_X0_settle_20 : dec m_X0_settle 20 = .ok (.aload_n 0, 1) := by decide +kernel
theorem d_X0_settle_21 : dec m_X0_settle 21 = .ok (.getfield 83, 3) := by decide +kernel
theorem d_X0_settle_24 : dec m_X0_settle 24 = .ok (.aload_n 0, 1) := by decide +kernel
theorem d_X0_settle_25 : dec m_X0_settle 25 = .ok (.getfield 18, 3) := by decide +kernel
theorem d_X0_settle_28 : dec m_X0_settle 28 = .ok (.if_icmp .ge 72, 3) := by decide +kernel
theorem d_X0_settle_31 : dec m_X0_settle 31 = .ok (.aload_n 0, 1) := by decide +kernel
theorem d_X0_settle_32 : dec m_X0_settle 32 = .ok (.getfield 83, 3) := by decide +kernel
theorem d_X0_settle_35 : dec m_X0_settle 35 = .ok (.aload_n 0, 1) := by decide +kernel
theorem d_X0_settle_36 : dec m_X0_settle 36 = .ok (.getfield 22, 3) := by decide +kernel
theorem d_X0_settle_39 : dec m_X0_settle 39 = .ok (.if_icmp .ge 61, 3) := by decide +kernel
theorem d_X0_settle_42 : dec m_X0_settle 42 = .ok (.aload_n 0, 1) := by decide +kernel
theorem d_X0_settle_43 : dec m_X0_settle 43 = .ok (.aload_n 0, 1) := by decide +kernel
theorem d_X0_settle_44 : dec m_X0_settle 44 = .ok (.getfield 83, 3) := by decide +kernel
theorem d_X0_settle_47 : dec m_X0_settle 47 = .ok (.invokevirtual 80, 3) := by decide +kernel
theorem d_X0_settle_50 : dec m_X0_settle 50 = .ok (.aload_n 0, 1) := by decide +kernel
theorem d_X0_settle_51 : dec m_X0_settle 51 = .ok (.aload_n 0, 1) := by decide +kernel
theorem d_X0_settle_52 : dec m_X0_settle 52 = .ok (.getfield 83, 3) := by decide +kernel
theorem d_X0_settle_55 : dec m_X0_settle 55 = .ok (.invokevirtual 77, 3) := by decide +kernel
theorem d_X0_settle_58 : dec m_X0_settle 58 = .ok (.if_icmp .lt 42, 3) := by decide +kernel
theorem d_X0_settle_61 : dec m_X0_settle 61 = .ok (.aload_n 0, 1) := by decide +kernel
theorem d_X0_settle_62 : dec m_X0_settle 62 = .ok (.dup, 1) := by decide +kernel
theorem d_X0_settle_63 : dec m_X0_settle 63 = .ok (.getfield 89, 3) := by decide +kernel
theorem d_X0_settle_66 : dec m_X0_settle 66 = .ok (.aload_n 0, 1) := by decide +kernel
theorem d_X0_settle_67 : dec m_X0_settle 67 = .ok (.aload_n 0, 1) := by decide +kernel
theorem d_X0_settle_68 : dec m_X0_settle 68 = .ok (.getfield 83, 3) := by decide +kernel
theorem d_X0_settle_71 : dec m_X0_settle 71 = .ok (.invokevirtual 80, 3) := by decide +kernel
theorem d_X0_settle_74 : dec m_X0_settle 74 = .ok (.aload_n 0, 1) := by decide +kernel
theorem d_X0_settle_75 : dec m_X0_settle 75 = .ok (.aload_n 0, 1) := by decide +kernel
theorem d_X0_settle_76 : dec m_X0_settle 76 = .ok (.getfield 83, 3) := by decide +kernel
theorem d_X0_settle_79 : dec m_X0_settle 79 = .ok (.invokevirtual 77, 3) := by decide +kernel
theorem d_X0_settle_82 : dec m_X0_settle 82 = .ok (.isub, 1) := by decide +kernel
theorem d_X0_settle_83 : dec m_X0_settle 83 = .ok (.iadd, 1) := by decide +kernel
theorem d_X0_settle_84 : dec m_X0_settle 84 = .ok (.putfield 89, 3) := by decide +kernel
theorem d_X0_settle_87 : dec m_X0_settle 87 = .ok (.aload_n 0, 1) := by decide +kernel
theorem d_X0_settle_88 : dec m_X0_settle 88 = .ok (.dup, 1) := by decide +kernel
theorem d_X0_settle_89 : dec m_X0_settle 89 = .ok (.getfield 83, 3) := by decide +kernel
theorem d_X0_settle_92 : dec m_X0_settle 92 = .ok (.iconst 1, 1) := by decide +kernel
theorem d_X0_settle_93 : dec m_X0_settle 93 = .ok (.iadd, 1) := by decide +kernel
theorem d_X0_settle_94 : dec m_X0_settle 94 = .ok (.putfield 83, 3) := by decide +kernel
theorem d_X0_settle_97 : dec m_X0_settle 97 = .ok (.goto (-77), 3) := by decide +kernel
theorem d_X0_settle_100 : dec m_X0_settle 100 = .ok (.aload_n 0, 1) := by decide +kernel
theorem d_X0_settle_101 : dec m_X0_settle 101 = .ok (.aload_n 0, 1) := by decide +kernel
theorem d_X0_settle_102 : dec m_X0_settle 102 = .ok (.getfield 83, 3) := by decide +kernel
theorem d_X0_settle_105 : dec m_X0_settle 105 = .ok (.putfield 92, 3) := by decide +kernel
theorem d_X0_settle_108 : dec m_X0_settle 108 = .ok (.aload_n 0, 1) := by decide +kernel
theorem d_X0_settle_109 : dec m_X0_settle 109 = .ok (.getfield 83, 3) := by decide +kernel
theorem d_X0_settle_112 : dec m_X0_settle 112 = .ok (.ifCond .eq 11, 3) := by decide +kernel
theorem d_X0_settle_115 : dec m_X0_settle 115 = .ok (.aload_n 0, 1) := by decide +kernel
theorem d_X0_settle_116 : dec m_X0_settle 116 = .ok (.getfield 86, 3) := by decide +kernel
theorem d_X0_settle_119 : dec m_X0_settle 119 = .ok (.iconst 3, 1) := by decide +kernel
theorem d_X0_settle_120 : dec m_X0_settle 120 = .ok (.if_icmp .ne 4, 3) := by decide +kernel
theorem d_X0_settle_123 : dec m_X0_settle 123 = .ok (.return_, 1) := by decide +kernel
theorem d_X0_settle_124 : dec m_X0_settle 124 = .ok (.aload_n 0, 1) := by decide +kernel
theorem d_X0_settle_125 : dec m_X0_settle 125 = .ok (.invokevirtual 95, 3) := by decide +kernel
theorem d_X0_settle_128 : dec m_X0_settle 128 = .ok (.istore_n 3, 1) := by decide +kernel
theorem d_X0_settle_129 : dec m_X0_settle 129 = .ok (.iload_n 3, 1) := by decide +kernel
theorem d_X0_settle_130 : dec m_X0_settle 130 = .ok (.iconst (-1), 1) := by decide +kernel
theorem d_X0_settle_131 : dec m_X0_settle 131 = .ok (.if_icmp .ne 37, 3) := by decide +kernel
theorem d_X0_settle_134 : dec m_X0_settle 134 = .ok (.aload_n 0, 1) := by decide +kernel
theorem d_X0_settle_135 : dec m_X0_settle 135 = .ok (.aload_n 0, 1) := by decide +kernel
theorem d_X0_settle_136 : dec m_X0_settle 136 = .ok (.getfield 83, 3) := by decide +kernel
theorem d_X0_settle_139 : dec m_X0_settle 139 = .ok (.iconst 1, 1) := by decide +kernel
theorem d_X0_settle_140 : dec m_X0_settle 140 = .ok (.isub, 1) := by decide +kernel
theorem d_X0_settle_141 : dec m_X0_settle 141 = .ok (.putfield 92, 3) := by decide +kernel
theorem d_X0_settle_144 : dec m_X0_settle 144 = .ok (.aload_n 0, 1) := by decide +kernel
theorem d_X0_settle_145 : dec m_X0_settle 145 = .ok (.aload_n 0, 1) := by decide +kernel
theorem d_X0_settle_146 : dec m_X0_settle 146 = .ok (.invokevirtual 99, 3) := by decide +kernel
theorem d_X0_settle_149 : dec m_X0_settle 149 = .ok (.putfield 102, 3) := by decide +kernel
theorem d_X0_settle_152 : dec m_X0_settle 152 = .ok (.aload_n 0, 1) := by decide +kernel
theorem d_X0_settle_153 : dec m_X0_settle 153 = .ok (.aload_n 0, 1) := by decide +kernel
theorem d_X0_settle_154 : dec m_X0_settle 154 = .ok (.invokevirtual 105, 3) := by decide +kernel
theorem d_X0_settle_157 : dec m_X0_settle 157 = .ok (.aload_n 0, 1) := by decide +kernel
theorem d_X0_settle_158 : dec m_X0_settle 158 = .ok (.getfield 74, 3) := by decide +kernel
theorem d_X0_settle_161 : dec m_X0_settle 161 = .ok (.isub, 1) := by decide +kernel
theorem d_X0_settle_162 : dec m_X0_settle 162 = .ok (.putfield 108, 3) := by decide +kernel
theorem d_X0_settle_165 : dec m_X0_settle 165 = .ok (.goto 18, 3) := by decide +kernel
theorem d_X0_settle_168 : dec m_X0_settle 168 = .ok (.aload_n 0, 1) := by decide +kernel
theorem d_X0_settle_169 : dec m_X0_settle 169 = .ok (.iload_n 3, 1) := by decide +kernel
theorem d_X0_settle_170 : dec m_X0_settle 170 = .ok (.putfield 102, 3) := by decide +kernel
theorem d_X0_settle_173 : dec m_X0_settle 173 = .ok (.aload_n 0, 1) := by decide +kernel
theorem d_X0_settle_174 : dec m_X0_settle 174 = .ok (.iload_n 3, 1) := by decide +kernel
theorem d_X0_settle_175 : dec m_X0_settle 175 = .ok (.aload_n 0, 1) := by decide +kernel
theorem d_X0_settle_176 : dec m_X0_settle 176 = .ok (.getfield 74, 3) := by decide +kernel
theorem d_X0_settle_179 : dec m_X0_settle 179 = .ok (.isub, 1) := by decide +kernel
theorem d_X0_settle_180 : dec m_X0_settle 180 = .ok (.putfield 108, 3) := by decide +kernel
theorem d_X0_settle_183 : dec m_X0_settle 183 = .ok (.return_, 1) := by decide +kernel
theorem d_X0_priceForAll_0 : dec m_X0_priceForAll 0 = .ok (.aload_n 0, 1) := by decide +kernel
theorem d_X0_priceForAll_1 : dec m_X0_priceForAll 1 = .ok (.getfield 86, 3) := by decide +kernel
theorem d_X0_priceForAll_4 : dec m_X0_priceForAll 4 = .ok (.iconst 1, 1) := by decide +kernel
theorem d_X0_priceForAll_5 : dec m_X0_priceForAll 5 = .ok (.if_icmp .ne 15, 3) := by decide +kernel
theorem d_X0_priceForAll_8 : dec m_X0_priceForAll 8 = .ok (.aload_n 0, 1) := by decide +kernel
theorem d_X0_priceForAll_9 : dec m_X0_priceForAll 9 = .ok (.invokevirtual 99, 3) := by decide +kernel
theorem d_X0_priceForAll_12 : dec m_X0_priceForAll 12 = .ok (.aload_n 0, 1) := by decide +kernel
theorem d_X0_priceForAll_13 : dec m_X0_priceForAll 13 = .ok (.invokevirtual 105, 3) := by decide +kernel
theorem d_X0_priceForAll_16 : dec m_X0_priceForAll 16 = .ok (.iadd, 1) := by decide +kernel
theorem d_X0_priceForAll_17 : dec m_X0_priceForAll 17 = .ok (.iconst 2, 1) := by decide +kernel
theorem d_X0_priceForAll_18 : dec m_X0_priceForAll 18 = .ok (.idiv, 1) := by decide +kernel
theorem d_X0_priceForAll_19 : dec m_X0_priceForAll 19 = .ok (.ireturn, 1) := by decide +kernel
theorem d_X0_priceForAll_20 : dec m_X0_priceForAll 20 = .ok (.aload_n 0, 1) := by decide +kernel
theorem d_X0_priceForAll_21 : dec m_X0_priceForAll 21 = .ok (.getfield 86, 3) := by decide +kernel
theorem d_X0_priceForAll_24 : dec m_X0_priceForAll 24 = .ok (.ifCond .ne 25, 3) := by decide +kernel
theorem d_X0_priceForAll_27 : dec m_X0_priceForAll 27 = .ok (.aload_n 0, 1) := by decide +kernel
theorem d_X0_priceForAll_28 : dec m_X0_priceForAll 28 = .ok (.getfield 83, 3) := by decide +kernel
theorem d_X0_priceForAll_31 : dec m_X0_priceForAll 31 = .ok (.aload_n 0, 1) := by decide +kernel
theorem d_X0_priceForAll_32 : dec m_X0_priceForAll 32 = .ok (.getfield 18, 3) := by decide +kernel
theorem d_X0_priceForAll_35 : dec m_X0_priceForAll 35 = .ok (.if_icmp .ge 14, 3) := by decide +kernel
theorem d_X0_priceForAll_38 : dec m_X0_priceForAll 38 = .ok (.aload_n 0, 1) := by decide +kernel
theorem d_X0_priceForAll_39 : dec m_X0_priceForAll 39 = .ok (.getfield 83, 3) := by decide +kernel
theorem d_X0_priceForAll_42 : dec m_X0_priceForAll 42 = .ok (.aload_n 0, 1) := by decide +kernel
theorem d_X0_priceForAll_43 : dec m_X0_priceForAll 43 = .ok (.getfield 22, 3) := by decide +kernel
theorem d_X0_priceForAll_46 : dec m_X0_priceForAll 46 = .ok (.if_icmp .lt 5, 3) := by decide +kernel
theorem d_X0_priceForAll_49 : dec m_X0_priceForAll 49 = .ok (.iconst (-1), 1) := by decide +kernel
theorem d_X0_priceForAll_50 : dec m_X0_priceForAll 50 = .ok (.ireturn, 1) := by decide +kernel
theorem d_X0_priceForAll_51 : dec m_X0_priceForAll 51 = .ok (.aload_n 0, 1) := by decide +kernel
theorem d_X0_priceForAll_52 : dec m_X0_priceForAll 52 = .ok (.aload_n 0, 1) := by decide +kernel
theorem d_X0_priceForAll_53 : dec m_X0_priceForAll 53 = .ok (.getfield 83, 3) := by decide +kernel
theorem d_X0_priceForAll_56 : dec m_X0_priceForAll 56 = .ok (.invokevirtual 80, 3) := by decide +kernel
theorem d_X0_priceForAll_59 : dec m_X0_priceForAll 59 = .ok (.aload_n 0, 1) := by decide +kernel
theorem d_X0_priceForAll_60 : dec m_X0_priceForAll 60 = .ok (.aload_n 0, 1) := by decide +kernel
theorem d_X0_priceForAll_61 : dec m_X0_priceForAll 61 = .ok (.getfield 83, 3) := by decide +kernel
theorem d_X0_priceForAll_64 : dec m_X0_priceForAll 64 = .ok (.invokevirtual 77, 3) := by decide +kernel
theorem d_X0_priceForAll_67 : dec m_X0_priceForAll 67 = .ok (.iadd, 1) := by decide +kernel
theorem d_X0_priceForAll_68 : dec m_X0_priceForAll 68 = .ok (.iconst 2, 1) := by decide +kernel
theorem d_X0_priceForAll_69 : dec m_X0_priceForAll 69 = .ok (.idiv, 1) := by decide +kernel
theorem d_X0_priceForAll_70 : dec m_X0_priceForAll 70 = .ok (.istore_n 1, 1) := by decide +kernel
theorem d_X0_priceForAll_71 : dec m_X0_priceForAll 71 = .ok (.iload_n 1, 1) := by decide +kernel
theorem d_X0_priceForAll_72 : dec m_X0_priceForAll 72 = .ok (.aload_n 0, 1) := by decide +kernel
theorem d_X0_priceForAll_73 : dec m_X0_priceForAll 73 = .ok (.invokevirtual 99, 3) := by decide +kernel
theorem d_X0_priceForAll_76 : dec m_X0_priceForAll 76 = .ok (.if_icmp .gt 15, 3) := by decide +kernel
theorem d_X0_priceForAll_79 : dec m_X0_priceForAll 79 = .ok (.iload_n 1, 1) := by decide +kernel
theorem d_X0_priceForAll_80 : dec m_X0_priceForAll 80 = .ok (.aload_n 0, 1) := by decide +kernel
theorem d_X0_priceForAll_81 : dec m_X0_priceForAll 81 = .ok (.invokevirtual 105, 3) := by decide +kernel
theorem d_X0_priceForAll_84 : dec m_X0_priceForAll 84 = .ok (.if_icmp .lt 7, 3) := by decide +kernel
theorem d_X0_priceForAll_87 : dec m_X0_priceForAll 87 = .ok (.iload_n 1, 1) := by decide +kernel
theorem d_X0_priceForAll_88 : dec m_X0_priceForAll 88 = .ok (.goto 4, 3) := by decide +kernel
theorem d_X0_priceForAll_91 : dec m_X0_priceForAll 91 = .ok (.iconst (-1), 1) := by decide +kernel
theorem d_X0_priceForAll_92 : dec m_X0_priceForAll 92 = .ok (.ireturn, 1) := by decide +kernel
theorem d_X0_worthWithout_0 : dec m_X0_worthWithout 0 = .ok (.iconst 0, 1) := by decide +kernel
theorem d_X0_worthWithout_1 : dec m_X0_worthWithout 1 = .ok (.istore_n 2, 1) := by decide +kernel
theorem d_X0_worthWithout_2 : dec m_X0_worthWithout 2 = .ok (.iconst 0, 1) := by decide +kernel
theorem d_X0_worthWithout_3 : dec m_X0_worthWithout 3 = .ok (.istore_n 3, 1) := by decide +kernel
theorem d_X0_worthWithout_4 : dec m_X0_worthWithout 4 = .ok (.iconst 0, 1) := by decide +kernel
theorem d_X0_worthWithout_5 : dec m_X0_worthWithout 5 = .ok (.istore 4, 2) := by decide +kernel
theorem d_X0_worthWithout_7 : dec m_X0_worthWithout 7 = .ok (.iload 4, 2) := by decide +kernel
theorem d_X0_worthWithout_9 : dec m_X0_worthWithout 9 = .ok (.aload_n 0, 1) := by decide +kernel
theorem d_X0_worthWithout_10 : dec m_X0_worthWithout 10 = .ok (.getfield 18, 3) := by decide +kernel
theorem d_X0_worthWithout_13 : dec m_X0_worthWithout 13 = .ok (.if_icmp .ge 90, 3) := by decide +kernel
theorem d_X0_worthWithout_16 : dec m_X0_worthWithout 16 = .ok (.aload_n 0, 1) := by decide +kernel
theorem d_X0_worthWithout_17 : dec m_X0_worthWithout 17 = .ok (.iconst 0, 1) := by decide +kernel
theorem d_X0_worthWithout_18 : dec m_X0_worthWithout 18 = .ok (.iload 4, 2) := by decide +kernel
theorem d_X0_worthWithout_20 : dec m_X0_worthWithout 20 = .ok (.invokevirtual 114, 3) := by decide +kernel
theorem d_X0_worthWithout_23 : dec m_X0_worthWithout 23 = .ok (.iload_n 1, 1) := by decide +kernel
theorem d_X0_worthWithout_24 : dec m_X0_worthWithout 24 = .ok (.if_icmp .ne 6, 3) := by decide +kernel
theorem d_X0_worthWithout_27 : dec m_X0_worthWithout 27 = .ok (.goto 70, 3) := by decide +kernel
theorem d_X0_worthWithout_30 : dec m_X0_worthWithout 30 = .ok (.iload_n 3, 1) := by decide +kernel
theorem d_X0_worthWithout_31 : dec m_X0_worthWithout 31 = .ok (.aload_n 0, 1) := by decide +kernel
theorem d_X0_worthWithout_32 : dec m_X0_worthWithout 32 = .ok (.getfield 22, 3) := by decide +kernel
theorem d_X0_worthWithout_35 : dec m_X0_worthWithout 35 = .ok (.if_icmp .ge 19, 3) := by decide +kernel
theorem d_X0_worthWithout_38 : dec m_X0_worthWithout 38 = .ok (.aload_n 0, 1) := by decide +kernel
theorem d_X0_worthWithout_39 : dec m_X0_worthWithout 39 = .ok (.iconst 1, 1) := by decide +kernel
theorem d_X0_worthWithout_40 : dec m_X0_worthWithout 40 = .ok (.iload_n 3, 1) := by decide +kernel
theorem d_X0_worthWithout_41 : dec m_X0_worthWithout 41 = .ok (.invokevirtual 114, 3) := by decide +kernel
theorem d_X0_worthWithout_44 : dec m_X0_worthWithout 44 = .ok (.iload_n 1, 1) := by decide +kernel
theorem d_X0_worthWithout_45 : dec m_X0_worthWithout 45 = .ok (.if_icmp .ne 9, 3) := by decide +kernel
theorem d_X0_worthWithout_48 : dec m_X0_worthWithout 48 = .ok (.iinc 3 1, 3) := by decide +kernel
theorem d_X0_worthWithout_51 : dec m_X0_worthWithout 51 = .ok (.goto (-21), 3) := by decide +kernel
theorem d_X0_worthWithout_54 : dec m_X0_worthWithout 54 = .ok (.iload_n 3, 1) := by decide +kernel
theorem d_X0_worthWithout_55 : dec m_X0_worthWithout 55 = .ok (.aload_n 0, 1) := by decide +kernel
theorem d_X0_worthWithout_56 : dec m_X0_worthWithout 56 = .ok (.getfield 22, 3) := by decide +kernel
theorem d_X0_worthWithout_59 : dec m_X0_worthWithout 59 = .ok (.if_icmp .ge 44, 3) := by decide +kernel
theorem d_X0_worthWithout_62 : dec m_X0_worthWithout 62 = .ok (.aload_n 0, 1) := by decide +kernel
theorem d_X0_worthWithout_63 : dec m_X0_worthWithout 63 = .ok (.iload 4, 2) := by decide +kernel
theorem d_X0_worthWithout_65 : dec m_X0_worthWithout 65 = .ok (.invokevirtual 80, 3) := by decide +kernel
theorem d_X0_worthWithout_68 : dec m_X0_worthWithout 68 = .ok (.aload_n 0, 1) := by decide +kernel
theorem d_X0_worthWithout_69 : dec m_X0_worthWithout 69 = .ok (.iload_n 3, 1) := by decide +kernel
theorem d_X0_worthWithout_70 : dec m_X0_worthWithout 70 = .ok (.invokevirtual 77, 3) := by decide +kernel
theorem d_X0_worthWithout_73 : dec m_X0_worthWithout 73 = .ok (.if_icmp .ge 6, 3) := by decide +kernel
theorem d_X0_worthWithout_76 : dec m_X0_worthWithout 76 = .ok (.goto 27, 3) := by decide +kernel
theorem d_X0_worthWithout_79 : dec m_X0_worthWithout 79 = .ok (.iload_n 2, 1) := by decide +kernel
theorem d_X0_worthWithout_80 : dec m_X0_worthWithout 80 = .ok (.aload_n 0, 1) := by decide +kernel
theorem d_X0_worthWithout_81 : dec m_X0_worthWithout 81 = .ok (.iload 4, 2) := by decide +kernel
theorem d_X0_worthWithout_83 : dec m_X0_worthWithout 83 = .ok (.invokevirtual 80, 3) := by decide +kernel
theorem d_X0_worthWithout_86 : dec m_X0_worthWithout 86 = .ok (.aload_n 0, 1) := by decide +kernel
theorem d_X0_worthWithout_87 : dec m_X0_worthWithout 87 = .ok (.iload_n 3, 1) := by decide +kernel
theorem d_X0_worthWithout_88 : dec m_X0_worthWithout 88 = .ok (.invokevirtual 77, 3) := by decide +kernel
theorem d_X0_worthWithout_91 : dec m_X0_worthWithout 91 = .ok (.isub, 1) := by decide +kernel
theorem d_X0_worthWithout_92 : dec m_X0_worthWithout 92 = .ok (.iadd, 1) := by decide +kernel
theorem d_X0_worthWithout_93 : dec m_X0_worthWithout 93 = .ok (.istore_n 2, 1) := by decide +kernel
theorem d_X0_worthWithout_94 : dec m_X0_worthWithout 94 = .ok (.iinc 3 1, 3) := by decide +kernel
theorem d_X0_worthWithout_97 : dec m_X0_worthWithout 97 = .ok (.iinc 4 1, 3) := by decide +kernel
theorem d_X0_worthWithout_100 : dec m_X0_worthWithout 100 = .ok (.goto (-93), 3) := by decide +kernel
theorem d_X0_worthWithout_103 : dec m_X0_worthWithout 103 = .ok (.iload_n 2, 1) := by decide +kernel
theorem d_X0_worthWithout_104 : dec m_X0_worthWithout 104 = .ok (.ireturn, 1) := by decide +kernel
theorem d_X0_doneOf_0 : dec m_X0_doneOf 0 = .ok (.iconst 0, 1) := by decide +kernel
theorem d_X0_doneOf_1 : dec m_X0_doneOf 1 = .ok (.istore_n 3, 1) := by decide +kernel
theorem d_X0_doneOf_2 : dec m_X0_doneOf 2 = .ok (.iconst 0, 1) := by decide +kernel
theorem d_X0_doneOf_3 : dec m_X0_doneOf 3 = .ok (.istore 4, 2) := by decide +kernel
theorem d_X0_doneOf_5 : dec m_X0_doneOf 5 = .ok (.iload 4, 2) := by decide +kernel
theorem d_X0_doneOf_7 : dec m_X0_doneOf 7 = .ok (.aload_n 0, 1) := by decide +kernel
theorem d_X0_doneOf_8 : dec m_X0_doneOf 8 = .ok (.getfield 92, 3) := by decide +kernel
theorem d_X0_doneOf_11 : dec m_X0_doneOf 11 = .ok (.if_icmp .ge 23, 3) := by decide +kernel
theorem d_X0_doneOf_14 : dec m_X0_doneOf 14 = .ok (.aload_n 0, 1) := by decide +kernel
theorem d_X0_doneOf_15 : dec m_X0_doneOf 15 = .ok (.iload_n 1, 1) := by decide +kernel
theorem d_X0_doneOf_16 : dec m_X0_doneOf 16 = .ok (.iload 4, 2) := by decide +kernel
theorem d_X0_doneOf_18 : dec m_X0_doneOf 18 = .ok (.invokevirtual 114, 3) := by decide +kernel
theorem d_X0_doneOf_21 : dec m_X0_doneOf 21 = .ok (.iload_n 2, 1) := by decide +kernel
theorem d_X0_doneOf_22 : dec m_X0_doneOf 22 = .ok (.if_icmp .ne 6, 3) := by decide +kernel
theorem d_X0_doneOf_25 : dec m_X0_doneOf 25 = .ok (.iinc 3 1, 3) := by decide +kernel
theorem d_X0_doneOf_28 : dec m_X0_doneOf 28 = .ok (.iinc 4 1, 3) := by decide +kernel
theorem d_X0_doneOf_31 : dec m_X0_doneOf 31 = .ok (.goto (-26), 3) := by decide +kernel
theorem d_X0_doneOf_34 : dec m_X0_doneOf 34 = .ok (.iload_n 3, 1) := by decide +kernel
theorem d_X0_doneOf_35 : dec m_X0_doneOf 35 = .ok (.ireturn, 1) := by decide +kernel
theorem d_X0_moneyOf_0 : dec m_X0_moneyOf 0 = .ok (.aload_n 0, 1) := by decide +kernel
theorem d_X0_moneyOf_1 : dec m_X0_moneyOf 1 = .ok (.iload_n 1, 1) := by decide +kernel
theorem d_X0_moneyOf_2 : dec m_X0_moneyOf 2 = .ok (.iload_n 2, 1) := by decide +kernel
theorem d_X0_moneyOf_3 : dec m_X0_moneyOf 3 = .ok (.invokevirtual 117, 3) := by decide +kernel
theorem d_X0_moneyOf_6 : dec m_X0_moneyOf 6 = .ok (.istore_n 3, 1) := by decide +kernel
theorem d_X0_moneyOf_7 : dec m_X0_moneyOf 7 = .ok (.iload_n 3, 1) := by decide +kernel
theorem d_X0_moneyOf_8 : dec m_X0_moneyOf 8 = .ok (.ifCond .ne 5, 3) := by decide +kernel
theorem d_X0_moneyOf_11 : dec m_X0_moneyOf 11 = .ok (.iconst 0, 1) := by decide +kernel
theorem d_X0_moneyOf_12 : dec m_X0_moneyOf 12 = .ok (.ireturn, 1) := by decide +kernel
theorem d_X0_moneyOf_13 : dec m_X0_moneyOf 13 = .ok (.aload_n 0, 1) := by decide +kernel
theorem d_X0_moneyOf_14 : dec m_X0_moneyOf 14 = .ok (.getfield 86, 3) := by decide +kernel
theorem d_X0_moneyOf_17 : dec m_X0_moneyOf 17 = .ok (.iconst 3, 1) := by decide +kernel
theorem d_X0_moneyOf_18 : dec m_X0_moneyOf 18 = .ok (.if_icmp .eq 21, 3) := by decide +kernel
theorem d_X0_moneyOf_21 : dec m_X0_moneyOf 21 = .ok (.iload_n 3, 1) := by decide +kernel
theorem d_X0_moneyOf_22 : dec m_X0_moneyOf 22 = .ok (.iload_n 1, 1) := by decide +kernel
theorem d_X0_moneyOf_23 : dec m_X0_moneyOf 23 = .ok (.ifCond .eq 10, 3) := by decide +kernel
theorem d_X0_moneyOf_26 : dec m_X0_moneyOf 26 = .ok (.aload_n 0, 1) := by decide +kernel
theorem d_X0_moneyOf_27 : dec m_X0_moneyOf 27 = .ok (.getfield 108, 3) := by decide +kernel
theorem d_X0_moneyOf_30 : dec m_X0_moneyOf 30 = .ok (.goto 7, 3) := by decide +kernel
theorem d_X0_moneyOf_33 : dec m_X0_moneyOf 33 = .ok (.aload_n 0, 1) := by decide +kernel
theorem d_X0_moneyOf_34 : dec m_X0_moneyOf 34 = .ok (.getfield 102, 3) := by decide +kernel
theorem d_X0_moneyOf_37 : dec m_X0_moneyOf 37 = .ok (.imul, 1) := by decide +kernel
theorem d_X0_moneyOf_38 : dec m_X0_moneyOf 38 = .ok (.ireturn, 1) := by decide +kernel
theorem d_X0_moneyOf_39 : dec m_X0_moneyOf 39 = .ok (.aload_n 0, 1) := by decide +kernel
theorem d_X0_moneyOf_40 : dec m_X0_moneyOf 40 = .ok (.iload_n 1, 1) := by decide +kernel
theorem d_X0_moneyOf_41 : dec m_X0_moneyOf 41 = .ok (.iload_n 2, 1) := by decide +kernel
theorem d_X0_moneyOf_42 : dec m_X0_moneyOf 42 = .ok (.invokevirtual 120, 3) := by decide +kernel
theorem d_X0_moneyOf_45 : dec m_X0_moneyOf 45 = .ok (.istore 4, 2) := by decide +kernel
theorem d_X0_moneyOf_47 : dec m_X0_moneyOf 47 = .ok (.aload_n 0, 1) := by decide +kernel
theorem d_X0_moneyOf_48 : dec m_X0_moneyOf 48 = .ok (.iload_n 2, 1) := by decide +kernel
theorem d_X0_moneyOf_49 : dec m_X0_moneyOf 49 = .ok (.invokevirtual 123, 3) := by decide +kernel
theorem d_X0_moneyOf_52 : dec m_X0_moneyOf 52 = .ok (.istore 5, 2) := by decide +kernel
theorem d_X0_moneyOf_54 : dec m_X0_moneyOf 54 = .ok (.iload_n 1, 1) := by decide +kernel
theorem d_X0_moneyOf_55 : dec m_X0_moneyOf 55 = .ok (.ifCond .eq 23, 3) := by decide +kernel
theorem d_X0_moneyOf_58 : dec m_X0_moneyOf 58 = .ok (.aload_n 0, 1) := by decide +kernel
theorem d_X0_moneyOf_59 : dec m_X0_moneyOf 59 = .ok (.getfield 89, 3) := by decide +kernel
theorem d_X0_moneyOf_62 : dec m_X0_moneyOf 62 = .ok (.iload 4, 2) := by decide +kernel
theorem d_X0_moneyOf_64 : dec m_X0_moneyOf 64 = .ok (.iadd, 1) := by decide +kernel
theorem d_X0_moneyOf_65 : dec m_X0_moneyOf 65 = .ok (.iload 5, 2) := by decide +kernel
theorem d_X0_moneyOf_67 : dec m_X0_moneyOf 67 = .ok (.isub, 1) := by decide +kernel
theorem d_X0_moneyOf_68 : dec m_X0_moneyOf 68 = .ok (.iload_n 3, 1) := by decide +kernel
theorem d_X0_moneyOf_69 : dec m_X0_moneyOf 69 = .ok (.aload_n 0, 1) := by decide +kernel
theorem d_X0_moneyOf_70 : dec m_X0_moneyOf 70 = .ok (.getfield 74, 3) := by decide +kernel
theorem d_X0_moneyOf_73 : dec m_X0_moneyOf 73 = .ok (.imul, 1) := by decide +kernel
theorem d_X0_moneyOf_74 : dec m_X0_moneyOf 74 = .ok (.isub, 1) := by decide +kernel
theorem d_X0_moneyOf_75 : dec m_X0_moneyOf 75 = .ok (.goto 13, 3) := by decide +kernel
theorem d_X0_moneyOf_78 : dec m_X0_moneyOf 78 = .ok (.iload 5, 2) := by decide +kernel
theorem d_X0_moneyOf_80 : dec m_X0_moneyOf 80 = .ok (.aload_n 0, 1) := by decide +kernel
theorem d_X0_moneyOf_81 : dec m_X0_moneyOf 81 = .ok (.getfield 89, 3) := by decide +kernel
theorem d_X0_moneyOf_84 : dec m_X0_moneyOf 84 = .ok (.iload 4, 2) := by decide +kernel
theorem d_X0_moneyOf_86 : dec m_X0_moneyOf 86 = .ok (.isub, 1) := by decide +kernel
theorem d_X0_moneyOf_87 : dec m_X0_moneyOf 87 = .ok (.isub, 1) := by decide +kernel
theorem d_X0_moneyOf_88 : dec m_X0_moneyOf 88 = .ok (.ireturn, 1) := by decide +kernel
theorem d_X0_amountsDone_0 : dec m_X0_amountsDone 0 = .ok (.iconst 0, 1) := by decide +kernel
theorem d_X0_amountsDone_1 : dec m_X0_amountsDone 1 = .ok (.istore_n 3, 1) := by decide +kernel
theorem d_X0_amountsDone_2 : dec m_X0_amountsDone 2 = .ok (.iconst 0, 1) := by decide +kernel
theorem d_X0_amountsDone_3 : dec m_X0_amountsDone 3 = .ok (.istore 4, 2) := by decide +kernel
theorem d_X0_amountsDone_5 : dec m_X0_amountsDone 5 = .ok (.iload 4, 2) := by decide +kernel
theorem d_X0_amountsDone_7 : dec m_X0_amountsDone 7 = .ok (.aload_n 0, 1) := by decide +kernel
theorem d_X0_amountsDone_8 : dec m_X0_amountsDone 8 = .ok (.getfield 92, 3) := by decide +kernel
theorem d_X0_amountsDone_11 : dec m_X0_amountsDone 11 = .ok (.if_icmp .ge 30, 3) := by decide +kernel
theorem d_X0_amountsDone_14 : dec m_X0_amountsDone 14 = .ok (.aload_n 0, 1) := by decide +kernel
theorem d_X0_amountsDone_15 : dec m_X0_amountsDone 15 = .ok (.iload_n 1, 1) := by decide +kernel
theorem d_X0_amountsDone_16 : dec m_X0_amountsDone 16 = .ok (.iload 4, 2) := by decide +kernel
theorem d_X0_amountsDone_18 : dec m_X0_amountsDone 18 = .ok (.invokevirtual 114, 3) := by decide +kernel
theorem d_X0_amountsDone_21 : dec m_X0_amountsDone 21 = .ok (.iload_n 2, 1) := by decide +kernel
theorem d_X0_amountsDone_22 : dec m_X0_amountsDone 22 = .ok (.if_icmp .ne 13, 3) := by decide +kernel
theorem d_X0_amountsDone_25 : dec m_X0_amountsDone 25 = .ok (.iload_n 3, 1) := by decide +kernel
theorem d_X0_amountsDone_26 : dec m_X0_amountsDone 26 = .ok (.aload_n 0, 1) := by decide +kernel
theorem d_X0_amountsDone_27 : dec m_X0_amountsDone 27 = .ok (.iload_n 1, 1) := by decide +kernel
theorem d_X0_amountsDone_28 : dec m_X0_amountsDone 28 = .ok (.iload 4, 2) := by decide +kernel
theorem d_X0_amountsDone_30 : dec m_X0_amountsDone 30 = .ok (.invokevirtual 126, 3) := by decide +kernel
theorem d_X0_amountsDone_33 : dec m_X0_amountsDone 33 = .ok (.iadd, 1) := by decide +kernel
theorem d_X0_amountsDone_34 : dec m_X0_amountsDone 34 = .ok (.istore_n 3, 1) := by decide +kernel
theorem d_X0_amountsDone_35 : dec m_X0_amountsDone 35 = .ok (.iinc 4 1, 3) := by decide +kernel
theorem d_X0_amountsDone_38 : dec m_X0_amountsDone 38 = .ok (.goto (-33), 3) := by decide +kernel
theorem d_X0_amountsDone_41 : dec m_X0_amountsDone 41 = .ok (.iload_n 3, 1) := by decide +kernel
theorem d_X0_amountsDone_42 : dec m_X0_amountsDone 42 = .ok (.ireturn, 1) := by decide +kernel
theorem d_X0_takings_0 : dec m_X0_takings 0 = .ok (.aload_n 0, 1) := by decide +kernel
theorem d_X0_takings_1 : dec m_X0_takings 1 = .ok (.getfield 86, 3) := by decide +kernel
theorem d_X0_takings_4 : dec m_X0_takings 4 = .ok (.iconst 3, 1) := by decide +kernel
theorem d_X0_takings_5 : dec m_X0_takings 5 = .ok (.if_icmp .eq 29, 3) := by decide +kernel
theorem d_X0_takings_8 : dec m_X0_takings 8 = .ok (.aload_n 0, 1) := by decide +kernel
theorem d_X0_takings_9 : dec m_X0_takings 9 = .ok (.getfield 92, 3) := by decide +kernel
theorem d_X0_takings_12 : dec m_X0_takings 12 = .ok (.ifCond .ne 7, 3) := by decide +kernel
theorem d_X0_takings_15 : dec m_X0_takings 15 = .ok (.iconst 0, 1) := by decide +kernel
theorem d_X0_takings_16 : dec m_X0_takings 16 = .ok (.goto 17, 3) := by decide +kernel
theorem d_X0_takings_19 : dec m_X0_takings 19 = .ok (.aload_n 0, 1) := by decide +kernel
theorem d_X0_takings_20 : dec m_X0_takings 20 = .ok (.getfield 92, 3) := by decide +kernel
theorem d_X0_takings_23 : dec m_X0_takings 23 = .ok (.aload_n 0, 1) := by decide +kernel
theorem d_X0_takings_24 : dec m_X0_takings 24 = .ok (.getfield 102, 3) := by decide +kernel
theorem d_X0_takings_27 : dec m_X0_takings 27 = .ok (.aload_n 0, 1) := by decide +kernel
theorem d_X0_takings_28 : dec m_X0_takings 28 = .ok (.getfield 108, 3) := by decide +kernel
theorem d_X0_takings_31 : dec m_X0_takings 31 = .ok (.isub, 1) := by decide +kernel
theorem d_X0_takings_32 : dec m_X0_takings 32 = .ok (.imul, 1) := by decide +kernel
theorem d_X0_takings_33 : dec m_X0_takings 33 = .ok (.ireturn, 1) := by decide +kernel
theorem d_X0_takings_34 : dec m_X0_takings 34 = .ok (.aload_n 0, 1) := by decide +kernel
theorem d_X0_takings_35 : dec m_X0_takings 35 = .ok (.getfield 89, 3) := by decide +kernel
theorem d_X0_takings_38 : dec m_X0_takings 38 = .ok (.aload_n 0, 1) := by decide +kernel
theorem d_X0_takings_39 : dec m_X0_takings 39 = .ok (.getfield 92, 3) := by decide +kernel
theorem d_X0_takings_42 : dec m_X0_takings 42 = .ok (.aload_n 0, 1) := by decide +kernel
theorem d_X0_takings_43 : dec m_X0_takings 43 = .ok (.getfield 74, 3) := by decide +kernel
theorem d_X0_takings_46 : dec m_X0_takings 46 = .ok (.imul, 1) := by decide +kernel
theorem d_X0_takings_47 : dec m_X0_takings 47 = .ok (.iadd, 1) := by decide +kernel
theorem d_X0_takings_48 : dec m_X0_takings 48 = .ok (.istore_n 1, 1) := by decide +kernel
theorem d_X0_takings_49 : dec m_X0_takings 49 = .ok (.iconst 0, 1) := by decide +kernel
theorem d_X0_takings_50 : dec m_X0_takings 50 = .ok (.istore_n 2, 1) := by decide +kernel
theorem d_X0_takings_51 : dec m_X0_takings 51 = .ok (.iload_n 2, 1) := by decide +kernel
theorem d_X0_takings_52 : dec m_X0_takings 52 = .ok (.bipush 20, 2) := by decide +kernel
theorem d_X0_takings_54 : dec m_X0_takings 54 = .ok (.if_icmp .ge 22, 3) := by decide +kernel
theorem d_X0_takings_57 : dec m_X0_takings 57 = .ok (.iload_n 1, 1) := by decide +kernel
theorem d_X0_takings_58 : dec m_X0_takings 58 = .ok (.aload_n 0, 1) := by decide +kernel
theorem d_X0_takings_59 : dec m_X0_takings 59 = .ok (.getfield 89, 3) := by decide +kernel
theorem d_X0_takings_62 : dec m_X0_takings 62 = .ok (.aload_n 0, 1) := by decide +kernel
theorem d_X0_takings_63 : dec m_X0_takings 63 = .ok (.iload_n 2, 1) := by decide +kernel
theorem d_X0_takings_64 : dec m_X0_takings 64 = .ok (.invokevirtual 123, 3) := by decide +kernel
theorem d_X0_takings_67 : dec m_X0_takings 67 = .ok (.isub, 1) := by decide +kernel
theorem d_X0_takings_68 : dec m_X0_takings 68 = .ok (.isub, 1) := by decide +kernel
theorem d_X0_takings_69 : dec m_X0_takings 69 = .ok (.istore_n 1, 1) := by decide +kernel
theorem d_X0_takings_70 : dec m_X0_takings 70 = .ok (.iinc 2 1, 3) := by decide +kernel
theorem d_X0_takings_73 : dec m_X0_takings 73 = .ok (.goto (-22), 3) := by decide +kernel
theorem d_X0_takings_76 : dec m_X0_takings 76 = .ok (.iload_n 1, 1) := by decide +kernel
theorem d_X0_takings_77 : dec m_X0_takings 77 = .ok (.ireturn, 1) := by decide +kernel
theorem d_X1_clear_0 : dec m_X1_clear 0 = .ok (.aload_n 0, 1) := by decide +kernel
theorem d_X1_clear_1 : dec m_X1_clear 1 = .ok (.iconst 0, 1) := by decide +kernel
theorem d_X1_clear_2 : dec m_X1_clear 2 = .ok (.putfield 31, 3) := by decide +kernel
theorem d_X1_clear_5 : dec m_X1_clear 5 = .ok (.aload_n 0, 1) := by decide +kernel
theorem d_X1_clear_6 : dec m_X1_clear 6 = .ok (.iconst 0, 1) := by decide +kernel
theorem d_X1_clear_7 : dec m_X1_clear 7 = .ok (.putfield 35, 3) := by decide +kernel
theorem d_X1_clear_10 : dec m_X1_clear 10 = .ok (.aload_n 0, 1) := by decide +kernel
theorem d_X1_clear_11 : dec m_X1_clear 11 = .ok (.iconst 0, 1) := by decide +kernel
theorem d_X1_clear_12 : dec m_X1_clear 12 = .ok (.putfield 38, 3) := by decide +kernel
theorem d_X1_clear_15 : dec m_X1_clear 15 = .ok (.aload_n 0, 1) := by decide +kernel
theorem d_X1_clear_16 : dec m_X1_clear 16 = .ok (.iconst 0, 1) := by decide +kernel
theorem d_X1_clear_17 : dec m_X1_clear 17 = .ok (.putfield 41, 3) := by decide +kernel
theorem d_X1_clear_20 : dec m_X1_clear 20 = .ok (.aload_n 0, 1) := by decide +kernel
theorem d_X1_clear_21 : dec m_X1_clear 21 = .ok (.iconst 0, 1) := by decide +kernel
theorem d_X1_clear_22 : dec m_X1_clear 22 = .ok (.putfield 44, 3) := by decide +kernel
theorem d_X1_clear_25 : dec m_X1_clear 25 = .ok (.aload_n 0, 1) := by decide +kernel
theorem d_X1_clear_26 : dec m_X1_clear 26 = .ok (.iconst 0, 1) := by decide +kernel
theorem d_X1_clear_27 : dec m_X1_clear 27 = .ok (.putfield 47, 3) := by decide +kernel
theorem d_X1_clear_30 : dec m_X1_clear 30 = .ok (.aload_n 0, 1) := by decide +kernel
theorem d_X1_clear_31 : dec m_X1_clear 31 = .ok (.iconst 0, 1) := by decide +kernel
theorem d_X1_clear_32 : dec m_X1_clear 32 = .ok (.putfield 50, 3) := by decide +kernel
theorem d_X1_clear_35 : dec m_X1_clear 35 = .ok (.return_, 1) := by decide +kernel
theorem d_X1_copyFrom_0 : dec m_X1_copyFrom 0 = .ok (.aload_n 1, 1) := by decide +kernel
theorem d_X1_copyFrom_1 : dec m_X1_copyFrom 1 = .ok (.ifnonnull 4, 3) := by decide +kernel
theorem d_X1_copyFrom_4 : dec m_X1_copyFrom 4 = .ok (.return_, 1) := by decide +kernel
theorem d_X1_copyFrom_5 : dec m_X1_copyFrom 5 = .ok (.iconst 0, 1) := by decide +kernel
theorem d_X1_copyFrom_6 : dec m_X1_copyFrom 6 = .ok (.istore_n 2, 1) := by decide +kernel
theorem d_X1_copyFrom_7 : dec m_X1_copyFrom 7 = .ok (.iload_n 2, 1) := by decide +kernel
theorem d_X1_copyFrom_8 : dec m_X1_copyFrom 8 = .ok (.bipush 20, 2) := by decide +kernel
theorem d_X1_copyFrom_10 : dec m_X1_copyFrom 10 = .ok (.if_icmp .ge 21, 3) := by decide +kernel
theorem d_X1_copyFrom_13 : dec m_X1_copyFrom 13 = .ok (.aload_n 0, 1) := by decide +kernel
theorem d_X1_copyFrom_14 : dec m_X1_copyFrom 14 = .ok (.getfield 9, 3) := by decide +kernel
theorem d_X1_copyFrom_17 : dec m_X1_copyFrom 17 = .ok (.iload_n 2, 1) := by decide +kernel
theorem d_X1_copyFrom_18 : dec m_X1_copyFrom 18 = .ok (.aload_n 1, 1) := by decide +kernel
theorem d_X1_copyFrom_19 : dec m_X1_copyFrom 19 = .ok (.getfield 9, 3) := by decide +kernel
theorem d_X1_copyFrom_22 : dec m_X1_copyFrom 22 = .ok (.iload_n 2, 1) := by decide +kernel
theorem d_X1_copyFrom_23 : dec m_X1_copyFrom 23 = .ok (.baload, 1) := by decide +kernel
theorem d_X1_copyFrom_24 : dec m_X1_copyFrom 24 = .ok (.bastore, 1) := by decide +kernel
theorem d_X1_copyFrom_25 : dec m_X1_copyFrom 25 = .ok (.iinc 2 1, 3) := by decide +kernel
theorem d_X1_copyFrom_28 : dec m_X1_copyFrom 28 = .ok (.goto (-21), 3) := by decide +kernel
theorem d_X1_copyFrom_31 : dec m_X1_copyFrom 31 = .ok (.aload_n 1, 1) := by decide +kernel
theorem d_X1_copyFrom_32 : dec m_X1_copyFrom 32 = .ok (.getfield 15, 3) := by decide +kernel
theorem d_X1_copyFrom_35 : dec m_X1_copyFrom 35 = .ok (.iconst 0, 1) := by decide +kernel
theorem d_X1_copyFrom_36 : dec m_X1_copyFrom 36 = .ok (.aload_n 0, 1) := by decide +kernel
theorem d_X1_copyFrom_37 : dec m_X1_copyFrom 37 = .ok (.getfield 15, 3) := by decide +kernel
theorem d_X1_copyFrom_40 : dec m_X1_copyFrom 40 = .ok (.iconst 0, 1) := by decide +kernel
theorem d_X1_copyFrom_41 : dec m_X1_copyFrom 41 = .ok (.bipush 20, 2) := by decide +kernel
theorem d_X1_copyFrom_43 : dec m_X1_copyFrom 43 = .ok (.invokestatic 53, 3) := by decide +kernel
theorem d_X1_copyFrom_46 : dec m_X1_copyFrom 46 = .ok (.aload_n 1, 1) := by decide +kernel
theorem d_X1_copyFrom_47 : dec m_X1_copyFrom 47 = .ok (.getfield 19, 3) := by decide +kernel
theorem d_X1_copyFrom_50 : dec m_X1_copyFrom 50 = .ok (.iconst 0, 1) := by decide +kernel
theorem d_X1_copyFrom_51 : dec m_X1_copyFrom 51 = .ok (.aload_n 0, 1) := by decide +kernel
theorem d_X1_copyFrom_52 : dec m_X1_copyFrom 52 = .ok (.getfield 19, 3) := by decide +kernel
theorem d_X1_copyFrom_55 : dec m_X1_copyFrom 55 = .ok (.iconst 0, 1) := by decide +kernel
theorem d_X1_copyFrom_56 : dec m_X1_copyFrom 56 = .ok (.bipush 20, 2) := by decide +kernel
theorem d_X1_copyFrom_58 : dec m_X1_copyFrom 58 = .ok (.invokestatic 53, 3) := by decide +kernel
theorem d_X1_copyFrom_61 : dec m_X1_copyFrom 61 = .ok (.aload_n 1, 1) := by decide +kernel
theorem d_X1_copyFrom_62 : dec m_X1_copyFrom 62 = .ok (.getfield 22, 3) := by decide +kernel
theorem d_X1_copyFrom_65 : dec m_X1_copyFrom 65 = .ok (.iconst 0, 1) := by decide +kernel
theorem d_X1_copyFrom_66 : dec m_X1_copyFrom 66 = .ok (.aload_n 0, 1) := by decide +kernel
theorem d_X1_copyFrom_67 : dec m_X1_copyFrom 67 = .ok (.getfield 22, 3) := by decide +kernel
theorem d_X1_copyFrom_70 : dec m_X1_copyFrom 70 = .ok (.iconst 0, 1) := by decide +kernel
theorem d_X1_copyFrom_71 : dec m_X1_copyFrom 71 = .ok (.bipush 80, 2) := by decide +kernel
theorem d_X1_copyFrom_73 : dec m_X1_copyFrom 73 = .ok (.invokestatic 53, 3) := by decide +kernel
theorem d_X1_copyFrom_76 : dec m_X1_copyFrom 76 = .ok (.aload_n 1, 1) := by decide +kernel
theorem d_X1_copyFrom_77 : dec m_X1_copyFrom 77 = .ok (.getfield 25, 3) := by decide +kernel
theorem d_X1_copyFrom_80 : dec m_X1_copyFrom 80 = .ok (.iconst 0, 1) := by decide +kernel
theorem d_X1_copyFrom_81 : dec m_X1_copyFrom 81 = .ok (.aload_n 0, 1) := by decide +kernel
theorem d_X1_copyFrom_82 : dec m_X1_copyFrom 82 = .ok (.getfield 25, 3) := by decide +kernel
theorem d_X1_copyFrom_85 : dec m_X1_copyFrom 85 = .ok (.iconst 0, 1) := by decide +kernel
theorem d_X1_copyFrom_86 : dec m_X1_copyFrom 86 = .ok (.bipush 20, 2) := by decide +kernel
theorem d_X1_copyFrom_88 : dec m_X1_copyFrom 88 = .ok (.invokestatic 53, 3) := by decide +kernel
theorem d_X1_copyFrom_91 : dec m_X1_copyFrom 91 = .ok (.aload_n 1, 1) := by decide +kernel
theorem d_X1_copyFrom_92 : dec m_X1_copyFrom 92 = .ok (.getfield 28, 3) := by decide +kernel
theorem d_X1_copyFrom_95 : dec m_X1_copyFrom 95 = .ok (.iconst 0, 1) := by decide +kernel
theorem d_X1_copyFrom_96 : dec m_X1_copyFrom 96 = .ok (.aload_n 0, 1) := by decide +kernel
theorem d_X1_copyFrom_97 : dec m_X1_copyFrom 97 = .ok (.getfield 28, 3) := by decide +kernel
theorem d_X1_copyFrom_100 : dec m_X1_copyFrom 100 = .ok (.iconst 0, 1) := by decide +kernel
theorem d_X1_copyFrom_101 : dec m_X1_copyFrom 101 = .ok (.bipush 20, 2) := by decide +kernel
theorem d_X1_copyFrom_103 : dec m_X1_copyFrom 103 = .ok (.invokestatic 53, 3) := by decide +kernel
theorem d_X1_copyFrom_106 : dec m_X1_copyFrom 106 = .ok (.aload_n 0, 1) := by decide +kernel
theorem d_X1_copyFrom_107 : dec m_X1_copyFrom 107 = .ok (.aload_n 1, 1) := by decide +kernel
theorem d_X1_copyFrom_108 : dec m_X1_copyFrom 108 = .ok (.getfield 31, 3) := by decide +kernel
theorem d_X1_copyFrom_111 : dec m_X1_copyFrom 111 = .ok (.putfield 31, 3) := by decide +kernel
theorem d_X1_copyFrom_114 : dec m_X1_copyFrom 114 = .ok (.aload_n 0, 1) := by decide +kernel
theorem d_X1_copyFrom_115 : dec m_X1_copyFrom 115 = .ok (.aload_n 1, 1) := by decide +kernel
theorem d_X1_copyFrom_116 : dec m_X1_copyFrom 116 = .ok (.getfield 35, 3) := by decide +kernel
theorem d_X1_copyFrom_119 : dec m_X1_copyFrom 119 = .ok (.putfield 35, 3) := by decide +kernel
theorem d_X1_copyFrom_122 : dec m_X1_copyFrom 122 = .ok (.aload_n 0, 1) := by decide +kernel
theorem d_X1_copyFrom_123 : dec m_X1_copyFrom 123 = .ok (.aload_n 1, 1) := by decide +kernel
theorem d_X1_copyFrom_124 : dec m_X1_copyFrom 124 = .ok (.getfield 38, 3) := by decide +kernel
theorem d_X1_copyFrom_127 : dec m_X1_copyFrom 127 = .ok (.putfield 38, 3) := by decide +kernel
theorem d_X1_copyFrom_130 : dec m_X1_copyFrom 130 = .ok (.aload_n 0, 1) := by decide +kernel
theorem d_X1_copyFrom_131 : dec m_X1_copyFrom 131 = .ok (.aload_n 1, 1) := by decide +kernel
theorem d_X1_copyFrom_132 : dec m_X1_copyFrom 132 = .ok (.getfield 41, 3) := by decide +kernel
theorem d_X1_copyFrom_135 : dec m_X1_copyFrom 135 = .ok (.putfield 41, 3) := by decide +kernel
theorem d_X1_copyFrom_138 : dec m_X1_copyFrom 138 = .ok (.aload_n 0, 1) := by decide +kernel
theorem d_X1_copyFrom_139 : dec m_X1_copyFrom 139 = .ok (.aload_n 1, 1) := by decide +kernel
theorem d_X1_copyFrom_140 : dec m_X1_copyFrom 140 = .ok (.getfield 44, 3) := by decide +kernel
theorem d_X1_copyFrom_143 : dec m_X1_copyFrom 143 = .ok (.putfield 44, 3) := by decide +kernel
theorem d_X1_copyFrom_146 : dec m_X1_copyFrom 146 = .ok (.aload_n 0, 1) := by decide +kernel
theorem d_X1_copyFrom_147 : dec m_X1_copyFrom 147 = .ok (.aload_n 1, 1) := by decide +kernel
theorem d_X1_copyFrom_148 : dec m_X1_copyFrom 148 = .ok (.getfield 47, 3) := by decide +kernel
theorem d_X1_copyFrom_151 : dec m_X1_copyFrom 151 = .ok (.putfield 47, 3) := by decide +kernel
theorem d_X1_copyFrom_154 : dec m_X1_copyFrom 154 = .ok (.aload_n 0, 1) := by decide +kernel
theorem d_X1_copyFrom_155 : dec m_X1_copyFrom 155 = .ok (.aload_n 1, 1) := by decide +kernel
theorem d_X1_copyFrom_156 : dec m_X1_copyFrom 156 = .ok (.getfield 50, 3) := by decide +kernel
theorem d_X1_copyFrom_159 : dec m_X1_copyFrom 159 = .ok (.putfield 50, 3) := by decide +kernel
theorem d_X1_copyFrom_162 : dec m_X1_copyFrom 162 = .ok (.return_, 1) := by decide +kernel
theorem d_X1_has_0 : dec m_X1_has 0 = .ok (.iload_n 1, 1) := by decide +kernel
theorem d_X1_has_1 : dec m_X1_has 1 = .ok (.ifCond .lt 21, 3) := by decide +kernel
theorem d_X1_has_4 : dec m_X1_has 4 = .ok (.iload_n 1, 1) := by decide +kernel
theorem d_X1_has_5 : dec m_X1_has 5 = .ok (.aload_n 0, 1) := by decide +kernel
theorem d_X1_has_6 : dec m_X1_has 6 = .ok (.getfield 31, 3) := by decide +kernel
theorem d_X1_has_9 : dec m_X1_has 9 = .ok (.if_icmp .ge 13, 3) := by decide +kernel
theorem d_X1_has_12 : dec m_X1_has 12 = .ok (.iload_n 1, 1) := by decide +kernel
theorem d_X1_has_13 : dec m_X1_has 13 = .ok (.bipush 20, 2) := by decide +kernel
theorem d_X1_has_15 : dec m_X1_has 15 = .ok (.if_icmp .ge 7, 3) := by decide +kernel
theorem d_X1_has_18 : dec m_X1_has 18 = .ok (.iconst 1, 1) := by decide +kernel
theorem d_X1_has_19 : dec m_X1_has 19 = .ok (.goto 4, 3) := by decide +kernel
theorem d_X1_has_22 : dec m_X1_has 22 = .ok (.iconst 0, 1) := by decide +kernel
theorem d_X1_has_23 : dec m_X1_has 23 = .ok (.ireturn, 1) := by decide +kernel
theorem d_X1_hasUnit_0 : dec m_X1_hasUnit 0 = .ok (.iload_n 1, 1) := by decide +kernel
theorem d_X1_hasUnit_1 : dec m_X1_hasUnit 1 = .ok (.ifCond .lt 25, 3) := by decide +kernel
theorem d_X1_hasUnit_4 : dec m_X1_hasUnit 4 = .ok (.iload_n 1, 1) := by decide +kernel
theorem d_X1_hasUnit_5 : dec m_X1_hasUnit 5 = .ok (.aload_n 0, 1) := by decide +kernel
theorem d_X1_hasUnit_6 : dec m_X1_hasUnit 6 = .ok (.getfield 31, 3) := by decide +kernel
theorem d_X1_hasUnit_9 : dec m_X1_hasUnit 9 = .ok (.if_icmp .ge 17, 3) := by decide +kernel
theorem d_X1_hasUnit_12 : dec m_X1_hasUnit 12 = .ok (.iload_n 1, 1) := by decide +kernel
theorem d_X1_hasUnit_13 : dec m_X1_hasUnit 13 = .ok (.bipush 20, 2) := by decide +kernel
theorem d_X1_hasUnit_15 : dec m_X1_hasUnit 15 = .ok (.if_icmp .ge 11, 3) := by decide +kernel
theorem d_X1_hasUnit_18 : dec m_X1_hasUnit 18 = .ok (.iload_n 2, 1) := by decide +kernel
theorem d_X1_hasUnit_19 : dec m_X1_hasUnit 19 = .ok (.ifCond .lt 7, 3) := by decide +kernel
theorem d_X1_hasUnit_22 : dec m_X1_hasUnit 22 = .ok (.iconst 1, 1) := by decide +kernel
theorem d_X1_hasUnit_23 : dec m_X1_hasUnit 23 = .ok (.goto 4, 3) := by decide +kernel
theorem d_X1_hasUnit_26 : dec m_X1_hasUnit 26 = .ok (.iconst 0, 1) := by decide +kernel
theorem d_X1_hasUnit_27 : dec m_X1_hasUnit 27 = .ok (.istore_n 3, 1) := by decide +kernel
theorem d_X1_hasUnit_28 : dec m_X1_hasUnit 28 = .ok (.iload_n 3, 1) := by decide +kernel
theorem d_X1_hasUnit_29 : dec m_X1_hasUnit 29 = .ok (.ifCond .eq 22, 3) := by decide +kernel
theorem d_X1_hasUnit_32 : dec m_X1_hasUnit 32 = .ok (.iload_n 2, 1) := by decide +kernel
theorem d_X1_hasUnit_33 : dec m_X1_hasUnit 33 = .ok (.aload_n 0, 1) := by decide +kernel
theorem d_X1_hasUnit_34 : dec m_X1_hasUnit 34 = .ok (.getfield 19, 3) := by decide +kernel
theorem d_X1_hasUnit_37 : dec m_X1_hasUnit 37 = .ok (.iload_n 1, 1) := by decide +kernel
theorem d_X1_hasUnit_38 : dec m_X1_hasUnit 38 = .ok (.iaload, 1) := by decide +kernel
theorem d_X1_hasUnit_39 : dec m_X1_hasUnit 39 = .ok (.if_icmp .ge 12, 3) := by decide +kernel
theorem d_X1_hasUnit_42 : dec m_X1_hasUnit 42 = .ok (.iload_n 2, 1) := by decide +kernel
theorem d_X1_hasUnit_43 : dec m_X1_hasUnit 43 = .ok (.iconst 4, 1) := by decide +kernel
theorem d_X1_hasUnit_44 : dec m_X1_hasUnit 44 = .ok (.if_icmp .ge 7, 3) := by decide +kernel
theorem d_X1_hasUnit_47 : dec m_X1_hasUnit 47 = .ok (.iconst 1, 1) := by decide +kernel
theorem d_X1_hasUnit_48 : dec m_X1_hasUnit 48 = .ok (.goto 4, 3) := by decide +kernel
theorem d_X1_hasUnit_51 : dec m_X1_hasUnit 51 = .ok (.iconst 0, 1) := by decide +kernel
theorem d_X1_hasUnit_52 : dec m_X1_hasUnit 52 = .ok (.ireturn, 1) := by decide +kernel
theorem d_X1_isSeller_0 : dec m_X1_isSeller 0 = .ok (.aload_n 0, 1) := by decide +kernel
theorem d_X1_isSeller_1 : dec m_X1_isSeller 1 = .ok (.iload_n 1, 1) := by decide +kernel
theorem d_X1_isSeller_2 : dec m_X1_isSeller 2 = .ok (.invokevirtual 59, 3) := by decide +kernel
theorem d_X1_isSeller_5 : dec m_X1_isSeller 5 = .ok (.ifCond .eq 16, 3) := by decide +kernel
theorem d_X1_isSeller_8 : dec m_X1_isSeller 8 = .ok (.aload_n 0, 1) := by decide +kernel
theorem d_X1_isSeller_9 : dec m_X1_isSeller 9 = .ok (.getfield 9, 3) := by decide +kernel
theorem d_X1_isSeller_12 : dec m_X1_isSeller 12 = .ok (.iload_n 1, 1) := by decide +kernel
theorem d_X1_isSeller_13 : dec m_X1_isSeller 13 = .ok (.baload, 1) := by decide +kernel
theorem d_X1_isSeller_14 : dec m_X1_isSeller 14 = .ok (.ifCond .eq 7, 3) := by decide +kernel
theorem d_X1_isSeller_17 : dec m_X1_isSeller 17 = .ok (.iconst 1, 1) := by decide +kernel
theorem d_X1_isSeller_18 : dec m_X1_isSeller 18 = .ok (.goto 4, 3) := by decide +kernel
theorem d_X1_isSeller_21 : dec m_X1_isSeller 21 = .ok (.iconst 0, 1) := by decide +kernel
theorem d_X1_isSeller_22 : dec m_X1_isSeller 22 = .ok (.ireturn, 1) := by decide +kernel
theorem d_X1_gradeOf_0 : dec m_X1_gradeOf 0 = .ok (.aload_n 0, 1) := by decide +kernel
theorem d_X1_gradeOf_1 : dec m_X1_gradeOf 1 = .ok (.iload_n 1, 1) := by decide +kernel
theorem d_X1_gradeOf_2 : dec m_X1_gradeOf 2 = .ok (.invokevirtual 59, 3) := by decide +kernel
theorem d_X1_gradeOf_5 : dec m_X1_gradeOf 5 = .ok (.ifCond .eq 12, 3) := by decide +kernel
theorem d_X1_gradeOf_8 : dec m_X1_gradeOf 8 = .ok (.aload_n 0, 1) := by decide +kernel
theorem d_X1_gradeOf_9 : dec m_X1_gradeOf 9 = .ok (.getfield 15, 3) := by decide +kernel
theorem d_X1_gradeOf_12 : dec m_X1_gradeOf 12 = .ok (.iload_n 1, 1) := by decide +kernel
theorem d_X1_gradeOf_13 : dec m_X1_gradeOf 13 = .ok (.iaload, 1) := by decide +kernel
theorem d_X1_gradeOf_14 : dec m_X1_gradeOf 14 = .ok (.goto 4, 3) := by decide +kernel
theorem d_X1_gradeOf_17 : dec m_X1_gradeOf 17 = .ok (.iconst (-1), 1) := by decide +kernel
theorem d_X1_gradeOf_18 : dec m_X1_gradeOf 18 = .ok (.ireturn, 1) := by decide +kernel
theorem d_X1_unitsOf_0 : dec m_X1_unitsOf 0 = .ok (.aload_n 0, 1) := by decide +kernel
theorem d_X1_unitsOf_1 : dec m_X1_unitsOf 1 = .ok (.iload_n 1, 1) := by decide +kernel
theorem d_X1_unitsOf_2 : dec m_X1_unitsOf 2 = .ok (.invokevirtual 59, 3) := by decide +kernel
theorem d_X1_unitsOf_5 : dec m_X1_unitsOf 5 = .ok (.ifCond .eq 12, 3) := by decide +kernel
theorem d_X1_unitsOf_8 : dec m_X1_unitsOf 8 = .ok (.aload_n 0, 1) := by decide +kernel
theorem d_X1_unitsOf_9 : dec m_X1_unitsOf 9 = .ok (.getfield 19, 3) := by decide +kernel
theorem d_X1_unitsOf_12 : dec m_X1_unitsOf 12 = .ok (.iload_n 1, 1) := by decide +kernel
theorem d_X1_unitsOf_13 : dec m_X1_unitsOf 13 = .ok (.iaload, 1) := by decide +kernel
theorem d_X1_unitsOf_14 : dec m_X1_unitsOf 14 = .ok (.goto 4, 3) := by decide +kernel
theorem d_X1_unitsOf_17 : dec m_X1_unitsOf 17 = .ok (.iconst 0, 1) := by decide +kernel
theorem d_X1_unitsOf_18 : dec m_X1_unitsOf 18 = .ok (.ireturn, 1) := by decide +kernel
theorem d_X1_purseOf_0 : dec m_X1_purseOf 0 = .ok (.aload_n 0, 1) := by decide +kernel
theorem d_X1_purseOf_1 : dec m_X1_purseOf 1 = .ok (.iload_n 1, 1) := by decide +kernel
theorem d_X1_purseOf_2 : dec m_X1_purseOf 2 = .ok (.invokevirtual 59, 3) := by decide +kernel
theorem d_X1_purseOf_5 : dec m_X1_purseOf 5 = .ok (.ifCond .eq 12, 3) := by decide +kernel
theorem d_X1_purseOf_8 : dec m_X1_purseOf 8 = .ok (.aload_n 0, 1) := by decide +kernel
theorem d_X1_purseOf_9 : dec m_X1_purseOf 9 = .ok (.getfield 25, 3) := by decide +kernel
theorem d_X1_purseOf_12 : dec m_X1_purseOf 12 = .ok (.iload_n 1, 1) := by decide +kernel
theorem d_X1_purseOf_13 : dec m_X1_purseOf 13 = .ok (.iaload, 1) := by decide +kernel
theorem d_X1_purseOf_14 : dec m_X1_purseOf 14 = .ok (.goto 4, 3) := by decide +kernel
theorem d_X1_purseOf_17 : dec m_X1_purseOf 17 = .ok (.iconst 0, 1) := by decide +kernel
theorem d_X1_purseOf_18 : dec m_X1_purseOf 18 = .ok (.ireturn, 1) := by decide +kernel
theorem d_X1_tradedOf_0 : dec m_X1_tradedOf 0 = .ok (.aload_n 0, 1) := by decide +kernel
theorem d_X1_tradedOf_1 : dec m_X1_tradedOf 1 = .ok (.iload_n 1, 1) := by decide +kernel
theorem d_X1_tradedOf_2 : dec m_X1_tradedOf 2 = .ok (.invokevirtual 59, 3) := by decide +kernel
theorem d_X1_tradedOf_5 : dec m_X1_tradedOf 5 = .ok (.ifCond .eq 12, 3) := by decide +kernel
theorem d_X1_tradedOf_8 : dec m_X1_tradedOf 8 = .ok (.aload_n 0, 1) := by decide +kernel
theorem d_X1_tradedOf_9 : dec m_X1_tradedOf 9 = .ok (.getfield 28, 3) := by decide +kernel
theorem d_X1_tradedOf_12 : dec m_X1_tradedOf 12 = .ok (.iload_n 1, 1) := by decide +kernel
theorem d_X1_tradedOf_13 : dec m_X1_tradedOf 13 = .ok (.iaload, 1) := by decide +kernel
theorem d_X1_tradedOf_14 : dec m_X1_tradedOf 14 = .ok (.goto 4, 3) := by decide +kernel
theorem d_X1_tradedOf_17 : dec m_X1_tradedOf 17 = .ok (.iconst 0, 1) := by decide +kernel
theorem d_X1_tradedOf_18 : dec m_X1_tradedOf 18 = .ok (.ireturn, 1) := by decide +kernel
theorem d_X1_said_0 : dec m_X1_said 0 = .ok (.aload_n 0, 1) := by decide +kernel
theorem d_X1_said_1 : dec m_X1_said 1 = .ok (.iload_n 1, 1) := by decide +kernel
theorem d_X1_said_2 : dec m_X1_said 2 = .ok (.iload_n 2, 1) := by decide +kernel
theorem d_X1_said_3 : dec m_X1_said 3 = .ok (.invokevirtual 63, 3) := by decide +kernel
theorem d_X1_said_6 : dec m_X1_said 6 = .ok (.ifCond .eq 16, 3) := by decide +kernel
theorem d_X1_said_9 : dec m_X1_said 9 = .ok (.aload_n 0, 1) := by decide +kernel
theorem d_X1_said_10 : dec m_X1_said 10 = .ok (.getfield 22, 3) := by decide +kernel
theorem d_X1_said_13 : dec m_X1_said 13 = .ok (.iload_n 1, 1) := by decide +kernel
theorem d_X1_said_14 : dec m_X1_said 14 = .ok (.iconst 4, 1) := by decide +kernel
theorem d_X1_said_15 : dec m_X1_said 15 = .ok (.imul, 1) := by decide +kernel
theorem d_X1_said_16 : dec m_X1_said 16 = .ok (.iload_n 2, 1) := by decide +kernel
theorem d_X1_said_17 : dec m_X1_said 17 = .ok (.iadd, 1) := by decide +kernel
theorem d_X1_said_18 : dec m_X1_said 18 = .ok (.iaload, 1) := by decide +kernel
theorem d_X1_said_19 : dec m_X1_said 19 = .ok (.goto 4, 3) := by decide +kernel
theorem d_X1_said_22 : dec m_X1_said 22 = .ok (.iconst 0, 1) := by decide +kernel
theorem d_X1_said_23 : dec m_X1_said 23 = .ok (.ireturn, 1) := by decide +kernel
theorem d_X1_setSaid_0 : dec m_X1_setSaid 0 = .ok (.aload_n 0, 1) := by decide +kernel
theorem d_X1_setSaid_1 : dec m_X1_setSaid 1 = .ok (.iload_n 1, 1) := by decide +kernel
theorem d_X1_setSaid_2 : dec m_X1_setSaid 2 = .ok (.iload_n 2, 1) := by decide +kernel
theorem d_X1_setSaid_3 : dec m_X1_setSaid 3 = .ok (.invokevirtual 63, 3) := by decide +kernel
theorem d_X1_setSaid_6 : dec m_X1_setSaid 6 = .ok (.ifCond .eq 14, 3) := by decide +kernel
theorem d_X1_setSaid_9 : dec m_X1_setSaid 9 = .ok (.aload_n 0, 1) := by decide +kernel
theorem d_X1_setSaid_10 : dec m_X1_setSaid 10 = .ok (.getfield 22, 3) := by decide +kernel
theorem d_X1_setSaid_13 : dec m_X1_setSaid 13 = .ok (.iload_n 1, 1) := by decide +kernel
theorem d_X1_setSaid_14 : dec m_X1_setSaid 14 = .ok (.iconst 4, 1) := by decide +kernel
theorem d_X1_setSaid_15 : dec m_X1_setSaid 15 = .ok (.imul, 1) := by decide +kernel
theorem d_X1_setSaid_16 : dec m_X1_setSaid 16 = .ok (.iload_n 2, 1) := by decide +kernel
theorem d_X1_setSaid_17 : dec m_X1_setSaid 17 = .ok (.iadd, 1) := by decide +kernel
theorem d_X1_setSaid_18 : dec m_X1_setSaid 18 = .ok (.iload_n 3, 1) := by decide +kernel
theorem d_X1_setSaid_19 : dec m_X1_setSaid 19 = .ok (.iastore, 1) := by decide +kernel
theorem d_X1_setSaid_20 : dec m_X1_setSaid 20 = .ok (.return_, 1) := by decide +kernel
theorem d_X1_fits_0 : dec m_X1_fits 0 = .ok (.aload_n 0, 1) := by decide +kernel
theorem d_X1_fits_1 : dec m_X1_fits 1 = .ok (.iload_n 1, 1) := by decide +kernel
theorem d_X1_fits_2 : dec m_X1_fits 2 = .ok (.invokevirtual 71, 3) := by decide +kernel
theorem d_X1_fits_5 : dec m_X1_fits 5 = .ok (.istore 4, 2) := by decide +kernel
theorem d_X1_fits_7 : dec m_X1_fits 7 = .ok (.aload_n 0, 1) := by decide +kernel
theorem d_X1_fits_8 : dec m_X1_fits 8 = .ok (.iload_n 1, 1) := by decide +kernel
theorem d_X1_fits_9 : dec m_X1_fits 9 = .ok (.iload_n 2, 1) := by decide +kernel
theorem d_X1_fits_10 : dec m_X1_fits 10 = .ok (.iconst 1, 1) := by decide +kernel
theorem d_X1_fits_11 : dec m_X1_fits 11 = .ok (.isub, 1) := by decide +kernel
theorem d_X1_fits_12 : dec m_X1_fits 12 = .ok (.invokevirtual 63, 3) := by decide +kernel
theorem d_X1_fits_15 : dec m_X1_fits 15 = .ok (.ifCond .eq 22, 3) := by decide +kernel
theorem d_X1_fits_18 : dec m_X1_fits 18 = .ok (.iload 4, 2) := by decide +kernel
theorem d_X1_fits_20 : dec m_X1_fits 20 = .ok (.aload_n 0, 1) := by decide +kernel
theorem d_X1_fits_21 : dec m_X1_fits 21 = .ok (.iload_n 1, 1) := by decide +kernel
theorem d_X1_fits_22 : dec m_X1_fits 22 = .ok (.iload_n 2, 1) := by decide +kernel
theorem d_X1_fits_23 : dec m_X1_fits 23 = .ok (.iconst 1, 1) := by decide +kernel
theorem d_X1_fits_24 : dec m_X1_fits 24 = .ok (.isub, 1) := by decide +kernel
theorem d_X1_fits_25 : dec m_X1_fits 25 = .ok (.invokevirtual 67, 3) := by decide +kernel
theorem d_X1_fits_28 : dec m_X1_fits 28 = .ok (.iload_n 3, 1) := by decide +kernel
theorem d_X1_fits_29 : dec m_X1_fits 29 = .ok (.invokestatic 74, 3) := by decide +kernel
theorem d_X1_fits_32 : dec m_X1_fits 32 = .ok (.ifCond .ne 5, 3) := by decide +kernel
theorem d_X1_fits_35 : dec m_X1_fits 35 = .ok (.iconst 0, 1) := by decide +kernel
theorem d_X1_fits_36 : dec m_X1_fits 36 = .ok (.ireturn, 1) := by decide +kernel
theorem d_X1_fits_37 : dec m_X1_fits 37 = .ok (.aload_n 0, 1) := by decide +kernel
theorem d_X1_fits_38 : dec m_X1_fits 38 = .ok (.iload_n 1, 1) := by decide +kernel
theorem d_X1_fits_39 : dec m_X1_fits 39 = .ok (.iload_n 2, 1) := by decide +kernel
theorem d_X1_fits_40 : dec m_X1_fits 40 = .ok (.iconst 1, 1) := by decide +kernel
theorem d_X1_fits_41 : dec m_X1_fits 41 = .ok (.iadd, 1) := by decide +kernel
theorem d_X1_fits_42 : dec m_X1_fits 42 = .ok (.invokevirtual 63, 3) := by decide +kernel
theorem d_X1_fits_45 : dec m_X1_fits 45 = .ok (.ifCond .eq 20, 3) := by decide +kernel
theorem d_X1_fits_48 : dec m_X1_fits 48 = .ok (.iload 4, 2) := by decide +kernel
theorem d_X1_fits_50 : dec m_X1_fits 50 = .ok (.iload_n 3, 1) := by decide +kernel
theorem d_X1_fits_51 : dec m_X1_fits 51 = .ok (.aload_n 0, 1) := by decide +kernel
theorem d_X1_fits_52 : dec m_X1_fits 52 = .ok (.iload_n 1, 1) := by decide +kernel
theorem d_X1_fits_53 : dec m_X1_fits 53 = .ok (.iload_n 2, 1) := by decide +kernel
theorem d_X1_fits_54 : dec m_X1_fits 54 = .ok (.iconst 1, 1) := by decide +kernel
theorem d_X1_fits_55 : dec m_X1_fits 55 = .ok (.iadd, 1) := by decide +kernel
theorem d_X1_fits_56 : dec m_X1_fits 56 = .ok (.invokevirtual 67, 3) := by decide +kernel
theorem d_X1_fits_59 : dec m_X1_fits 59 = .ok (.invokestatic 74, 3) := by decide +kernel
theorem d_X1_fits_62 : dec m_X1_fits 62 = .ok (.ifCond .eq 7, 3) := by decide +kernel
theorem d_X1_fits_65 : dec m_X1_fits 65 = .ok (.iconst 1, 1) := by decide +kernel
theorem d_X1_fits_66 : dec m_X1_fits 66 = .ok (.goto 4, 3) := by decide +kernel
theorem d_X1_fits_69 : dec m_X1_fits 69 = .ok (.iconst 0, 1) := by decide +kernel
theorem d_X1_fits_70 : dec m_X1_fits 70 = .ok (.ireturn, 1) := by decide +kernel
theorem d_X1_inOrder_0 : dec m_X1_inOrder 0 = .ok (.iload_n 0, 1) := by decide +kernel
theorem d_X1_inOrder_1 : dec m_X1_inOrder 1 = .ok (.ifCond .eq 16, 3) := by decide +kernel
theorem d_X1_inOrder_4 : dec m_X1_inOrder 4 = .ok (.iload_n 2, 1) := by decide +kernel
theorem d_X1_inOrder_5 : dec m_X1_inOrder 5 = .ok (.iload_n 1, 1) := by decide +kernel
theorem d_X1_inOrder_6 : dec m_X1_inOrder 6 = .ok (.if_icmp .lt 7, 3) := by decide +kernel
theorem d_X1_inOrder_9 : dec m_X1_inOrder 9 = .ok (.iconst 1, 1) := by decide +kernel
theorem d_X1_inOrder_10 : dec m_X1_inOrder 10 = .ok (.goto 17, 3) := by decide +kernel
theorem d_X1_inOrder_13 : dec m_X1_inOrder 13 = .ok (.iconst 0, 1) := by decide +kernel
theorem d_X1_inOrder_14 : dec m_X1_inOrder 14 = .ok (.goto 13, 3) := by decide +kernel
theorem d_X1_inOrder_17 : dec m_X1_inOrder 17 = .ok (.iload_n 2, 1) := by decide +kernel
theorem d_X1_inOrder_18 : dec m_X1_inOrder 18 = .ok (.iload_n 1, 1) := by decide +kernel
theorem d_X1_inOrder_19 : dec m_X1_inOrder 19 = .ok (.if_icmp .gt 7, 3) := by decide +kernel
theorem d_X1_inOrder_22 : dec m_X1_inOrder 22 = .ok (.iconst 1, 1) := by decide +kernel
theorem d_X1_inOrder_23 : dec m_X1_inOrder 23 = .ok (.goto 4, 3) := by decide +kernel
theorem d_X1_inOrder_26 : dec m_X1_inOrder 26 = .ok (.iconst 0, 1) := by decide +kernel
theorem d_X1_inOrder_27 : dec m_X1_inOrder 27 = .ok (.ireturn, 1) := by decide +kernel
theorem d_X1_enter_0 : dec m_X1_enter 0 = .ok (.aload_n 0, 1) := by decide +kernel
theorem d_X1_enter_1 : dec m_X1_enter 1 = .ok (.getfield 31, 3) := by decide +kernel
theorem d_X1_enter_4 : dec m_X1_enter 4 = .ok (.ifCond .lt 12, 3) := by decide +kernel
theorem d_X1_enter_7 : dec m_X1_enter 7 = .ok (.aload_n 0, 1) := by decide +kernel
theorem d_X1_enter_8 : dec m_X1_enter 8 = .ok (.getfield 31, 3) := by decide +kernel
theorem d_X1_enter_11 : dec m_X1_enter 11 = .ok (.bipush 20, 2) := by decide +kernel
theorem d_X1_enter_13 : dec m_X1_enter 13 = .ok (.if_icmp .lt 5, 3) := by decide +kernel
theorem d_X1_enter_16 : dec m_X1_enter 16 = .ok (.iconst (-1), 1) := by decide +kernel
theorem d_X1_enter_17 : dec m_X1_enter 17 = .ok (.ireturn, 1) := by decide +kernel
theorem d_X1_enter_18 : dec m_X1_enter 18 = .ok (.aload_n 0, 1) := by decide +kernel
theorem d_X1_enter_19 : dec m_X1_enter 19 = .ok (.getfield 31, 3) := by decide +kernel
theorem d_X1_enter_22 : dec m_X1_enter 22 = .ok (.istore_n 3, 1) := by decide +kernel
theorem d_X1_enter_23 : dec m_X1_enter 23 = .ok (.aload_n 0, 1) := by decide +kernel
theorem d_X1_enter_24 : dec m_X1_enter 24 = .ok (.getfield 9, 3) := by decide +kernel
theorem d_X1_enter_27 : dec m_X1_enter 27 = .ok (.iload_n 3, 1) := by decide +kernel
theorem d_X1_enter_28 : dec m_X1_enter 28 = .ok (.iload_n 1, 1) := by decide +kernel
theorem d_X1_enter_29 : dec m_X1_enter 29 = .ok (.bastore, 1) := by decide +kernel
theorem d_X1_enter_30 : dec m_X1_enter 30 = .ok (.aload_n 0, 1) := by decide +kernel
theorem d_X1_enter_31 : dec m_X1_enter 31 = .ok (.getfield 15, 3) := by decide +kernel
theorem d_X1_enter_34 : dec m_X1_enter 34 = .ok (.iload_n 3, 1) := by decide +kernel
theorem d_X1_enter_35 : dec m_X1_enter 35 = .ok (.iload_n 2, 1) := by decide +kernel
theorem d_X1_enter_36 : dec m_X1_enter 36 = .ok (.iastore, 1) := by decide +kernel
theorem d_X1_enter_37 : dec m_X1_enter 37 = .ok (.aload_n 0, 1) := by decide +kernel
theorem d_X1_enter_38 : dec m_X1_enter 38 = .ok (.getfield 19, 3) := by decide +kernel
theorem d_X1_enter_41 : dec m_X1_enter 41 = .ok (.iload_n 3, 1) := by decide +kernel
theorem d_X1_enter_42 : dec m_X1_enter 42 = .ok (.iconst 0, 1) := by decide +kernel
theorem d_X1_enter_43 : dec m_X1_enter 43 = .ok (.iastore, 1) := by decide +kernel
theorem d_X1_enter_44 : dec m_X1_enter 44 = .ok (.aload_n 0, 1) := by decide +kernel
theorem d_X1_enter_45 : dec m_X1_enter 45 = .ok (.getfield 25, 3) := by decide +kernel
theorem d_X1_enter_48 : dec m_X1_enter 48 = .ok (.iload_n 3, 1) := by decide +kernel
theorem d_X1_enter_49 : dec m_X1_enter 49 = .ok (.iconst 0, 1) := by decide +kernel
theorem d_X1_enter_50 : dec m_X1_enter 50 = .ok (.iastore, 1) := by decide +kernel
theorem d_X1_enter_51 : dec m_X1_enter 51 = .ok (.aload_n 0, 1) := by decide +kernel
theorem d_X1_enter_52 : dec m_X1_enter 52 = .ok (.getfield 28, 3) := by decide +kernel
theorem d_X1_enter_55 : dec m_X1_enter 55 = .ok (.iload_n 3, 1) := by decide +kernel
theorem d_X1_enter_56 : dec m_X1_enter 56 = .ok (.iconst 0, 1) := by decide +kernel
theorem d_X1_enter_57 : dec m_X1_enter 57 = .ok (.iastore, 1) := by decide +kernel
theorem d_X1_enter_58 : dec m_X1_enter 58 = .ok (.aload_n 0, 1) := by decide +kernel
theorem d_X1_enter_59 : dec m_X1_enter 59 = .ok (.dup, 1) := by decide +kernel
theorem d_X1_enter_60 : dec m_X1_enter 60 = .ok (.getfield 31, 3) := by decide +kernel
theorem d_X1_enter_63 : dec m_X1_enter 63 = .ok (.iconst 1, 1) := by decide +kernel
theorem d_X1_enter_64 : dec m_X1_enter 64 = .ok (.iadd, 1) := by decide +kernel
theorem d_X1_enter_65 : dec m_X1_enter 65 = .ok (.putfield 31, 3) := by decide +kernel
theorem d_X1_enter_68 : dec m_X1_enter 68 = .ok (.iload_n 3, 1) := by decide +kernel
theorem d_X1_enter_69 : dec m_X1_enter 69 = .ok (.ireturn, 1) := by decide +kernel
theorem d_X1_append_0 : dec m_X1_append 0 = .ok (.aload_n 0, 1) := by decide +kernel
theorem d_X1_append_1 : dec m_X1_append 1 = .ok (.iload_n 1, 1) := by decide +kernel
theorem d_X1_append_2 : dec m_X1_append 2 = .ok (.invokevirtual 78, 3) := by decide +kernel
theorem d_X1_append_5 : dec m_X1_append 5 = .ok (.istore_n 3, 1) := by decide +kernel
theorem d_X1_append_6 : dec m_X1_append 6 = .ok (.aload_n 0, 1) := by decide +kernel
theorem d_X1_append_7 : dec m_X1_append 7 = .ok (.iload_n 1, 1) := by decide +kernel
theorem d_X1_append_8 : dec m_X1_append 8 = .ok (.invokevirtual 59, 3) := by decide +kernel
theorem d_X1_append_11 : dec m_X1_append 11 = .ok (.ifCond .eq 8, 3) := by decide +kernel
theorem d_X1_append_14 : dec m_X1_append 14 = .ok (.iload_n 3, 1) := by decide +kernel
theorem d_X1_append_15 : dec m_X1_append 15 = .ok (.iconst 4, 1) := by decide +kernel
theorem d_X1_append_16 : dec m_X1_append 16 = .ok (.if_icmp .lt 5, 3) := by decide +kernel
theorem d_X1_append_19 : dec m_X1_append 19 = .ok (.iload_n 3, 1) := by decide +kernel
theorem d_X1_append_20 : dec m_X1_append 20 = .ok (.ireturn, 1) := by decide +kernel
theorem d_X1_append_21 : dec m_X1_append 21 = .ok (.aload_n 0, 1) := by decide +kernel
theorem d_X1_append_22 : dec m_X1_append 22 = .ok (.getfield 19, 3) := by decide +kernel
theorem d_X1_append_25 : dec m_X1_append 25 = .ok (.iload_n 1, 1) := by decide +kernel
theorem d_X1_append_26 : dec m_X1_append 26 = .ok (.iload_n 3, 1) := by decide +kernel
theorem d_X1_append_27 : dec m_X1_append 27 = .ok (.iconst 1, 1) := by decide +kernel
theorem d_X1_append_28 : dec m_X1_append 28 = .ok (.iadd, 1) := by decide +kernel
theorem d_X1_append_29 : dec m_X1_append 29 = .ok (.iastore, 1) := by decide +kernel
theorem d_X1_append_30 : dec m_X1_append 30 = .ok (.aload_n 0, 1) := by decide +kernel
theorem d_X1_append_31 : dec m_X1_append 31 = .ok (.iload_n 1, 1) := by decide +kernel
theorem d_X1_append_32 : dec m_X1_append 32 = .ok (.iload_n 3, 1) := by decide +kernel
theorem d_X1_append_33 : dec m_X1_append 33 = .ok (.iload_n 2, 1) := by decide +kernel
theorem d_X1_append_34 : dec m_X1_append 34 = .ok (.invokevirtual 82, 3) := by decide +kernel
theorem d_X1_append_37 : dec m_X1_append 37 = .ok (.aload_n 0, 1) := by decide +kernel
theorem d_X1_append_38 : dec m_X1_append 38 = .ok (.getfield 19, 3) := by decide +kernel
theorem d_X1_append_41 : dec m_X1_append 41 = .ok (.iload_n 1, 1) := by decide +kernel
theorem d_X1_append_42 : dec m_X1_append 42 = .ok (.iaload, 1) := by decide +kernel
theorem d_X1_append_43 : dec m_X1_append 43 = .ok (.ireturn, 1) := by decide +kernel
theorem d_X1_dropFirst_0 : dec m_X1_dropFirst 0 = .ok (.aload_n 0, 1) := by decide +kernel
theorem d_X1_dropFirst_1 : dec m_X1_dropFirst 1 = .ok (.iload_n 1, 1) := by decide +kernel
theorem d_X1_dropFirst_2 : dec m_X1_dropFirst 2 = .ok (.invokevirtual 78, 3) := by decide +kernel
theorem d_X1_dropFirst_5 : dec m_X1_dropFirst 5 = .ok (.iload_n 2, 1) := by decide +kernel
theorem d_X1_dropFirst_6 : dec m_X1_dropFirst 6 = .ok (.isub, 1) := by decide +kernel
theorem d_X1_dropFirst_7 : dec m_X1_dropFirst 7 = .ok (.istore_n 3, 1) := by decide +kernel
theorem d_X1_dropFirst_8 : dec m_X1_dropFirst 8 = .ok (.aload_n 0, 1) := by decide +kernel
theorem d_X1_dropFirst_9 : dec m_X1_dropFirst 9 = .ok (.iload_n 1, 1) := by decide +kernel
theorem d_X1_dropFirst_10 : dec m_X1_dropFirst 10 = .ok (.invokevirtual 59, 3) := by decide +kernel
theorem d_X1_dropFirst_13 : dec m_X1_dropFirst 13 = .ok (.ifCond .eq 11, 3) := by decide +kernel
theorem d_X1_dropFirst_16 : dec m_X1_dropFirst 16 = .ok (.iload_n 2, 1) := by decide +kernel
theorem d_X1_dropFirst_17 : dec m_X1_dropFirst 17 = .ok (.ifCond .lt 7, 3) := by decide +kernel
theorem d_X1_dropFirst_20 : dec m_X1_dropFirst 20 = .ok (.iload_n 3, 1) := by decide +kernel
theorem d_X1_dropFirst_21 : dec m_X1_dropFirst 21 = .ok (.ifCond .ge 4, 3) := by decide +kernel
theorem d_X1_dropFirst_24 : dec m_X1_dropFirst 24 = .ok (.return_, 1) := by decide +kernel
theorem d_X1_dropFirst_25 : dec m_X1_dropFirst 25 = .ok (.iconst 0, 1) := by decide +kernel
theorem d_X1_dropFirst_26 : dec m_X1_dropFirst 26 = .ok (.istore 4, 2) := by decide +kernel
theorem d_X1_dropFirst_28 : dec m_X1_dropFirst 28 = .ok (.iload 4, 2) := by decide +kernel
theorem d_X1_dropFirst_30 : dec m_X1_dropFirst 30 = .ok (.iload_n 3, 1) := by decide +kernel
theorem d_X1_dropFirst_31 : dec m_X1_dropFirst 31 = .ok (.if_icmp .ge 25, 3) := by decide +kernel
theorem d_X1_dropFirst_34 : dec m_X1_dropFirst 34 = .ok (.aload_n 0, 1) := by decide +kernel
theorem d_X1_dropFirst_35 : dec m_X1_dropFirst 35 = .ok (.iload_n 1, 1) := by decide +kernel
theorem d_X1_dropFirst_36 : dec m_X1_dropFirst 36 = .ok (.iload 4, 2) := by decide +kernel
theorem d_X1_dropFirst_38 : dec m_X1_dropFirst 38 = .ok (.aload_n 0, 1) := by decide +kernel
theorem d_X1_dropFirst_39 : dec m_X1_dropFirst 39 = .ok (.iload_n 1, 1) := by decide +kernel
theorem d_X1_dropFirst_40 : dec m_X1_dropFirst 40 = .ok (.iload 4, 2) := by decide +kernel
theorem d_X1_dropFirst_42 : dec m_X1_dropFirst 42 = .ok (.iload_n 2, 1) := by decide +kernel
theorem d_X1_dropFirst_43 : dec m_X1_dropFirst 43 = .ok (.iadd, 1) := by decide +kernel
theorem d_X1_dropFirst_44 : dec m_X1_dropFirst 44 = .ok (.invokevirtual 67, 3) := by decide +kernel
theorem d_X1_dropFirst_47 : dec m_X1_dropFirst 47 = .ok (.invokevirtual 82, 3) := by decide +kernel
theorem d_X1_dropFirst_50 : dec m_X1_dropFirst 50 = .ok (.iinc 4 1, 3) := by decide +kernel
theorem d_X1_dropFirst_53 : dec m_X1_dropFirst 53 = .ok (.goto (-25), 3) := by decide +kernel
theorem d_X1_dropFirst_56 : dec m_X1_dropFirst 56 = .ok (.aload_n 0, 1) := by decide +kernel
theorem d_X1_dropFirst_57 : dec m_X1_dropFirst 57 = .ok (.getfield 19, 3) := by decide +kernel
theorem d_X1_dropFirst_60 : dec m_X1_dropFirst 60 = .ok (.iload_n 1, 1) := by decide +kernel
theorem d_X1_dropFirst_61 : dec m_X1_dropFirst 61 = .ok (.iload_n 3, 1) := by decide +kernel
theorem d_X1_dropFirst_62 : dec m_X1_dropFirst 62 = .ok (.iastore, 1) := by decide +kernel
theorem d_X1_dropFirst_63 : dec m_X1_dropFirst 63 = .ok (.return_, 1) := by decide +kernel
theorem d_X1_trade_0 : dec m_X1_trade 0 = .ok (.aload_n 0, 1) := by decide +kernel
theorem d_X1_trade_1 : dec m_X1_trade 1 = .ok (.iload_n 1, 1) := by decide +kernel
theorem d_X1_trade_2 : dec m_X1_trade 2 = .ok (.invokevirtual 59, 3) := by decide +kernel
theorem d_X1_trade_5 : dec m_X1_trade 5 = .ok (.ifCond .ne 4, 3) := by decide +kernel
theorem d_X1_trade_8 : dec m_X1_trade 8 = .ok (.return_, 1) := by decide +kernel
theorem d_X1_trade_9 : dec m_X1_trade 9 = .ok (.aload_n 0, 1) := by decide +kernel
theorem d_X1_trade_10 : dec m_X1_trade 10 = .ok (.iload_n 1, 1) := by decide +kernel
theorem d_X1_trade_11 : dec m_X1_trade 11 = .ok (.iload_n 2, 1) := by decide +kernel
theorem d_X1_trade_12 : dec m_X1_trade 12 = .ok (.invokevirtual 86, 3) := by decide +kernel
theorem d_X1_trade_15 : dec m_X1_trade 15 = .ok (.aload_n 0, 1) := by decide +kernel
theorem d_X1_trade_16 : dec m_X1_trade 16 = .ok (.getfield 28, 3) := by decide +kernel
theorem d_X1_trade_19 : dec m_X1_trade 19 = .ok (.iload_n 1, 1) := by decide +kernel
theorem d_X1_trade_20 : dec m_X1_trade 20 = .ok (.dup2, 1) := by decide +kernel
theorem d_X1_trade_21 : dec m_X1_trade 21 = .ok (.iaload, 1) := by decide +kernel
theorem d_X1_trade_22 : dec m_X1_trade 22 = .ok (.iload_n 2, 1) := by decide +kernel
theorem d_X1_trade_23 : dec m_X1_trade 23 = .ok (.iadd, 1) := by decide +kernel
theorem d_X1_trade_24 : dec m_X1_trade 24 = .ok (.iastore, 1) := by decide +kernel
theorem d_X1_trade_25 : dec m_X1_trade 25 = .ok (.aload_n 0, 1) := by decide +kernel
theorem d_X1_trade_26 : dec m_X1_trade 26 = .ok (.getfield 25, 3) := by decide +kernel
theorem d_X1_trade_29 : dec m_X1_trade 29 = .ok (.iload_n 1, 1) := by decide +kernel
theorem d_X1_trade_30 : dec m_X1_trade 30 = .ok (.dup2, 1) := by decide +kernel
theorem d_X1_trade_31 : dec m_X1_trade 31 = .ok (.iaload, 1) := by decide +kernel
theorem d_X1_trade_32 : dec m_X1_trade 32 = .ok (.aload_n 0, 1) := by decide +kernel
theorem d_X1_trade_33 : dec m_X1_trade 33 = .ok (.getfield 9, 3) := by decide +kernel
theorem d_X1_trade_36 : dec m_X1_trade 36 = .ok (.iload_n 1, 1) := by decide +kernel
theorem d_X1_trade_37 : dec m_X1_trade 37 = .ok (.baload, 1) := by decide +kernel
theorem d_X1_trade_38 : dec m_X1_trade 38 = .ok (.ifCond .eq 7, 3) := by decide +kernel
theorem d_X1_trade_41 : dec m_X1_trade 41 = .ok (.iload_n 3, 1) := by decide +kernel
theorem d_X1_trade_42 : dec m_X1_trade 42 = .ok (.goto 5, 3) := by decide +kernel
theorem d_X1_trade_45 : dec m_X1_trade 45 = .ok (.iload_n 3, 1) := by decide +kernel
theorem d_X1_trade_46 : dec m_X1_trade 46 = .ok (.ineg, 1) := by decide +kernel
theorem d_X1_trade_47 : dec m_X1_trade 47 = .ok (.iadd, 1) := by decide +kernel
theorem d_X1_trade_48 : dec m_X1_trade 48 = .ok (.iastore, 1) := by decide +kernel
theorem d_X1_trade_49 : dec m_X1_trade 49 = .ok (.return_, 1) := by decide +kernel
theorem d_X1_noteClose_0 : dec m_X1_noteClose 0 = .ok (.aload_n 0, 1) := by decide +kernel
theorem d_X1_noteClose_1 : dec m_X1_noteClose 1 = .ok (.aload_n 0, 1) := by decide +kernel
theorem d_X1_noteClose_2 : dec m_X1_noteClose 2 = .ok (.getfield 47, 3) := by decide +kernel
theorem d_X1_noteClose_5 : dec m_X1_noteClose 5 = .ok (.ifCond .ne 7, 3) := by decide +kernel
theorem d_X1_noteClose_8 : dec m_X1_noteClose 8 = .ok (.iload_n 2, 1) := by decide +kernel
theorem d_X1_noteClose_9 : dec m_X1_noteClose 9 = .ok (.goto 11, 3) := by decide +kernel
theorem d_X1_noteClose_12 : dec m_X1_noteClose 12 = .ok (.aload_n 0, 1) := by decide +kernel
theorem d_X1_noteClose_13 : dec m_X1_noteClose 13 = .ok (.getfield 50, 3) := by decide +kernel
theorem d_X1_noteClose_16 : dec m_X1_noteClose 16 = .ok (.iload_n 2, 1) := by decide +kernel
theorem d_X1_noteClose_17 : dec m_X1_noteClose 17 = .ok (.invokestatic 90, 3) := by decide +kernel
theorem d_X1_noteClose_20 : dec m_X1_noteClose 20 = .ok (.putfield 50, 3) := by decide +kernel
theorem d_X1_noteClose_23 : dec m_X1_noteClose 23 = .ok (.aload_n 0, 1) := by decide +kernel
theorem d_X1_noteClose_24 : dec m_X1_noteClose 24 = .ok (.dup, 1) := by decide +kernel
theorem d_X1_noteClose_25 : dec m_X1_noteClose 25 = .ok (.getfield 41, 3) := by decide +kernel
theorem d_X1_noteClose_28 : dec m_X1_noteClose 28 = .ok (.iload_n 2, 1) := by decide +kernel
theorem d_X1_noteClose_29 : dec m_X1_noteClose 29 = .ok (.iadd, 1) := by decide +kernel
theorem d_X1_noteClose_30 : dec m_X1_noteClose 30 = .ok (.putfield 41, 3) := by decide +kernel
theorem d_X1_noteClose_33 : dec m_X1_noteClose 33 = .ok (.aload_n 0, 1) := by decide +kernel
theorem d_X1_noteClose_34 : dec m_X1_noteClose 34 = .ok (.dup, 1) := by decide +kernel
theorem d_X1_noteClose_35 : dec m_X1_noteClose 35 = .ok (.getfield 44, 3) := by decide +kernel
theorem d_X1_noteClose_38 : dec m_X1_noteClose 38 = .ok (.iload_n 1, 1) := by decide +kernel
theorem d_X1_noteClose_39 : dec m_X1_noteClose 39 = .ok (.iadd, 1) := by decide +kernel
theorem d_X1_noteClose_40 : dec m_X1_noteClose 40 = .ok (.putfield 44, 3) := by decide +kernel
theorem d_X1_noteClose_43 : dec m_X1_noteClose 43 = .ok (.aload_n 0, 1) := by decide +kernel
theorem d_X1_noteClose_44 : dec m_X1_noteClose 44 = .ok (.dup, 1) := by decide +kernel
theorem d_X1_noteClose_45 : dec m_X1_noteClose 45 = .ok (.getfield 47, 3) := by decide +kernel
theorem d_X1_noteClose_48 : dec m_X1_noteClose 48 = .ok (.iconst 1, 1) := by decide +kernel
theorem d_X1_noteClose_49 : dec m_X1_noteClose 49 = .ok (.iadd, 1) := by decide +kernel
theorem d_X1_noteClose_50 : dec m_X1_noteClose 50 = .ok (.putfield 47, 3) := by decide +kernel
theorem d_X1_noteClose_53 : dec m_X1_noteClose 53 = .ok (.return_, 1) := by decide +kernel
theorem d_X1_allUnits_0 : dec m_X1_allUnits 0 = .ok (.iconst 0, 1) := by decide +kernel
theorem d_X1_allUnits_1 : dec m_X1_allUnits 1 = .ok (.istore_n 1, 1) := by decide +kernel
theorem d_X1_allUnits_2 : dec m_X1_allUnits 2 = .ok (.iconst 0, 1) := by decide +kernel
theorem d_X1_allUnits_3 : dec m_X1_allUnits 3 = .ok (.istore_n 2, 1) := by decide +kernel
theorem d_X1_allUnits_4 : dec m_X1_allUnits 4 = .ok (.iload_n 2, 1) := by decide +kernel
theorem d_X1_allUnits_5 : dec m_X1_allUnits 5 = .ok (.aload_n 0, 1) := by decide +kernel
theorem d_X1_allUnits_6 : dec m_X1_allUnits 6 = .ok (.getfield 31, 3) := by decide +kernel
theorem d_X1_allUnits_9 : dec m_X1_allUnits 9 = .ok (.if_icmp .ge 17, 3) := by decide +kernel
theorem d_X1_allUnits_12 : dec m_X1_allUnits 12 = .ok (.iload_n 1, 1) := by decide +kernel
theorem d_X1_allUnits_13 : dec m_X1_allUnits 13 = .ok (.aload_n 0, 1) := by decide +kernel
theorem d_X1_allUnits_14 : dec m_X1_allUnits 14 = .ok (.iload_n 2, 1) := by decide +kernel
theorem d_X1_allUnits_15 : dec m_X1_allUnits 15 = .ok (.invokevirtual 78, 3) := by decide +kernel
theorem d_X1_allUnits_18 : dec m_X1_allUnits 18 = .ok (.iadd, 1) := by decide +kernel
theorem d_X1_allUnits_19 : dec m_X1_allUnits 19 = .ok (.istore_n 1, 1) := by decide +kernel
theorem d_X1_allUnits_20 : dec m_X1_allUnits 20 = .ok (.iinc 2 1, 3) := by decide +kernel
theorem d_X1_allUnits_23 : dec m_X1_allUnits 23 = .ok (.goto (-19), 3) := by decide +kernel
theorem d_X1_allUnits_26 : dec m_X1_allUnits 26 = .ok (.iload_n 1, 1) := by decide +kernel
theorem d_X1_allUnits_27 : dec m_X1_allUnits 27 = .ok (.ireturn, 1) := by decide +kernel
theorem d_X1_allPurses_0 : dec m_X1_allPurses 0 = .ok (.iconst 0, 1) := by decide +kernel
theorem d_X1_allPurses_1 : dec m_X1_allPurses 1 = .ok (.istore_n 1, 1) := by decide +kernel
theorem d_X1_allPurses_2 : dec m_X1_allPurses 2 = .ok (.iconst 0, 1) := by decide +kernel
theorem d_X1_allPurses_3 : dec m_X1_allPurses 3 = .ok (.istore_n 2, 1) := by decide +kernel
theorem d_X1_allPurses_4 : dec m_X1_allPurses 4 = .ok (.iload_n 2, 1) := by decide +kernel
theorem d_X1_allPurses_5 : dec m_X1_allPurses 5 = .ok (.aload_n 0, 1) := by decide +kernel
theorem d_X1_allPurses_6 : dec m_X1_allPurses 6 = .ok (.getfield 31, 3) := by decide +kernel
theorem d_X1_allPurses_9 : dec m_X1_allPurses 9 = .ok (.if_icmp .ge 17, 3) := by decide +kernel
theorem d_X1_allPurses_12 : dec m_X1_allPurses 12 = .ok (.iload_n 1, 1) := by decide +kernel
theorem d_X1_allPurses_13 : dec m_X1_allPurses 13 = .ok (.aload_n 0, 1) := by decide +kernel
theorem d_X1_allPurses_14 : dec m_X1_allPurses 14 = .ok (.iload_n 2, 1) := by decide +kernel
theorem d_X1_allPurses_15 : dec m_X1_allPurses 15 = .ok (.invokevirtual 95, 3) := by decide +kernel
theorem d_X1_allPurses_18 : dec m_X1_allPurses 18 = .ok (.iadd, 1) := by decide +kernel
theorem d_X1_allPurses_19 : dec m_X1_allPurses 19 = .ok (.istore_n 1, 1) := by decide +kernel
theorem d_X1_allPurses_20 : dec m_X1_allPurses 20 = .ok (.iinc 2 1, 3) := by decide +kernel
theorem d_X1_allPurses_23 : dec m_X1_allPurses 23 = .ok (.goto (-19), 3) := by decide +kernel
theorem d_X1_allPurses_26 : dec m_X1_allPurses 26 = .ok (.iload_n 1, 1) := by decide +kernel
theorem d_X1_allPurses_27 : dec m_X1_allPurses 27 = .ok (.ireturn, 1) := by decide +kernel
theorem d_X1_richest_0 : dec m_X1_richest 0 = .ok (.iconst 0, 1) := by decide +kernel
theorem d_X1_richest_1 : dec m_X1_richest 1 = .ok (.istore_n 1, 1) := by decide +kernel
theorem d_X1_richest_2 : dec m_X1_richest 2 = .ok (.iconst 1, 1) := by decide +kernel
theorem d_X1_richest_3 : dec m_X1_richest 3 = .ok (.istore_n 2, 1) := by decide +kernel
theorem d_X1_richest_4 : dec m_X1_richest 4 = .ok (.iload_n 2, 1) := by decide +kernel
theorem d_X1_richest_5 : dec m_X1_richest 5 = .ok (.aload_n 0, 1) := by decide +kernel
theorem d_X1_richest_6 : dec m_X1_richest 6 = .ok (.getfield 31, 3) := by decide +kernel
theorem d_X1_richest_9 : dec m_X1_richest 9 = .ok (.if_icmp .ge 24, 3) := by decide +kernel
theorem d_X1_richest_12 : dec m_X1_richest 12 = .ok (.aload_n 0, 1) := by decide +kernel
theorem d_X1_richest_13 : dec m_X1_richest 13 = .ok (.iload_n 2, 1) := by decide +kernel
theorem d_X1_richest_14 : dec m_X1_richest 14 = .ok (.invokevirtual 95, 3) := by decide +kernel
theorem d_X1_richest_17 : dec m_X1_richest 17 = .ok (.aload_n 0, 1) := by decide +kernel
theorem d_X1_richest_18 : dec m_X1_richest 18 = .ok (.iload_n 1, 1) := by decide +kernel
theorem d_X1_richest_19 : dec m_X1_richest 19 = .ok (.invokevirtual 95, 3) := by decide +kernel
theorem d_X1_richest_22 : dec m_X1_richest 22 = .ok (.if_icmp .le 5, 3) := by decide +kernel
theorem d_X1_richest_25 : dec m_X1_richest 25 = .ok (.iload_n 2, 1) := by decide +kernel
theorem d_X1_richest_26 : dec m_X1_richest 26 = .ok (.istore_n 1, 1) := by decide +kernel
theorem d_X1_richest_27 : dec m_X1_richest 27 = .ok (.iinc 2 1, 3) := by decide +kernel
theorem d_X1_richest_30 : dec m_X1_richest 30 = .ok (.goto (-26), 3) := by decide +kernel
theorem d_X1_richest_33 : dec m_X1_richest 33 = .ok (.iload_n 1, 1) := by decide +kernel
theorem d_X1_richest_34 : dec m_X1_richest 34 = .ok (.ireturn, 1) := by decide +kernel
theorem d_X2_forget_0 : dec m_X2_forget 0 = .ok (.aload_n 0, 1) := by decide +kernel
theorem d_X2_forget_1 : dec m_X2_forget 1 = .ok (.iconst 0, 1) := by decide +kernel
theorem d_X2_forget_2 : dec m_X2_forget 2 = .ok (.putfield 18, 3) := by decide +kernel
theorem d_X2_forget_5 : dec m_X2_forget 5 = .ok (.return_, 1) := by decide +kernel
theorem d_X2_remember_0 : dec m_X2_remember 0 = .ok (.aload_n 0, 1) := by decide +kernel
theorem d_X2_remember_1 : dec m_X2_remember 1 = .ok (.aload_n 0, 1) := by decide +kernel
theorem d_X2_remember_2 : dec m_X2_remember 2 = .ok (.getfield 22, 3) := by decide +kernel
theorem d_X2_remember_5 : dec m_X2_remember 5 = .ok (.invokevirtual 25, 3) := by decide +kernel
theorem d_X2_remember_8 : dec m_X2_remember 8 = .ok (.astore_n 2, 1) := by decide +kernel
theorem d_X2_remember_9 : dec m_X2_remember 9 = .ok (.aload_n 2, 1) := by decide +kernel
theorem d_X2_remember_10 : dec m_X2_remember 10 = .ok (.ifnull 8, 3) := by decide +kernel
theorem d_X2_remember_13 : dec m_X2_remember 13 = .ok (.aload_n 2, 1) := by decide +kernel
theorem d_X2_remember_14 : dec m_X2_remember 14 = .ok (.aload_n 1, 1) := by decide +kernel
theorem d_X2_remember_15 : dec m_X2_remember 15 = .ok (.invokevirtual 29, 3) := by decide +kernel
theorem d_X2_remember_18 : dec m_X2_remember 18 = .ok (.aload_n 0, 1) := by decide +kernel
theorem d_X2_remember_19 : dec m_X2_remember 19 = .ok (.aload_n 0, 1) := by decide +kernel
theorem d_X2_remember_20 : dec m_X2_remember 20 = .ok (.getfield 22, 3) := by decide +kernel
theorem d_X2_remember_23 : dec m_X2_remember 23 = .ok (.iconst 1, 1) := by decide +kernel
theorem d_X2_remember_24 : dec m_X2_remember 24 = .ok (.iadd, 1) := by decide +kernel
theorem d_X2_remember_25 : dec m_X2_remember 25 = .ok (.bipush 10, 2) := by decide +kernel
theorem d_X2_remember_27 : dec m_X2_remember 27 = .ok (.irem, 1) := by decide +kernel
theorem d_X2_remember_28 : dec m_X2_remember 28 = .ok (.putfield 22, 3) := by decide +kernel
theorem d_X2_remember_31 : dec m_X2_remember 31 = .ok (.aload_n 0, 1) := by decide +kernel
theorem d_X2_remember_32 : dec m_X2_remember 32 = .ok (.aload_n 0, 1) := by decide +kernel
theorem d_X2_remember_33 : dec m_X2_remember 33 = .ok (.getfield 18, 3) := by decide +kernel
theorem d_X2_remember_36 : dec m_X2_remember 36 = .ok (.iconst 1, 1) := by decide +kernel
theorem d_X2_remember_37 : dec m_X2_remember 37 = .ok (.iadd, 1) := by decide +kernel
theorem d_X2_remember_38 : dec m_X2_remember 38 = .ok (.bipush 10, 2) := by decide +kernel
theorem d_X2_remember_40 : dec m_X2_remember 40 = .ok (.invokestatic 33, 3) := by decide +kernel
theorem d_X2_remember_43 : dec m_X2_remember 43 = .ok (.putfield 18, 3) := by decide +kernel
theorem d_X2_remember_46 : dec m_X2_remember 46 = .ok (.return_, 1) := by decide +kernel
theorem d_X2_takeBack_0 : dec m_X2_takeBack 0 = .ok (.aload_n 0, 1) := by decide +kernel
theorem d_X2_takeBack_1 : dec m_X2_takeBack 1 = .ok (.getfield 18, 3) := by decide +kernel
theorem d_X2_takeBack_4 : dec m_X2_takeBack 4 = .ok (.ifCond .gt 5, 3) := by decide +kernel
theorem d_X2_takeBack_7 : dec m_X2_takeBack 7 = .ok (.iconst (-1), 1) := by decide +kernel
theorem d_X2_takeBack_8 : dec m_X2_takeBack 8 = .ok (.ireturn, 1) := by decide +kernel
theorem d_X2_takeBack_9 : dec m_X2_takeBack 9 = .ok (.aload_n 0, 1) := by decide +kernel
theorem d_X2_takeBack_10 : dec m_X2_takeBack 10 = .ok (.aload_n 0, 1) := by decide +kernel
theorem d_X2_takeBack_11 : dec m_X2_takeBack 11 = .ok (.getfield 22, 3) := by decide +kernel
theorem d_X2_takeBack_14 : dec m_X2_takeBack 14 = .ok (.bipush 10, 2) := by decide +kernel
theorem d_X2_takeBack_16 : dec m_X2_takeBack 16 = .ok (.iadd, 1) := by decide +kernel
theorem d_X2_takeBack_17 : dec m_X2_takeBack 17 = .ok (.iconst 1, 1) := by decide +kernel
theorem d_X2_takeBack_18 : dec m_X2_takeBack 18 = .ok (.isub, 1) := by decide +kernel
theorem d_X2_takeBack_19 : dec m_X2_takeBack 19 = .ok (.bipush 10, 2) := by decide +kernel
theorem d_X2_takeBack_21 : dec m_X2_takeBack 21 = .ok (.irem, 1) := by decide +kernel
theorem d_X2_takeBack_22 : dec m_X2_takeBack 22 = .ok (.putfield 22, 3) := by decide +kernel
theorem d_X2_takeBack_25 : dec m_X2_takeBack 25 = .ok (.aload_n 1, 1) := by decide +kernel
theorem d_X2_takeBack_26 : dec m_X2_takeBack 26 = .ok (.aload_n 0, 1) := by decide +kernel
theorem d_X2_takeBack_27 : dec m_X2_takeBack 27 = .ok (.aload_n 0, 1) := by decide +kernel
theorem d_X2_takeBack_28 : dec m_X2_takeBack 28 = .ok (.getfield 22, 3) := by decide +kernel
theorem d_X2_takeBack_31 : dec m_X2_takeBack 31 = .ok (.invokevirtual 25, 3) := by decide +kernel
theorem d_X2_takeBack_34 : dec m_X2_takeBack 34 = .ok (.invokevirtual 29, 3) := by decide +kernel
theorem d_X2_takeBack_37 : dec m_X2_takeBack 37 = .ok (.aload_n 0, 1) := by decide +kernel
theorem d_X2_takeBack_38 : dec m_X2_takeBack 38 = .ok (.dup, 1) := by decide +kernel
theorem d_X2_takeBack_39 : dec m_X2_takeBack 39 = .ok (.getfield 18, 3) := by decide +kernel
theorem d_X2_takeBack_42 : dec m_X2_takeBack 42 = .ok (.iconst 1, 1) := by decide +kernel
theorem d_X2_takeBack_43 : dec m_X2_takeBack 43 = .ok (.isub, 1) := by decide +kernel
theorem d_X2_takeBack_44 : dec m_X2_takeBack 44 = .ok (.putfield 18, 3) := by decide +kernel
theorem d_X2_takeBack_47 : dec m_X2_takeBack 47 = .ok (.aload_n 0, 1) := by decide +kernel
theorem d_X2_takeBack_48 : dec m_X2_takeBack 48 = .ok (.getfield 18, 3) := by decide +kernel
theorem d_X2_takeBack_51 : dec m_X2_takeBack 51 = .ok (.ireturn, 1) := by decide +kernel
theorem d_X2_at_0 : dec m_X2_at 0 = .ok (.iload_n 1, 1) := by decide +kernel
theorem d_X2_at_1 : dec m_X2_at 1 = .ok (.ifCond .lt 18, 3) := by decide +kernel
theorem d_X2_at_4 : dec m_X2_at 4 = .ok (.iload_n 1, 1) := by decide +kernel
theorem d_X2_at_5 : dec m_X2_at 5 = .ok (.bipush 10, 2) := by decide +kernel
theorem d_X2_at_7 : dec m_X2_at 7 = .ok (.if_icmp .ge 12, 3) := by decide +kernel
theorem d_X2_at_10 : dec m_X2_at 10 = .ok (.aload_n 0, 1) := by decide +kernel
theorem d_X2_at_11 : dec m_X2_at 11 = .ok (.getfield 11, 3) := by decide +kernel
theorem d_X2_at_14 : dec m_X2_at 14 = .ok (.iload_n 1, 1) := by decide +kernel
theorem d_X2_at_15 : dec m_X2_at 15 = .ok (.aaload, 1) := by decide +kernel
theorem d_X2_at_16 : dec m_X2_at 16 = .ok (.goto 4, 3) := by decide +kernel
theorem d_X2_at_19 : dec m_X2_at 19 = .ok (.aconst_null, 1) := by decide +kernel
theorem d_X2_at_20 : dec m_X2_at 20 = .ok (.areturn, 1) := by decide +kernel
theorem d_X3_at_0 : dec m_X3_at 0 = .ok (.iload_n 1, 1) := by decide +kernel
theorem d_X3_at_1 : dec m_X3_at 1 = .ok (.ifCond .lt 27, 3) := by decide +kernel
theorem d_X3_at_4 : dec m_X3_at 4 = .ok (.iload_n 1, 1) := by decide +kernel
theorem d_X3_at_5 : dec m_X3_at 5 = .ok (.aload_n 0, 1) := by decide +kernel
theorem d_X3_at_6 : dec m_X3_at 6 = .ok (.getfield 15, 3) := by decide +kernel
theorem d_X3_at_9 : dec m_X3_at 9 = .ok (.if_icmp .ge 19, 3) := by decide +kernel
theorem d_X3_at_12 : dec m_X3_at 12 = .ok (.iload_n 1, 1) := by decide +kernel
theorem d_X3_at_13 : dec m_X3_at 13 = .ok (.sipush 640, 3) := by decide +kernel
theorem d_X3_at_16 : dec m_X3_at 16 = .ok (.if_icmp .ge 12, 3) := by decide +kernel
theorem d_X3_at_19 : dec m_X3_at 19 = .ok (.aload_n 0, 1) := by decide +kernel
theorem d_X3_at_20 : dec m_X3_at 20 = .ok (.getfield 9, 3) := by decide +kernel
theorem d_X3_at_23 : dec m_X3_at 23 = .ok (.iload_n 1, 1) := by decide +kernel
theorem d_X3_at_24 : dec m_X3_at 24 = .ok (.iaload, 1) := by decide +kernel
theorem d_X3_at_25 : dec m_X3_at 25 = .ok (.goto 4, 3) := by decide +kernel
theorem d_X3_at_28 : dec m_X3_at 28 = .ok (.iconst (-1), 1) := by decide +kernel
theorem d_X3_at_29 : dec m_X3_at 29 = .ok (.ireturn, 1) := by decide +kernel
theorem d_X3_write_0 : dec m_X3_write 0 = .ok (.aload_n 0, 1) := by decide +kernel
theorem d_X3_write_1 : dec m_X3_write 1 = .ok (.iconst 0, 1) := by decide +kernel
theorem d_X3_write_2 : dec m_X3_write 2 = .ok (.putfield 15, 3) := by decide +kernel
theorem d_X3_write_5 : dec m_X3_write 5 = .ok (.iconst 0, 1) := by decide +kernel
theorem d_X3_write_6 : dec m_X3_write 6 = .ok (.istore_n 2, 1) := by decide +kernel
theorem d_X3_write_7 : dec m_X3_write 7 = .ok (.iload_n 2, 1) := by decide +kernel
theorem d_X3_write_8 : dec m_X3_write 8 = .ok (.aload_n 1, 1) := by decide +kernel
theorem d_X3_write_9 : dec m_X3_write 9 = .ok (.getfield 19, 3) := by decide +kernel
theorem d_X3_write_12 : dec m_X3_write 12 = .ok (.if_icmp .ge 64, 3) := by decide +kernel
theorem d_X3_write_15 : dec m_X3_write 15 = .ok (.aload_n 0, 1) := by decide +kernel
theorem d_X3_write_16 : dec m_X3_write 16 = .ok (.aload_n 1, 1) := by decide +kernel
theorem d_X3_write_17 : dec m_X3_write 17 = .ok (.iload_n 2, 1) := by decide +kernel
theorem d_X3_write_18 : dec m_X3_write 18 = .ok (.invokevirtual 22, 3) := by decide +kernel
theorem d_X3_write_21 : dec m_X3_write 21 = .ok (.ifCond .eq 8, 3) := by decide +kernel
theorem d_X3_write_24 : dec m_X3_write 24 = .ok (.ldc 26, 2) := by decide +kernel
theorem d_X3_write_26 : dec m_X3_write 26 = .ok (.goto 5, 3) := by decide +kernel
theorem d_X3_write_29 : dec m_X3_write 29 = .ok (.ldc 28, 2) := by decide +kernel
theorem d_X3_write_31 : dec m_X3_write 31 = .ok (.invokevirtual 30, 3) := by decide +kernel
theorem d_X3_write_34 : dec m_X3_write 34 = .ok (.aload_n 0, 1) := by decide +kernel
theorem d_X3_write_35 : dec m_X3_write 35 = .ok (.aload_n 1, 1) := by decide +kernel
theorem d_X3_write_36 : dec m_X3_write 36 = .ok (.iload_n 2, 1) := by decide +kernel
theorem d_X3_write_37 : dec m_X3_write 37 = .ok (.invokevirtual 34, 3) := by decide +kernel
theorem d_X3_write_40 : dec m_X3_write 40 = .ok (.invokevirtual 38, 3) := by decide +kernel
theorem d_X3_write_43 : dec m_X3_write 43 = .ok (.iconst 0, 1) := by decide +kernel
theorem d_X3_write_44 : dec m_X3_write 44 = .ok (.istore_n 3, 1) := by decide +kernel
theorem d_X3_write_45 : dec m_X3_write 45 = .ok (.iload_n 3, 1) := by decide +kernel
theorem d_X3_write_46 : dec m_X3_write 46 = .ok (.aload_n 1, 1) := by decide +kernel
theorem d_X3_write_47 : dec m_X3_write 47 = .ok (.iload_n 2, 1) := by decide +kernel
theorem d_X3_write_48 : dec m_X3_write 48 = .ok (.invokevirtual 42, 3) := by decide +kernel
theorem d_X3_write_51 : dec m_X3_write 51 = .ok (.if_icmp .ge 19, 3) := by decide +kernel
theorem d_X3_write_54 : dec m_X3_write 54 = .ok (.aload_n 0, 1) := by decide +kernel
theorem d_X3_write_55 : dec m_X3_write 55 = .ok (.aload_n 1, 1) := by decide +kernel
theorem d_X3_write_56 : dec m_X3_write 56 = .ok (.iload_n 2, 1) := by decide +kernel
theorem d_X3_write_57 : dec m_X3_write 57 = .ok (.iload_n 3, 1) := by decide +kernel
theorem d_X3_write_58 : dec m_X3_write 58 = .ok (.invokevirtual 45, 3) := by decide +kernel
theorem d_X3_write_61 : dec m_X3_write 61 = .ok (.invokevirtual 38, 3) := by decide +kernel
theorem d_X3_write_64 : dec m_X3_write 64 = .ok (.iinc 3 1, 3) := by decide +kernel
theorem d_X3_write_67 : dec m_X3_write 67 = .ok (.goto (-22), 3) := by decide +kernel
theorem d_X3_write_70 : dec m_X3_write 70 = .ok (.iinc 2 1, 3) := by decide +kernel
theorem d_X3_write_73 : dec m_X3_write 73 = .ok (.goto (-66), 3) := by decide +kernel
theorem d_X3_write_76 : dec m_X3_write 76 = .ok (.aload_n 1, 1) := by decide +kernel
theorem d_X3_write_77 : dec m_X3_write 77 = .ok (.getfield 49, 3) := by decide +kernel
theorem d_X3_write_80 : dec m_X3_write 80 = .ok (.ifCond .eq 17, 3) := by decide +kernel
theorem d_X3_write_83 : dec m_X3_write 83 = .ok (.aload_n 0, 1) := by decide +kernel
theorem d_X3_write_84 : dec m_X3_write 84 = .ok (.ldc 52, 2) := by decide +kernel
theorem d_X3_write_86 : dec m_X3_write 86 = .ok (.invokevirtual 30, 3) := by decide +kernel
theorem d_X3_write_89 : dec m_X3_write 89 = .ok (.aload_n 0, 1) := by decide +kernel
theorem d_X3_write_90 : dec m_X3_write 90 = .ok (.aload_n 1, 1) := by decide +kernel
theorem d_X3_write_91 : dec m_X3_write 91 = .ok (.getfield 49, 3) := by decide +kernel
theorem d_X3_write_94 : dec m_X3_write 94 = .ok (.invokevirtual 38, 3) := by decide +kernel
theorem d_X3_write_97 : dec m_X3_write 97 = .ok (.aload_n 1, 1) := by decide +kernel
theorem d_X3_write_98 : dec m_X3_write 98 = .ok (.getfield 53, 3) := by decide +kernel
theorem d_X3_write_101 : dec m_X3_write 101 = .ok (.ifCond .eq 26, 3) := by decide +kernel
theorem d_X3_write_104 : dec m_X3_write 104 = .ok (.aload_n 0, 1) := by decide +kernel
theorem d_X3_write_105 : dec m_X3_write 105 = .ok (.ldc 56, 2) := by decide +kernel
theorem d_X3_write_107 : dec m_X3_write 107 = .ok (.invokevirtual 30, 3) := by decide +kernel
theorem d_X3_write_110 : dec m_X3_write 110 = .ok (.aload_n 0, 1) := by decide +kernel
theorem d_X3_write_111 : dec m_X3_write 111 = .ok (.bipush 32, 2) := by decide +kernel
theorem d_X3_write_113 : dec m_X3_write 113 = .ok (.invokevirtual 57, 3) := by decide +kernel
theorem d_X3_write_116 : dec m_X3_write 116 = .ok (.aload_n 0, 1) := by decide +kernel
theorem d_X3_write_117 : dec m_X3_write 117 = .ok (.aload_n 1, 1) := by decide +kernel
theorem d_X3_write_118 : dec m_X3_write 118 = .ok (.getfield 53, 3) := by decide +kernel
theorem d_X3_write_121 : dec m_X3_write 121 = .ok (.invokestatic 60, 3) := by decide +kernel
theorem d_X3_write_124 : dec m_X3_write 124 = .ok (.invokevirtual 64, 3) := by decide +kernel
theorem d_X3_write_127 : dec m_X3_write 127 = .ok (.return_, 1) := by decide +kernel
theorem d_X3_beginPart_0 : dec m_X3_beginPart 0 = .ok (.aload_n 0, 1) := by decide +kernel
theorem d_X3_beginPart_1 : dec m_X3_beginPart 1 = .ok (.getfield 15, 3) := by decide +kernel
theorem d_X3_beginPart_4 : dec m_X3_beginPart 4 = .ok (.ifCond .le 9, 3) := by decide +kernel
theorem d_X3_beginPart_7 : dec m_X3_beginPart 7 = .ok (.aload_n 0, 1) := by decide +kernel
theorem d_X3_beginPart_8 : dec m_X3_beginPart 8 = .ok (.bipush 59, 2) := by decide +kernel
theorem d_X3_beginPart_10 : dec m_X3_beginPart 10 = .ok (.invokevirtual 57, 3) := by decide +kernel
theorem d_X3_beginPart_13 : dec m_X3_beginPart 13 = .ok (.aload_n 0, 1) := by decide +kernel
theorem d_X3_beginPart_14 : dec m_X3_beginPart 14 = .ok (.aload_n 1, 1) := by decide +kernel
theorem d_X3_beginPart_15 : dec m_X3_beginPart 15 = .ok (.invokevirtual 64, 3) := by decide +kernel
theorem d_X3_beginPart_18 : dec m_X3_beginPart 18 = .ok (.return_, 1) := by decide +kernel
theorem d_X3_putWord_0 : dec m_X3_putWord 0 = .ok (.iconst 0, 1) := by decide +kernel
theorem d_X3_putWord_1 : dec m_X3_putWord 1 = .ok (.istore_n 2, 1) := by decide +kernel
theorem d_X3_putWord_2 : dec m_X3_putWord 2 = .ok (.iload_n 2, 1) := by decide +kernel
theorem d_X3_putWord_3 : dec m_X3_putWord 3 = .ok (.aload_n 1, 1) := by decide +kernel
theorem d_X3_putWord_4 : dec m_X3_putWord 4 = .ok (.invokevirtual 67, 3) := by decide +kernel
theorem d_X3_putWord_7 : dec m_X3_putWord 7 = .ok (.if_icmp .ge 18, 3) := by decide +kernel
theorem d_X3_putWord_10 : dec m_X3_putWord 10 = .ok (.aload_n 0, 1) := by decide +kernel
theorem d_X3_putWord_11 : dec m_X3_putWord 11 = .ok (.aload_n 1, 1) := by decide +kernel
theorem d_X3_putWord_12 : dec m_X3_putWord 12 = .ok (.iload_n 2, 1) := by decide +kernel
theorem d_X3_putWord_13 : dec m_X3_putWord 13 = .ok (.invokevirtual 73, 3) := by decide +kernel
theorem d_X3_putWord_16 : dec m_X3_putWord 16 = .ok (.invokevirtual 57, 3) := by decide +kernel
theorem d_X3_putWord_19 : dec m_X3_putWord 19 = .ok (.iinc 2 1, 3) := by decide +kernel
theorem d_X3_putWord_22 : dec m_X3_putWord 22 = .ok (.goto (-20), 3) := by decide +kernel
theorem d_X3_putWord_25 : dec m_X3_putWord 25 = .ok (.return_, 1) := by decide +kernel
theorem d_X3_putNumber_0 : dec m_X3_putNumber 0 = .ok (.aload_n 0, 1) := by decide +kernel
theorem d_X3_putNumber_1 : dec m_X3_putNumber 1 = .ok (.bipush 32, 2) := by decide +kernel
theorem d_X3_putNumber_3 : dec m_X3_putNumber 3 = .ok (.invokevirtual 57, 3) := by decide +kernel
theorem d_X3_putNumber_6 : dec m_X3_putNumber 6 = .ok (.iconst 0, 1) := by decide +kernel
theorem d_X3_putNumber_7 : dec m_X3_putNumber 7 = .ok (.istore_n 2, 1) := by decide +kernel
theorem d_X3_putNumber_8 : dec m_X3_putNumber 8 = .ok (.sipush 1000, 3) := by decide +kernel
theorem d_X3_putNumber_11 : dec m_X3_putNumber 11 = .ok (.istore_n 3, 1) := by decide +kernel
theorem d_X3_putNumber_12 : dec m_X3_putNumber 12 = .ok (.iload_n 3, 1) := by decide +kernel
theorem d_X3_putNumber_13 : dec m_X3_putNumber 13 = .ok (.iconst 1, 1) := by decide +kernel
theorem d_X3_putNumber_14 : dec m_X3_putNumber 14 = .ok (.if_icmp .lt 48, 3) := by decide +kernel
theorem d_X3_putNumber_17 : dec m_X3_putNumber 17 = .ok (.iload_n 2, 1) := by decide +kernel
theorem d_X3_putNumber_18 : dec m_X3_putNumber 18 = .ok (.ifCond .ne 13, 3) := by decide +kernel
theorem d_X3_putNumber_21 : dec m_X3_putNumber 21 = .ok (.iload_n 1, 1) := by decide +kernel
theorem d_X3_putNumber_22 : dec m_X3_putNumber 22 = .ok (.iload_n 3, 1) := by decide +kernel
theorem d_X3_putNumber_23 : dec m_X3_putNumber 23 = .ok (.if_icmp .ge 8, 3) := by decide +kernel
theorem d_X3_putNumber_26 : dec m_X3_putNumber 26 = .ok (.iload_n 3, 1) := by decide +kernel
theorem d_X3_putNumber_27 : dec m_X3_putNumber 27 = .ok (.iconst 1, 1) := by decide +kernel
theorem d_X3_putNumber_28 : dec m_X3_putNumber 28 = .ok (.if_icmp .ne 7, 3) := by decide +kernel
theorem d_X3_putNumber_31 : dec m_X3_putNumber 31 = .ok (.iconst 1, 1) := by decide +kernel
theorem d_X3_putNumber_32 : dec m_X3_putNumber 32 = .ok (.goto 4, 3) := by decide +kernel
theorem d_X3_putNumber_35 : dec m_X3_putNumber 35 = .ok (.iconst 0, 1) := by decide +kernel
theorem d_X3_putNumber_36 : dec m_X3_putNumber 36 = .ok (.istore_n 2, 1) := by decide +kernel
theorem d_X3_putNumber_37 : dec m_X3_putNumber 37 = .ok (.iload_n 2, 1) := by decide +kernel
theorem d_X3_putNumber_38 : dec m_X3_putNumber 38 = .ok (.ifCond .eq 16, 3) := by decide +kernel
theorem d_X3_putNumber_41 : dec m_X3_putNumber 41 = .ok (.aload_n 0, 1) := by decide +kernel
theorem d_X3_putNumber_42 : dec m_X3_putNumber 42 = .ok (.bipush 48, 2) := by decide +kernel
theorem d_X3_putNumber_44 : dec m_X3_putNumber 44 = .ok (.iload_n 1, 1) := by decide +kernel
theorem d_X3_putNumber_45 : dec m_X3_putNumber 45 = .ok (.iload_n 3, 1) := by decide +kernel
theorem d_X3_putNumber_46 : dec m_X3_putNumber 46 = .ok (.idiv, 1) := by decide +kernel
theorem d_X3_putNumber_47 : dec m_X3_putNumber 47 = .ok (.bipush 10, 2) := by decide +kernel
theorem d_X3_putNumber_49 : dec m_X3_putNumber 49 = .ok (.irem, 1) := by decide +kernel
theorem d_X3_putNumber_50 : dec m_X3_putNumber 50 = .ok (.iadd, 1) := by decide +kernel
theorem d_X3_putNumber_51 : dec m_X3_putNumber 51 = .ok (.invokevirtual 57, 3) := by decide +kernel
theorem d_X3_putNumber_54 : dec m_X3_putNumber 54 = .ok (.iload_n 3, 1) := by decide +kernel
theorem d_X3_putNumber_55 : dec m_X3_putNumber 55 = .ok (.bipush 10, 2) := by decide +kernel
theorem d_X3_putNumber_57 : dec m_X3_putNumber 57 = .ok (.idiv, 1) := by decide +kernel
theorem d_X3_putNumber_58 : dec m_X3_putNumber 58 = .ok (.istore_n 3, 1) := by decide +kernel
theorem d_X3_putNumber_59 : dec m_X3_putNumber 59 = .ok (.goto (-47), 3) := by decide +kernel
theorem d_X3_putNumber_62 : dec m_X3_putNumber 62 = .ok (.return_, 1) := by decide +kernel
theorem d_X3_put_0 : dec m_X3_put 0 = .ok (.aload_n 0, 1) := by decide +kernel
theorem d_X3_put_1 : dec m_X3_put 1 = .ok (.getfield 15, 3) := by decide +kernel
theorem d_X3_put_4 : dec m_X3_put 4 = .ok (.ifCond .lt 33, 3) := by decide +kernel
theorem d_X3_put_7 : dec m_X3_put 7 = .ok (.aload_n 0, 1) := by decide +kernel
theorem d_X3_put_8 : dec m_X3_put 8 = .ok (.getfield 15, 3) := by decide +kernel
theorem d_X3_put_11 : dec m_X3_put 11 = .ok (.sipush 640, 3) := by decide +kernel
theorem d_X3_put_14 : dec m_X3_put 14 = .ok (.if_icmp .ge 23, 3) := by decide +kernel
theorem d_X3_put_17 : dec m_X3_put 17 = .ok (.aload_n 0, 1) := by decide +kernel
theorem d_X3_put_18 : dec m_X3_put 18 = .ok (.getfield 9, 3) := by decide +kernel
theorem d_X3_put_21 : dec m_X3_put 21 = .ok (.aload_n 0, 1) := by decide +kernel
theorem d_X3_put_22 : dec m_X3_put 22 = .ok (.getfield 15, 3) := by decide +kernel
theorem d_X3_put_25 : dec m_X3_put 25 = .ok (.iload_n 1, 1) := by decide +kernel
theorem d_X3_put_26 : dec m_X3_put 26 = .ok (.iastore, 1) := by decide +kernel
theorem d_X3_put_27 : dec m_X3_put 27 = .ok (.aload_n 0, 1) := by decide +kernel
theorem d_X3_put_28 : dec m_X3_put 28 = .ok (.dup, 1) := by decide +kernel
theorem d_X3_put_29 : dec m_X3_put 29 = .ok (.getfield 15, 3) := by decide +kernel
theorem d_X3_put_32 : dec m_X3_put 32 = .ok (.iconst 1, 1) := by decide +kernel
theorem d_X3_put_33 : dec m_X3_put 33 = .ok (.iadd, 1) := by decide +kernel
theorem d_X3_put_34 : dec m_X3_put 34 = .ok (.putfield 15, 3) := by decide +kernel
theorem d_X3_put_37 : dec m_X3_put 37 = .ok (.return_, 1) := by decide +kernel
theorem d_X6_holds_0 : dec m_X6_holds 0 = .ok (.aload_n 0, 1) := by decide +kernel
theorem d_X6_holds_1 : dec m_X6_holds 1 = .ok (.getfield 18, 3) := by decide +kernel
theorem d_X6_holds_4 : dec m_X6_holds 4 = .ok (.iload_n 1, 1) := by decide +kernel
theorem d_X6_holds_5 : dec m_X6_holds 5 = .ok (.invokestatic 22, 3) := by decide +kernel
theorem d_X6_holds_8 : dec m_X6_holds 8 = .ok (.iand, 1) := by decide +kernel
theorem d_X6_holds_9 : dec m_X6_holds 9 = .ok (.ifCond .eq 7, 3) := by decide +kernel
theorem d_X6_holds_12 : dec m_X6_holds 12 = .ok (.iconst 1, 1) := by decide +kernel
theorem d_X6_holds_13 : dec m_X6_holds 13 = .ok (.goto 4, 3) := by decide +kernel
theorem d_X6_holds_16 : dec m_X6_holds 16 = .ok (.iconst 0, 1) := by decide +kernel
theorem d_X6_holds_17 : dec m_X6_holds 17 = .ok (.ireturn, 1) := by decide +kernel
theorem d_X6_put_0 : dec m_X6_put 0 = .ok (.aload_n 0, 1) := by decide +kernel
theorem d_X6_put_1 : dec m_X6_put 1 = .ok (.iload_n 1, 1) := by decide +kernel
theorem d_X6_put_2 : dec m_X6_put 2 = .ok (.invokevirtual 26, 3) := by decide +kernel
theorem d_X6_put_5 : dec m_X6_put 5 = .ok (.astore_n 3, 1) := by decide +kernel
theorem d_X6_put_6 : dec m_X6_put 6 = .ok (.aload_n 3, 1) := by decide +kernel
theorem d_X6_put_7 : dec m_X6_put 7 = .ok (.ifnull 21, 3) := by decide +kernel
theorem d_X6_put_10 : dec m_X6_put 10 = .ok (.aload_n 3, 1) := by decide +kernel
theorem d_X6_put_11 : dec m_X6_put 11 = .ok (.aload_n 2, 1) := by decide +kernel
theorem d_X6_put_12 : dec m_X6_put 12 = .ok (.invokevirtual 30, 3) := by decide +kernel
theorem d_X6_put_15 : dec m_X6_put 15 = .ok (.aload_n 0, 1) := by decide +kernel
theorem d_X6_put_16 : dec m_X6_put 16 = .ok (.dup, 1) := by decide +kernel
theorem d_X6_put_17 : dec m_X6_put 17 = .ok (.getfield 18, 3) := by decide +kernel
theorem d_X6_put_20 : dec m_X6_put 20 = .ok (.iload_n 1, 1) := by decide +kernel
theorem d_X6_put_21 : dec m_X6_put 21 = .ok (.invokestatic 22, 3) := by decide +kernel
theorem d_X6_put_24 : dec m_X6_put 24 = .ok (.ior, 1) := by decide +kernel
theorem d_X6_put_25 : dec m_X6_put 25 = .ok (.putfield 18, 3) := by decide +kernel
theorem d_X6_put_28 : dec m_X6_put 28 = .ok (.return_, 1) := by decide +kernel
theorem d_X6_fetch_0 : dec m_X6_fetch 0 = .ok (.aload_n 2, 1) := by decide +kernel
theorem d_X6_fetch_1 : dec m_X6_fetch 1 = .ok (.aload_n 0, 1) := by decide +kernel
theorem d_X6_fetch_2 : dec m_X6_fetch 2 = .ok (.iload_n 1, 1) := by decide +kernel
theorem d_X6_fetch_3 : dec m_X6_fetch 3 = .ok (.invokevirtual 26, 3) := by decide +kernel
theorem d_X6_fetch_6 : dec m_X6_fetch 6 = .ok (.invokevirtual 30, 3) := by decide +kernel
theorem d_X6_fetch_9 : dec m_X6_fetch 9 = .ok (.return_, 1) := by decide +kernel
theorem d_X6_at_0 : dec m_X6_at 0 = .ok (.iload_n 1, 1) := by decide +kernel
theorem d_X6_at_1 : dec m_X6_at 1 = .ok (.invokestatic 34, 3) := by decide +kernel
theorem d_X6_at_4 : dec m_X6_at 4 = .ok (.ifCond .eq 12, 3) := by decide +kernel
theorem d_X6_at_7 : dec m_X6_at 7 = .ok (.aload_n 0, 1) := by decide +kernel
theorem d_X6_at_8 : dec m_X6_at 8 = .ok (.getfield 11, 3) := by decide +kernel
theorem d_X6_at_11 : dec m_X6_at 11 = .ok (.iload_n 1, 1) := by decide +kernel
theorem d_X6_at_12 : dec m_X6_at 12 = .ok (.aaload, 1) := by decide +kernel
theorem d_X6_at_13 : dec m_X6_at 13 = .ok (.goto 4, 3) := by decide +kernel
theorem d_X6_at_16 : dec m_X6_at 16 = .ok (.aconst_null, 1) := by decide +kernel
theorem d_X6_at_17 : dec m_X6_at 17 = .ok (.areturn, 1) := by decide +kernel
theorem d_X7_append_0 : dec m_X7_append 0 = .ok (.bipush 24, 2) := by decide +kernel
theorem d_X7_append_2 : dec m_X7_append 2 = .ok (.istore_n 2, 1) := by decide +kernel
theorem d_X7_append_3 : dec m_X7_append 3 = .ok (.iload_n 2, 1) := by decide +kernel
theorem d_X7_append_4 : dec m_X7_append 4 = .ok (.ifCond .lt 52, 3) := by decide +kernel
theorem d_X7_append_7 : dec m_X7_append 7 = .ok (.aload_n 0, 1) := by decide +kernel
theorem d_X7_append_8 : dec m_X7_append 8 = .ok (.getfield 22, 3) := by decide +kernel
theorem d_X7_append_11 : dec m_X7_append 11 = .ok (.ifCond .lt 39, 3) := by decide +kernel
theorem d_X7_append_14 : dec m_X7_append 14 = .ok (.aload_n 0, 1) := by decide +kernel
theorem d_X7_append_15 : dec m_X7_append 15 = .ok (.getfield 22, 3) := by decide +kernel
theorem d_X7_append_18 : dec m_X7_append 18 = .ok (.sipush 400, 3) := by decide +kernel
theorem d_X7_append_21 : dec m_X7_append 21 = .ok (.if_icmp .ge 29, 3) := by decide +kernel
theorem d_X7_append_24 : dec m_X7_append 24 = .ok (.aload_n 0, 1) := by decide +kernel
theorem d_X7_append_25 : dec m_X7_append 25 = .ok (.getfield 9, 3) := by decide +kernel
theorem d_X7_append_28 : dec m_X7_append 28 = .ok (.aload_n 0, 1) := by decide +kernel
theorem d_X7_append_29 : dec m_X7_append 29 = .ok (.getfield 22, 3) := by decide +kernel
theorem d_X7_append_32 : dec m_X7_append 32 = .ok (.iload_n 1, 1) := by decide +kernel
theorem d_X7_append_33 : dec m_X7_append 33 = .ok (.iload_n 2, 1) := by decide +kernel
theorem d_X7_append_34 : dec m_X7_append 34 = .ok (.iushr, 1) := by decide +kernel
theorem d_X7_append_35 : dec m_X7_append 35 = .ok (.sipush 255, 3) := by decide +kernel
theorem d_X7_append_38 : dec m_X7_append 38 = .ok (.iand, 1) := by decide +kernel
theorem d_X7_append_39 : dec m_X7_append 39 = .ok (.iastore, 1) := by decide +kernel
theorem d_X7_append_40 : dec m_X7_append 40 = .ok (.aload_n 0, 1) := by decide +kernel
theorem d_X7_append_41 : dec m_X7_append 41 = .ok (.dup, 1) := by decide +kernel
theorem d_X7_append_42 : dec m_X7_append 42 = .ok (.getfield 22, 3) := by decide +kernel
theorem d_X7_append_45 : dec m_X7_append 45 = .ok (.iconst 1, 1) := by decide +kernel
theorem d_X7_append_46 : dec m_X7_append 46 = .ok (.iadd, 1) := by decide +kernel
theorem d_X7_append_47 : dec m_X7_append 47 = .ok (.putfield 22, 3) := by decide +kernel
theorem d_X7_append_50 : dec m_X7_append 50 = .ok (.iinc 2 (-8), 3) := by decide +kernel
theorem d_X7_append_53 : dec m_X7_append 53 = .ok (.goto (-50), 3) := by decide +kernel
theorem d_X7_append_56 : dec m_X7_append 56 = .ok (.return_, 1) := by decide +kernel
theorem d_X7_read_0 : dec m_X7_read 0 = .ok (.aload_n 0, 1) := by decide +kernel
theorem d_X7_read_1 : dec m_X7_read 1 = .ok (.getfield 18, 3) := by decide +kernel
theorem d_X7_read_4 : dec m_X7_read 4 = .ok (.invokevirtual 26, 3) := by decide +kernel
theorem d_X7_read_7 : dec m_X7_read 7 = .ok (.aload_n 0, 1) := by decide +kernel
theorem d_X7_read_8 : dec m_X7_read 8 = .ok (.iconst 0, 1) := by decide +kernel
theorem d_X7_read_9 : dec m_X7_read 9 = .ok (.putfield 29, 3) := by decide +kernel
theorem d_X7_read_12 : dec m_X7_read 12 = .ok (.aload_n 0, 1) := by decide +kernel
theorem d_X7_read_13 : dec m_X7_read 13 = .ok (.iconst 0, 1) := by decide +kernel
theorem d_X7_read_14 : dec m_X7_read 14 = .ok (.putfield 32, 3) := by decide +kernel
theorem d_X7_read_17 : dec m_X7_read 17 = .ok (.aload_n 0, 1) := by decide +kernel
theorem d_X7_read_18 : dec m_X7_read 18 = .ok (.iconst 0, 1) := by decide +kernel
theorem d_X7_read_19 : dec m_X7_read 19 = .ok (.putfield 35, 3) := by decide +kernel
theorem d_X7_read_22 : dec m_X7_read 22 = .ok (.aload_n 0, 1) := by decide +kernel
theorem d_X7_read_23 : dec m_X7_read 23 = .ok (.iconst 0, 1) := by decide +kernel
theorem d_X7_read_24 : dec m_X7_read 24 = .ok (.putfield 39, 3) := by decide +kernel
theorem d_X7_read_27 : dec m_X7_read 27 = .ok (.aload_n 0, 1) := by decide +kernel
theorem d_X7_read_28 : dec m_X7_read 28 = .ok (.invokevirtual 42, 3) := by decide +kernel
theorem d_X7_read_31 : dec m_X7_read 31 = .ok (.aload_n 0, 1) := by decide +kernel
theorem d_X7_read_32 : dec m_X7_read 32 = .ok (.getfield 29, 3) := by decide +kernel
theorem d_X7_read_35 : dec m_X7_read 35 = .ok (.aload_n 0, 1) := by decide +kernel
theorem d_X7_read_36 : dec m_X7_read 36 = .ok (.getfield 22, 3) := by decide +kernel
theorem d_X7_read_39 : dec m_X7_read 39 = .ok (.if_icmp .lt 5, 3) := by decide +kernel
theorem d_X7_read_42 : dec m_X7_read 42 = .ok (.iconst 0, 1) := by decide +kernel
theorem d_X7_read_43 : dec m_X7_read 43 = .ok (.ireturn, 1) := by decide +kernel
theorem d_X7_read_44 : dec m_X7_read 44 = .ok (.iconst 0, 1) := by decide +kernel
theorem d_X7_read_45 : dec m_X7_read 45 = .ok (.istore_n 1, 1) := by decide +kernel
theorem d_X7_read_46 : dec m_X7_read 46 = .ok (.iload_n 1, 1) := by decide +kernel
theorem d_X7_read_47 : dec m_X7_read 47 = .ok (.sipush 400, 3) := by decide +kernel
theorem d_X7_read_50 : dec m_X7_read 50 = .ok (.if_icmp .ge 73, 3) := by decide +kernel
theorem d_X7_read_53 : dec m_X7_read 53 = .ok (.aload_n 0, 1) := by decide +kernel
theorem d_X7_read_54 : dec m_X7_read 54 = .ok (.invokevirtual 45, 3) := by decide +kernel
theorem d_X7_read_57 : dec m_X7_read 57 = .ok (.aload_n 0, 1) := by decide +kernel
theorem d_X7_read_58 : dec m_X7_read 58 = .ok (.invokevirtual 42, 3) := by decide +kernel
theorem d_X7_read_61 : dec m_X7_read 61 = .ok (.aload_n 0, 1) := by decide +kernel
theorem d_X7_read_62 : dec m_X7_read 62 = .ok (.getfield 32, 3) := by decide +kernel
theorem d_X7_read_65 : dec m_X7_read 65 = .ok (.ifCond .ne 58, 3) := by decide +kernel
theorem d_X7_read_68 : dec m_X7_read 68 = .ok (.aload_n 0, 1) := by decide +kernel
theorem d_X7_read_69 : dec m_X7_read 69 = .ok (.getfield 29, 3) := by decide +kernel
theorem d_X7_read_72 : dec m_X7_read 72 = .ok (.aload_n 0, 1) := by decide +kernel
theorem d_X7_read_73 : dec m_X7_read 73 = .ok (.getfield 22, 3) := by decide +kernel
theorem d_X7_read_76 : dec m_X7_read 76 = .ok (.if_icmp .lt 6, 3) := by decide +kernel
theorem d_X7_read_79 : dec m_X7_read 79 = .ok (.goto 44, 3) := by decide +kernel
theorem d_X7_read_82 : dec m_X7_read 82 = .ok (.aload_n 0, 1) := by decide +kernel
theorem d_X7_read_83 : dec m_X7_read 83 = .ok (.aload_n 0, 1) := by decide +kernel
theorem d_X7_read_84 : dec m_X7_read 84 = .ok (.getfield 29, 3) := by decide +kernel
theorem d_X7_read_87 : dec m_X7_read 87 = .ok (.invokevirtual 48, 3) := by decide +kernel
theorem d_X7_read_90 : dec m_X7_read 90 = .ok (.bipush 59, 2) := by decide +kernel
theorem d_X7_read_92 : dec m_X7_read 92 = .ok (.if_icmp .eq 15, 3) := by decide +kernel
theorem d_X7_read_95 : dec m_X7_read 95 = .ok (.aload_n 0, 1) := by decide +kernel
theorem d_X7_read_96 : dec m_X7_read 96 = .ok (.aload_n 0, 1) := by decide +kernel
theorem d_X7_read_97 : dec m_X7_read 97 = .ok (.getfield 29, 3) := by decide +kernel
theorem d_X7_read_100 : dec m_X7_read 100 = .ok (.iconst 1, 1) := by decide +kernel
theorem d_X7_read_101 : dec m_X7_read 101 = .ok (.invokevirtual 52, 3) := by decide +kernel
theorem d_X7_read_104 : dec m_X7_read 104 = .ok (.goto 19, 3) := by decide +kernel
theorem d_X7_read_107 : dec m_X7_read 107 = .ok (.aload_n 0, 1) := by decide +kernel
theorem d_X7_read_108 : dec m_X7_read 108 = .ok (.dup, 1) := by decide +kernel
theorem d_X7_read_109 : dec m_X7_read 109 = .ok (.getfield 29, 3) := by decide +kernel
theorem d_X7_read_112 : dec m_X7_read 112 = .ok (.iconst 1, 1) := by decide +kernel
theorem d_X7_read_113 : dec m_X7_read 113 = .ok (.iadd, 1) := by decide +kernel
theorem d_X7_read_114 : dec m_X7_read 114 = .ok (.putfield 29, 3) := by decide +kernel
theorem d_X7_read_117 : dec m_X7_read 117 = .ok (.iinc 1 1, 3) := by decide +kernel
theorem d_X7_read_120 : dec m_X7_read 120 = .ok (.goto (-74), 3) := by decide +kernel
theorem d_X7_read_123 : dec m_X7_read 123 = .ok (.aload_n 0, 1) := by decide +kernel
theorem d_X7_read_124 : dec m_X7_read 124 = .ok (.getfield 32, 3) := by decide +kernel
theorem d_X7_read_127 : dec m_X7_read 127 = .ok (.ireturn, 1) := by decide +kernel
theorem d_X7_readPart_0 : dec m_X7_readPart 0 = .ok (.aload_n 0, 1) := by decide +kernel
theorem d_X7_readPart_1 : dec m_X7_readPart 1 = .ok (.invokevirtual 42, 3) := by decide +kernel
theorem d_X7_readPart_4 : dec m_X7_readPart 4 = .ok (.aload_n 0, 1) := by decide +kernel
theorem d_X7_readPart_5 : dec m_X7_readPart 5 = .ok (.getfield 29, 3) := by decide +kernel
theorem d_X7_readPart_8 : dec m_X7_readPart 8 = .ok (.istore_n 1, 1) := by decide +kernel
theorem d_X7_readPart_9 : dec m_X7_readPart 9 = .ok (.aload_n 0, 1) := by decide +kernel
theorem d_X7_readPart_10 : dec m_X7_readPart 10 = .ok (.invokevirtual 56, 3) := by decide +kernel
theorem d_X7_readPart_13 : dec m_X7_readPart 13 = .ok (.aload_n 0, 1) := by decide +kernel
theorem d_X7_readPart_14 : dec m_X7_readPart 14 = .ok (.iload_n 1, 1) := by decide +kernel
theorem d_X7_readPart_15 : dec m_X7_readPart 15 = .ok (.ldc 59, 2) := by decide +kernel
theorem d_X7_readPart_17 : dec m_X7_readPart 17 = .ok (.invokevirtual 61, 3) := by decide +kernel
theorem d_X7_readPart_20 : dec m_X7_readPart 20 = .ok (.ifCond .eq 12, 3) := by decide +kernel
theorem d_X7_readPart_23 : dec m_X7_readPart 23 = .ok (.aload_n 0, 1) := by decide +kernel
theorem d_X7_readPart_24 : dec m_X7_readPart 24 = .ok (.iload_n 1, 1) := by decide +kernel
theorem d_X7_readPart_25 : dec m_X7_readPart 25 = .ok (.iconst 0, 1) := by decide +kernel
theorem d_X7_readPart_26 : dec m_X7_readPart 26 = .ok (.invokevirtual 65, 3) := by decide +kernel
theorem d_X7_readPart_29 : dec m_X7_readPart 29 = .ok (.goto 64, 3) := by decide +kernel
theorem d_X7_readPart_32 : dec m_X7_readPart 32 = .ok (.aload_n 0, 1) := by decide +kernel
theorem d_X7_readPart_33 : dec m_X7_readPart 33 = .ok (.iload_n 1, 1) := by decide +kernel
theorem d_X7_readPart_34 : dec m_X7_readPart 34 = .ok (.ldc 69, 2) := by decide +kernel
theorem d_X7_readPart_36 : dec m_X7_readPart 36 = .ok (.invokevirtual 61, 3) := by decide +kernel
theorem d_X7_readPart_39 : dec m_X7_readPart 39 = .ok (.ifCond .eq 12, 3) := by decide +kernel
theorem d_X7_readPart_42 : dec m_X7_readPart 42 = .ok (.aload_n 0, 1) := by decide +kernel
theorem d_X7_readPart_43 : dec m_X7_readPart 43 = .ok (.iload_n 1, 1) := by decide +kernel
theorem d_X7_readPart_44 : dec m_X7_readPart 44 = .ok (.iconst 1, 1) := by decide +kernel
theorem d_X7_readPart_45 : dec m_X7_readPart 45 = .ok (.invokevirtual 65, 3) := by decide +kernel
theorem d_X7_readPart_48 : dec m_X7_readPart 48 = .ok (.goto 45, 3) := by decide +kernel
theorem d_X7_readPart_51 : dec m_X7_readPart 51 = .ok (.aload_n 0, 1) := by decide +kernel
theorem d_X7_readPart_52 : dec m_X7_readPart 52 = .ok (.iload_n 1, 1) := by decide +kernel
theorem d_X7_readPart_53 : dec m_X7_readPart 53 = .ok (.ldc 71, 2) := by decide +kernel
theorem d_X7_readPart_55 : dec m_X7_readPart 55 = .ok (.invokevirtual 61, 3) := by decide +kernel
theorem d_X7_readPart_58 : dec m_X7_readPart 58 = .ok (.ifCond .eq 11, 3) := by decide +kernel
theorem d_X7_readPart_61 : dec m_X7_readPart 61 = .ok (.aload_n 0, 1) := by decide +kernel
theorem d_X7_readPart_62 : dec m_X7_readPart 62 = .ok (.iload_n 1, 1) := by decide +kernel
theorem d_X7_readPart_63 : dec m_X7_readPart 63 = .ok (.invokevirtual 73, 3) := by decide +kernel
theorem d_X7_readPart_66 : dec m_X7_readPart 66 = .ok (.goto 27, 3) := by decide +kernel
theorem d_X7_readPart_69 : dec m_X7_readPart 69 = .ok (.aload_n 0, 1) := by decide +kernel
theorem d_X7_readPart_70 : dec m_X7_readPart 70 = .ok (.iload_n 1, 1) := by decide +kernel
theorem d_X7_readPart_71 : dec m_X7_readPart 71 = .ok (.ldc 77, 2) := by decide +kernel
theorem d_X7_readPart_73 : dec m_X7_readPart 73 = .ok (.invokevirtual 61, 3) := by decide +kernel
theorem d_X7_readPart_76 : dec m_X7_readPart 76 = .ok (.ifCond .eq 11, 3) := by decide +kernel
theorem d_X7_readPart_79 : dec m_X7_readPart 79 = .ok (.aload_n 0, 1) := by decide +kernel
theorem d_X7_readPart_80 : dec m_X7_readPart 80 = .ok (.iload_n 1, 1) := by decide +kernel
theorem d_X7_readPart_81 : dec m_X7_readPart 81 = .ok (.invokevirtual 79, 3) := by decide +kernel
theorem d_X7_readPart_84 : dec m_X7_readPart 84 = .ok (.goto 9, 3) := by decide +kernel
theorem d_X7_readPart_87 : dec m_X7_readPart 87 = .ok (.aload_n 0, 1) := by decide +kernel
theorem d_X7_readPart_88 : dec m_X7_readPart 88 = .ok (.iload_n 1, 1) := by decide +kernel
theorem d_X7_readPart_89 : dec m_X7_readPart 89 = .ok (.iconst 1, 1) := by decide +kernel
theorem d_X7_readPart_90 : dec m_X7_readPart 90 = .ok (.invokevirtual 52, 3) := by decide +kernel
theorem d_X7_readPart_93 : dec m_X7_readPart 93 = .ok (.return_, 1) := by decide +kernel
theorem d_X7_readTrader_0 : dec m_X7_readTrader 0 = .ok (.aload_n 0, 1) := by decide +kernel
theorem d_X7_readTrader_1 : dec m_X7_readTrader 1 = .ok (.getfield 18, 3) := by decide +kernel
theorem d_X7_readTrader_4 : dec m_X7_readTrader 4 = .ok (.getfield 82, 3) := by decide +kernel
theorem d_X7_readTrader_7 : dec m_X7_readTrader 7 = .ok (.bipush 20, 2) := by decide +kernel
theorem d_X7_readTrader_9 : dec m_X7_readTrader 9 = .ok (.if_icmp .lt 10, 3) := by decide +kernel
theorem d_X7_readTrader_12 : dec m_X7_readTrader 12 = .ok (.aload_n 0, 1) := by decide +kernel
theorem d_X7_readTrader_13 : dec m_X7_readTrader 13 = .ok (.iload_n 1, 1) := by decide +kernel
theorem d_X7_readTrader_14 : dec m_X7_readTrader 14 = .ok (.iconst 3, 1) := by decide +kernel
theorem d_X7_readTrader_15 : dec m_X7_readTrader 15 = .ok (.invokevirtual 52, 3) := by decide +kernel
theorem d_X7_readTrader_18 : dec m_X7_readTrader 18 = .ok (.return_, 1) := by decide +kernel
theorem d_X7_readTrader_19 : dec m_X7_readTrader 19 = .ok (.aload_n 0, 1) := by decide +kernel
theorem d_X7_readTrader_20 : dec m_X7_readTrader 20 = .ok (.iconst 3, 1) := by decide +kernel
theorem d_X7_readTrader_21 : dec m_X7_readTrader 21 = .ok (.invokevirtual 83, 3) := by decide +kernel
theorem d_X7_readTrader_24 : dec m_X7_readTrader 24 = .ok (.istore_n 3, 1) := by decide +kernel
theorem d_X7_readTrader_25 : dec m_X7_readTrader 25 = .ok (.aload_n 0, 1) := by decide +kernel
theorem d_X7_readTrader_26 : dec m_X7_readTrader 26 = .ok (.getfield 32, 3) := by decide +kernel
theorem d_X7_readTrader_29 : dec m_X7_readTrader 29 = .ok (.ifCond .eq 4, 3) := by decide +kernel
theorem d_X7_readTrader_32 : dec m_X7_readTrader 32 = .ok (.return_, 1) := by decide +kernel
theorem d_X7_readTrader_33 : dec m_X7_readTrader 33 = .ok (.aload_n 0, 1) := by decide +kernel
theorem d_X7_readTrader_34 : dec m_X7_readTrader 34 = .ok (.getfield 18, 3) := by decide +kernel
theorem d_X7_readTrader_37 : dec m_X7_readTrader 37 = .ok (.iload_n 2, 1) := by decide +kernel
theorem d_X7_readTrader_38 : dec m_X7_readTrader 38 = .ok (.iload_n 3, 1) := by decide +kernel
theorem d_X7_readTrader_39 : dec m_X7_readTrader 39 = .ok (.invokevirtual 86, 3) := by decide +kernel
theorem d_X7_readTrader_42 : dec m_X7_readTrader 42 = .ok (.istore 4, 2) := by decide +kernel
theorem d_X7_readTrader_44 : dec m_X7_readTrader 44 = .ok (.aload_n 0, 1) := by decide +kernel
theorem d_X7_readTrader_45 : dec m_X7_readTrader 45 = .ok (.invokevirtual 42, 3) := by decide +kernel
theorem d_X7_readTrader_48 : dec m_X7_readTrader 48 = .ok (.iconst 0, 1) := by decide +kernel
theorem d_X7_readTrader_49 : dec m_X7_readTrader 49 = .ok (.istore 5, 2) := by decide +kernel
theorem d_X7_readTrader_51 : dec m_X7_readTrader 51 = .ok (.iload 5, 2) := by decide +kernel
theorem d_X7_readTrader_53 : dec m_X7_readTrader 53 = .ok (.iconst 4, 1) := by decide +kernel
theorem d_X7_readTrader_54 : dec m_X7_readTrader 54 = .ok (.if_icmp .gt 115, 3) := by decide +kernel
theorem d_X7_readTrader_57 : dec m_X7_readTrader 57 = .ok (.aload_n 0, 1) := by decide +kernel
theorem d_X7_readTrader_58 : dec m_X7_readTrader 58 = .ok (.aload_n 0, 1) := by decide +kernel
theorem d_X7_readTrader_59 : dec m_X7_readTrader 59 = .ok (.getfield 29, 3) := by decide +kernel
theorem d_X7_readTrader_62 : dec m_X7_readTrader 62 = .ok (.invokevirtual 48, 3) := by decide +kernel
theorem d_X7_readTrader_65 : dec m_X7_readTrader 65 = .ok (.invokestatic 90, 3) := by decide +kernel
theorem d_X7_readTrader_68 : dec m_X7_readTrader 68 = .ok (.ifCond .eq 101, 3) := by decide +kernel
theorem d_X7_readTrader_71 : dec m_X7_readTrader 71 = .ok (.aload_n 0, 1) := by decide +kernel
theorem d_X7_readTrader_72 : dec m_X7_readTrader 72 = .ok (.getfield 29, 3) := by decide +kernel
theorem d_X7_readTrader_75 : dec m_X7_readTrader 75 = .ok (.istore 6, 2) := by decide +kernel
theorem d_X7_readTrader_77 : dec m_X7_readTrader 77 = .ok (.aload_n 0, 1) := by decide +kernel
theorem d_X7_readTrader_78 : dec m_X7_readTrader 78 = .ok (.sipush 9999, 3) := by decide +kernel
theorem d_X7_readTrader_81 : dec m_X7_readTrader 81 = .ok (.invokevirtual 83, 3) := by decide +kernel
theorem d_X7_readTrader_84 : dec m_X7_readTrader 84 = .ok (.istore 7, 2) := by decide +kernel
theorem d_X7_readTrader_86 : dec m_X7_readTrader 86 = .ok (.aload_n 0, 1) := by decide +kernel
theorem d_X7_readTrader_87 : dec m_X7_readTrader 87 = .ok (.getfield 32, 3) := by decide +kernel
theorem d_X7_readTrader_90 : dec m_X7_readTrader 90 = .ok (.ifCond .ne 29, 3) := by decide +kernel
theorem d_X7_readTrader_93 : dec m_X7_readTrader 93 = .ok (.aload_n 0, 1) := by decide +kernel
theorem d_X7_readTrader_94 : dec m_X7_readTrader 94 = .ok (.getfield 18, 3) := by decide +kernel
theorem d_X7_readTrader_97 : dec m_X7_readTrader 97 = .ok (.iload 4, 2) := by decide +kernel
theorem d_X7_readTrader_99 : dec m_X7_readTrader 99 = .ok (.iload 5, 2) := by decide +kernel
theorem d_X7_readTrader_101 : dec m_X7_readTrader 101 = .ok (.iload 7, 2) := by decide +kernel
theorem d_X7_readTrader_103 : dec m_X7_readTrader 103 = .ok (.invokevirtual 94, 3) := by decide +kernel
end
section
set_option maxRecDepth 100000
theorem d_X7_readTrader_106 : dec m_X7_readTrader 106 = .ok (.ifCond .ne 13, 3) := by decide +kernel
theorem d_X7_readTrader_109 : dec m_X7_readTrader 109 = .ok (.aload_n 0, 1) := by decide +kernel
theorem d_X7_readTrader_110 : dec m_X7_readTrader 110 = .ok (.iload 6, 2) := by decide +kernel
theorem d_X7_readTrader_112 : dec m_X7_readTrader 112 = .ok (.iconst 2, 1) := by decide +kernel
theorem d_X7_readTrader_113 : dec m_X7_readTrader 113 = .ok (.invokevirtual 52, 3) := by decide +kernel
theorem d_X7_readTrader_116 : dec m_X7_readTrader 116 = .ok (.goto 23, 3) := by decide +kernel
theorem d_X7_readTrader_119 : dec m_X7_readTrader 119 = .ok (.aload_n 0, 1) := by decide +kernel
theorem d_X7_readTrader_120 : dec m_X7_readTrader 120 = .ok (.getfield 32, 3) := by decide +kernel
theorem d_X7_readTrader_123 : dec m_X7_readTrader 123 = .ok (.ifCond .ne 16, 3) := by decide +kernel
theorem d_X7_readTrader_126 : dec m_X7_readTrader 126 = .ok (.iload 5, 2) := by decide +kernel
theorem d_X7_readTrader_128 : dec m_X7_readTrader 128 = .ok (.iconst 4, 1) := by decide +kernel
theorem d_X7_readTrader_129 : dec m_X7_readTrader 129 = .ok (.if_icmp .lt 10, 3) := by decide +kernel
theorem d_X7_readTrader_132 : dec m_X7_readTrader 132 = .ok (.aload_n 0, 1) := by decide +kernel
theorem d_X7_readTrader_133 : dec m_X7_readTrader 133 = .ok (.iload 6, 2) := by decide +kernel
theorem d_X7_readTrader_135 : dec m_X7_readTrader 135 = .ok (.iconst 3, 1) := by decide +kernel
theorem d_X7_readTrader_136 : dec m_X7_readTrader 136 = .ok (.invokevirtual 52, 3) := by decide +kernel
theorem d_X7_readTrader_139 : dec m_X7_readTrader 139 = .ok (.aload_n 0, 1) := by decide +kernel
theorem d_X7_readTrader_140 : dec m_X7_readTrader 140 = .ok (.getfield 32, 3) := by decide +kernel
theorem d_X7_readTrader_143 : dec m_X7_readTrader 143 = .ok (.ifCond .eq 4, 3) := by decide +kernel
theorem d_X7_readTrader_146 : dec m_X7_readTrader 146 = .ok (.return_, 1) := by decide +kernel
theorem d_X7_readTrader_147 : dec m_X7_readTrader 147 = .ok (.aload_n 0, 1) := by decide +kernel
theorem d_X7_readTrader_148 : dec m_X7_readTrader 148 = .ok (.getfield 18, 3) := by decide +kernel
theorem d_X7_readTrader_151 : dec m_X7_readTrader 151 = .ok (.iload 4, 2) := by decide +kernel
theorem d_X7_readTrader_153 : dec m_X7_readTrader 153 = .ok (.iload 7, 2) := by decide +kernel
theorem d_X7_readTrader_155 : dec m_X7_readTrader 155 = .ok (.invokevirtual 98, 3) := by decide +kernel
theorem d_X7_readTrader_158 : dec m_X7_readTrader 158 = .ok (.pop, 1) := by decide +kernel
theorem d_X7_readTrader_159 : dec m_X7_readTrader 159 = .ok (.aload_n 0, 1) := by decide +kernel
theorem d_X7_readTrader_160 : dec m_X7_readTrader 160 = .ok (.invokevirtual 42, 3) := by decide +kernel
theorem d_X7_readTrader_163 : dec m_X7_readTrader 163 = .ok (.iinc 5 1, 3) := by decide +kernel
theorem d_X7_readTrader_166 : dec m_X7_readTrader 166 = .ok (.goto (-115), 3) := by decide +kernel
theorem d_X7_readTrader_169 : dec m_X7_readTrader 169 = .ok (.return_, 1) := by decide +kernel
theorem d_X7_readFee_0 : dec m_X7_readFee 0 = .ok (.aload_n 0, 1) := by decide +kernel
theorem d_X7_readFee_1 : dec m_X7_readFee 1 = .ok (.getfield 35, 3) := by decide +kernel
theorem d_X7_readFee_4 : dec m_X7_readFee 4 = .ok (.ifCond .eq 10, 3) := by decide +kernel
theorem d_X7_readFee_7 : dec m_X7_readFee 7 = .ok (.aload_n 0, 1) := by decide +kernel
theorem d_X7_readFee_8 : dec m_X7_readFee 8 = .ok (.iload_n 1, 1) := by decide +kernel
theorem d_X7_readFee_9 : dec m_X7_readFee 9 = .ok (.iconst 3, 1) := by decide +kernel
theorem d_X7_readFee_10 : dec m_X7_readFee 10 = .ok (.invokevirtual 52, 3) := by decide +kernel
theorem d_X7_readFee_13 : dec m_X7_readFee 13 = .ok (.return_, 1) := by decide +kernel
theorem d_X7_readFee_14 : dec m_X7_readFee 14 = .ok (.aload_n 0, 1) := by decide +kernel
theorem d_X7_readFee_15 : dec m_X7_readFee 15 = .ok (.iconst 1, 1) := by decide +kernel
theorem d_X7_readFee_16 : dec m_X7_readFee 16 = .ok (.putfield 35, 3) := by decide +kernel
theorem d_X7_readFee_19 : dec m_X7_readFee 19 = .ok (.aload_n 0, 1) := by decide +kernel
theorem d_X7_readFee_20 : dec m_X7_readFee 20 = .ok (.getfield 18, 3) := by decide +kernel
theorem d_X7_readFee_23 : dec m_X7_readFee 23 = .ok (.aload_n 0, 1) := by decide +kernel
theorem d_X7_readFee_24 : dec m_X7_readFee 24 = .ok (.sipush 500, 3) := by decide +kernel
theorem d_X7_readFee_27 : dec m_X7_readFee 27 = .ok (.invokevirtual 83, 3) := by decide +kernel
theorem d_X7_readFee_30 : dec m_X7_readFee 30 = .ok (.putfield 102, 3) := by decide +kernel
theorem d_X7_readFee_33 : dec m_X7_readFee 33 = .ok (.return_, 1) := by decide +kernel
theorem d_X7_readLaw_0 : dec m_X7_readLaw 0 = .ok (.aload_n 0, 1) := by decide +kernel
theorem d_X7_readLaw_1 : dec m_X7_readLaw 1 = .ok (.getfield 39, 3) := by decide +kernel
theorem d_X7_readLaw_4 : dec m_X7_readLaw 4 = .ok (.ifCond .eq 10, 3) := by decide +kernel
theorem d_X7_readLaw_7 : dec m_X7_readLaw 7 = .ok (.aload_n 0, 1) := by decide +kernel
theorem d_X7_readLaw_8 : dec m_X7_readLaw 8 = .ok (.iload_n 1, 1) := by decide +kernel
theorem d_X7_readLaw_9 : dec m_X7_readLaw 9 = .ok (.iconst 3, 1) := by decide +kernel
theorem d_X7_readLaw_10 : dec m_X7_readLaw 10 = .ok (.invokevirtual 52, 3) := by decide +kernel
theorem d_X7_readLaw_13 : dec m_X7_readLaw 13 = .ok (.return_, 1) := by decide +kernel
theorem d_X7_readLaw_14 : dec m_X7_readLaw 14 = .ok (.aload_n 0, 1) := by decide +kernel
theorem d_X7_readLaw_15 : dec m_X7_readLaw 15 = .ok (.iconst 1, 1) := by decide +kernel
theorem d_X7_readLaw_16 : dec m_X7_readLaw 16 = .ok (.putfield 39, 3) := by decide +kernel
theorem d_X7_readLaw_19 : dec m_X7_readLaw 19 = .ok (.aload_n 0, 1) := by decide +kernel
theorem d_X7_readLaw_20 : dec m_X7_readLaw 20 = .ok (.invokevirtual 42, 3) := by decide +kernel
theorem d_X7_readLaw_23 : dec m_X7_readLaw 23 = .ok (.aload_n 0, 1) := by decide +kernel
theorem d_X7_readLaw_24 : dec m_X7_readLaw 24 = .ok (.getfield 29, 3) := by decide +kernel
theorem d_X7_readLaw_27 : dec m_X7_readLaw 27 = .ok (.istore_n 2, 1) := by decide +kernel
theorem d_X7_readLaw_28 : dec m_X7_readLaw 28 = .ok (.aload_n 0, 1) := by decide +kernel
theorem d_X7_readLaw_29 : dec m_X7_readLaw 29 = .ok (.invokevirtual 56, 3) := by decide +kernel
theorem d_X7_readLaw_32 : dec m_X7_readLaw 32 = .ok (.iconst 0, 1) := by decide +kernel
theorem d_X7_readLaw_33 : dec m_X7_readLaw 33 = .ok (.istore_n 3, 1) := by decide +kernel
theorem d_X7_readLaw_34 : dec m_X7_readLaw 34 = .ok (.iload_n 3, 1) := by decide +kernel
theorem d_X7_readLaw_35 : dec m_X7_readLaw 35 = .ok (.iconst 3, 1) := by decide +kernel
theorem d_X7_readLaw_36 : dec m_X7_readLaw 36 = .ok (.if_icmp .gt 30, 3) := by decide +kernel
theorem d_X7_readLaw_39 : dec m_X7_readLaw 39 = .ok (.aload_n 0, 1) := by decide +kernel
theorem d_X7_readLaw_40 : dec m_X7_readLaw 40 = .ok (.iload_n 2, 1) := by decide +kernel
theorem d_X7_readLaw_41 : dec m_X7_readLaw 41 = .ok (.iload_n 3, 1) := by decide +kernel
theorem d_X7_readLaw_42 : dec m_X7_readLaw 42 = .ok (.invokestatic 104, 3) := by decide +kernel
theorem d_X7_readLaw_45 : dec m_X7_readLaw 45 = .ok (.invokevirtual 61, 3) := by decide +kernel
theorem d_X7_readLaw_48 : dec m_X7_readLaw 48 = .ok (.ifCond .eq 12, 3) := by decide +kernel
theorem d_X7_readLaw_51 : dec m_X7_readLaw 51 = .ok (.aload_n 0, 1) := by decide +kernel
theorem d_X7_readLaw_52 : dec m_X7_readLaw 52 = .ok (.getfield 18, 3) := by decide +kernel
theorem d_X7_readLaw_55 : dec m_X7_readLaw 55 = .ok (.iload_n 3, 1) := by decide +kernel
theorem d_X7_readLaw_56 : dec m_X7_readLaw 56 = .ok (.putfield 108, 3) := by decide +kernel
theorem d_X7_readLaw_59 : dec m_X7_readLaw 59 = .ok (.return_, 1) := by decide +kernel
theorem d_X7_readLaw_60 : dec m_X7_readLaw 60 = .ok (.iinc 3 1, 3) := by decide +kernel
theorem d_X7_readLaw_63 : dec m_X7_readLaw 63 = .ok (.goto (-29), 3) := by decide +kernel
theorem d_X7_readLaw_66 : dec m_X7_readLaw 66 = .ok (.aload_n 0, 1) := by decide +kernel
theorem d_X7_readLaw_67 : dec m_X7_readLaw 67 = .ok (.iload_n 2, 1) := by decide +kernel
theorem d_X7_readLaw_68 : dec m_X7_readLaw 68 = .ok (.iconst 1, 1) := by decide +kernel
theorem d_X7_readLaw_69 : dec m_X7_readLaw 69 = .ok (.invokevirtual 52, 3) := by decide +kernel
theorem d_X7_readLaw_72 : dec m_X7_readLaw 72 = .ok (.return_, 1) := by decide +kernel
theorem d_X7_readNumber_0 : dec m_X7_readNumber 0 = .ok (.aload_n 0, 1) := by decide +kernel
theorem d_X7_readNumber_1 : dec m_X7_readNumber 1 = .ok (.invokevirtual 42, 3) := by decide +kernel
theorem d_X7_readNumber_4 : dec m_X7_readNumber 4 = .ok (.aload_n 0, 1) := by decide +kernel
theorem d_X7_readNumber_5 : dec m_X7_readNumber 5 = .ok (.getfield 29, 3) := by decide +kernel
theorem d_X7_readNumber_8 : dec m_X7_readNumber 8 = .ok (.istore_n 2, 1) := by decide +kernel
theorem d_X7_readNumber_9 : dec m_X7_readNumber 9 = .ok (.iconst 0, 1) := by decide +kernel
theorem d_X7_readNumber_10 : dec m_X7_readNumber 10 = .ok (.istore_n 3, 1) := by decide +kernel
theorem d_X7_readNumber_11 : dec m_X7_readNumber 11 = .ok (.aload_n 0, 1) := by decide +kernel
theorem d_X7_readNumber_12 : dec m_X7_readNumber 12 = .ok (.getfield 29, 3) := by decide +kernel
theorem d_X7_readNumber_15 : dec m_X7_readNumber 15 = .ok (.aload_n 0, 1) := by decide +kernel
theorem d_X7_readNumber_16 : dec m_X7_readNumber 16 = .ok (.getfield 22, 3) := by decide +kernel
theorem d_X7_readNumber_19 : dec m_X7_readNumber 19 = .ok (.if_icmp .ge 53, 3) := by decide +kernel
theorem d_X7_readNumber_22 : dec m_X7_readNumber 22 = .ok (.aload_n 0, 1) := by decide +kernel
theorem d_X7_readNumber_23 : dec m_X7_readNumber 23 = .ok (.aload_n 0, 1) := by decide +kernel
theorem d_X7_readNumber_24 : dec m_X7_readNumber 24 = .ok (.getfield 29, 3) := by decide +kernel
theorem d_X7_readNumber_27 : dec m_X7_readNumber 27 = .ok (.invokevirtual 48, 3) := by decide +kernel
theorem d_X7_readNumber_30 : dec m_X7_readNumber 30 = .ok (.invokestatic 90, 3) := by decide +kernel
theorem d_X7_readNumber_33 : dec m_X7_readNumber 33 = .ok (.ifCond .eq 39, 3) := by decide +kernel
theorem d_X7_readNumber_36 : dec m_X7_readNumber 36 = .ok (.iload_n 3, 1) := by decide +kernel
theorem d_X7_readNumber_37 : dec m_X7_readNumber 37 = .ok (.bipush 10, 2) := by decide +kernel
theorem d_X7_readNumber_39 : dec m_X7_readNumber 39 = .ok (.imul, 1) := by decide +kernel
theorem d_X7_readNumber_40 : dec m_X7_readNumber 40 = .ok (.aload_n 0, 1) := by decide +kernel
theorem d_X7_readNumber_41 : dec m_X7_readNumber 41 = .ok (.aload_n 0, 1) := by decide +kernel
theorem d_X7_readNumber_42 : dec m_X7_readNumber 42 = .ok (.getfield 29, 3) := by decide +kernel
theorem d_X7_readNumber_45 : dec m_X7_readNumber 45 = .ok (.invokevirtual 48, 3) := by decide +kernel
theorem d_X7_readNumber_48 : dec m_X7_readNumber 48 = .ok (.iadd, 1) := by decide +kernel
theorem d_X7_readNumber_49 : dec m_X7_readNumber 49 = .ok (.bipush 48, 2) := by decide +kernel
theorem d_X7_readNumber_51 : dec m_X7_readNumber 51 = .ok (.isub, 1) := by decide +kernel
theorem d_X7_readNumber_52 : dec m_X7_readNumber 52 = .ok (.sipush 10000, 3) := by decide +kernel
theorem d_X7_readNumber_55 : dec m_X7_readNumber 55 = .ok (.invokestatic 110, 3) := by decide +kernel
theorem d_X7_readNumber_58 : dec m_X7_readNumber 58 = .ok (.istore_n 3, 1) := by decide +kernel
theorem d_X7_readNumber_59 : dec m_X7_readNumber 59 = .ok (.aload_n 0, 1) := by decide +kernel
theorem d_X7_readNumber_60 : dec m_X7_readNumber 60 = .ok (.dup, 1) := by decide +kernel
theorem d_X7_readNumber_61 : dec m_X7_readNumber 61 = .ok (.getfield 29, 3) := by decide +kernel
theorem d_X7_readNumber_64 : dec m_X7_readNumber 64 = .ok (.iconst 1, 1) := by decide +kernel
theorem d_X7_readNumber_65 : dec m_X7_readNumber 65 = .ok (.iadd, 1) := by decide +kernel
theorem d_X7_readNumber_66 : dec m_X7_readNumber 66 = .ok (.putfield 29, 3) := by decide +kernel
theorem d_X7_readNumber_69 : dec m_X7_readNumber 69 = .ok (.goto (-58), 3) := by decide +kernel
theorem d_X7_readNumber_72 : dec m_X7_readNumber 72 = .ok (.aload_n 0, 1) := by decide +kernel
theorem d_X7_readNumber_73 : dec m_X7_readNumber 73 = .ok (.getfield 29, 3) := by decide +kernel
theorem d_X7_readNumber_76 : dec m_X7_readNumber 76 = .ok (.iload_n 2, 1) := by decide +kernel
theorem d_X7_readNumber_77 : dec m_X7_readNumber 77 = .ok (.if_icmp .ne 12, 3) := by decide +kernel
theorem d_X7_readNumber_80 : dec m_X7_readNumber 80 = .ok (.aload_n 0, 1) := by decide +kernel
theorem d_X7_readNumber_81 : dec m_X7_readNumber 81 = .ok (.iload_n 2, 1) := by decide +kernel
theorem d_X7_readNumber_82 : dec m_X7_readNumber 82 = .ok (.iconst 1, 1) := by decide +kernel
theorem d_X7_readNumber_83 : dec m_X7_readNumber 83 = .ok (.invokevirtual 52, 3) := by decide +kernel
theorem d_X7_readNumber_86 : dec m_X7_readNumber 86 = .ok (.goto 14, 3) := by decide +kernel
theorem d_X7_readNumber_89 : dec m_X7_readNumber 89 = .ok (.iload_n 3, 1) := by decide +kernel
theorem d_X7_readNumber_90 : dec m_X7_readNumber 90 = .ok (.iload_n 1, 1) := by decide +kernel
theorem d_X7_readNumber_91 : dec m_X7_readNumber 91 = .ok (.if_icmp .le 9, 3) := by decide +kernel
theorem d_X7_readNumber_94 : dec m_X7_readNumber 94 = .ok (.aload_n 0, 1) := by decide +kernel
theorem d_X7_readNumber_95 : dec m_X7_readNumber 95 = .ok (.iload_n 2, 1) := by decide +kernel
theorem d_X7_readNumber_96 : dec m_X7_readNumber 96 = .ok (.iconst 2, 1) := by decide +kernel
theorem d_X7_readNumber_97 : dec m_X7_readNumber 97 = .ok (.invokevirtual 52, 3) := by decide +kernel
theorem d_X7_readNumber_100 : dec m_X7_readNumber 100 = .ok (.iload_n 3, 1) := by decide +kernel
theorem d_X7_readNumber_101 : dec m_X7_readNumber 101 = .ok (.ireturn, 1) := by decide +kernel
theorem d_X7_note_0 : dec m_X7_note 0 = .ok (.aload_n 0, 1) := by decide +kernel
theorem d_X7_note_1 : dec m_X7_note 1 = .ok (.bipush 8, 2) := by decide +kernel
theorem d_X7_note_3 : dec m_X7_note 3 = .ok (.iload_n 1, 1) := by decide +kernel
theorem d_X7_note_4 : dec m_X7_note 4 = .ok (.imul, 1) := by decide +kernel
theorem d_X7_note_5 : dec m_X7_note 5 = .ok (.iload_n 2, 1) := by decide +kernel
theorem d_X7_note_6 : dec m_X7_note 6 = .ok (.iadd, 1) := by decide +kernel
theorem d_X7_note_7 : dec m_X7_note 7 = .ok (.putfield 32, 3) := by decide +kernel
theorem d_X7_note_10 : dec m_X7_note 10 = .ok (.return_, 1) := by decide +kernel
theorem d_X7_skipBlanks_0 : dec m_X7_skipBlanks 0 = .ok (.aload_n 0, 1) := by decide +kernel
theorem d_X7_skipBlanks_1 : dec m_X7_skipBlanks 1 = .ok (.getfield 29, 3) := by decide +kernel
theorem d_X7_skipBlanks_4 : dec m_X7_skipBlanks 4 = .ok (.aload_n 0, 1) := by decide +kernel
theorem d_X7_skipBlanks_5 : dec m_X7_skipBlanks 5 = .ok (.getfield 22, 3) := by decide +kernel
theorem d_X7_skipBlanks_8 : dec m_X7_skipBlanks 8 = .ok (.if_icmp .ge 29, 3) := by decide +kernel
theorem d_X7_skipBlanks_11 : dec m_X7_skipBlanks 11 = .ok (.aload_n 0, 1) := by decide +kernel
theorem d_X7_skipBlanks_12 : dec m_X7_skipBlanks 12 = .ok (.aload_n 0, 1) := by decide +kernel
theorem d_X7_skipBlanks_13 : dec m_X7_skipBlanks 13 = .ok (.getfield 29, 3) := by decide +kernel
theorem d_X7_skipBlanks_16 : dec m_X7_skipBlanks 16 = .ok (.invokevirtual 48, 3) := by decide +kernel
theorem d_X7_skipBlanks_19 : dec m_X7_skipBlanks 19 = .ok (.bipush 32, 2) := by decide +kernel
theorem d_X7_skipBlanks_21 : dec m_X7_skipBlanks 21 = .ok (.if_icmp .ne 16, 3) := by decide +kernel
theorem d_X7_skipBlanks_24 : dec m_X7_skipBlanks 24 = .ok (.aload_n 0, 1) := by decide +kernel
theorem d_X7_skipBlanks_25 : dec m_X7_skipBlanks 25 = .ok (.dup, 1) := by decide +kernel
theorem d_X7_skipBlanks_26 : dec m_X7_skipBlanks 26 = .ok (.getfield 29, 3) := by decide +kernel
theorem d_X7_skipBlanks_29 : dec m_X7_skipBlanks 29 = .ok (.iconst 1, 1) := by decide +kernel
theorem d_X7_skipBlanks_30 : dec m_X7_skipBlanks 30 = .ok (.iadd, 1) := by decide +kernel
theorem d_X7_skipBlanks_31 : dec m_X7_skipBlanks 31 = .ok (.putfield 29, 3) := by decide +kernel
theorem d_X7_skipBlanks_34 : dec m_X7_skipBlanks 34 = .ok (.goto (-34), 3) := by decide +kernel
theorem d_X7_skipBlanks_37 : dec m_X7_skipBlanks 37 = .ok (.return_, 1) := by decide +kernel
theorem d_X7_skipWord_0 : dec m_X7_skipWord 0 = .ok (.aload_n 0, 1) := by decide +kernel
theorem d_X7_skipWord_1 : dec m_X7_skipWord 1 = .ok (.getfield 29, 3) := by decide +kernel
theorem d_X7_skipWord_4 : dec m_X7_skipWord 4 = .ok (.aload_n 0, 1) := by decide +kernel
theorem d_X7_skipWord_5 : dec m_X7_skipWord 5 = .ok (.getfield 22, 3) := by decide +kernel
theorem d_X7_skipWord_8 : dec m_X7_skipWord 8 = .ok (.if_icmp .ge 30, 3) := by decide +kernel
theorem d_X7_skipWord_11 : dec m_X7_skipWord 11 = .ok (.aload_n 0, 1) := by decide +kernel
theorem d_X7_skipWord_12 : dec m_X7_skipWord 12 = .ok (.aload_n 0, 1) := by decide +kernel
theorem d_X7_skipWord_13 : dec m_X7_skipWord 13 = .ok (.getfield 29, 3) := by decide +kernel
theorem d_X7_skipWord_16 : dec m_X7_skipWord 16 = .ok (.invokevirtual 48, 3) := by decide +kernel
theorem d_X7_skipWord_19 : dec m_X7_skipWord 19 = .ok (.invokestatic 115, 3) := by decide +kernel
theorem d_X7_skipWord_22 : dec m_X7_skipWord 22 = .ok (.ifCond .eq 16, 3) := by decide +kernel
theorem d_X7_skipWord_25 : dec m_X7_skipWord 25 = .ok (.aload_n 0, 1) := by decide +kernel
theorem d_X7_skipWord_26 : dec m_X7_skipWord 26 = .ok (.dup, 1) := by decide +kernel
theorem d_X7_skipWord_27 : dec m_X7_skipWord 27 = .ok (.getfield 29, 3) := by decide +kernel
theorem d_X7_skipWord_30 : dec m_X7_skipWord 30 = .ok (.iconst 1, 1) := by decide +kernel
theorem d_X7_skipWord_31 : dec m_X7_skipWord 31 = .ok (.iadd, 1) := by decide +kernel
theorem d_X7_skipWord_32 : dec m_X7_skipWord 32 = .ok (.putfield 29, 3) := by decide +kernel
theorem d_X7_skipWord_35 : dec m_X7_skipWord 35 = .ok (.goto (-35), 3) := by decide +kernel
theorem d_X7_skipWord_38 : dec m_X7_skipWord 38 = .ok (.return_, 1) := by decide +kernel
theorem d_X7_isWord_0 : dec m_X7_isWord 0 = .ok (.aload_n 0, 1) := by decide +kernel
theorem d_X7_isWord_1 : dec m_X7_isWord 1 = .ok (.getfield 29, 3) := by decide +kernel
theorem d_X7_isWord_4 : dec m_X7_isWord 4 = .ok (.iload_n 1, 1) := by decide +kernel
theorem d_X7_isWord_5 : dec m_X7_isWord 5 = .ok (.isub, 1) := by decide +kernel
theorem d_X7_isWord_6 : dec m_X7_isWord 6 = .ok (.aload_n 2, 1) := by decide +kernel
theorem d_X7_isWord_7 : dec m_X7_isWord 7 = .ok (.invokevirtual 118, 3) := by decide +kernel
theorem d_X7_isWord_10 : dec m_X7_isWord 10 = .ok (.if_icmp .eq 5, 3) := by decide +kernel
theorem d_X7_isWord_13 : dec m_X7_isWord 13 = .ok (.iconst 0, 1) := by decide +kernel
theorem d_X7_isWord_14 : dec m_X7_isWord 14 = .ok (.ireturn, 1) := by decide +kernel
theorem d_X7_isWord_15 : dec m_X7_isWord 15 = .ok (.iconst 0, 1) := by decide +kernel
theorem d_X7_isWord_16 : dec m_X7_isWord 16 = .ok (.istore_n 3, 1) := by decide +kernel
theorem d_X7_isWord_17 : dec m_X7_isWord 17 = .ok (.iload_n 3, 1) := by decide +kernel
theorem d_X7_isWord_18 : dec m_X7_isWord 18 = .ok (.aload_n 2, 1) := by decide +kernel
theorem d_X7_isWord_19 : dec m_X7_isWord 19 = .ok (.invokevirtual 118, 3) := by decide +kernel
theorem d_X7_isWord_22 : dec m_X7_isWord 22 = .ok (.if_icmp .ge 26, 3) := by decide +kernel
theorem d_X7_isWord_25 : dec m_X7_isWord 25 = .ok (.aload_n 0, 1) := by decide +kernel
theorem d_X7_isWord_26 : dec m_X7_isWord 26 = .ok (.iload_n 1, 1) := by decide +kernel
theorem d_X7_isWord_27 : dec m_X7_isWord 27 = .ok (.iload_n 3, 1) := by decide +kernel
theorem d_X7_isWord_28 : dec m_X7_isWord 28 = .ok (.iadd, 1) := by decide +kernel
theorem d_X7_isWord_29 : dec m_X7_isWord 29 = .ok (.invokevirtual 48, 3) := by decide +kernel
theorem d_X7_isWord_32 : dec m_X7_isWord 32 = .ok (.aload_n 2, 1) := by decide +kernel
theorem d_X7_isWord_33 : dec m_X7_isWord 33 = .ok (.iload_n 3, 1) := by decide +kernel
theorem d_X7_isWord_34 : dec m_X7_isWord 34 = .ok (.invokevirtual 124, 3) := by decide +kernel
theorem d_X7_isWord_37 : dec m_X7_isWord 37 = .ok (.if_icmp .eq 5, 3) := by decide +kernel
theorem d_X7_isWord_40 : dec m_X7_isWord 40 = .ok (.iconst 0, 1) := by decide +kernel
theorem d_X7_isWord_41 : dec m_X7_isWord 41 = .ok (.ireturn, 1) := by decide +kernel
theorem d_X7_isWord_42 : dec m_X7_isWord 42 = .ok (.iinc 3 1, 3) := by decide +kernel
theorem d_X7_isWord_45 : dec m_X7_isWord 45 = .ok (.goto (-28), 3) := by decide +kernel
theorem d_X7_isWord_48 : dec m_X7_isWord 48 = .ok (.iconst 1, 1) := by decide +kernel
theorem d_X7_isWord_49 : dec m_X7_isWord 49 = .ok (.ireturn, 1) := by decide +kernel
theorem d_X7_byteAt_0 : dec m_X7_byteAt 0 = .ok (.iload_n 1, 1) := by decide +kernel
theorem d_X7_byteAt_1 : dec m_X7_byteAt 1 = .ok (.ifCond .lt 27, 3) := by decide +kernel
theorem d_X7_byteAt_4 : dec m_X7_byteAt 4 = .ok (.iload_n 1, 1) := by decide +kernel
theorem d_X7_byteAt_5 : dec m_X7_byteAt 5 = .ok (.aload_n 0, 1) := by decide +kernel
theorem d_X7_byteAt_6 : dec m_X7_byteAt 6 = .ok (.getfield 22, 3) := by decide +kernel
theorem d_X7_byteAt_9 : dec m_X7_byteAt 9 = .ok (.if_icmp .ge 19, 3) := by decide +kernel
theorem d_X7_byteAt_12 : dec m_X7_byteAt 12 = .ok (.iload_n 1, 1) := by decide +kernel
theorem d_X7_byteAt_13 : dec m_X7_byteAt 13 = .ok (.sipush 400, 3) := by decide +kernel
theorem d_X7_byteAt_16 : dec m_X7_byteAt 16 = .ok (.if_icmp .ge 12, 3) := by decide +kernel
theorem d_X7_byteAt_19 : dec m_X7_byteAt 19 = .ok (.aload_n 0, 1) := by decide +kernel
theorem d_X7_byteAt_20 : dec m_X7_byteAt 20 = .ok (.getfield 9, 3) := by decide +kernel
theorem d_X7_byteAt_23 : dec m_X7_byteAt 23 = .ok (.iload_n 1, 1) := by decide +kernel
theorem d_X7_byteAt_24 : dec m_X7_byteAt 24 = .ok (.iaload, 1) := by decide +kernel
theorem d_X7_byteAt_25 : dec m_X7_byteAt 25 = .ok (.goto 4, 3) := by decide +kernel
theorem d_X7_byteAt_28 : dec m_X7_byteAt 28 = .ok (.iconst (-1), 1) := by decide +kernel
theorem d_X7_byteAt_29 : dec m_X7_byteAt 29 = .ok (.ireturn, 1) := by decide +kernel
theorem d_X7_isDigit_0 : dec m_X7_isDigit 0 = .ok (.iload_n 0, 1) := by decide +kernel
theorem d_X7_isDigit_1 : dec m_X7_isDigit 1 = .ok (.bipush 48, 2) := by decide +kernel
theorem d_X7_isDigit_3 : dec m_X7_isDigit 3 = .ok (.if_icmp .lt 13, 3) := by decide +kernel
theorem d_X7_isDigit_6 : dec m_X7_isDigit 6 = .ok (.iload_n 0, 1) := by decide +kernel
theorem d_X7_isDigit_7 : dec m_X7_isDigit 7 = .ok (.bipush 57, 2) := by decide +kernel
theorem d_X7_isDigit_9 : dec m_X7_isDigit 9 = .ok (.if_icmp .gt 7, 3) := by decide +kernel
theorem d_X7_isDigit_12 : dec m_X7_isDigit 12 = .ok (.iconst 1, 1) := by decide +kernel
theorem d_X7_isDigit_13 : dec m_X7_isDigit 13 = .ok (.goto 4, 3) := by decide +kernel
theorem d_X7_isDigit_16 : dec m_X7_isDigit 16 = .ok (.iconst 0, 1) := by decide +kernel
theorem d_X7_isDigit_17 : dec m_X7_isDigit 17 = .ok (.ireturn, 1) := by decide +kernel
theorem d_X7_isSmallLetter_0 : dec m_X7_isSmallLetter 0 = .ok (.iload_n 0, 1) := by decide +kernel
theorem d_X7_isSmallLetter_1 : dec m_X7_isSmallLetter 1 = .ok (.bipush 97, 2) := by decide +kernel
theorem d_X7_isSmallLetter_3 : dec m_X7_isSmallLetter 3 = .ok (.if_icmp .lt 13, 3) := by decide +kernel
theorem d_X7_isSmallLetter_6 : dec m_X7_isSmallLetter 6 = .ok (.iload_n 0, 1) := by decide +kernel
theorem d_X7_isSmallLetter_7 : dec m_X7_isSmallLetter 7 = .ok (.bipush 122, 2) := by decide +kernel
theorem d_X7_isSmallLetter_9 : dec m_X7_isSmallLetter 9 = .ok (.if_icmp .gt 7, 3) := by decide +kernel
theorem d_X7_isSmallLetter_12 : dec m_X7_isSmallLetter 12 = .ok (.iconst 1, 1) := by decide +kernel
theorem d_X7_isSmallLetter_13 : dec m_X7_isSmallLetter 13 = .ok (.goto 4, 3) := by decide +kernel
theorem d_X7_isSmallLetter_16 : dec m_X7_isSmallLetter 16 = .ok (.iconst 0, 1) := by decide +kernel
theorem d_X7_isSmallLetter_17 : dec m_X7_isSmallLetter 17 = .ok (.ireturn, 1) := by decide +kernel
theorem d_X8_feed_0 : dec m_X8_feed 0 = .ok (.aload_n 0, 1) := by decide +kernel
theorem d_X8_feed_1 : dec m_X8_feed 1 = .ok (.getfield 19, 3) := by decide +kernel
theorem d_X8_feed_4 : dec m_X8_feed 4 = .ok (.getfield 76, 3) := by decide +kernel
theorem d_X8_feed_7 : dec m_X8_feed 7 = .ok (.bipush 20, 2) := by decide +kernel
theorem d_X8_feed_9 : dec m_X8_feed 9 = .ok (.iadd, 1) := by decide +kernel
theorem d_X8_feed_10 : dec m_X8_feed 10 = .ok (.sipush 400, 3) := by decide +kernel
theorem d_X8_feed_13 : dec m_X8_feed 13 = .ok (.if_icmp .le 5, 3) := by decide +kernel
theorem d_X8_feed_16 : dec m_X8_feed 16 = .ok (.iconst (-1), 1) := by decide +kernel
theorem d_X8_feed_17 : dec m_X8_feed 17 = .ok (.ireturn, 1) := by decide +kernel
theorem d_X8_feed_18 : dec m_X8_feed 18 = .ok (.aload_n 0, 1) := by decide +kernel
theorem d_X8_feed_19 : dec m_X8_feed 19 = .ok (.getfield 19, 3) := by decide +kernel
theorem d_X8_feed_22 : dec m_X8_feed 22 = .ok (.iload_n 1, 1) := by decide +kernel
theorem d_X8_feed_23 : dec m_X8_feed 23 = .ok (.invokevirtual 80, 3) := by decide +kernel
theorem d_X8_feed_26 : dec m_X8_feed 26 = .ok (.aload_n 0, 1) := by decide +kernel
theorem d_X8_feed_27 : dec m_X8_feed 27 = .ok (.getfield 19, 3) := by decide +kernel
theorem d_X8_feed_30 : dec m_X8_feed 30 = .ok (.iload_n 2, 1) := by decide +kernel
theorem d_X8_feed_31 : dec m_X8_feed 31 = .ok (.invokevirtual 80, 3) := by decide +kernel
theorem d_X8_feed_34 : dec m_X8_feed 34 = .ok (.aload_n 0, 1) := by decide +kernel
theorem d_X8_feed_35 : dec m_X8_feed 35 = .ok (.getfield 19, 3) := by decide +kernel
theorem d_X8_feed_38 : dec m_X8_feed 38 = .ok (.iload_n 3, 1) := by decide +kernel
theorem d_X8_feed_39 : dec m_X8_feed 39 = .ok (.invokevirtual 80, 3) := by decide +kernel
theorem d_X8_feed_42 : dec m_X8_feed 42 = .ok (.aload_n 0, 1) := by decide +kernel
theorem d_X8_feed_43 : dec m_X8_feed 43 = .ok (.getfield 19, 3) := by decide +kernel
theorem d_X8_feed_46 : dec m_X8_feed 46 = .ok (.iload 4, 2) := by decide +kernel
theorem d_X8_feed_48 : dec m_X8_feed 48 = .ok (.invokevirtual 80, 3) := by decide +kernel
theorem d_X8_feed_51 : dec m_X8_feed 51 = .ok (.aload_n 0, 1) := by decide +kernel
theorem d_X8_feed_52 : dec m_X8_feed 52 = .ok (.getfield 19, 3) := by decide +kernel
theorem d_X8_feed_55 : dec m_X8_feed 55 = .ok (.iload 5, 2) := by decide +kernel
theorem d_X8_feed_57 : dec m_X8_feed 57 = .ok (.invokevirtual 80, 3) := by decide +kernel
theorem d_X8_feed_60 : dec m_X8_feed 60 = .ok (.aload_n 0, 1) := by decide +kernel
theorem d_X8_feed_61 : dec m_X8_feed 61 = .ok (.getfield 19, 3) := by decide +kernel
theorem d_X8_feed_64 : dec m_X8_feed 64 = .ok (.getfield 76, 3) := by decide +kernel
theorem d_X8_feed_67 : dec m_X8_feed 67 = .ok (.ireturn, 1) := by decide +kernel
theorem d_X8_end_0 : dec m_X8_end 0 = .ok (.iload_n 1, 1) := by decide +kernel
theorem d_X8_end_1 : dec m_X8_end 1 = .ok (.ifCond .lt 14, 3) := by decide +kernel
theorem d_X8_end_4 : dec m_X8_end 4 = .ok (.iload_n 1, 1) := by decide +kernel
theorem d_X8_end_5 : dec m_X8_end 5 = .ok (.aload_n 0, 1) := by decide +kernel
theorem d_X8_end_6 : dec m_X8_end 6 = .ok (.getfield 19, 3) := by decide +kernel
theorem d_X8_end_9 : dec m_X8_end 9 = .ok (.getfield 76, 3) := by decide +kernel
theorem d_X8_end_12 : dec m_X8_end 12 = .ok (.if_icmp .le 5, 3) := by decide +kernel
theorem d_X8_end_15 : dec m_X8_end 15 = .ok (.iconst (-1), 1) := by decide +kernel
theorem d_X8_end_16 : dec m_X8_end 16 = .ok (.ireturn, 1) := by decide +kernel
theorem d_X8_end_17 : dec m_X8_end 17 = .ok (.aload_n 0, 1) := by decide +kernel
theorem d_X8_end_18 : dec m_X8_end 18 = .ok (.getfield 19, 3) := by decide +kernel
theorem d_X8_end_21 : dec m_X8_end 21 = .ok (.iload_n 1, 1) := by decide +kernel
theorem d_X8_end_22 : dec m_X8_end 22 = .ok (.putfield 76, 3) := by decide +kernel
theorem d_X8_end_25 : dec m_X8_end 25 = .ok (.iload_n 1, 1) := by decide +kernel
theorem d_X8_end_26 : dec m_X8_end 26 = .ok (.ireturn, 1) := by decide +kernel
theorem d_X8_tell_0 : dec m_X8_tell 0 = .ok (.aload_n 0, 1) := by decide +kernel
theorem d_X8_tell_1 : dec m_X8_tell 1 = .ok (.getfield 19, 3) := by decide +kernel
theorem d_X8_tell_4 : dec m_X8_tell 4 = .ok (.invokevirtual 84, 3) := by decide +kernel
theorem d_X8_tell_7 : dec m_X8_tell 7 = .ok (.istore_n 1, 1) := by decide +kernel
theorem d_X8_tell_8 : dec m_X8_tell 8 = .ok (.aload_n 0, 1) := by decide +kernel
theorem d_X8_tell_9 : dec m_X8_tell 9 = .ok (.getfield 19, 3) := by decide +kernel
theorem d_X8_tell_12 : dec m_X8_tell 12 = .ok (.iconst 0, 1) := by decide +kernel
theorem d_X8_tell_13 : dec m_X8_tell 13 = .ok (.putfield 76, 3) := by decide +kernel
theorem d_X8_tell_16 : dec m_X8_tell 16 = .ok (.iload_n 1, 1) := by decide +kernel
theorem d_X8_tell_17 : dec m_X8_tell 17 = .ok (.ifCond .eq 8, 3) := by decide +kernel
theorem d_X8_tell_20 : dec m_X8_tell 20 = .ok (.bipush (-2), 2) := by decide +kernel
theorem d_X8_tell_22 : dec m_X8_tell 22 = .ok (.iload_n 1, 1) := by decide +kernel
theorem d_X8_tell_23 : dec m_X8_tell 23 = .ok (.isub, 1) := by decide +kernel
theorem d_X8_tell_24 : dec m_X8_tell 24 = .ok (.ireturn, 1) := by decide +kernel
theorem d_X8_tell_25 : dec m_X8_tell 25 = .ok (.aload_n 0, 1) := by decide +kernel
theorem d_X8_tell_26 : dec m_X8_tell 26 = .ok (.getfield 12, 3) := by decide +kernel
theorem d_X8_tell_29 : dec m_X8_tell 29 = .ok (.aload_n 0, 1) := by decide +kernel
theorem d_X8_tell_30 : dec m_X8_tell 30 = .ok (.getfield 19, 3) := by decide +kernel
theorem d_X8_tell_33 : dec m_X8_tell 33 = .ok (.getfield 88, 3) := by decide +kernel
theorem d_X8_tell_36 : dec m_X8_tell 36 = .ok (.invokevirtual 91, 3) := by decide +kernel
theorem d_X8_tell_39 : dec m_X8_tell 39 = .ok (.aload_n 0, 1) := by decide +kernel
theorem d_X8_tell_40 : dec m_X8_tell 40 = .ok (.getfield 26, 3) := by decide +kernel
theorem d_X8_tell_43 : dec m_X8_tell 43 = .ok (.invokevirtual 95, 3) := by decide +kernel
theorem d_X8_tell_46 : dec m_X8_tell 46 = .ok (.aload_n 0, 1) := by decide +kernel
theorem d_X8_tell_47 : dec m_X8_tell 47 = .ok (.getfield 12, 3) := by decide +kernel
theorem d_X8_tell_50 : dec m_X8_tell 50 = .ok (.getfield 98, 3) := by decide +kernel
theorem d_X8_tell_53 : dec m_X8_tell 53 = .ok (.ireturn, 1) := by decide +kernel
theorem d_X8_come_0 : dec m_X8_come 0 = .ok (.iload_n 2, 1) := by decide +kernel
theorem d_X8_come_1 : dec m_X8_come 1 = .ok (.invokestatic 99, 3) := by decide +kernel
theorem d_X8_come_4 : dec m_X8_come 4 = .ok (.ifCond .ne 5, 3) := by decide +kernel
theorem d_X8_come_7 : dec m_X8_come 7 = .ok (.iconst (-1), 1) := by decide +kernel
theorem d_X8_come_8 : dec m_X8_come 8 = .ok (.ireturn, 1) := by decide +kernel
theorem d_X8_come_9 : dec m_X8_come 9 = .ok (.aload_n 0, 1) := by decide +kernel
theorem d_X8_come_10 : dec m_X8_come 10 = .ok (.getfield 12, 3) := by decide +kernel
theorem d_X8_come_13 : dec m_X8_come 13 = .ok (.getfield 98, 3) := by decide +kernel
theorem d_X8_come_16 : dec m_X8_come 16 = .ok (.bipush 20, 2) := by decide +kernel
theorem d_X8_come_18 : dec m_X8_come 18 = .ok (.if_icmp .lt 6, 3) := by decide +kernel
theorem d_X8_come_21 : dec m_X8_come 21 = .ok (.bipush (-2), 2) := by decide +kernel
theorem d_X8_come_23 : dec m_X8_come 23 = .ok (.ireturn, 1) := by decide +kernel
theorem d_X8_come_24 : dec m_X8_come 24 = .ok (.aload_n 0, 1) := by decide +kernel
theorem d_X8_come_25 : dec m_X8_come 25 = .ok (.getfield 26, 3) := by decide +kernel
theorem d_X8_come_28 : dec m_X8_come 28 = .ok (.aload_n 0, 1) := by decide +kernel
theorem d_X8_come_29 : dec m_X8_come 29 = .ok (.getfield 12, 3) := by decide +kernel
theorem d_X8_come_32 : dec m_X8_come 32 = .ok (.invokevirtual 103, 3) := by decide +kernel
theorem d_X8_come_35 : dec m_X8_come 35 = .ok (.aload_n 0, 1) := by decide +kernel
theorem d_X8_come_36 : dec m_X8_come 36 = .ok (.getfield 12, 3) := by decide +kernel
theorem d_X8_come_39 : dec m_X8_come 39 = .ok (.iload_n 1, 1) := by decide +kernel
theorem d_X8_come_40 : dec m_X8_come 40 = .ok (.iload_n 2, 1) := by decide +kernel
theorem d_X8_come_41 : dec m_X8_come 41 = .ok (.invokevirtual 106, 3) := by decide +kernel
theorem d_X8_come_44 : dec m_X8_come 44 = .ok (.ireturn, 1) := by decide +kernel
theorem d_X8_add_0 : dec m_X8_add 0 = .ok (.aload_n 0, 1) := by decide +kernel
theorem d_X8_add_1 : dec m_X8_add 1 = .ok (.getfield 12, 3) := by decide +kernel
theorem d_X8_add_4 : dec m_X8_add 4 = .ok (.iload_n 1, 1) := by decide +kernel
theorem d_X8_add_5 : dec m_X8_add 5 = .ok (.invokevirtual 110, 3) := by decide +kernel
theorem d_X8_add_8 : dec m_X8_add 8 = .ok (.ifCond .eq 10, 3) := by decide +kernel
theorem d_X8_add_11 : dec m_X8_add 11 = .ok (.iload_n 2, 1) := by decide +kernel
theorem d_X8_add_12 : dec m_X8_add 12 = .ok (.invokestatic 113, 3) := by decide +kernel
theorem d_X8_add_15 : dec m_X8_add 15 = .ok (.ifCond .ne 5, 3) := by decide +kernel
theorem d_X8_add_18 : dec m_X8_add 18 = .ok (.iconst (-1), 1) := by decide +kernel
theorem d_X8_add_19 : dec m_X8_add 19 = .ok (.ireturn, 1) := by decide +kernel
theorem d_X8_add_20 : dec m_X8_add 20 = .ok (.aload_n 0, 1) := by decide +kernel
theorem d_X8_add_21 : dec m_X8_add 21 = .ok (.getfield 12, 3) := by decide +kernel
theorem d_X8_add_24 : dec m_X8_add 24 = .ok (.iload_n 1, 1) := by decide +kernel
theorem d_X8_add_25 : dec m_X8_add 25 = .ok (.invokevirtual 116, 3) := by decide +kernel
theorem d_X8_add_28 : dec m_X8_add 28 = .ok (.istore_n 3, 1) := by decide +kernel
theorem d_X8_add_29 : dec m_X8_add 29 = .ok (.iload_n 3, 1) := by decide +kernel
theorem d_X8_add_30 : dec m_X8_add 30 = .ok (.iconst 4, 1) := by decide +kernel
theorem d_X8_add_31 : dec m_X8_add 31 = .ok (.if_icmp .lt 6, 3) := by decide +kernel
theorem d_X8_add_34 : dec m_X8_add 34 = .ok (.bipush (-2), 2) := by decide +kernel
theorem d_X8_add_36 : dec m_X8_add 36 = .ok (.ireturn, 1) := by decide +kernel
theorem d_X8_add_37 : dec m_X8_add 37 = .ok (.aload_n 0, 1) := by decide +kernel
theorem d_X8_add_38 : dec m_X8_add 38 = .ok (.getfield 12, 3) := by decide +kernel
theorem d_X8_add_41 : dec m_X8_add 41 = .ok (.iload_n 1, 1) := by decide +kernel
theorem d_X8_add_42 : dec m_X8_add 42 = .ok (.iload_n 3, 1) := by decide +kernel
theorem d_X8_add_43 : dec m_X8_add 43 = .ok (.iload_n 2, 1) := by decide +kernel
theorem d_X8_add_44 : dec m_X8_add 44 = .ok (.invokevirtual 120, 3) := by decide +kernel
theorem d_X8_add_47 : dec m_X8_add 47 = .ok (.ifCond .ne 6, 3) := by decide +kernel
theorem d_X8_add_50 : dec m_X8_add 50 = .ok (.bipush (-3), 2) := by decide +kernel
theorem d_X8_add_52 : dec m_X8_add 52 = .ok (.ireturn, 1) := by decide +kernel
theorem d_X8_add_53 : dec m_X8_add 53 = .ok (.aload_n 0, 1) := by decide +kernel
theorem d_X8_add_54 : dec m_X8_add 54 = .ok (.getfield 26, 3) := by decide +kernel
theorem d_X8_add_57 : dec m_X8_add 57 = .ok (.aload_n 0, 1) := by decide +kernel
theorem d_X8_add_58 : dec m_X8_add 58 = .ok (.getfield 12, 3) := by decide +kernel
theorem d_X8_add_61 : dec m_X8_add 61 = .ok (.invokevirtual 103, 3) := by decide +kernel
theorem d_X8_add_64 : dec m_X8_add 64 = .ok (.aload_n 0, 1) := by decide +kernel
theorem d_X8_add_65 : dec m_X8_add 65 = .ok (.getfield 12, 3) := by decide +kernel
theorem d_X8_add_68 : dec m_X8_add 68 = .ok (.iload_n 1, 1) := by decide +kernel
theorem d_X8_add_69 : dec m_X8_add 69 = .ok (.iload_n 2, 1) := by decide +kernel
theorem d_X8_add_70 : dec m_X8_add 70 = .ok (.invokevirtual 124, 3) := by decide +kernel
theorem d_X8_add_73 : dec m_X8_add 73 = .ok (.ireturn, 1) := by decide +kernel
theorem d_X8_say_0 : dec m_X8_say 0 = .ok (.aload_n 0, 1) := by decide +kernel
theorem d_X8_say_1 : dec m_X8_say 1 = .ok (.getfield 12, 3) := by decide +kernel
theorem d_X8_say_4 : dec m_X8_say 4 = .ok (.iload_n 1, 1) := by decide +kernel
theorem d_X8_say_5 : dec m_X8_say 5 = .ok (.iload_n 2, 1) := by decide +kernel
theorem d_X8_say_6 : dec m_X8_say 6 = .ok (.invokevirtual 127, 3) := by decide +kernel
theorem d_X8_say_9 : dec m_X8_say 9 = .ok (.ifCond .eq 10, 3) := by decide +kernel
theorem d_X8_say_12 : dec m_X8_say 12 = .ok (.iload_n 3, 1) := by decide +kernel
theorem d_X8_say_13 : dec m_X8_say 13 = .ok (.invokestatic 113, 3) := by decide +kernel
theorem d_X8_say_16 : dec m_X8_say 16 = .ok (.ifCond .ne 5, 3) := by decide +kernel
theorem d_X8_say_19 : dec m_X8_say 19 = .ok (.iconst (-1), 1) := by decide +kernel
theorem d_X8_say_20 : dec m_X8_say 20 = .ok (.ireturn, 1) := by decide +kernel
theorem d_X8_say_21 : dec m_X8_say 21 = .ok (.aload_n 0, 1) := by decide +kernel
theorem d_X8_say_22 : dec m_X8_say 22 = .ok (.getfield 12, 3) := by decide +kernel
theorem d_X8_say_25 : dec m_X8_say 25 = .ok (.iload_n 1, 1) := by decide +kernel
theorem d_X8_say_26 : dec m_X8_say 26 = .ok (.iload_n 2, 1) := by decide +kernel
theorem d_X8_say_27 : dec m_X8_say 27 = .ok (.invokevirtual 131, 3) := by decide +kernel
theorem d_X8_say_30 : dec m_X8_say 30 = .ok (.istore 4, 2) := by decide +kernel
theorem d_X8_say_32 : dec m_X8_say 32 = .ok (.iload 4, 2) := by decide +kernel
theorem d_X8_say_34 : dec m_X8_say 34 = .ok (.iload_n 3, 1) := by decide +kernel
theorem d_X8_say_35 : dec m_X8_say 35 = .ok (.if_icmp .ne 6, 3) := by decide +kernel
theorem d_X8_say_38 : dec m_X8_say 38 = .ok (.bipush (-2), 2) := by decide +kernel
theorem d_X8_say_40 : dec m_X8_say 40 = .ok (.ireturn, 1) := by decide +kernel
theorem d_X8_say_41 : dec m_X8_say 41 = .ok (.aload_n 0, 1) := by decide +kernel
theorem d_X8_say_42 : dec m_X8_say 42 = .ok (.getfield 12, 3) := by decide +kernel
theorem d_X8_say_45 : dec m_X8_say 45 = .ok (.iload_n 1, 1) := by decide +kernel
theorem d_X8_say_46 : dec m_X8_say 46 = .ok (.iload_n 2, 1) := by decide +kernel
theorem d_X8_say_47 : dec m_X8_say 47 = .ok (.iload_n 3, 1) := by decide +kernel
theorem d_X8_say_48 : dec m_X8_say 48 = .ok (.invokevirtual 120, 3) := by decide +kernel
theorem d_X8_say_51 : dec m_X8_say 51 = .ok (.ifCond .ne 6, 3) := by decide +kernel
theorem d_X8_say_54 : dec m_X8_say 54 = .ok (.bipush (-3), 2) := by decide +kernel
theorem d_X8_say_56 : dec m_X8_say 56 = .ok (.ireturn, 1) := by decide +kernel
theorem d_X8_say_57 : dec m_X8_say 57 = .ok (.aload_n 0, 1) := by decide +kernel
theorem d_X8_say_58 : dec m_X8_say 58 = .ok (.getfield 26, 3) := by decide +kernel
theorem d_X8_say_61 : dec m_X8_say 61 = .ok (.aload_n 0, 1) := by decide +kernel
theorem d_X8_say_62 : dec m_X8_say 62 = .ok (.getfield 12, 3) := by decide +kernel
theorem d_X8_say_65 : dec m_X8_say 65 = .ok (.invokevirtual 103, 3) := by decide +kernel
theorem d_X8_say_68 : dec m_X8_say 68 = .ok (.aload_n 0, 1) := by decide +kernel
theorem d_X8_say_69 : dec m_X8_say 69 = .ok (.getfield 12, 3) := by decide +kernel
theorem d_X8_say_72 : dec m_X8_say 72 = .ok (.iload_n 1, 1) := by decide +kernel
theorem d_X8_say_73 : dec m_X8_say 73 = .ok (.iload_n 2, 1) := by decide +kernel
theorem d_X8_say_74 : dec m_X8_say 74 = .ok (.iload_n 3, 1) := by decide +kernel
theorem d_X8_say_75 : dec m_X8_say 75 = .ok (.invokevirtual 134, 3) := by decide +kernel
theorem d_X8_say_78 : dec m_X8_say 78 = .ok (.iload 4, 2) := by decide +kernel
theorem d_X8_say_80 : dec m_X8_say 80 = .ok (.ireturn, 1) := by decide +kernel
theorem d_X8_leave_0 : dec m_X8_leave 0 = .ok (.aload_n 0, 1) := by decide +kernel
theorem d_X8_leave_1 : dec m_X8_leave 1 = .ok (.getfield 12, 3) := by decide +kernel
theorem d_X8_leave_4 : dec m_X8_leave 4 = .ok (.iload_n 1, 1) := by decide +kernel
theorem d_X8_leave_5 : dec m_X8_leave 5 = .ok (.invokevirtual 116, 3) := by decide +kernel
theorem d_X8_leave_8 : dec m_X8_leave 8 = .ok (.istore_n 2, 1) := by decide +kernel
theorem d_X8_leave_9 : dec m_X8_leave 9 = .ok (.iload_n 2, 1) := by decide +kernel
theorem d_X8_leave_10 : dec m_X8_leave 10 = .ok (.ifCond .ne 5, 3) := by decide +kernel
theorem d_X8_leave_13 : dec m_X8_leave 13 = .ok (.iconst (-1), 1) := by decide +kernel
theorem d_X8_leave_14 : dec m_X8_leave 14 = .ok (.ireturn, 1) := by decide +kernel
theorem d_X8_leave_15 : dec m_X8_leave 15 = .ok (.aload_n 0, 1) := by decide +kernel
theorem d_X8_leave_16 : dec m_X8_leave 16 = .ok (.getfield 26, 3) := by decide +kernel
theorem d_X8_leave_19 : dec m_X8_leave 19 = .ok (.aload_n 0, 1) := by decide +kernel
theorem d_X8_leave_20 : dec m_X8_leave 20 = .ok (.getfield 12, 3) := by decide +kernel
theorem d_X8_leave_23 : dec m_X8_leave 23 = .ok (.invokevirtual 103, 3) := by decide +kernel
theorem d_X8_leave_26 : dec m_X8_leave 26 = .ok (.aload_n 0, 1) := by decide +kernel
theorem d_X8_leave_27 : dec m_X8_leave 27 = .ok (.getfield 12, 3) := by decide +kernel
theorem d_X8_leave_30 : dec m_X8_leave 30 = .ok (.iload_n 1, 1) := by decide +kernel
theorem d_X8_leave_31 : dec m_X8_leave 31 = .ok (.iload_n 2, 1) := by decide +kernel
theorem d_X8_leave_32 : dec m_X8_leave 32 = .ok (.invokevirtual 138, 3) := by decide +kernel
theorem d_X8_leave_35 : dec m_X8_leave 35 = .ok (.iload_n 2, 1) := by decide +kernel
theorem d_X8_leave_36 : dec m_X8_leave 36 = .ok (.ireturn, 1) := by decide +kernel
theorem d_X8_fee_0 : dec m_X8_fee 0 = .ok (.iload_n 1, 1) := by decide +kernel
theorem d_X8_fee_1 : dec m_X8_fee 1 = .ok (.invokestatic 142, 3) := by decide +kernel
theorem d_X8_fee_4 : dec m_X8_fee 4 = .ok (.ifCond .ne 5, 3) := by decide +kernel
theorem d_X8_fee_7 : dec m_X8_fee 7 = .ok (.iconst (-1), 1) := by decide +kernel
theorem d_X8_fee_8 : dec m_X8_fee 8 = .ok (.ireturn, 1) := by decide +kernel
theorem d_X8_fee_9 : dec m_X8_fee 9 = .ok (.aload_n 0, 1) := by decide +kernel
theorem d_X8_fee_10 : dec m_X8_fee 10 = .ok (.getfield 12, 3) := by decide +kernel
theorem d_X8_fee_13 : dec m_X8_fee 13 = .ok (.getfield 145, 3) := by decide +kernel
theorem d_X8_fee_16 : dec m_X8_fee 16 = .ok (.istore_n 2, 1) := by decide +kernel
theorem d_X8_fee_17 : dec m_X8_fee 17 = .ok (.iload_n 2, 1) := by decide +kernel
theorem d_X8_fee_18 : dec m_X8_fee 18 = .ok (.iload_n 1, 1) := by decide +kernel
theorem d_X8_fee_19 : dec m_X8_fee 19 = .ok (.if_icmp .ne 6, 3) := by decide +kernel
theorem d_X8_fee_22 : dec m_X8_fee 22 = .ok (.bipush (-2), 2) := by decide +kernel
theorem d_X8_fee_24 : dec m_X8_fee 24 = .ok (.ireturn, 1) := by decide +kernel
theorem d_X8_fee_25 : dec m_X8_fee 25 = .ok (.aload_n 0, 1) := by decide +kernel
theorem d_X8_fee_26 : dec m_X8_fee 26 = .ok (.getfield 26, 3) := by decide +kernel
theorem d_X8_fee_29 : dec m_X8_fee 29 = .ok (.aload_n 0, 1) := by decide +kernel
theorem d_X8_fee_30 : dec m_X8_fee 30 = .ok (.getfield 12, 3) := by decide +kernel
theorem d_X8_fee_33 : dec m_X8_fee 33 = .ok (.invokevirtual 103, 3) := by decide +kernel
theorem d_X8_fee_36 : dec m_X8_fee 36 = .ok (.aload_n 0, 1) := by decide +kernel
theorem d_X8_fee_37 : dec m_X8_fee 37 = .ok (.getfield 12, 3) := by decide +kernel
theorem d_X8_fee_40 : dec m_X8_fee 40 = .ok (.iload_n 1, 1) := by decide +kernel
theorem d_X8_fee_41 : dec m_X8_fee 41 = .ok (.putfield 145, 3) := by decide +kernel
theorem d_X8_fee_44 : dec m_X8_fee 44 = .ok (.iload_n 2, 1) := by decide +kernel
theorem d_X8_fee_45 : dec m_X8_fee 45 = .ok (.ireturn, 1) := by decide +kernel
theorem d_X8_law_0 : dec m_X8_law 0 = .ok (.iload_n 1, 1) := by decide +kernel
theorem d_X8_law_1 : dec m_X8_law 1 = .ok (.invokestatic 148, 3) := by decide +kernel
theorem d_X8_law_4 : dec m_X8_law 4 = .ok (.ifCond .ne 5, 3) := by decide +kernel
theorem d_X8_law_7 : dec m_X8_law 7 = .ok (.iconst (-1), 1) := by decide +kernel
theorem d_X8_law_8 : dec m_X8_law 8 = .ok (.ireturn, 1) := by decide +kernel
theorem d_X8_law_9 : dec m_X8_law 9 = .ok (.aload_n 0, 1) := by decide +kernel
theorem d_X8_law_10 : dec m_X8_law 10 = .ok (.getfield 12, 3) := by decide +kernel
theorem d_X8_law_13 : dec m_X8_law 13 = .ok (.getfield 151, 3) := by decide +kernel
theorem d_X8_law_16 : dec m_X8_law 16 = .ok (.istore_n 2, 1) := by decide +kernel
theorem d_X8_law_17 : dec m_X8_law 17 = .ok (.iload_n 2, 1) := by decide +kernel
theorem d_X8_law_18 : dec m_X8_law 18 = .ok (.iload_n 1, 1) := by decide +kernel
theorem d_X8_law_19 : dec m_X8_law 19 = .ok (.if_icmp .ne 6, 3) := by decide +kernel
theorem d_X8_law_22 : dec m_X8_law 22 = .ok (.bipush (-2), 2) := by decide +kernel
theorem d_X8_law_24 : dec m_X8_law 24 = .ok (.ireturn, 1) := by decide +kernel
theorem d_X8_law_25 : dec m_X8_law 25 = .ok (.aload_n 0, 1) := by decide +kernel
theorem d_X8_law_26 : dec m_X8_law 26 = .ok (.getfield 26, 3) := by decide +kernel
theorem d_X8_law_29 : dec m_X8_law 29 = .ok (.aload_n 0, 1) := by decide +kernel
theorem d_X8_law_30 : dec m_X8_law 30 = .ok (.getfield 12, 3) := by decide +kernel
theorem d_X8_law_33 : dec m_X8_law 33 = .ok (.invokevirtual 103, 3) := by decide +kernel
theorem d_X8_law_36 : dec m_X8_law 36 = .ok (.aload_n 0, 1) := by decide +kernel
theorem d_X8_law_37 : dec m_X8_law 37 = .ok (.getfield 12, 3) := by decide +kernel
theorem d_X8_law_40 : dec m_X8_law 40 = .ok (.iload_n 1, 1) := by decide +kernel
theorem d_X8_law_41 : dec m_X8_law 41 = .ok (.putfield 151, 3) := by decide +kernel
theorem d_X8_law_44 : dec m_X8_law 44 = .ok (.iload_n 2, 1) := by decide +kernel
theorem d_X8_law_45 : dec m_X8_law 45 = .ok (.ireturn, 1) := by decide +kernel
theorem d_X8_close_0 : dec m_X8_close 0 = .ok (.iload_n 1, 1) := by decide +kernel
theorem d_X8_close_1 : dec m_X8_close 1 = .ok (.invokestatic 99, 3) := by decide +kernel
theorem d_X8_close_4 : dec m_X8_close 4 = .ok (.ifCond .ne 5, 3) := by decide +kernel
theorem d_X8_close_7 : dec m_X8_close 7 = .ok (.iconst (-1), 1) := by decide +kernel
theorem d_X8_close_8 : dec m_X8_close 8 = .ok (.ireturn, 1) := by decide +kernel
theorem d_X8_close_9 : dec m_X8_close 9 = .ok (.aload_n 0, 1) := by decide +kernel
theorem d_X8_close_10 : dec m_X8_close 10 = .ok (.iload_n 1, 1) := by decide +kernel
theorem d_X8_close_11 : dec m_X8_close 11 = .ok (.invokevirtual 154, 3) := by decide +kernel
theorem d_X8_close_14 : dec m_X8_close 14 = .ok (.aload_n 0, 1) := by decide +kernel
theorem d_X8_close_15 : dec m_X8_close 15 = .ok (.getfield 47, 3) := by decide +kernel
theorem d_X8_close_18 : dec m_X8_close 18 = .ok (.getfield 157, 3) := by decide +kernel
theorem d_X8_close_21 : dec m_X8_close 21 = .ok (.ifCond .ne 6, 3) := by decide +kernel
theorem d_X8_close_24 : dec m_X8_close 24 = .ok (.bipush (-2), 2) := by decide +kernel
theorem d_X8_close_26 : dec m_X8_close 26 = .ok (.ireturn, 1) := by decide +kernel
theorem d_X8_close_27 : dec m_X8_close 27 = .ok (.aload_n 0, 1) := by decide +kernel
theorem d_X8_close_28 : dec m_X8_close 28 = .ok (.getfield 26, 3) := by decide +kernel
theorem d_X8_close_31 : dec m_X8_close 31 = .ok (.aload_n 0, 1) := by decide +kernel
theorem d_X8_close_32 : dec m_X8_close 32 = .ok (.getfield 12, 3) := by decide +kernel
theorem d_X8_close_35 : dec m_X8_close 35 = .ok (.invokevirtual 103, 3) := by decide +kernel
theorem d_X8_close_38 : dec m_X8_close 38 = .ok (.iconst 0, 1) := by decide +kernel
theorem d_X8_close_39 : dec m_X8_close 39 = .ok (.istore_n 2, 1) := by decide +kernel
theorem d_X8_close_40 : dec m_X8_close 40 = .ok (.iload_n 2, 1) := by decide +kernel
theorem d_X8_close_41 : dec m_X8_close 41 = .ok (.aload_n 0, 1) := by decide +kernel
theorem d_X8_close_42 : dec m_X8_close 42 = .ok (.getfield 12, 3) := by decide +kernel
theorem d_X8_close_45 : dec m_X8_close 45 = .ok (.getfield 98, 3) := by decide +kernel
theorem d_X8_close_48 : dec m_X8_close 48 = .ok (.if_icmp .ge 44, 3) := by decide +kernel
theorem d_X8_close_51 : dec m_X8_close 51 = .ok (.aload_n 0, 1) := by decide +kernel
theorem d_X8_close_52 : dec m_X8_close 52 = .ok (.getfield 12, 3) := by decide +kernel
theorem d_X8_close_55 : dec m_X8_close 55 = .ok (.iload_n 2, 1) := by decide +kernel
theorem d_X8_close_56 : dec m_X8_close 56 = .ok (.invokevirtual 160, 3) := by decide +kernel
theorem d_X8_close_59 : dec m_X8_close 59 = .ok (.istore_n 3, 1) := by decide +kernel
theorem d_X8_close_60 : dec m_X8_close 60 = .ok (.aload_n 0, 1) := by decide +kernel
theorem d_X8_close_61 : dec m_X8_close 61 = .ok (.getfield 12, 3) := by decide +kernel
theorem d_X8_close_64 : dec m_X8_close 64 = .ok (.iload_n 2, 1) := by decide +kernel
theorem d_X8_close_65 : dec m_X8_close 65 = .ok (.aload_n 0, 1) := by decide +kernel
theorem d_X8_close_66 : dec m_X8_close 66 = .ok (.getfield 47, 3) := by decide +kernel
theorem d_X8_close_69 : dec m_X8_close 69 = .ok (.iload_n 3, 1) := by decide +kernel
theorem d_X8_close_70 : dec m_X8_close 70 = .ok (.iload_n 2, 1) := by decide +kernel
theorem d_X8_close_71 : dec m_X8_close 71 = .ok (.invokevirtual 163, 3) := by decide +kernel
theorem d_X8_close_74 : dec m_X8_close 74 = .ok (.aload_n 0, 1) := by decide +kernel
theorem d_X8_close_75 : dec m_X8_close 75 = .ok (.getfield 47, 3) := by decide +kernel
theorem d_X8_close_78 : dec m_X8_close 78 = .ok (.iload_n 3, 1) := by decide +kernel
theorem d_X8_close_79 : dec m_X8_close 79 = .ok (.iload_n 2, 1) := by decide +kernel
theorem d_X8_close_80 : dec m_X8_close 80 = .ok (.invokevirtual 166, 3) := by decide +kernel
theorem d_X8_close_83 : dec m_X8_close 83 = .ok (.invokevirtual 169, 3) := by decide +kernel
theorem d_X8_close_86 : dec m_X8_close 86 = .ok (.iinc 2 1, 3) := by decide +kernel
theorem d_X8_close_89 : dec m_X8_close 89 = .ok (.goto (-49), 3) := by decide +kernel
theorem d_X8_close_92 : dec m_X8_close 92 = .ok (.aload_n 0, 1) := by decide +kernel
theorem d_X8_close_93 : dec m_X8_close 93 = .ok (.getfield 12, 3) := by decide +kernel
theorem d_X8_close_96 : dec m_X8_close 96 = .ok (.aload_n 0, 1) := by decide +kernel
theorem d_X8_close_97 : dec m_X8_close 97 = .ok (.getfield 47, 3) := by decide +kernel
theorem d_X8_close_100 : dec m_X8_close 100 = .ok (.getfield 157, 3) := by decide +kernel
theorem d_X8_close_103 : dec m_X8_close 103 = .ok (.aload_n 0, 1) := by decide +kernel
theorem d_X8_close_104 : dec m_X8_close 104 = .ok (.getfield 47, 3) := by decide +kernel
theorem d_X8_close_107 : dec m_X8_close 107 = .ok (.invokevirtual 172, 3) := by decide +kernel
theorem d_X8_close_110 : dec m_X8_close 110 = .ok (.invokevirtual 175, 3) := by decide +kernel
theorem d_X8_close_113 : dec m_X8_close 113 = .ok (.aload_n 0, 1) := by decide +kernel
theorem d_X8_close_114 : dec m_X8_close 114 = .ok (.getfield 47, 3) := by decide +kernel
theorem d_X8_close_117 : dec m_X8_close 117 = .ok (.getfield 157, 3) := by decide +kernel
theorem d_X8_close_120 : dec m_X8_close 120 = .ok (.ireturn, 1) := by decide +kernel
theorem d_X8_undo_0 : dec m_X8_undo 0 = .ok (.aload_n 0, 1) := by decide +kernel
theorem d_X8_undo_1 : dec m_X8_undo 1 = .ok (.getfield 26, 3) := by decide +kernel
theorem d_X8_undo_4 : dec m_X8_undo 4 = .ok (.aload_n 0, 1) := by decide +kernel
theorem d_X8_undo_5 : dec m_X8_undo 5 = .ok (.getfield 12, 3) := by decide +kernel
theorem d_X8_undo_8 : dec m_X8_undo 8 = .ok (.invokevirtual 178, 3) := by decide +kernel
theorem d_X8_undo_11 : dec m_X8_undo 11 = .ok (.ireturn, 1) := by decide +kernel
theorem d_X8_keep_0 : dec m_X8_keep 0 = .ok (.iload_n 1, 1) := by decide +kernel
theorem d_X8_keep_1 : dec m_X8_keep 1 = .ok (.invokestatic 182, 3) := by decide +kernel
theorem d_X8_keep_4 : dec m_X8_keep 4 = .ok (.ifCond .ne 5, 3) := by decide +kernel
theorem d_X8_keep_7 : dec m_X8_keep 7 = .ok (.iconst (-1), 1) := by decide +kernel
theorem d_X8_keep_8 : dec m_X8_keep 8 = .ok (.ireturn, 1) := by decide +kernel
theorem d_X8_keep_9 : dec m_X8_keep 9 = .ok (.aload_n 0, 1) := by decide +kernel
theorem d_X8_keep_10 : dec m_X8_keep 10 = .ok (.getfield 33, 3) := by decide +kernel
theorem d_X8_keep_13 : dec m_X8_keep 13 = .ok (.iload_n 1, 1) := by decide +kernel
theorem d_X8_keep_14 : dec m_X8_keep 14 = .ok (.aload_n 0, 1) := by decide +kernel
theorem d_X8_keep_15 : dec m_X8_keep 15 = .ok (.getfield 12, 3) := by decide +kernel
theorem d_X8_keep_18 : dec m_X8_keep 18 = .ok (.invokevirtual 185, 3) := by decide +kernel
theorem d_X8_keep_21 : dec m_X8_keep 21 = .ok (.aload_n 0, 1) := by decide +kernel
theorem d_X8_keep_22 : dec m_X8_keep 22 = .ok (.getfield 12, 3) := by decide +kernel
theorem d_X8_keep_25 : dec m_X8_keep 25 = .ok (.getfield 98, 3) := by decide +kernel
theorem d_X8_keep_28 : dec m_X8_keep 28 = .ok (.ireturn, 1) := by decide +kernel
theorem d_X8_back_0 : dec m_X8_back 0 = .ok (.iload_n 1, 1) := by decide +kernel
theorem d_X8_back_1 : dec m_X8_back 1 = .ok (.invokestatic 182, 3) := by decide +kernel
theorem d_X8_back_4 : dec m_X8_back 4 = .ok (.ifCond .ne 5, 3) := by decide +kernel
theorem d_X8_back_7 : dec m_X8_back 7 = .ok (.iconst (-1), 1) := by decide +kernel
theorem d_X8_back_8 : dec m_X8_back 8 = .ok (.ireturn, 1) := by decide +kernel
theorem d_X8_back_9 : dec m_X8_back 9 = .ok (.aload_n 0, 1) := by decide +kernel
theorem d_X8_back_10 : dec m_X8_back 10 = .ok (.getfield 33, 3) := by decide +kernel
theorem d_X8_back_13 : dec m_X8_back 13 = .ok (.iload_n 1, 1) := by decide +kernel
theorem d_X8_back_14 : dec m_X8_back 14 = .ok (.invokevirtual 189, 3) := by decide +kernel
theorem d_X8_back_17 : dec m_X8_back 17 = .ok (.ifCond .ne 6, 3) := by decide +kernel
theorem d_X8_back_20 : dec m_X8_back 20 = .ok (.bipush (-2), 2) := by decide +kernel
theorem d_X8_back_22 : dec m_X8_back 22 = .ok (.ireturn, 1) := by decide +kernel
theorem d_X8_back_23 : dec m_X8_back 23 = .ok (.aload_n 0, 1) := by decide +kernel
theorem d_X8_back_24 : dec m_X8_back 24 = .ok (.getfield 33, 3) := by decide +kernel
theorem d_X8_back_27 : dec m_X8_back 27 = .ok (.iload_n 1, 1) := by decide +kernel
theorem d_X8_back_28 : dec m_X8_back 28 = .ok (.aload_n 0, 1) := by decide +kernel
theorem d_X8_back_29 : dec m_X8_back 29 = .ok (.getfield 12, 3) := by decide +kernel
theorem d_X8_back_32 : dec m_X8_back 32 = .ok (.invokevirtual 192, 3) := by decide +kernel
theorem d_X8_back_35 : dec m_X8_back 35 = .ok (.aload_n 0, 1) := by decide +kernel
theorem d_X8_back_36 : dec m_X8_back 36 = .ok (.getfield 26, 3) := by decide +kernel
theorem d_X8_back_39 : dec m_X8_back 39 = .ok (.invokevirtual 95, 3) := by decide +kernel
theorem d_X8_back_42 : dec m_X8_back 42 = .ok (.aload_n 0, 1) := by decide +kernel
theorem d_X8_back_43 : dec m_X8_back 43 = .ok (.getfield 12, 3) := by decide +kernel
theorem d_X8_back_46 : dec m_X8_back 46 = .ok (.getfield 98, 3) := by decide +kernel
theorem d_X8_back_49 : dec m_X8_back 49 = .ok (.ireturn, 1) := by decide +kernel
theorem d_X8_trader_0 : dec m_X8_trader 0 = .ok (.aload_n 0, 1) := by decide +kernel
theorem d_X8_trader_1 : dec m_X8_trader 1 = .ok (.getfield 12, 3) := by decide +kernel
theorem d_X8_trader_4 : dec m_X8_trader 4 = .ok (.iload_n 1, 1) := by decide +kernel
theorem d_X8_trader_5 : dec m_X8_trader 5 = .ok (.invokevirtual 110, 3) := by decide +kernel
theorem d_X8_trader_8 : dec m_X8_trader 8 = .ok (.ifCond .ne 6, 3) := by decide +kernel
theorem d_X8_trader_11 : dec m_X8_trader 11 = .ok (.ldc 195, 2) := by decide +kernel
theorem d_X8_trader_13 : dec m_X8_trader 13 = .ok (.ireturn, 1) := by decide +kernel
theorem d_X8_trader_14 : dec m_X8_trader 14 = .ok (.iload_n 2, 1) := by decide +kernel
theorem d_X8_trader_15 : dec m_X8_trader 15 = .ok (.tableswitch 119 0 5 #[37, 54, 63, 72, 81, 110], 37) := by decide +kernel
theorem d_X8_trader_52 : dec m_X8_trader 52 = .ok (.aload_n 0, 1) := by decide +kernel
theorem d_X8_trader_53 : dec m_X8_trader 53 = .ok (.getfield 12, 3) := by decide +kernel
theorem d_X8_trader_56 : dec m_X8_trader 56 = .ok (.iload_n 1, 1) := by decide +kernel
theorem d_X8_trader_57 : dec m_X8_trader 57 = .ok (.invokevirtual 160, 3) := by decide +kernel
theorem d_X8_trader_60 : dec m_X8_trader 60 = .ok (.ifCond .eq 7, 3) := by decide +kernel
theorem d_X8_trader_63 : dec m_X8_trader 63 = .ok (.iconst 1, 1) := by decide +kernel
theorem d_X8_trader_64 : dec m_X8_trader 64 = .ok (.goto 4, 3) := by decide +kernel
theorem d_X8_trader_67 : dec m_X8_trader 67 = .ok (.iconst 0, 1) := by decide +kernel
theorem d_X8_trader_68 : dec m_X8_trader 68 = .ok (.ireturn, 1) := by decide +kernel
theorem d_X8_trader_69 : dec m_X8_trader 69 = .ok (.aload_n 0, 1) := by decide +kernel
theorem d_X8_trader_70 : dec m_X8_trader 70 = .ok (.getfield 12, 3) := by decide +kernel
theorem d_X8_trader_73 : dec m_X8_trader 73 = .ok (.iload_n 1, 1) := by decide +kernel
theorem d_X8_trader_74 : dec m_X8_trader 74 = .ok (.invokevirtual 196, 3) := by decide +kernel
theorem d_X8_trader_77 : dec m_X8_trader 77 = .ok (.ireturn, 1) := by decide +kernel
theorem d_X8_trader_78 : dec m_X8_trader 78 = .ok (.aload_n 0, 1) := by decide +kernel
theorem d_X8_trader_79 : dec m_X8_trader 79 = .ok (.getfield 12, 3) := by decide +kernel
theorem d_X8_trader_82 : dec m_X8_trader 82 = .ok (.iload_n 1, 1) := by decide +kernel
theorem d_X8_trader_83 : dec m_X8_trader 83 = .ok (.invokevirtual 116, 3) := by decide +kernel
theorem d_X8_trader_86 : dec m_X8_trader 86 = .ok (.ireturn, 1) := by decide +kernel
theorem d_X8_trader_87 : dec m_X8_trader 87 = .ok (.aload_n 0, 1) := by decide +kernel
theorem d_X8_trader_88 : dec m_X8_trader 88 = .ok (.getfield 12, 3) := by decide +kernel
theorem d_X8_trader_91 : dec m_X8_trader 91 = .ok (.iload_n 1, 1) := by decide +kernel
theorem d_X8_trader_92 : dec m_X8_trader 92 = .ok (.invokevirtual 199, 3) := by decide +kernel
theorem d_X8_trader_95 : dec m_X8_trader 95 = .ok (.ireturn, 1) := by decide +kernel
theorem d_X8_trader_96 : dec m_X8_trader 96 = .ok (.aload_n 0, 1) := by decide +kernel
theorem d_X8_trader_97 : dec m_X8_trader 97 = .ok (.aload_n 0, 1) := by decide +kernel
theorem d_X8_trader_98 : dec m_X8_trader 98 = .ok (.getfield 12, 3) := by decide +kernel
theorem d_X8_trader_101 : dec m_X8_trader 101 = .ok (.iload_n 1, 1) := by decide +kernel
theorem d_X8_trader_102 : dec m_X8_trader 102 = .ok (.invokevirtual 196, 3) := by decide +kernel
theorem d_X8_trader_105 : dec m_X8_trader 105 = .ok (.invokevirtual 154, 3) := by decide +kernel
theorem d_X8_trader_108 : dec m_X8_trader 108 = .ok (.aload_n 0, 1) := by decide +kernel
theorem d_X8_trader_109 : dec m_X8_trader 109 = .ok (.getfield 47, 3) := by decide +kernel
theorem d_X8_trader_112 : dec m_X8_trader 112 = .ok (.aload_n 0, 1) := by decide +kernel
theorem d_X8_trader_113 : dec m_X8_trader 113 = .ok (.getfield 12, 3) := by decide +kernel
theorem d_X8_trader_116 : dec m_X8_trader 116 = .ok (.iload_n 1, 1) := by decide +kernel
theorem d_X8_trader_117 : dec m_X8_trader 117 = .ok (.invokevirtual 160, 3) := by decide +kernel
theorem d_X8_trader_120 : dec m_X8_trader 120 = .ok (.iload_n 1, 1) := by decide +kernel
theorem d_X8_trader_121 : dec m_X8_trader 121 = .ok (.invokevirtual 163, 3) := by decide +kernel
theorem d_X8_trader_124 : dec m_X8_trader 124 = .ok (.ireturn, 1) := by decide +kernel
theorem d_X8_trader_125 : dec m_X8_trader 125 = .ok (.aload_n 0, 1) := by decide +kernel
theorem d_X8_trader_126 : dec m_X8_trader 126 = .ok (.getfield 12, 3) := by decide +kernel
theorem d_X8_trader_129 : dec m_X8_trader 129 = .ok (.iload_n 1, 1) := by decide +kernel
theorem d_X8_trader_130 : dec m_X8_trader 130 = .ok (.invokevirtual 202, 3) := by decide +kernel
theorem d_X8_trader_133 : dec m_X8_trader 133 = .ok (.ireturn, 1) := by decide +kernel
theorem d_X8_trader_134 : dec m_X8_trader 134 = .ok (.aload_n 0, 1) := by decide +kernel
theorem d_X8_trader_135 : dec m_X8_trader 135 = .ok (.getfield 12, 3) := by decide +kernel
theorem d_X8_trader_138 : dec m_X8_trader 138 = .ok (.iload_n 1, 1) := by decide +kernel
theorem d_X8_trader_139 : dec m_X8_trader 139 = .ok (.iload_n 2, 1) := by decide +kernel
theorem d_X8_trader_140 : dec m_X8_trader 140 = .ok (.bipush 10, 2) := by decide +kernel
theorem d_X8_trader_142 : dec m_X8_trader 142 = .ok (.isub, 1) := by decide +kernel
theorem d_X8_trader_143 : dec m_X8_trader 143 = .ok (.invokevirtual 127, 3) := by decide +kernel
theorem d_X8_trader_146 : dec m_X8_trader 146 = .ok (.ifCond .eq 18, 3) := by decide +kernel
theorem d_X8_trader_149 : dec m_X8_trader 149 = .ok (.aload_n 0, 1) := by decide +kernel
theorem d_X8_trader_150 : dec m_X8_trader 150 = .ok (.getfield 12, 3) := by decide +kernel
theorem d_X8_trader_153 : dec m_X8_trader 153 = .ok (.iload_n 1, 1) := by decide +kernel
theorem d_X8_trader_154 : dec m_X8_trader 154 = .ok (.iload_n 2, 1) := by decide +kernel
theorem d_X8_trader_155 : dec m_X8_trader 155 = .ok (.bipush 10, 2) := by decide +kernel
theorem d_X8_trader_157 : dec m_X8_trader 157 = .ok (.isub, 1) := by decide +kernel
theorem d_X8_trader_158 : dec m_X8_trader 158 = .ok (.invokevirtual 131, 3) := by decide +kernel
theorem d_X8_trader_161 : dec m_X8_trader 161 = .ok (.goto 5, 3) := by decide +kernel
theorem d_X8_trader_164 : dec m_X8_trader 164 = .ok (.ldc 195, 2) := by decide +kernel
theorem d_X8_trader_166 : dec m_X8_trader 166 = .ok (.ireturn, 1) := by decide +kernel
theorem d_X8_audit_0 : dec m_X8_audit 0 = .ok (.iload_n 1, 1) := by decide +kernel
theorem d_X8_audit_1 : dec m_X8_audit 1 = .ok (.tableswitch 102 0 5 #[39, 47, 55, 63, 86, 94], 39) := by decide +kernel
theorem d_X8_audit_40 : dec m_X8_audit 40 = .ok (.aload_n 0, 1) := by decide +kernel
theorem d_X8_audit_41 : dec m_X8_audit 41 = .ok (.getfield 12, 3) := by decide +kernel
theorem d_X8_audit_44 : dec m_X8_audit 44 = .ok (.getfield 317, 3) := by decide +kernel
theorem d_X8_audit_47 : dec m_X8_audit 47 = .ok (.ireturn, 1) := by decide +kernel
theorem d_X8_audit_48 : dec m_X8_audit 48 = .ok (.aload_n 0, 1) := by decide +kernel
theorem d_X8_audit_49 : dec m_X8_audit 49 = .ok (.getfield 12, 3) := by decide +kernel
theorem d_X8_audit_52 : dec m_X8_audit 52 = .ok (.invokevirtual 320, 3) := by decide +kernel
theorem d_X8_audit_55 : dec m_X8_audit 55 = .ok (.ireturn, 1) := by decide +kernel
theorem d_X8_audit_56 : dec m_X8_audit 56 = .ok (.aload_n 0, 1) := by decide +kernel
theorem d_X8_audit_57 : dec m_X8_audit 57 = .ok (.getfield 12, 3) := by decide +kernel
theorem d_X8_audit_60 : dec m_X8_audit 60 = .ok (.getfield 323, 3) := by decide +kernel
theorem d_X8_audit_63 : dec m_X8_audit 63 = .ok (.ireturn, 1) := by decide +kernel
theorem d_X8_audit_64 : dec m_X8_audit 64 = .ok (.aload_n 0, 1) := by decide +kernel
theorem d_X8_audit_65 : dec m_X8_audit 65 = .ok (.getfield 12, 3) := by decide +kernel
theorem d_X8_audit_68 : dec m_X8_audit 68 = .ok (.getfield 98, 3) := by decide +kernel
theorem d_X8_audit_71 : dec m_X8_audit 71 = .ok (.ifCond .le 13, 3) := by decide +kernel
theorem d_X8_audit_74 : dec m_X8_audit 74 = .ok (.aload_n 0, 1) := by decide +kernel
theorem d_X8_audit_75 : dec m_X8_audit 75 = .ok (.getfield 12, 3) := by decide +kernel
theorem d_X8_audit_78 : dec m_X8_audit 78 = .ok (.invokevirtual 326, 3) := by decide +kernel
theorem d_X8_audit_81 : dec m_X8_audit 81 = .ok (.goto 5, 3) := by decide +kernel
theorem d_X8_audit_84 : dec m_X8_audit 84 = .ok (.bipush (-2), 2) := by decide +kernel
theorem d_X8_audit_86 : dec m_X8_audit 86 = .ok (.ireturn, 1) := by decide +kernel
theorem d_X8_audit_87 : dec m_X8_audit 87 = .ok (.aload_n 0, 1) := by decide +kernel
theorem d_X8_audit_88 : dec m_X8_audit 88 = .ok (.getfield 12, 3) := by decide +kernel
theorem d_X8_audit_91 : dec m_X8_audit 91 = .ok (.getfield 329, 3) := by decide +kernel
theorem d_X8_audit_94 : dec m_X8_audit 94 = .ok (.ireturn, 1) := by decide +kernel
theorem d_X8_audit_95 : dec m_X8_audit 95 = .ok (.aload_n 0, 1) := by decide +kernel
theorem d_X8_audit_96 : dec m_X8_audit 96 = .ok (.getfield 12, 3) := by decide +kernel
theorem d_X8_audit_99 : dec m_X8_audit 99 = .ok (.getfield 332, 3) := by decide +kernel
theorem d_X8_audit_102 : dec m_X8_audit 102 = .ok (.ireturn, 1) := by decide +kernel
theorem d_X8_audit_103 : dec m_X8_audit 103 = .ok (.ldc 195, 2) := by decide +kernel
theorem d_X8_audit_105 : dec m_X8_audit 105 = .ok (.ireturn, 1) := by decide +kernel
theorem d_X8_letter_0 : dec m_X8_letter 0 = .ok (.iload_n 1, 1) := by decide +kernel
theorem d_X8_letter_1 : dec m_X8_letter 1 = .ok (.iconst (-1), 1) := by decide +kernel
theorem d_X8_letter_2 : dec m_X8_letter 2 = .ok (.if_icmp .ge 5, 3) := by decide +kernel
theorem d_X8_letter_5 : dec m_X8_letter 5 = .ok (.iconst (-1), 1) := by decide +kernel
theorem d_X8_letter_6 : dec m_X8_letter 6 = .ok (.ireturn, 1) := by decide +kernel
theorem d_X8_letter_7 : dec m_X8_letter 7 = .ok (.aload_n 0, 1) := by decide +kernel
theorem d_X8_letter_8 : dec m_X8_letter 8 = .ok (.getfield 40, 3) := by decide +kernel
theorem d_X8_letter_11 : dec m_X8_letter 11 = .ok (.aload_n 0, 1) := by decide +kernel
theorem d_X8_letter_12 : dec m_X8_letter 12 = .ok (.getfield 12, 3) := by decide +kernel
theorem d_X8_letter_15 : dec m_X8_letter 15 = .ok (.invokevirtual 341, 3) := by decide +kernel
theorem d_X8_letter_18 : dec m_X8_letter 18 = .ok (.iload_n 1, 1) := by decide +kernel
theorem d_X8_letter_19 : dec m_X8_letter 19 = .ok (.iconst (-1), 1) := by decide +kernel
theorem d_X8_letter_20 : dec m_X8_letter 20 = .ok (.if_icmp .ne 11, 3) := by decide +kernel
theorem d_X8_letter_23 : dec m_X8_letter 23 = .ok (.aload_n 0, 1) := by decide +kernel
theorem d_X8_letter_24 : dec m_X8_letter 24 = .ok (.getfield 40, 3) := by decide +kernel
theorem d_X8_letter_27 : dec m_X8_letter 27 = .ok (.getfield 344, 3) := by decide +kernel
theorem d_X8_letter_30 : dec m_X8_letter 30 = .ok (.ireturn, 1) := by decide +kernel
theorem d_X8_letter_31 : dec m_X8_letter 31 = .ok (.iload_n 1, 1) := by decide +kernel
theorem d_X8_letter_32 : dec m_X8_letter 32 = .ok (.aload_n 0, 1) := by decide +kernel
theorem d_X8_letter_33 : dec m_X8_letter 33 = .ok (.getfield 40, 3) := by decide +kernel
theorem d_X8_letter_36 : dec m_X8_letter 36 = .ok (.getfield 344, 3) := by decide +kernel
theorem d_X8_letter_39 : dec m_X8_letter 39 = .ok (.if_icmp .ge 14, 3) := by decide +kernel
theorem d_X8_letter_42 : dec m_X8_letter 42 = .ok (.aload_n 0, 1) := by decide +kernel
theorem d_X8_letter_43 : dec m_X8_letter 43 = .ok (.getfield 40, 3) := by decide +kernel
theorem d_X8_letter_46 : dec m_X8_letter 46 = .ok (.iload_n 1, 1) := by decide +kernel
theorem d_X8_letter_47 : dec m_X8_letter 47 = .ok (.invokevirtual 345, 3) := by decide +kernel
theorem d_X8_letter_50 : dec m_X8_letter 50 = .ok (.goto 5, 3) := by decide +kernel
theorem d_X8_letter_53 : dec m_X8_letter 53 = .ok (.bipush (-2), 2) := by decide +kernel
theorem d_X8_letter_55 : dec m_X8_letter 55 = .ok (.ireturn, 1) := by decide +kernel
theorem d_X8_count_0 : dec m_X8_count 0 = .ok (.iload_n 1, 1) := by decide +kernel
theorem d_X8_count_1 : dec m_X8_count 1 = .ok (.tableswitch 117 0 8 #[51, 59, 67, 75, 83, 91, 99, 107, 112], 51) := by decide +kernel
theorem d_X8_count_52 : dec m_X8_count 52 = .ok (.aload_n 0, 1) := by decide +kernel
theorem d_X8_count_53 : dec m_X8_count 53 = .ok (.getfield 12, 3) := by decide +kernel
theorem d_X8_count_56 : dec m_X8_count 56 = .ok (.getfield 98, 3) := by decide +kernel
theorem d_X8_count_59 : dec m_X8_count 59 = .ok (.ireturn, 1) := by decide +kernel
theorem d_X8_count_60 : dec m_X8_count 60 = .ok (.aload_n 0, 1) := by decide +kernel
theorem d_X8_count_61 : dec m_X8_count 61 = .ok (.getfield 12, 3) := by decide +kernel
theorem d_X8_count_64 : dec m_X8_count 64 = .ok (.invokevirtual 393, 3) := by decide +kernel
theorem d_X8_count_67 : dec m_X8_count 67 = .ok (.ireturn, 1) := by decide +kernel
theorem d_X8_count_68 : dec m_X8_count 68 = .ok (.aload_n 0, 1) := by decide +kernel
theorem d_X8_count_69 : dec m_X8_count 69 = .ok (.getfield 12, 3) := by decide +kernel
theorem d_X8_count_72 : dec m_X8_count 72 = .ok (.getfield 145, 3) := by decide +kernel
theorem d_X8_count_75 : dec m_X8_count 75 = .ok (.ireturn, 1) := by decide +kernel
theorem d_X8_count_76 : dec m_X8_count 76 = .ok (.aload_n 0, 1) := by decide +kernel
theorem d_X8_count_77 : dec m_X8_count 77 = .ok (.getfield 12, 3) := by decide +kernel
theorem d_X8_count_80 : dec m_X8_count 80 = .ok (.getfield 151, 3) := by decide +kernel
theorem d_X8_count_83 : dec m_X8_count 83 = .ok (.ireturn, 1) := by decide +kernel
theorem d_X8_count_84 : dec m_X8_count 84 = .ok (.aload_n 0, 1) := by decide +kernel
theorem d_X8_count_85 : dec m_X8_count 85 = .ok (.getfield 26, 3) := by decide +kernel
theorem d_X8_count_88 : dec m_X8_count 88 = .ok (.getfield 396, 3) := by decide +kernel
theorem d_X8_count_91 : dec m_X8_count 91 = .ok (.ireturn, 1) := by decide +kernel
theorem d_X8_count_92 : dec m_X8_count 92 = .ok (.aload_n 0, 1) := by decide +kernel
theorem d_X8_count_93 : dec m_X8_count 93 = .ok (.getfield 19, 3) := by decide +kernel
theorem d_X8_count_96 : dec m_X8_count 96 = .ok (.getfield 76, 3) := by decide +kernel
theorem d_X8_count_99 : dec m_X8_count 99 = .ok (.ireturn, 1) := by decide +kernel
theorem d_X8_count_100 : dec m_X8_count 100 = .ok (.aload_n 0, 1) := by decide +kernel
theorem d_X8_count_101 : dec m_X8_count 101 = .ok (.getfield 33, 3) := by decide +kernel
theorem d_X8_count_104 : dec m_X8_count 104 = .ok (.getfield 397, 3) := by decide +kernel
theorem d_X8_count_107 : dec m_X8_count 107 = .ok (.ireturn, 1) := by decide +kernel
theorem d_X8_count_108 : dec m_X8_count 108 = .ok (.aload_n 0, 1) := by decide +kernel
theorem d_X8_count_109 : dec m_X8_count 109 = .ok (.invokevirtual 400, 3) := by decide +kernel
theorem d_X8_count_112 : dec m_X8_count 112 = .ok (.ireturn, 1) := by decide +kernel
theorem d_X8_count_113 : dec m_X8_count 113 = .ok (.aload_n 0, 1) := by decide +kernel
theorem d_X8_count_114 : dec m_X8_count 114 = .ok (.invokevirtual 308, 3) := by decide +kernel
theorem d_X8_count_117 : dec m_X8_count 117 = .ok (.ireturn, 1) := by decide +kernel
theorem d_X8_count_118 : dec m_X8_count 118 = .ok (.iconst (-1), 1) := by decide +kernel
theorem d_X8_count_119 : dec m_X8_count 119 = .ok (.ireturn, 1) := by decide +kernel
theorem d_X8_isGrade_0 : dec m_X8_isGrade 0 = .ok (.iload_n 0, 1) := by decide +kernel
theorem d_X8_isGrade_1 : dec m_X8_isGrade 1 = .ok (.ifCond .lt 12, 3) := by decide +kernel
theorem d_X8_isGrade_4 : dec m_X8_isGrade 4 = .ok (.iload_n 0, 1) := by decide +kernel
theorem d_X8_isGrade_5 : dec m_X8_isGrade 5 = .ok (.iconst 4, 1) := by decide +kernel
theorem d_X8_isGrade_6 : dec m_X8_isGrade 6 = .ok (.if_icmp .ge 7, 3) := by decide +kernel
theorem d_X8_isGrade_9 : dec m_X8_isGrade 9 = .ok (.iconst 1, 1) := by decide +kernel
theorem d_X8_isGrade_10 : dec m_X8_isGrade 10 = .ok (.goto 4, 3) := by decide +kernel
theorem d_X8_isGrade_13 : dec m_X8_isGrade 13 = .ok (.iconst 0, 1) := by decide +kernel
theorem d_X8_isGrade_14 : dec m_X8_isGrade 14 = .ok (.ireturn, 1) := by decide +kernel
theorem d_X8_isValue_0 : dec m_X8_isValue 0 = .ok (.iload_n 0, 1) := by decide +kernel
theorem d_X8_isValue_1 : dec m_X8_isValue 1 = .ok (.ifCond .lt 14, 3) := by decide +kernel
theorem d_X8_isValue_4 : dec m_X8_isValue 4 = .ok (.iload_n 0, 1) := by decide +kernel
theorem d_X8_isValue_5 : dec m_X8_isValue 5 = .ok (.sipush 9999, 3) := by decide +kernel
theorem d_X8_isValue_8 : dec m_X8_isValue 8 = .ok (.if_icmp .gt 7, 3) := by decide +kernel
theorem d_X8_isValue_11 : dec m_X8_isValue 11 = .ok (.iconst 1, 1) := by decide +kernel
theorem d_X8_isValue_12 : dec m_X8_isValue 12 = .ok (.goto 4, 3) := by decide +kernel
theorem d_X8_isValue_15 : dec m_X8_isValue 15 = .ok (.iconst 0, 1) := by decide +kernel
theorem d_X8_isValue_16 : dec m_X8_isValue 16 = .ok (.ireturn, 1) := by decide +kernel
theorem d_X8_isFee_0 : dec m_X8_isFee 0 = .ok (.iload_n 0, 1) := by decide +kernel
theorem d_X8_isFee_1 : dec m_X8_isFee 1 = .ok (.ifCond .lt 14, 3) := by decide +kernel
theorem d_X8_isFee_4 : dec m_X8_isFee 4 = .ok (.iload_n 0, 1) := by decide +kernel
theorem d_X8_isFee_5 : dec m_X8_isFee 5 = .ok (.sipush 500, 3) := by decide +kernel
theorem d_X8_isFee_8 : dec m_X8_isFee 8 = .ok (.if_icmp .gt 7, 3) := by decide +kernel
theorem d_X8_isFee_11 : dec m_X8_isFee 11 = .ok (.iconst 1, 1) := by decide +kernel
theorem d_X8_isFee_12 : dec m_X8_isFee 12 = .ok (.goto 4, 3) := by decide +kernel
theorem d_X8_isFee_15 : dec m_X8_isFee 15 = .ok (.iconst 0, 1) := by decide +kernel
theorem d_X8_isFee_16 : dec m_X8_isFee 16 = .ok (.ireturn, 1) := by decide +kernel
theorem d_X8_isLaw_0 : dec m_X8_isLaw 0 = .ok (.iload_n 0, 1) := by decide +kernel
theorem d_X8_isLaw_1 : dec m_X8_isLaw 1 = .ok (.ifCond .lt 12, 3) := by decide +kernel
theorem d_X8_isLaw_4 : dec m_X8_isLaw 4 = .ok (.iload_n 0, 1) := by decide +kernel
theorem d_X8_isLaw_5 : dec m_X8_isLaw 5 = .ok (.iconst 3, 1) := by decide +kernel
theorem d_X8_isLaw_6 : dec m_X8_isLaw 6 = .ok (.if_icmp .gt 7, 3) := by decide +kernel
theorem d_X8_isLaw_9 : dec m_X8_isLaw 9 = .ok (.iconst 1, 1) := by decide +kernel
theorem d_X8_isLaw_10 : dec m_X8_isLaw 10 = .ok (.goto 4, 3) := by decide +kernel
theorem d_X8_isLaw_13 : dec m_X8_isLaw 13 = .ok (.iconst 0, 1) := by decide +kernel
theorem d_X8_isLaw_14 : dec m_X8_isLaw 14 = .ok (.ireturn, 1) := by decide +kernel
theorem d_X8_isShelf_0 : dec m_X8_isShelf 0 = .ok (.iload_n 0, 1) := by decide +kernel
theorem d_X8_isShelf_1 : dec m_X8_isShelf 1 = .ok (.ifCond .lt 12, 3) := by decide +kernel
theorem d_X8_isShelf_4 : dec m_X8_isShelf 4 = .ok (.iload_n 0, 1) := by decide +kernel
theorem d_X8_isShelf_5 : dec m_X8_isShelf 5 = .ok (.iconst 2, 1) := by decide +kernel
theorem d_X8_isShelf_6 : dec m_X8_isShelf 6 = .ok (.if_icmp .ge 7, 3) := by decide +kernel
theorem d_X8_isShelf_9 : dec m_X8_isShelf 9 = .ok (.iconst 1, 1) := by decide +kernel
theorem d_X8_isShelf_10 : dec m_X8_isShelf 10 = .ok (.goto 4, 3) := by decide +kernel
theorem d_X8_isShelf_13 : dec m_X8_isShelf 13 = .ok (.iconst 0, 1) := by decide +kernel
theorem d_X8_isShelf_14 : dec m_X8_isShelf 14 = .ok (.ireturn, 1) := by decide +kernel
theorem d_X8_bit_0 : dec m_X8_bit 0 = .ok (.iconst 1, 1) := by decide +kernel
theorem d_X8_bit_1 : dec m_X8_bit 1 = .ok (.iload_n 0, 1) := by decide +kernel
theorem d_X8_bit_2 : dec m_X8_bit 2 = .ok (.ishl, 1) := by decide +kernel
theorem d_X8_bit_3 : dec m_X8_bit 3 = .ok (.ireturn, 1) := by decide +kernel
theorem d_X8_lawWord_0 : dec m_X8_lawWord 0 = .ok (.iload_n 0, 1) := by decide +kernel
theorem d_X8_lawWord_1 : dec m_X8_lawWord 1 = .ok (.tableswitch 39 1 3 #[27, 31, 35], 27) := by decide +kernel
theorem d_X8_lawWord_28 : dec m_X8_lawWord 28 = .ok (.ldc_w 403, 3) := by decide +kernel
theorem d_X8_lawWord_31 : dec m_X8_lawWord 31 = .ok (.areturn, 1) := by decide +kernel
theorem d_X8_lawWord_32 : dec m_X8_lawWord 32 = .ok (.ldc_w 405, 3) := by decide +kernel
theorem d_X8_lawWord_35 : dec m_X8_lawWord 35 = .ok (.areturn, 1) := by decide +kernel
theorem d_X8_lawWord_36 : dec m_X8_lawWord 36 = .ok (.ldc_w 407, 3) := by decide +kernel
theorem d_X8_lawWord_39 : dec m_X8_lawWord 39 = .ok (.areturn, 1) := by decide +kernel
theorem d_X8_lawWord_40 : dec m_X8_lawWord 40 = .ok (.ldc_w 409, 3) := by decide +kernel
theorem d_X8_lawWord_43 : dec m_X8_lawWord 43 = .ok (.areturn, 1) := by decide +kernel
theorem d_X8_settleGrade_0 : dec m_X8_settleGrade 0 = .ok (.aload_n 0, 1) := by decide +kernel
theorem d_X8_settleGrade_1 : dec m_X8_settleGrade 1 = .ok (.getfield 47, 3) := by decide +kernel
theorem d_X8_settleGrade_4 : dec m_X8_settleGrade 4 = .ok (.aload_n 0, 1) := by decide +kernel
theorem d_X8_settleGrade_5 : dec m_X8_settleGrade 5 = .ok (.getfield 12, 3) := by decide +kernel
theorem d_X8_settleGrade_8 : dec m_X8_settleGrade 8 = .ok (.iload_n 1, 1) := by decide +kernel
theorem d_X8_settleGrade_9 : dec m_X8_settleGrade 9 = .ok (.invokestatic 255, 3) := by decide +kernel
theorem d_X8_settleGrade_12 : dec m_X8_settleGrade 12 = .ok (.iconst 0, 1) := by decide +kernel
theorem d_X8_settleGrade_13 : dec m_X8_settleGrade 13 = .ok (.invokevirtual 289, 3) := by decide +kernel
theorem d_X8_settleGrade_16 : dec m_X8_settleGrade 16 = .ok (.aload_n 0, 1) := by decide +kernel
theorem d_X8_settleGrade_17 : dec m_X8_settleGrade 17 = .ok (.getfield 47, 3) := by decide +kernel
theorem d_X8_settleGrade_20 : dec m_X8_settleGrade 20 = .ok (.aload_n 0, 1) := by decide +kernel
theorem d_X8_settleGrade_21 : dec m_X8_settleGrade 21 = .ok (.getfield 12, 3) := by decide +kernel
theorem d_X8_settleGrade_24 : dec m_X8_settleGrade 24 = .ok (.getfield 145, 3) := by decide +kernel
theorem d_X8_settleGrade_27 : dec m_X8_settleGrade 27 = .ok (.aload_n 0, 1) := by decide +kernel
theorem d_X8_settleGrade_28 : dec m_X8_settleGrade 28 = .ok (.getfield 12, 3) := by decide +kernel
theorem d_X8_settleGrade_31 : dec m_X8_settleGrade 31 = .ok (.getfield 151, 3) := by decide +kernel
theorem d_X8_settleGrade_34 : dec m_X8_settleGrade 34 = .ok (.invokevirtual 293, 3) := by decide +kernel
theorem d_X8_settleGrade_37 : dec m_X8_settleGrade 37 = .ok (.return_, 1) := by decide +kernel
theorem d_X8_worthOf_0 : dec m_X8_worthOf 0 = .ok (.aload_n 0, 1) := by decide +kernel
theorem d_X8_worthOf_1 : dec m_X8_worthOf 1 = .ok (.getfield 47, 3) := by decide +kernel
theorem d_X8_worthOf_4 : dec m_X8_worthOf 4 = .ok (.aload_n 0, 1) := by decide +kernel
theorem d_X8_worthOf_5 : dec m_X8_worthOf 5 = .ok (.getfield 12, 3) := by decide +kernel
theorem d_X8_worthOf_8 : dec m_X8_worthOf 8 = .ok (.iload_n 1, 1) := by decide +kernel
theorem d_X8_worthOf_9 : dec m_X8_worthOf 9 = .ok (.iload_n 2, 1) := by decide +kernel
theorem d_X8_worthOf_10 : dec m_X8_worthOf 10 = .ok (.invokevirtual 289, 3) := by decide +kernel
theorem d_X8_worthOf_13 : dec m_X8_worthOf 13 = .ok (.aload_n 0, 1) := by decide +kernel
theorem d_X8_worthOf_14 : dec m_X8_worthOf 14 = .ok (.getfield 47, 3) := by decide +kernel
theorem d_X8_worthOf_17 : dec m_X8_worthOf 17 = .ok (.aload_n 0, 1) := by decide +kernel
theorem d_X8_worthOf_18 : dec m_X8_worthOf 18 = .ok (.getfield 12, 3) := by decide +kernel
theorem d_X8_worthOf_21 : dec m_X8_worthOf 21 = .ok (.getfield 145, 3) := by decide +kernel
theorem d_X8_worthOf_24 : dec m_X8_worthOf 24 = .ok (.aload_n 0, 1) := by decide +kernel
theorem d_X8_worthOf_25 : dec m_X8_worthOf 25 = .ok (.getfield 12, 3) := by decide +kernel
theorem d_X8_worthOf_28 : dec m_X8_worthOf 28 = .ok (.getfield 151, 3) := by decide +kernel
theorem d_X8_worthOf_31 : dec m_X8_worthOf 31 = .ok (.invokevirtual 293, 3) := by decide +kernel
theorem d_X8_worthOf_34 : dec m_X8_worthOf 34 = .ok (.aload_n 0, 1) := by decide +kernel
theorem d_X8_worthOf_35 : dec m_X8_worthOf 35 = .ok (.getfield 47, 3) := by decide +kernel
theorem d_X8_worthOf_38 : dec m_X8_worthOf 38 = .ok (.getfield 226, 3) := by decide +kernel
theorem d_X8_worthOf_41 : dec m_X8_worthOf 41 = .ok (.ireturn, 1) := by decide +kernel
theorem d_X8_worthOfAll_0 : dec m_X8_worthOfAll 0 = .ok (.iconst 0, 1) := by decide +kernel
theorem d_X8_worthOfAll_1 : dec m_X8_worthOfAll 1 = .ok (.istore_n 1, 1) := by decide +kernel
theorem d_X8_worthOfAll_2 : dec m_X8_worthOfAll 2 = .ok (.iconst 0, 1) := by decide +kernel
theorem d_X8_worthOfAll_3 : dec m_X8_worthOfAll 3 = .ok (.istore_n 2, 1) := by decide +kernel
theorem d_X8_worthOfAll_4 : dec m_X8_worthOfAll 4 = .ok (.iload_n 2, 1) := by decide +kernel
theorem d_X8_worthOfAll_5 : dec m_X8_worthOfAll 5 = .ok (.iconst 4, 1) := by decide +kernel
theorem d_X8_worthOfAll_6 : dec m_X8_worthOfAll 6 = .ok (.if_icmp .ge 21, 3) := by decide +kernel
theorem d_X8_worthOfAll_9 : dec m_X8_worthOfAll 9 = .ok (.iload_n 1, 1) := by decide +kernel
theorem d_X8_worthOfAll_10 : dec m_X8_worthOfAll 10 = .ok (.aload_n 0, 1) := by decide +kernel
theorem d_X8_worthOfAll_11 : dec m_X8_worthOfAll 11 = .ok (.iload_n 2, 1) := by decide +kernel
theorem d_X8_worthOfAll_12 : dec m_X8_worthOfAll 12 = .ok (.invokestatic 255, 3) := by decide +kernel
theorem d_X8_worthOfAll_15 : dec m_X8_worthOfAll 15 = .ok (.iconst 0, 1) := by decide +kernel
theorem d_X8_worthOfAll_16 : dec m_X8_worthOfAll 16 = .ok (.invokevirtual 348, 3) := by decide +kernel
theorem d_X8_worthOfAll_19 : dec m_X8_worthOfAll 19 = .ok (.iadd, 1) := by decide +kernel
theorem d_X8_worthOfAll_20 : dec m_X8_worthOfAll 20 = .ok (.istore_n 1, 1) := by decide +kernel
theorem d_X8_worthOfAll_21 : dec m_X8_worthOfAll 21 = .ok (.iinc 2 1, 3) := by decide +kernel
theorem d_X8_worthOfAll_24 : dec m_X8_worthOfAll 24 = .ok (.goto (-20), 3) := by decide +kernel
theorem d_X8_worthOfAll_27 : dec m_X8_worthOfAll 27 = .ok (.iload_n 1, 1) := by decide +kernel
theorem d_X8_worthOfAll_28 : dec m_X8_worthOfAll 28 = .ok (.ireturn, 1) := by decide +kernel
theorem d_X8_gradesWithTrades_0 : dec m_X8_gradesWithTrades 0 = .ok (.iconst 0, 1) := by decide +kernel
theorem d_X8_gradesWithTrades_1 : dec m_X8_gradesWithTrades 1 = .ok (.istore_n 1, 1) := by decide +kernel
theorem d_X8_gradesWithTrades_2 : dec m_X8_gradesWithTrades 2 = .ok (.iconst 0, 1) := by decide +kernel
theorem d_X8_gradesWithTrades_3 : dec m_X8_gradesWithTrades 3 = .ok (.istore_n 2, 1) := by decide +kernel
theorem d_X8_gradesWithTrades_4 : dec m_X8_gradesWithTrades 4 = .ok (.iload_n 2, 1) := by decide +kernel
theorem d_X8_gradesWithTrades_5 : dec m_X8_gradesWithTrades 5 = .ok (.iconst 4, 1) := by decide +kernel
theorem d_X8_gradesWithTrades_6 : dec m_X8_gradesWithTrades 6 = .ok (.if_icmp .ge 31, 3) := by decide +kernel
theorem d_X8_gradesWithTrades_9 : dec m_X8_gradesWithTrades 9 = .ok (.aload_n 0, 1) := by decide +kernel
theorem d_X8_gradesWithTrades_10 : dec m_X8_gradesWithTrades 10 = .ok (.iload_n 2, 1) := by decide +kernel
theorem d_X8_gradesWithTrades_11 : dec m_X8_gradesWithTrades 11 = .ok (.invokevirtual 154, 3) := by decide +kernel
theorem d_X8_gradesWithTrades_14 : dec m_X8_gradesWithTrades 14 = .ok (.aload_n 0, 1) := by decide +kernel
theorem d_X8_gradesWithTrades_15 : dec m_X8_gradesWithTrades 15 = .ok (.getfield 47, 3) := by decide +kernel
theorem d_X8_gradesWithTrades_18 : dec m_X8_gradesWithTrades 18 = .ok (.getfield 223, 3) := by decide +kernel
theorem d_X8_gradesWithTrades_21 : dec m_X8_gradesWithTrades 21 = .ok (.ifCond .le 10, 3) := by decide +kernel
theorem d_X8_gradesWithTrades_24 : dec m_X8_gradesWithTrades 24 = .ok (.iload_n 1, 1) := by decide +kernel
theorem d_X8_gradesWithTrades_25 : dec m_X8_gradesWithTrades 25 = .ok (.iload_n 2, 1) := by decide +kernel
theorem d_X8_gradesWithTrades_26 : dec m_X8_gradesWithTrades 26 = .ok (.invokestatic 255, 3) := by decide +kernel
theorem d_X8_gradesWithTrades_29 : dec m_X8_gradesWithTrades 29 = .ok (.ior, 1) := by decide +kernel
theorem d_X8_gradesWithTrades_30 : dec m_X8_gradesWithTrades 30 = .ok (.istore_n 1, 1) := by decide +kernel
theorem d_X8_gradesWithTrades_31 : dec m_X8_gradesWithTrades 31 = .ok (.iinc 2 1, 3) := by decide +kernel
theorem d_X8_gradesWithTrades_34 : dec m_X8_gradesWithTrades 34 = .ok (.goto (-30), 3) := by decide +kernel
theorem d_X8_gradesWithTrades_37 : dec m_X8_gradesWithTrades 37 = .ok (.iload_n 1, 1) := by decide +kernel
theorem d_X8_gradesWithTrades_38 : dec m_X8_gradesWithTrades 38 = .ok (.ireturn, 1) := by decide +kernel
theorem d_X9_init_0 : dec m_X9_init 0 = .ok (.aload_n 0, 1) := by decide +kernel
theorem d_X9_init_1 : dec m_X9_init 1 = .ok (.invokespecial 1, 3) := by decide +kernel
theorem d_X9_init_4 : dec m_X9_init 4 = .ok (.aload_n 0, 1) := by decide +kernel
theorem d_X9_init_5 : dec m_X9_init 5 = .ok (.bipush 21, 2) := by decide +kernel
theorem d_X9_init_7 : dec m_X9_init 7 = .ok (.newarray .boolean, 2) := by decide +kernel
theorem d_X9_init_9 : dec m_X9_init 9 = .ok (.putfield 7, 3) := by decide +kernel
theorem d_X9_init_12 : dec m_X9_init 12 = .ok (.aload_n 0, 1) := by decide +kernel
theorem d_X9_init_13 : dec m_X9_init 13 = .ok (.bipush 21, 2) := by decide +kernel
theorem d_X9_init_15 : dec m_X9_init 15 = .ok (.newarray .int, 2) := by decide +kernel
theorem d_X9_init_17 : dec m_X9_init 17 = .ok (.putfield 13, 3) := by decide +kernel
theorem d_X9_init_20 : dec m_X9_init 20 = .ok (.aload_n 0, 1) := by decide +kernel
theorem d_X9_init_21 : dec m_X9_init 21 = .ok (.bipush 21, 2) := by decide +kernel
theorem d_X9_init_23 : dec m_X9_init 23 = .ok (.newarray .int, 2) := by decide +kernel
theorem d_X9_init_25 : dec m_X9_init 25 = .ok (.putfield 17, 3) := by decide +kernel
theorem d_X9_init_28 : dec m_X9_init 28 = .ok (.aload_n 0, 1) := by decide +kernel
theorem d_X9_init_29 : dec m_X9_init 29 = .ok (.bipush 21, 2) := by decide +kernel
theorem d_X9_init_31 : dec m_X9_init 31 = .ok (.newarray .int, 2) := by decide +kernel
theorem d_X9_init_33 : dec m_X9_init 33 = .ok (.putfield 20, 3) := by decide +kernel
theorem d_X9_init_36 : dec m_X9_init 36 = .ok (.aload_n 0, 1) := by decide +kernel
theorem d_X9_init_37 : dec m_X9_init 37 = .ok (.bipush 21, 2) := by decide +kernel
theorem d_X9_init_39 : dec m_X9_init 39 = .ok (.anewarray 23, 3) := by decide +kernel
theorem d_X9_init_42 : dec m_X9_init 42 = .ok (.putfield 24, 3) := by decide +kernel
theorem d_X9_init_45 : dec m_X9_init 45 = .ok (.return_, 1) := by decide +kernel
theorem d_X9_copy_0 : dec m_X9_copy 0 = .ok (.new 8, 3) := by decide +kernel
theorem d_X9_copy_3 : dec m_X9_copy 3 = .ok (.dup, 1) := by decide +kernel
theorem d_X9_copy_4 : dec m_X9_copy 4 = .ok (.invokespecial 28, 3) := by decide +kernel
theorem d_X9_copy_7 : dec m_X9_copy 7 = .ok (.astore_n 1, 1) := by decide +kernel
theorem d_X9_copy_8 : dec m_X9_copy 8 = .ok (.aload_n 1, 1) := by decide +kernel
theorem d_X9_copy_9 : dec m_X9_copy 9 = .ok (.aload_n 0, 1) := by decide +kernel
theorem d_X9_copy_10 : dec m_X9_copy 10 = .ok (.getfield 29, 3) := by decide +kernel
theorem d_X9_copy_13 : dec m_X9_copy 13 = .ok (.putfield 29, 3) := by decide +kernel
theorem d_X9_copy_16 : dec m_X9_copy 16 = .ok (.aload_n 1, 1) := by decide +kernel
theorem d_X9_copy_17 : dec m_X9_copy 17 = .ok (.aload_n 0, 1) := by decide +kernel
theorem d_X9_copy_18 : dec m_X9_copy 18 = .ok (.getfield 33, 3) := by decide +kernel
theorem d_X9_copy_21 : dec m_X9_copy 21 = .ok (.putfield 33, 3) := by decide +kernel
theorem d_X9_copy_24 : dec m_X9_copy 24 = .ok (.aload_n 1, 1) := by decide +kernel
theorem d_X9_copy_25 : dec m_X9_copy 25 = .ok (.aload_n 0, 1) := by decide +kernel
theorem d_X9_copy_26 : dec m_X9_copy 26 = .ok (.getfield 36, 3) := by decide +kernel
theorem d_X9_copy_29 : dec m_X9_copy 29 = .ok (.putfield 36, 3) := by decide +kernel
theorem d_X9_copy_32 : dec m_X9_copy 32 = .ok (.aload_n 1, 1) := by decide +kernel
theorem d_X9_copy_33 : dec m_X9_copy 33 = .ok (.aload_n 0, 1) := by decide +kernel
theorem d_X9_copy_34 : dec m_X9_copy 34 = .ok (.getfield 39, 3) := by decide +kernel
theorem d_X9_copy_37 : dec m_X9_copy 37 = .ok (.putfield 39, 3) := by decide +kernel
theorem d_X9_copy_40 : dec m_X9_copy 40 = .ok (.aload_n 1, 1) := by decide +kernel
theorem d_X9_copy_41 : dec m_X9_copy 41 = .ok (.aload_n 0, 1) := by decide +kernel
theorem d_X9_copy_42 : dec m_X9_copy 42 = .ok (.getfield 42, 3) := by decide +kernel
theorem d_X9_copy_45 : dec m_X9_copy 45 = .ok (.putfield 42, 3) := by decide +kernel
theorem d_X9_copy_48 : dec m_X9_copy 48 = .ok (.aload_n 1, 1) := by decide +kernel
theorem d_X9_copy_49 : dec m_X9_copy 49 = .ok (.aload_n 0, 1) := by decide +kernel
theorem d_X9_copy_50 : dec m_X9_copy 50 = .ok (.getfield 45, 3) := by decide +kernel
theorem d_X9_copy_53 : dec m_X9_copy 53 = .ok (.putfield 45, 3) := by decide +kernel
theorem d_X9_copy_56 : dec m_X9_copy 56 = .ok (.aload_n 1, 1) := by decide +kernel
theorem d_X9_copy_57 : dec m_X9_copy 57 = .ok (.aload_n 0, 1) := by decide +kernel
theorem d_X9_copy_58 : dec m_X9_copy 58 = .ok (.getfield 48, 3) := by decide +kernel
theorem d_X9_copy_61 : dec m_X9_copy 61 = .ok (.putfield 48, 3) := by decide +kernel
theorem d_X9_copy_64 : dec m_X9_copy 64 = .ok (.aload_n 0, 1) := by decide +kernel
theorem d_X9_copy_65 : dec m_X9_copy 65 = .ok (.getfield 7, 3) := by decide +kernel
theorem d_X9_copy_68 : dec m_X9_copy 68 = .ok (.iconst 0, 1) := by decide +kernel
theorem d_X9_copy_69 : dec m_X9_copy 69 = .ok (.aload_n 1, 1) := by decide +kernel
theorem d_X9_copy_70 : dec m_X9_copy 70 = .ok (.getfield 7, 3) := by decide +kernel
theorem d_X9_copy_73 : dec m_X9_copy 73 = .ok (.iconst 0, 1) := by decide +kernel
theorem d_X9_copy_74 : dec m_X9_copy 74 = .ok (.bipush 21, 2) := by decide +kernel
theorem d_X9_copy_76 : dec m_X9_copy 76 = .ok (.invokestatic 51, 3) := by decide +kernel
theorem d_X9_copy_79 : dec m_X9_copy 79 = .ok (.aload_n 0, 1) := by decide +kernel
theorem d_X9_copy_80 : dec m_X9_copy 80 = .ok (.getfield 13, 3) := by decide +kernel
theorem d_X9_copy_83 : dec m_X9_copy 83 = .ok (.iconst 0, 1) := by decide +kernel
theorem d_X9_copy_84 : dec m_X9_copy 84 = .ok (.aload_n 1, 1) := by decide +kernel
theorem d_X9_copy_85 : dec m_X9_copy 85 = .ok (.getfield 13, 3) := by decide +kernel
theorem d_X9_copy_88 : dec m_X9_copy 88 = .ok (.iconst 0, 1) := by decide +kernel
theorem d_X9_copy_89 : dec m_X9_copy 89 = .ok (.bipush 21, 2) := by decide +kernel
theorem d_X9_copy_91 : dec m_X9_copy 91 = .ok (.invokestatic 51, 3) := by decide +kernel
theorem d_X9_copy_94 : dec m_X9_copy 94 = .ok (.aload_n 0, 1) := by decide +kernel
theorem d_X9_copy_95 : dec m_X9_copy 95 = .ok (.getfield 17, 3) := by decide +kernel
theorem d_X9_copy_98 : dec m_X9_copy 98 = .ok (.iconst 0, 1) := by decide +kernel
theorem d_X9_copy_99 : dec m_X9_copy 99 = .ok (.aload_n 1, 1) := by decide +kernel
theorem d_X9_copy_100 : dec m_X9_copy 100 = .ok (.getfield 17, 3) := by decide +kernel
theorem d_X9_copy_103 : dec m_X9_copy 103 = .ok (.iconst 0, 1) := by decide +kernel
theorem d_X9_copy_104 : dec m_X9_copy 104 = .ok (.bipush 21, 2) := by decide +kernel
theorem d_X9_copy_106 : dec m_X9_copy 106 = .ok (.invokestatic 51, 3) := by decide +kernel
theorem d_X9_copy_109 : dec m_X9_copy 109 = .ok (.aload_n 0, 1) := by decide +kernel
theorem d_X9_copy_110 : dec m_X9_copy 110 = .ok (.getfield 20, 3) := by decide +kernel
theorem d_X9_copy_113 : dec m_X9_copy 113 = .ok (.iconst 0, 1) := by decide +kernel
theorem d_X9_copy_114 : dec m_X9_copy 114 = .ok (.aload_n 1, 1) := by decide +kernel
theorem d_X9_copy_115 : dec m_X9_copy 115 = .ok (.getfield 20, 3) := by decide +kernel
theorem d_X9_copy_118 : dec m_X9_copy 118 = .ok (.iconst 0, 1) := by decide +kernel
theorem d_X9_copy_119 : dec m_X9_copy 119 = .ok (.bipush 21, 2) := by decide +kernel
theorem d_X9_copy_121 : dec m_X9_copy 121 = .ok (.invokestatic 51, 3) := by decide +kernel
theorem d_X9_copy_124 : dec m_X9_copy 124 = .ok (.aload_n 1, 1) := by decide +kernel
theorem d_X9_copy_125 : dec m_X9_copy 125 = .ok (.aload_n 0, 1) := by decide +kernel
theorem d_X9_copy_126 : dec m_X9_copy 126 = .ok (.getfield 24, 3) := by decide +kernel
theorem d_X9_copy_129 : dec m_X9_copy 129 = .ok (.invokevirtual 57, 3) := by decide +kernel
theorem d_X9_copy_132 : dec m_X9_copy 132 = .ok (.checkcast 58, 3) := by decide +kernel
theorem d_X9_copy_135 : dec m_X9_copy 135 = .ok (.putfield 24, 3) := by decide +kernel
theorem d_X9_copy_138 : dec m_X9_copy 138 = .ok (.aload_n 1, 1) := by decide +kernel
theorem d_X9_copy_139 : dec m_X9_copy 139 = .ok (.areturn, 1) := by decide +kernel
theorem d_X9_comes_0 : dec m_X9_comes 0 = .ok (.aload_n 0, 1) := by decide +kernel
theorem d_X9_comes_1 : dec m_X9_comes 1 = .ok (.getfield 7, 3) := by decide +kernel
theorem d_X9_comes_4 : dec m_X9_comes 4 = .ok (.aload_n 0, 1) := by decide +kernel
theorem d_X9_comes_5 : dec m_X9_comes 5 = .ok (.getfield 29, 3) := by decide +kernel
theorem d_X9_comes_8 : dec m_X9_comes 8 = .ok (.iload_n 1, 1) := by decide +kernel
theorem d_X9_comes_9 : dec m_X9_comes 9 = .ok (.bastore, 1) := by decide +kernel
theorem d_X9_comes_10 : dec m_X9_comes 10 = .ok (.aload_n 0, 1) := by decide +kernel
theorem d_X9_comes_11 : dec m_X9_comes 11 = .ok (.getfield 13, 3) := by decide +kernel
theorem d_X9_comes_14 : dec m_X9_comes 14 = .ok (.aload_n 0, 1) := by decide +kernel
theorem d_X9_comes_15 : dec m_X9_comes 15 = .ok (.getfield 29, 3) := by decide +kernel
theorem d_X9_comes_18 : dec m_X9_comes 18 = .ok (.iload_n 2, 1) := by decide +kernel
theorem d_X9_comes_19 : dec m_X9_comes 19 = .ok (.iastore, 1) := by decide +kernel
theorem d_X9_comes_20 : dec m_X9_comes 20 = .ok (.aload_n 0, 1) := by decide +kernel
theorem d_X9_comes_21 : dec m_X9_comes 21 = .ok (.getfield 24, 3) := by decide +kernel
theorem d_X9_comes_24 : dec m_X9_comes 24 = .ok (.aload_n 0, 1) := by decide +kernel
theorem d_X9_comes_25 : dec m_X9_comes 25 = .ok (.getfield 29, 3) := by decide +kernel
theorem d_X9_comes_28 : dec m_X9_comes 28 = .ok (.aload_n 3, 1) := by decide +kernel
theorem d_X9_comes_29 : dec m_X9_comes 29 = .ok (.aastore, 1) := by decide +kernel
theorem d_X9_comes_30 : dec m_X9_comes 30 = .ok (.aload_n 0, 1) := by decide +kernel
theorem d_X9_comes_31 : dec m_X9_comes 31 = .ok (.getfield 17, 3) := by decide +kernel
theorem d_X9_comes_34 : dec m_X9_comes 34 = .ok (.aload_n 0, 1) := by decide +kernel
theorem d_X9_comes_35 : dec m_X9_comes 35 = .ok (.getfield 29, 3) := by decide +kernel
theorem d_X9_comes_38 : dec m_X9_comes 38 = .ok (.iconst 0, 1) := by decide +kernel
theorem d_X9_comes_39 : dec m_X9_comes 39 = .ok (.iastore, 1) := by decide +kernel
theorem d_X9_comes_40 : dec m_X9_comes 40 = .ok (.aload_n 0, 1) := by decide +kernel
theorem d_X9_comes_41 : dec m_X9_comes 41 = .ok (.getfield 20, 3) := by decide +kernel
theorem d_X9_comes_44 : dec m_X9_comes 44 = .ok (.aload_n 0, 1) := by decide +kernel
theorem d_X9_comes_45 : dec m_X9_comes 45 = .ok (.getfield 29, 3) := by decide +kernel
theorem d_X9_comes_48 : dec m_X9_comes 48 = .ok (.iconst 0, 1) := by decide +kernel
theorem d_X9_comes_49 : dec m_X9_comes 49 = .ok (.iastore, 1) := by decide +kernel
theorem d_X9_comes_50 : dec m_X9_comes 50 = .ok (.aload_n 0, 1) := by decide +kernel
theorem d_X9_comes_51 : dec m_X9_comes 51 = .ok (.dup, 1) := by decide +kernel
theorem d_X9_comes_52 : dec m_X9_comes 52 = .ok (.getfield 29, 3) := by decide +kernel
theorem d_X9_comes_55 : dec m_X9_comes 55 = .ok (.iconst 1, 1) := by decide +kernel
theorem d_X9_comes_56 : dec m_X9_comes 56 = .ok (.iadd, 1) := by decide +kernel
theorem d_X9_comes_57 : dec m_X9_comes 57 = .ok (.putfield 29, 3) := by decide +kernel
theorem d_X9_comes_60 : dec m_X9_comes 60 = .ok (.return_, 1) := by decide +kernel
theorem d_X9_told_0 : dec m_X9_told 0 = .ok (.new 62, 3) := by decide +kernel
theorem d_X9_told_3 : dec m_X9_told 3 = .ok (.dup, 1) := by decide +kernel
theorem d_X9_told_4 : dec m_X9_told 4 = .ok (.sipush 400, 3) := by decide +kernel
theorem d_X9_told_7 : dec m_X9_told 7 = .ok (.invokespecial 64, 3) := by decide +kernel
theorem d_X9_told_10 : dec m_X9_told 10 = .ok (.astore_n 1, 1) := by decide +kernel
theorem d_X9_told_11 : dec m_X9_told 11 = .ok (.iconst 0, 1) := by decide +kernel
theorem d_X9_told_12 : dec m_X9_told 12 = .ok (.istore_n 2, 1) := by decide +kernel
theorem d_X9_told_13 : dec m_X9_told 13 = .ok (.iload_n 2, 1) := by decide +kernel
theorem d_X9_told_14 : dec m_X9_told 14 = .ok (.aload_n 0, 1) := by decide +kernel
theorem d_X9_told_15 : dec m_X9_told 15 = .ok (.getfield 29, 3) := by decide +kernel
theorem d_X9_told_18 : dec m_X9_told 18 = .ok (.if_icmp .ge 98, 3) := by decide +kernel
theorem d_X9_told_21 : dec m_X9_told 21 = .ok (.aload_n 1, 1) := by decide +kernel
theorem d_X9_told_22 : dec m_X9_told 22 = .ok (.iload_n 2, 1) := by decide +kernel
theorem d_X9_told_23 : dec m_X9_told 23 = .ok (.ifCond .le 8, 3) := by decide +kernel
theorem d_X9_told_26 : dec m_X9_told 26 = .ok (.ldc 67, 2) := by decide +kernel
theorem d_X9_told_28 : dec m_X9_told 28 = .ok (.goto 5, 3) := by decide +kernel
theorem d_X9_told_31 : dec m_X9_told 31 = .ok (.ldc 69, 2) := by decide +kernel
theorem d_X9_told_33 : dec m_X9_told 33 = .ok (.invokevirtual 71, 3) := by decide +kernel
theorem d_X9_told_36 : dec m_X9_told 36 = .ok (.aload_n 0, 1) := by decide +kernel
theorem d_X9_told_37 : dec m_X9_told 37 = .ok (.getfield 7, 3) := by decide +kernel
theorem d_X9_told_40 : dec m_X9_told 40 = .ok (.iload_n 2, 1) := by decide +kernel
theorem d_X9_told_41 : dec m_X9_told 41 = .ok (.baload, 1) := by decide +kernel
theorem d_X9_told_42 : dec m_X9_told 42 = .ok (.ifCond .eq 8, 3) := by decide +kernel
theorem d_X9_told_45 : dec m_X9_told 45 = .ok (.ldc 75, 2) := by decide +kernel
theorem d_X9_told_47 : dec m_X9_told 47 = .ok (.goto 5, 3) := by decide +kernel
theorem d_X9_told_50 : dec m_X9_told 50 = .ok (.ldc 77, 2) := by decide +kernel
theorem d_X9_told_52 : dec m_X9_told 52 = .ok (.invokevirtual 71, 3) := by decide +kernel
theorem d_X9_told_55 : dec m_X9_told 55 = .ok (.aload_n 0, 1) := by decide +kernel
theorem d_X9_told_56 : dec m_X9_told 56 = .ok (.getfield 13, 3) := by decide +kernel
theorem d_X9_told_59 : dec m_X9_told 59 = .ok (.iload_n 2, 1) := by decide +kernel
theorem d_X9_told_60 : dec m_X9_told 60 = .ok (.iaload, 1) := by decide +kernel
theorem d_X9_told_61 : dec m_X9_told 61 = .ok (.invokevirtual 79, 3) := by decide +kernel
theorem d_X9_told_64 : dec m_X9_told 64 = .ok (.pop, 1) := by decide +kernel
theorem d_X9_told_65 : dec m_X9_told 65 = .ok (.aload_n 0, 1) := by decide +kernel
theorem d_X9_told_66 : dec m_X9_told 66 = .ok (.getfield 24, 3) := by decide +kernel
theorem d_X9_told_69 : dec m_X9_told 69 = .ok (.iload_n 2, 1) := by decide +kernel
theorem d_X9_told_70 : dec m_X9_told 70 = .ok (.aaload, 1) := by decide +kernel
theorem d_X9_told_71 : dec m_X9_told 71 = .ok (.astore_n 3, 1) := by decide +kernel
theorem d_X9_told_72 : dec m_X9_told 72 = .ok (.aload_n 3, 1) := by decide +kernel
theorem d_X9_told_73 : dec m_X9_told 73 = .ok (.arraylength, 1) := by decide +kernel
theorem d_X9_told_74 : dec m_X9_told 74 = .ok (.istore 4, 2) := by decide +kernel
theorem d_X9_told_76 : dec m_X9_told 76 = .ok (.iconst 0, 1) := by decide +kernel
theorem d_X9_told_77 : dec m_X9_told 77 = .ok (.istore 5, 2) := by decide +kernel
theorem d_X9_told_79 : dec m_X9_told 79 = .ok (.iload 5, 2) := by decide +kernel
theorem d_X9_told_81 : dec m_X9_told 81 = .ok (.iload 4, 2) := by decide +kernel
theorem d_X9_told_83 : dec m_X9_told 83 = .ok (.if_icmp .ge 27, 3) := by decide +kernel
theorem d_X9_told_86 : dec m_X9_told 86 = .ok (.aload_n 3, 1) := by decide +kernel
theorem d_X9_told_87 : dec m_X9_told 87 = .ok (.iload 5, 2) := by decide +kernel
theorem d_X9_told_89 : dec m_X9_told 89 = .ok (.iaload, 1) := by decide +kernel
theorem d_X9_told_90 : dec m_X9_told 90 = .ok (.istore 6, 2) := by decide +kernel
theorem d_X9_told_92 : dec m_X9_told 92 = .ok (.aload_n 1, 1) := by decide +kernel
theorem d_X9_told_93 : dec m_X9_told 93 = .ok (.bipush 32, 2) := by decide +kernel
theorem d_X9_told_95 : dec m_X9_told 95 = .ok (.invokevirtual 82, 3) := by decide +kernel
theorem d_X9_told_98 : dec m_X9_told 98 = .ok (.iload 6, 2) := by decide +kernel
theorem d_X9_told_100 : dec m_X9_told 100 = .ok (.invokevirtual 79, 3) := by decide +kernel
theorem d_X9_told_103 : dec m_X9_told 103 = .ok (.pop, 1) := by decide +kernel
theorem d_X9_told_104 : dec m_X9_told 104 = .ok (.iinc 5 1, 3) := by decide +kernel
theorem d_X9_told_107 : dec m_X9_told 107 = .ok (.goto (-28), 3) := by decide +kernel
theorem d_X9_told_110 : dec m_X9_told 110 = .ok (.iinc 2 1, 3) := by decide +kernel
theorem d_X9_told_113 : dec m_X9_told 113 = .ok (.goto (-100), 3) := by decide +kernel
theorem d_X9_told_116 : dec m_X9_told 116 = .ok (.aload_n 0, 1) := by decide +kernel
theorem d_X9_told_117 : dec m_X9_told 117 = .ok (.getfield 33, 3) := by decide +kernel
theorem d_X9_told_120 : dec m_X9_told 120 = .ok (.ifCond .le 29, 3) := by decide +kernel
theorem d_X9_told_123 : dec m_X9_told 123 = .ok (.aload_n 1, 1) := by decide +kernel
theorem d_X9_told_124 : dec m_X9_told 124 = .ok (.aload_n 1, 1) := by decide +kernel
theorem d_X9_told_125 : dec m_X9_told 125 = .ok (.invokevirtual 85, 3) := by decide +kernel
theorem d_X9_told_128 : dec m_X9_told 128 = .ok (.ifCond .le 8, 3) := by decide +kernel
theorem d_X9_told_131 : dec m_X9_told 131 = .ok (.ldc 89, 2) := by decide +kernel
theorem d_X9_told_133 : dec m_X9_told 133 = .ok (.goto 5, 3) := by decide +kernel
theorem d_X9_told_136 : dec m_X9_told 136 = .ok (.ldc 91, 2) := by decide +kernel
theorem d_X9_told_138 : dec m_X9_told 138 = .ok (.invokevirtual 71, 3) := by decide +kernel
theorem d_X9_told_141 : dec m_X9_told 141 = .ok (.aload_n 0, 1) := by decide +kernel
theorem d_X9_told_142 : dec m_X9_told 142 = .ok (.getfield 33, 3) := by decide +kernel
theorem d_X9_told_145 : dec m_X9_told 145 = .ok (.invokevirtual 79, 3) := by decide +kernel
theorem d_X9_told_148 : dec m_X9_told 148 = .ok (.pop, 1) := by decide +kernel
theorem d_X9_told_149 : dec m_X9_told 149 = .ok (.aload_n 0, 1) := by decide +kernel
theorem d_X9_told_150 : dec m_X9_told 150 = .ok (.getfield 36, 3) := by decide +kernel
theorem d_X9_told_153 : dec m_X9_told 153 = .ok (.ifCond .le 53, 3) := by decide +kernel
theorem d_X9_told_156 : dec m_X9_told 156 = .ok (.aload_n 1, 1) := by decide +kernel
theorem d_X9_told_157 : dec m_X9_told 157 = .ok (.aload_n 1, 1) := by decide +kernel
theorem d_X9_told_158 : dec m_X9_told 158 = .ok (.invokevirtual 85, 3) := by decide +kernel
theorem d_X9_told_161 : dec m_X9_told 161 = .ok (.ifCond .le 8, 3) := by decide +kernel
theorem d_X9_told_164 : dec m_X9_told 164 = .ok (.ldc 93, 2) := by decide +kernel
theorem d_X9_told_166 : dec m_X9_told 166 = .ok (.goto 5, 3) := by decide +kernel
theorem d_X9_told_169 : dec m_X9_told 169 = .ok (.ldc 95, 2) := by decide +kernel
theorem d_X9_told_171 : dec m_X9_told 171 = .ok (.invokevirtual 71, 3) := by decide +kernel
theorem d_X9_told_174 : dec m_X9_told 174 = .ok (.aload_n 0, 1) := by decide +kernel
theorem d_X9_told_175 : dec m_X9_told 175 = .ok (.getfield 36, 3) := by decide +kernel
theorem d_X9_told_178 : dec m_X9_told 178 = .ok (.iconst 1, 1) := by decide +kernel
theorem d_X9_told_179 : dec m_X9_told 179 = .ok (.if_icmp .ne 8, 3) := by decide +kernel
theorem d_X9_told_182 : dec m_X9_told 182 = .ok (.ldc 97, 2) := by decide +kernel
theorem d_X9_told_184 : dec m_X9_told 184 = .ok (.goto 18, 3) := by decide +kernel
theorem d_X9_told_187 : dec m_X9_told 187 = .ok (.aload_n 0, 1) := by decide +kernel
theorem d_X9_told_188 : dec m_X9_told 188 = .ok (.getfield 36, 3) := by decide +kernel
theorem d_X9_told_191 : dec m_X9_told 191 = .ok (.iconst 2, 1) := by decide +kernel
theorem d_X9_told_192 : dec m_X9_told 192 = .ok (.if_icmp .ne 8, 3) := by decide +kernel
theorem d_X9_told_195 : dec m_X9_told 195 = .ok (.ldc 99, 2) := by decide +kernel
theorem d_X9_told_197 : dec m_X9_told 197 = .ok (.goto 5, 3) := by decide +kernel
theorem d_X9_told_200 : dec m_X9_told 200 = .ok (.ldc 101, 2) := by decide +kernel
theorem d_X9_told_202 : dec m_X9_told 202 = .ok (.invokevirtual 71, 3) := by decide +kernel
theorem d_X9_told_205 : dec m_X9_told 205 = .ok (.pop, 1) := by decide +kernel
theorem d_X9_told_206 : dec m_X9_told 206 = .ok (.aload_n 1, 1) := by decide +kernel
theorem d_X9_told_207 : dec m_X9_told 207 = .ok (.invokevirtual 103, 3) := by decide +kernel
theorem d_X9_told_210 : dec m_X9_told 210 = .ok (.areturn, 1) := by decide +kernel
theorem d_X9_some_0 : dec m_X9_some 0 = .ok (.new 8, 3) := by decide +kernel
theorem d_X9_some_3 : dec m_X9_some 3 = .ok (.dup, 1) := by decide +kernel
theorem d_X9_some_4 : dec m_X9_some 4 = .ok (.invokespecial 28, 3) := by decide +kernel
theorem d_X9_some_7 : dec m_X9_some 7 = .ok (.astore 4, 2) := by decide +kernel
theorem d_X9_some_9 : dec m_X9_some 9 = .ok (.iconst 2, 1) := by decide +kernel
theorem d_X9_some_10 : dec m_X9_some 10 = .ok (.aload_n 0, 1) := by decide +kernel
theorem d_X9_some_11 : dec m_X9_some 11 = .ok (.iload_n 1, 1) := by decide +kernel
theorem d_X9_some_12 : dec m_X9_some 12 = .ok (.invokestatic 107, 3) := by decide +kernel
theorem d_X9_some_15 : dec m_X9_some 15 = .ok (.iconst 1, 1) := by decide +kernel
theorem d_X9_some_16 : dec m_X9_some 16 = .ok (.iushr, 1) := by decide +kernel
theorem d_X9_some_17 : dec m_X9_some 17 = .ok (.iload_n 2, 1) := by decide +kernel
theorem d_X9_some_18 : dec m_X9_some 18 = .ok (.irem, 1) := by decide +kernel
theorem d_X9_some_19 : dec m_X9_some 19 = .ok (.iadd, 1) := by decide +kernel
theorem d_X9_some_20 : dec m_X9_some 20 = .ok (.istore 5, 2) := by decide +kernel
theorem d_X9_some_22 : dec m_X9_some 22 = .ok (.iconst 0, 1) := by decide +kernel
theorem d_X9_some_23 : dec m_X9_some 23 = .ok (.istore 6, 2) := by decide +kernel
theorem d_X9_some_25 : dec m_X9_some 25 = .ok (.iload 6, 2) := by decide +kernel
theorem d_X9_some_27 : dec m_X9_some 27 = .ok (.iload 5, 2) := by decide +kernel
theorem d_X9_some_29 : dec m_X9_some 29 = .ok (.if_icmp .ge 165, 3) := by decide +kernel
theorem d_X9_some_32 : dec m_X9_some 32 = .ok (.aload_n 0, 1) := by decide +kernel
theorem d_X9_some_33 : dec m_X9_some 33 = .ok (.iload_n 1, 1) := by decide +kernel
theorem d_X9_some_34 : dec m_X9_some 34 = .ok (.iconst 1, 1) := by decide +kernel
theorem d_X9_some_35 : dec m_X9_some 35 = .ok (.iadd, 1) := by decide +kernel
theorem d_X9_some_36 : dec m_X9_some 36 = .ok (.iload 6, 2) := by decide +kernel
theorem d_X9_some_38 : dec m_X9_some 38 = .ok (.iadd, 1) := by decide +kernel
theorem d_X9_some_39 : dec m_X9_some 39 = .ok (.invokestatic 107, 3) := by decide +kernel
theorem d_X9_some_42 : dec m_X9_some 42 = .ok (.iconst 1, 1) := by decide +kernel
theorem d_X9_some_43 : dec m_X9_some 43 = .ok (.iushr, 1) := by decide +kernel
theorem d_X9_some_44 : dec m_X9_some 44 = .ok (.istore 7, 2) := by decide +kernel
theorem d_X9_some_46 : dec m_X9_some 46 = .ok (.iload 7, 2) := by decide +kernel
theorem d_X9_some_48 : dec m_X9_some 48 = .ok (.iconst 3, 1) := by decide +kernel
theorem d_X9_some_49 : dec m_X9_some 49 = .ok (.iushr, 1) := by decide +kernel
theorem d_X9_some_50 : dec m_X9_some 50 = .ok (.iload_n 3, 1) := by decide +kernel
theorem d_X9_some_51 : dec m_X9_some 51 = .ok (.iconst 1, 1) := by decide +kernel
theorem d_X9_some_52 : dec m_X9_some 52 = .ok (.iadd, 1) := by decide +kernel
theorem d_X9_some_53 : dec m_X9_some 53 = .ok (.irem, 1) := by decide +kernel
theorem d_X9_some_54 : dec m_X9_some 54 = .ok (.istore 8, 2) := by decide +kernel
theorem d_X9_some_56 : dec m_X9_some 56 = .ok (.iload 8, 2) := by decide +kernel
theorem d_X9_some_58 : dec m_X9_some 58 = .ok (.newarray .int, 2) := by decide +kernel
theorem d_X9_some_60 : dec m_X9_some 60 = .ok (.astore 9, 2) := by decide +kernel
theorem d_X9_some_62 : dec m_X9_some 62 = .ok (.iload 7, 2) := by decide +kernel
theorem d_X9_some_64 : dec m_X9_some 64 = .ok (.iconst 2, 1) := by decide +kernel
theorem d_X9_some_65 : dec m_X9_some 65 = .ok (.irem, 1) := by decide +kernel
theorem d_X9_some_66 : dec m_X9_some 66 = .ok (.iconst 1, 1) := by decide +kernel
theorem d_X9_some_67 : dec m_X9_some 67 = .ok (.if_icmp .ne 7, 3) := by decide +kernel
theorem d_X9_some_70 : dec m_X9_some 70 = .ok (.iconst 1, 1) := by decide +kernel
theorem d_X9_some_71 : dec m_X9_some 71 = .ok (.goto 4, 3) := by decide +kernel
theorem d_X9_some_74 : dec m_X9_some 74 = .ok (.iconst 0, 1) := by decide +kernel
theorem d_X9_some_75 : dec m_X9_some 75 = .ok (.istore 10, 2) := by decide +kernel
theorem d_X9_some_77 : dec m_X9_some 77 = .ok (.iload 10, 2) := by decide +kernel
theorem d_X9_some_79 : dec m_X9_some 79 = .ok (.ifCond .eq 17, 3) := by decide +kernel
theorem d_X9_some_82 : dec m_X9_some 82 = .ok (.bipush 10, 2) := by decide +kernel
theorem d_X9_some_84 : dec m_X9_some 84 = .ok (.iload 7, 2) := by decide +kernel
theorem d_X9_some_86 : dec m_X9_some 86 = .ok (.bipush 6, 2) := by decide +kernel
theorem d_X9_some_88 : dec m_X9_some 88 = .ok (.iushr, 1) := by decide +kernel
theorem d_X9_some_89 : dec m_X9_some 89 = .ok (.bipush 20, 2) := by decide +kernel
theorem d_X9_some_91 : dec m_X9_some 91 = .ok (.irem, 1) := by decide +kernel
theorem d_X9_some_92 : dec m_X9_some 92 = .ok (.iadd, 1) := by decide +kernel
theorem d_X9_some_93 : dec m_X9_some 93 = .ok (.goto 14, 3) := by decide +kernel
theorem d_X9_some_96 : dec m_X9_some 96 = .ok (.bipush 20, 2) := by decide +kernel
theorem d_X9_some_98 : dec m_X9_some 98 = .ok (.iload 7, 2) := by decide +kernel
theorem d_X9_some_100 : dec m_X9_some 100 = .ok (.bipush 6, 2) := by decide +kernel
theorem d_X9_some_102 : dec m_X9_some 102 = .ok (.iushr, 1) := by decide +kernel
theorem d_X9_some_103 : dec m_X9_some 103 = .ok (.bipush 25, 2) := by decide +kernel
theorem d_X9_some_105 : dec m_X9_some 105 = .ok (.irem, 1) := by decide +kernel
theorem d_X9_some_106 : dec m_X9_some 106 = .ok (.iadd, 1) := by decide +kernel
theorem d_X9_some_107 : dec m_X9_some 107 = .ok (.istore 11, 2) := by decide +kernel
theorem d_X9_some_109 : dec m_X9_some 109 = .ok (.iconst 0, 1) := by decide +kernel
theorem d_X9_some_110 : dec m_X9_some 110 = .ok (.istore 12, 2) := by decide +kernel
theorem d_X9_some_112 : dec m_X9_some 112 = .ok (.iload 12, 2) := by decide +kernel
theorem d_X9_some_114 : dec m_X9_some 114 = .ok (.iload 8, 2) := by decide +kernel
theorem d_X9_some_116 : dec m_X9_some 116 = .ok (.if_icmp .ge 49, 3) := by decide +kernel
theorem d_X9_some_119 : dec m_X9_some 119 = .ok (.aload 9, 2) := by decide +kernel
theorem d_X9_some_121 : dec m_X9_some 121 = .ok (.iload 12, 2) := by decide +kernel
theorem d_X9_some_123 : dec m_X9_some 123 = .ok (.iload 11, 2) := by decide +kernel
theorem d_X9_some_125 : dec m_X9_some 125 = .ok (.iastore, 1) := by decide +kernel
theorem d_X9_some_126 : dec m_X9_some 126 = .ok (.iconst 0, 1) := by decide +kernel
theorem d_X9_some_127 : dec m_X9_some 127 = .ok (.iload 11, 2) := by decide +kernel
theorem d_X9_some_129 : dec m_X9_some 129 = .ok (.iload 10, 2) := by decide +kernel
theorem d_X9_some_131 : dec m_X9_some 131 = .ok (.ifCond .eq 7, 3) := by decide +kernel
theorem d_X9_some_134 : dec m_X9_some 134 = .ok (.iconst 1, 1) := by decide +kernel
theorem d_X9_some_135 : dec m_X9_some 135 = .ok (.goto 4, 3) := by decide +kernel
theorem d_X9_some_138 : dec m_X9_some 138 = .ok (.iconst (-1), 1) := by decide +kernel
theorem d_X9_some_139 : dec m_X9_some 139 = .ok (.iload 7, 2) := by decide +kernel
theorem d_X9_some_141 : dec m_X9_some 141 = .ok (.bipush 12, 2) := by decide +kernel
theorem d_X9_some_143 : dec m_X9_some 143 = .ok (.iconst 3, 1) := by decide +kernel
theorem d_X9_some_144 : dec m_X9_some 144 = .ok (.iload 12, 2) := by decide +kernel
theorem d_X9_some_146 : dec m_X9_some 146 = .ok (.imul, 1) := by decide +kernel
theorem d_X9_some_147 : dec m_X9_some 147 = .ok (.iadd, 1) := by decide +kernel
theorem d_X9_some_148 : dec m_X9_some 148 = .ok (.iushr, 1) := by decide +kernel
theorem d_X9_some_149 : dec m_X9_some 149 = .ok (.bipush 6, 2) := by decide +kernel
theorem d_X9_some_151 : dec m_X9_some 151 = .ok (.irem, 1) := by decide +kernel
theorem d_X9_some_152 : dec m_X9_some 152 = .ok (.imul, 1) := by decide +kernel
theorem d_X9_some_153 : dec m_X9_some 153 = .ok (.iadd, 1) := by decide +kernel
theorem d_X9_some_154 : dec m_X9_some 154 = .ok (.invokestatic 113, 3) := by decide +kernel
theorem d_X9_some_157 : dec m_X9_some 157 = .ok (.istore 11, 2) := by decide +kernel
theorem d_X9_some_159 : dec m_X9_some 159 = .ok (.iinc 12 1, 3) := by decide +kernel
theorem d_X9_some_162 : dec m_X9_some 162 = .ok (.goto (-50), 3) := by decide +kernel
theorem d_X9_some_165 : dec m_X9_some 165 = .ok (.aload 4, 2) := by decide +kernel
theorem d_X9_some_167 : dec m_X9_some 167 = .ok (.iload 10, 2) := by decide +kernel
theorem d_X9_some_169 : dec m_X9_some 169 = .ok (.iload 7, 2) := by decide +kernel
theorem d_X9_some_171 : dec m_X9_some 171 = .ok (.iconst 1, 1) := by decide +kernel
theorem d_X9_some_172 : dec m_X9_some 172 = .ok (.iushr, 1) := by decide +kernel
theorem d_X9_some_173 : dec m_X9_some 173 = .ok (.iconst 4, 1) := by decide +kernel
theorem d_X9_some_174 : dec m_X9_some 174 = .ok (.irem, 1) := by decide +kernel
theorem d_X9_some_175 : dec m_X9_some 175 = .ok (.ifCond .ne 7, 3) := by decide +kernel
theorem d_X9_some_178 : dec m_X9_some 178 = .ok (.iconst 1, 1) := by decide +kernel
theorem d_X9_some_179 : dec m_X9_some 179 = .ok (.goto 4, 3) := by decide +kernel
theorem d_X9_some_182 : dec m_X9_some 182 = .ok (.iconst 0, 1) := by decide +kernel
theorem d_X9_some_183 : dec m_X9_some 183 = .ok (.aload 9, 2) := by decide +kernel
theorem d_X9_some_185 : dec m_X9_some 185 = .ok (.invokevirtual 119, 3) := by decide +kernel
theorem d_X9_some_188 : dec m_X9_some 188 = .ok (.iinc 6 1, 3) := by decide +kernel
theorem d_X9_some_191 : dec m_X9_some 191 = .ok (.goto (-166), 3) := by decide +kernel
theorem d_X9_some_194 : dec m_X9_some 194 = .ok (.aload 4, 2) := by decide +kernel
theorem d_X9_some_196 : dec m_X9_some 196 = .ok (.aload_n 0, 1) := by decide +kernel
theorem d_X9_some_197 : dec m_X9_some 197 = .ok (.iload_n 1, 1) := by decide +kernel
theorem d_X9_some_198 : dec m_X9_some 198 = .ok (.bipush 20, 2) := by decide +kernel
theorem d_X9_some_200 : dec m_X9_some 200 = .ok (.iadd, 1) := by decide +kernel
theorem d_X9_some_201 : dec m_X9_some 201 = .ok (.invokestatic 107, 3) := by decide +kernel
theorem d_X9_some_204 : dec m_X9_some 204 = .ok (.iconst 1, 1) := by decide +kernel
theorem d_X9_some_205 : dec m_X9_some 205 = .ok (.iushr, 1) := by decide +kernel
theorem d_X9_some_206 : dec m_X9_some 206 = .ok (.iconst 3, 1) := by decide +kernel
theorem d_X9_some_207 : dec m_X9_some 207 = .ok (.irem, 1) := by decide +kernel
theorem d_X9_some_208 : dec m_X9_some 208 = .ok (.ifCond .ne 19, 3) := by decide +kernel
theorem d_X9_some_211 : dec m_X9_some 211 = .ok (.aload_n 0, 1) := by decide +kernel
theorem d_X9_some_212 : dec m_X9_some 212 = .ok (.iload_n 1, 1) := by decide +kernel
theorem d_X9_some_213 : dec m_X9_some 213 = .ok (.bipush 20, 2) := by decide +kernel
theorem d_X9_some_215 : dec m_X9_some 215 = .ok (.iadd, 1) := by decide +kernel
theorem d_X9_some_216 : dec m_X9_some 216 = .ok (.invokestatic 107, 3) := by decide +kernel
theorem d_X9_some_219 : dec m_X9_some 219 = .ok (.iconst 4, 1) := by decide +kernel
theorem d_X9_some_220 : dec m_X9_some 220 = .ok (.iushr, 1) := by decide +kernel
theorem d_X9_some_221 : dec m_X9_some 221 = .ok (.bipush 6, 2) := by decide +kernel
theorem d_X9_some_223 : dec m_X9_some 223 = .ok (.irem, 1) := by decide +kernel
theorem d_X9_some_224 : dec m_X9_some 224 = .ok (.goto 4, 3) := by decide +kernel
theorem d_X9_some_227 : dec m_X9_some 227 = .ok (.iconst 0, 1) := by decide +kernel
theorem d_X9_some_228 : dec m_X9_some 228 = .ok (.putfield 33, 3) := by decide +kernel
theorem d_X9_some_231 : dec m_X9_some 231 = .ok (.aload 4, 2) := by decide +kernel
theorem d_X9_some_233 : dec m_X9_some 233 = .ok (.aload_n 0, 1) := by decide +kernel
theorem d_X9_some_234 : dec m_X9_some 234 = .ok (.iload_n 1, 1) := by decide +kernel
theorem d_X9_some_235 : dec m_X9_some 235 = .ok (.bipush 21, 2) := by decide +kernel
theorem d_X9_some_237 : dec m_X9_some 237 = .ok (.iadd, 1) := by decide +kernel
theorem d_X9_some_238 : dec m_X9_some 238 = .ok (.invokestatic 107, 3) := by decide +kernel
theorem d_X9_some_241 : dec m_X9_some 241 = .ok (.iconst 1, 1) := by decide +kernel
theorem d_X9_some_242 : dec m_X9_some 242 = .ok (.iushr, 1) := by decide +kernel
theorem d_X9_some_243 : dec m_X9_some 243 = .ok (.iconst 4, 1) := by decide +kernel
theorem d_X9_some_244 : dec m_X9_some 244 = .ok (.irem, 1) := by decide +kernel
theorem d_X9_some_245 : dec m_X9_some 245 = .ok (.putfield 36, 3) := by decide +kernel
theorem d_X9_some_248 : dec m_X9_some 248 = .ok (.aload 4, 2) := by decide +kernel
theorem d_X9_some_250 : dec m_X9_some 250 = .ok (.areturn, 1) := by decide +kernel
theorem d_X10_init_0 : dec m_X10_init 0 = .ok (.aload_n 0, 1) := by decide +kernel
theorem d_X10_init_1 : dec m_X10_init 1 = .ok (.invokespecial 1, 3) := by decide +kernel
theorem d_X10_init_4 : dec m_X10_init 4 = .ok (.aload_n 0, 1) := by decide +kernel
theorem d_X10_init_5 : dec m_X10_init 5 = .ok (.bipush 81, 2) := by decide +kernel
theorem d_X10_init_7 : dec m_X10_init 7 = .ok (.anewarray 7, 3) := by decide +kernel
theorem d_X10_init_10 : dec m_X10_init 10 = .ok (.putfield 9, 3) := by decide +kernel
theorem d_X10_init_13 : dec m_X10_init 13 = .ok (.aload_n 0, 1) := by decide +kernel
theorem d_X10_init_14 : dec m_X10_init 14 = .ok (.bipush 81, 2) := by decide +kernel
theorem d_X10_init_16 : dec m_X10_init 16 = .ok (.anewarray 7, 3) := by decide +kernel
theorem d_X10_init_19 : dec m_X10_init 19 = .ok (.putfield 15, 3) := by decide +kernel
theorem d_X10_init_22 : dec m_X10_init 22 = .ok (.iconst 0, 1) := by decide +kernel
theorem d_X10_init_23 : dec m_X10_init 23 = .ok (.istore 4, 2) := by decide +kernel
theorem d_X10_init_25 : dec m_X10_init 25 = .ok (.iload 4, 2) := by decide +kernel
theorem d_X10_init_27 : dec m_X10_init 27 = .ok (.aload_n 1, 1) := by decide +kernel
theorem d_X10_init_28 : dec m_X10_init 28 = .ok (.getfield 18, 3) := by decide +kernel
theorem d_X10_init_31 : dec m_X10_init 31 = .ok (.if_icmp .ge 162, 3) := by decide +kernel
theorem d_X10_init_34 : dec m_X10_init 34 = .ok (.iload_n 2, 1) := by decide +kernel
theorem d_X10_init_35 : dec m_X10_init 35 = .ok (.aload_n 1, 1) := by decide +kernel
theorem d_X10_init_36 : dec m_X10_init 36 = .ok (.getfield 24, 3) := by decide +kernel
theorem d_X10_init_39 : dec m_X10_init 39 = .ok (.iload 4, 2) := by decide +kernel
theorem d_X10_init_41 : dec m_X10_init 41 = .ok (.iaload, 1) := by decide +kernel
theorem d_X10_init_42 : dec m_X10_init 42 = .ok (.ishr, 1) := by decide +kernel
theorem d_X10_init_43 : dec m_X10_init 43 = .ok (.iconst 1, 1) := by decide +kernel
theorem d_X10_init_44 : dec m_X10_init 44 = .ok (.iand, 1) := by decide +kernel
theorem d_X10_init_45 : dec m_X10_init 45 = .ok (.ifCond .eq 142, 3) := by decide +kernel
theorem d_X10_init_48 : dec m_X10_init 48 = .ok (.iload 4, 2) := by decide +kernel
theorem d_X10_init_50 : dec m_X10_init 50 = .ok (.iload_n 3, 1) := by decide +kernel
theorem d_X10_init_51 : dec m_X10_init 51 = .ok (.if_icmp .ne 6, 3) := by decide +kernel
theorem d_X10_init_54 : dec m_X10_init 54 = .ok (.goto 133, 3) := by decide +kernel
theorem d_X10_init_57 : dec m_X10_init 57 = .ok (.iconst 0, 1) := by decide +kernel
theorem d_X10_init_58 : dec m_X10_init 58 = .ok (.istore 5, 2) := by decide +kernel
theorem d_X10_init_60 : dec m_X10_init 60 = .ok (.iload 5, 2) := by decide +kernel
theorem d_X10_init_62 : dec m_X10_init 62 = .ok (.aload_n 1, 1) := by decide +kernel
theorem d_X10_init_63 : dec m_X10_init 63 = .ok (.getfield 27, 3) := by decide +kernel
theorem d_X10_init_66 : dec m_X10_init 66 = .ok (.iload 4, 2) := by decide +kernel
theorem d_X10_init_68 : dec m_X10_init 68 = .ok (.aaload, 1) := by decide +kernel
theorem d_X10_init_69 : dec m_X10_init 69 = .ok (.arraylength, 1) := by decide +kernel
theorem d_X10_init_70 : dec m_X10_init 70 = .ok (.if_icmp .ge 117, 3) := by decide +kernel
theorem d_X10_init_73 : dec m_X10_init 73 = .ok (.aload_n 1, 1) := by decide +kernel
theorem d_X10_init_74 : dec m_X10_init 74 = .ok (.getfield 30, 3) := by decide +kernel
theorem d_X10_init_77 : dec m_X10_init 77 = .ok (.iload 4, 2) := by decide +kernel
theorem d_X10_init_79 : dec m_X10_init 79 = .ok (.baload, 1) := by decide +kernel
theorem d_X10_init_80 : dec m_X10_init 80 = .ok (.ifCond .eq 56, 3) := by decide +kernel
theorem d_X10_init_83 : dec m_X10_init 83 = .ok (.aload_n 0, 1) := by decide +kernel
theorem d_X10_init_84 : dec m_X10_init 84 = .ok (.getfield 15, 3) := by decide +kernel
theorem d_X10_init_87 : dec m_X10_init 87 = .ok (.aload_n 0, 1) := by decide +kernel
theorem d_X10_init_88 : dec m_X10_init 88 = .ok (.getfield 34, 3) := by decide +kernel
theorem d_X10_init_91 : dec m_X10_init 91 = .ok (.iconst 3, 1) := by decide +kernel
theorem d_X10_init_92 : dec m_X10_init 92 = .ok (.newarray .int, 2) := by decide +kernel
theorem d_X10_init_94 : dec m_X10_init 94 = .ok (.dup, 1) := by decide +kernel
theorem d_X10_init_95 : dec m_X10_init 95 = .ok (.iconst 0, 1) := by decide +kernel
theorem d_X10_init_96 : dec m_X10_init 96 = .ok (.iload 4, 2) := by decide +kernel
theorem d_X10_init_98 : dec m_X10_init 98 = .ok (.iastore, 1) := by decide +kernel
theorem d_X10_init_99 : dec m_X10_init 99 = .ok (.dup, 1) := by decide +kernel
theorem d_X10_init_100 : dec m_X10_init 100 = .ok (.iconst 1, 1) := by decide +kernel
theorem d_X10_init_101 : dec m_X10_init 101 = .ok (.iload 5, 2) := by decide +kernel
theorem d_X10_init_103 : dec m_X10_init 103 = .ok (.iastore, 1) := by decide +kernel
theorem d_X10_init_104 : dec m_X10_init 104 = .ok (.dup, 1) := by decide +kernel
theorem d_X10_init_105 : dec m_X10_init 105 = .ok (.iconst 2, 1) := by decide +kernel
theorem d_X10_init_106 : dec m_X10_init 106 = .ok (.aload_n 1, 1) := by decide +kernel
theorem d_X10_init_107 : dec m_X10_init 107 = .ok (.getfield 27, 3) := by decide +kernel
theorem d_X10_init_110 : dec m_X10_init 110 = .ok (.iload 4, 2) := by decide +kernel
theorem d_X10_init_112 : dec m_X10_init 112 = .ok (.aaload, 1) := by decide +kernel
theorem d_X10_init_113 : dec m_X10_init 113 = .ok (.iload 5, 2) := by decide +kernel
theorem d_X10_init_115 : dec m_X10_init 115 = .ok (.iaload, 1) := by decide +kernel
theorem d_X10_init_116 : dec m_X10_init 116 = .ok (.aload_n 1, 1) := by decide +kernel
theorem d_X10_init_117 : dec m_X10_init 117 = .ok (.getfield 37, 3) := by decide +kernel
theorem d_X10_init_120 : dec m_X10_init 120 = .ok (.iadd, 1) := by decide +kernel
theorem d_X10_init_121 : dec m_X10_init 121 = .ok (.iastore, 1) := by decide +kernel
theorem d_X10_init_122 : dec m_X10_init 122 = .ok (.aastore, 1) := by decide +kernel
theorem d_X10_init_123 : dec m_X10_init 123 = .ok (.aload_n 0, 1) := by decide +kernel
theorem d_X10_init_124 : dec m_X10_init 124 = .ok (.dup, 1) := by decide +kernel
theorem d_X10_init_125 : dec m_X10_init 125 = .ok (.getfield 34, 3) := by decide +kernel
theorem d_X10_init_128 : dec m_X10_init 128 = .ok (.iconst 1, 1) := by decide +kernel
theorem d_X10_init_129 : dec m_X10_init 129 = .ok (.iadd, 1) := by decide +kernel
theorem d_X10_init_130 : dec m_X10_init 130 = .ok (.putfield 34, 3) := by decide +kernel
theorem d_X10_init_133 : dec m_X10_init 133 = .ok (.goto 48, 3) := by decide +kernel
theorem d_X10_init_136 : dec m_X10_init 136 = .ok (.aload_n 0, 1) := by decide +kernel
theorem d_X10_init_137 : dec m_X10_init 137 = .ok (.getfield 9, 3) := by decide +kernel
theorem d_X10_init_140 : dec m_X10_init 140 = .ok (.aload_n 0, 1) := by decide +kernel
theorem d_X10_init_141 : dec m_X10_init 141 = .ok (.getfield 40, 3) := by decide +kernel
theorem d_X10_init_144 : dec m_X10_init 144 = .ok (.iconst 3, 1) := by decide +kernel
theorem d_X10_init_145 : dec m_X10_init 145 = .ok (.newarray .int, 2) := by decide +kernel
theorem d_X10_init_147 : dec m_X10_init 147 = .ok (.dup, 1) := by decide +kernel
theorem d_X10_init_148 : dec m_X10_init 148 = .ok (.iconst 0, 1) := by decide +kernel
theorem d_X10_init_149 : dec m_X10_init 149 = .ok (.iload 4, 2) := by decide +kernel
theorem d_X10_init_151 : dec m_X10_init 151 = .ok (.iastore, 1) := by decide +kernel
theorem d_X10_init_152 : dec m_X10_init 152 = .ok (.dup, 1) := by decide +kernel
theorem d_X10_init_153 : dec m_X10_init 153 = .ok (.iconst 1, 1) := by decide +kernel
theorem d_X10_init_154 : dec m_X10_init 154 = .ok (.iload 5, 2) := by decide +kernel
theorem d_X10_init_156 : dec m_X10_init 156 = .ok (.iastore, 1) := by decide +kernel
theorem d_X10_init_157 : dec m_X10_init 157 = .ok (.dup, 1) := by decide +kernel
theorem d_X10_init_158 : dec m_X10_init 158 = .ok (.iconst 2, 1) := by decide +kernel
theorem d_X10_init_159 : dec m_X10_init 159 = .ok (.aload_n 1, 1) := by decide +kernel
theorem d_X10_init_160 : dec m_X10_init 160 = .ok (.getfield 27, 3) := by decide +kernel
theorem d_X10_init_163 : dec m_X10_init 163 = .ok (.iload 4, 2) := by decide +kernel
theorem d_X10_init_165 : dec m_X10_init 165 = .ok (.aaload, 1) := by decide +kernel
theorem d_X10_init_166 : dec m_X10_init 166 = .ok (.iload 5, 2) := by decide +kernel
theorem d_X10_init_168 : dec m_X10_init 168 = .ok (.iaload, 1) := by decide +kernel
theorem d_X10_init_169 : dec m_X10_init 169 = .ok (.iastore, 1) := by decide +kernel
theorem d_X10_init_170 : dec m_X10_init 170 = .ok (.aastore, 1) := by decide +kernel
theorem d_X10_init_171 : dec m_X10_init 171 = .ok (.aload_n 0, 1) := by decide +kernel
theorem d_X10_init_172 : dec m_X10_init 172 = .ok (.dup, 1) := by decide +kernel
theorem d_X10_init_173 : dec m_X10_init 173 = .ok (.getfield 40, 3) := by decide +kernel
theorem d_X10_init_176 : dec m_X10_init 176 = .ok (.iconst 1, 1) := by decide +kernel
theorem d_X10_init_177 : dec m_X10_init 177 = .ok (.iadd, 1) := by decide +kernel
theorem d_X10_init_178 : dec m_X10_init 178 = .ok (.putfield 40, 3) := by decide +kernel
theorem d_X10_init_181 : dec m_X10_init 181 = .ok (.iinc 5 1, 3) := by decide +kernel
theorem d_X10_init_184 : dec m_X10_init 184 = .ok (.goto (-124), 3) := by decide +kernel
theorem d_X10_init_187 : dec m_X10_init 187 = .ok (.iinc 4 1, 3) := by decide +kernel
theorem d_X10_init_190 : dec m_X10_init 190 = .ok (.goto (-165), 3) := by decide +kernel
theorem d_X10_init_193 : dec m_X10_init 193 = .ok (.aload_n 0, 1) := by decide +kernel
theorem d_X10_init_194 : dec m_X10_init 194 = .ok (.getfield 9, 3) := by decide +kernel
theorem d_X10_init_197 : dec m_X10_init 197 = .ok (.aload_n 0, 1) := by decide +kernel
theorem d_X10_init_198 : dec m_X10_init 198 = .ok (.getfield 40, 3) := by decide +kernel
theorem d_X10_init_201 : dec m_X10_init 201 = .ok (.iconst (-1), 1) := by decide +kernel
theorem d_X10_init_202 : dec m_X10_init 202 = .ok (.invokestatic 43, 3) := by decide +kernel
theorem d_X10_init_205 : dec m_X10_init 205 = .ok (.aload_n 0, 1) := by decide +kernel
theorem d_X10_init_206 : dec m_X10_init 206 = .ok (.getfield 15, 3) := by decide +kernel
theorem d_X10_init_209 : dec m_X10_init 209 = .ok (.aload_n 0, 1) := by decide +kernel
theorem d_X10_init_210 : dec m_X10_init 210 = .ok (.getfield 34, 3) := by decide +kernel
theorem d_X10_init_213 : dec m_X10_init 213 = .ok (.iconst 1, 1) := by decide +kernel
theorem d_X10_init_214 : dec m_X10_init 214 = .ok (.invokestatic 43, 3) := by decide +kernel
theorem d_X10_init_217 : dec m_X10_init 217 = .ok (.iconst 0, 1) := by decide +kernel
theorem d_X10_init_218 : dec m_X10_init 218 = .ok (.istore 4, 2) := by decide +kernel
theorem d_X10_init_220 : dec m_X10_init 220 = .ok (.iload 4, 2) := by decide +kernel
theorem d_X10_init_222 : dec m_X10_init 222 = .ok (.aload_n 0, 1) := by decide +kernel
theorem d_X10_init_223 : dec m_X10_init 223 = .ok (.getfield 40, 3) := by decide +kernel
theorem d_X10_init_226 : dec m_X10_init 226 = .ok (.if_icmp .ge 77, 3) := by decide +kernel
theorem d_X10_init_229 : dec m_X10_init 229 = .ok (.iload 4, 2) := by decide +kernel
theorem d_X10_init_231 : dec m_X10_init 231 = .ok (.aload_n 0, 1) := by decide +kernel
theorem d_X10_init_232 : dec m_X10_init 232 = .ok (.getfield 34, 3) := by decide +kernel
theorem d_X10_init_235 : dec m_X10_init 235 = .ok (.if_icmp .ge 68, 3) := by decide +kernel
theorem d_X10_init_238 : dec m_X10_init 238 = .ok (.aload_n 0, 1) := by decide +kernel
theorem d_X10_init_239 : dec m_X10_init 239 = .ok (.getfield 9, 3) := by decide +kernel
theorem d_X10_init_242 : dec m_X10_init 242 = .ok (.iload 4, 2) := by decide +kernel
theorem d_X10_init_244 : dec m_X10_init 244 = .ok (.aaload, 1) := by decide +kernel
theorem d_X10_init_245 : dec m_X10_init 245 = .ok (.iconst 2, 1) := by decide +kernel
theorem d_X10_init_246 : dec m_X10_init 246 = .ok (.iaload, 1) := by decide +kernel
theorem d_X10_init_247 : dec m_X10_init 247 = .ok (.aload_n 0, 1) := by decide +kernel
theorem d_X10_init_248 : dec m_X10_init 248 = .ok (.getfield 15, 3) := by decide +kernel
theorem d_X10_init_251 : dec m_X10_init 251 = .ok (.iload 4, 2) := by decide +kernel
theorem d_X10_init_253 : dec m_X10_init 253 = .ok (.aaload, 1) := by decide +kernel
theorem d_X10_init_254 : dec m_X10_init 254 = .ok (.iconst 2, 1) := by decide +kernel
theorem d_X10_init_255 : dec m_X10_init 255 = .ok (.iaload, 1) := by decide +kernel
theorem d_X10_init_256 : dec m_X10_init 256 = .ok (.if_icmp .lt 47, 3) := by decide +kernel
theorem d_X10_init_259 : dec m_X10_init 259 = .ok (.aload_n 0, 1) := by decide +kernel
theorem d_X10_init_260 : dec m_X10_init 260 = .ok (.dup, 1) := by decide +kernel
theorem d_X10_init_261 : dec m_X10_init 261 = .ok (.getfield 47, 3) := by decide +kernel
theorem d_X10_init_264 : dec m_X10_init 264 = .ok (.aload_n 0, 1) := by decide +kernel
theorem d_X10_init_265 : dec m_X10_init 265 = .ok (.getfield 9, 3) := by decide +kernel
theorem d_X10_init_268 : dec m_X10_init 268 = .ok (.iload 4, 2) := by decide +kernel
theorem d_X10_init_270 : dec m_X10_init 270 = .ok (.aaload, 1) := by decide +kernel
theorem d_X10_init_271 : dec m_X10_init 271 = .ok (.iconst 2, 1) := by decide +kernel
theorem d_X10_init_272 : dec m_X10_init 272 = .ok (.iaload, 1) := by decide +kernel
theorem d_X10_init_273 : dec m_X10_init 273 = .ok (.aload_n 0, 1) := by decide +kernel
theorem d_X10_init_274 : dec m_X10_init 274 = .ok (.getfield 15, 3) := by decide +kernel
theorem d_X10_init_277 : dec m_X10_init 277 = .ok (.iload 4, 2) := by decide +kernel
theorem d_X10_init_279 : dec m_X10_init 279 = .ok (.aaload, 1) := by decide +kernel
theorem d_X10_init_280 : dec m_X10_init 280 = .ok (.iconst 2, 1) := by decide +kernel
theorem d_X10_init_281 : dec m_X10_init 281 = .ok (.iaload, 1) := by decide +kernel
theorem d_X10_init_282 : dec m_X10_init 282 = .ok (.isub, 1) := by decide +kernel
theorem d_X10_init_283 : dec m_X10_init 283 = .ok (.iadd, 1) := by decide +kernel
theorem d_X10_init_284 : dec m_X10_init 284 = .ok (.putfield 47, 3) := by decide +kernel
theorem d_X10_init_287 : dec m_X10_init 287 = .ok (.aload_n 0, 1) := by decide +kernel
theorem d_X10_init_288 : dec m_X10_init 288 = .ok (.dup, 1) := by decide +kernel
theorem d_X10_init_289 : dec m_X10_init 289 = .ok (.getfield 50, 3) := by decide +kernel
theorem d_X10_init_292 : dec m_X10_init 292 = .ok (.iconst 1, 1) := by decide +kernel
theorem d_X10_init_293 : dec m_X10_init 293 = .ok (.iadd, 1) := by decide +kernel
theorem d_X10_init_294 : dec m_X10_init 294 = .ok (.putfield 50, 3) := by decide +kernel
theorem d_X10_init_297 : dec m_X10_init 297 = .ok (.iinc 4 1, 3) := by decide +kernel
theorem d_X10_init_300 : dec m_X10_init 300 = .ok (.goto (-80), 3) := by decide +kernel
theorem d_X10_init_303 : dec m_X10_init 303 = .ok (.return_, 1) := by decide +kernel
theorem d_X10_orders_0 : dec m_X10_orders 0 = .ok (.iconst 0, 1) := by decide +kernel
theorem d_X10_orders_1 : dec m_X10_orders 1 = .ok (.istore_n 3, 1) := by decide +kernel
theorem d_X10_orders_2 : dec m_X10_orders 2 = .ok (.iload_n 3, 1) := by decide +kernel
theorem d_X10_orders_3 : dec m_X10_orders 3 = .ok (.iload_n 1, 1) := by decide +kernel
theorem d_X10_orders_4 : dec m_X10_orders 4 = .ok (.if_icmp .ge 74, 3) := by decide +kernel
theorem d_X10_orders_7 : dec m_X10_orders 7 = .ok (.iconst 0, 1) := by decide +kernel
theorem d_X10_orders_8 : dec m_X10_orders 8 = .ok (.istore 4, 2) := by decide +kernel
theorem d_X10_orders_10 : dec m_X10_orders 10 = .ok (.iload 4, 2) := by decide +kernel
theorem d_X10_orders_12 : dec m_X10_orders 12 = .ok (.iconst 1, 1) := by decide +kernel
theorem d_X10_orders_13 : dec m_X10_orders 13 = .ok (.iadd, 1) := by decide +kernel
theorem d_X10_orders_14 : dec m_X10_orders 14 = .ok (.iload_n 1, 1) := by decide +kernel
theorem d_X10_orders_15 : dec m_X10_orders 15 = .ok (.if_icmp .ge 57, 3) := by decide +kernel
theorem d_X10_orders_18 : dec m_X10_orders 18 = .ok (.iload_n 2, 1) := by decide +kernel
theorem d_X10_orders_19 : dec m_X10_orders 19 = .ok (.aload_n 0, 1) := by decide +kernel
theorem d_X10_orders_20 : dec m_X10_orders 20 = .ok (.iload 4, 2) := by decide +kernel
theorem d_X10_orders_22 : dec m_X10_orders 22 = .ok (.aaload, 1) := by decide +kernel
theorem d_X10_orders_23 : dec m_X10_orders 23 = .ok (.iconst 2, 1) := by decide +kernel
theorem d_X10_orders_24 : dec m_X10_orders 24 = .ok (.iaload, 1) := by decide +kernel
theorem d_X10_orders_25 : dec m_X10_orders 25 = .ok (.imul, 1) := by decide +kernel
theorem d_X10_orders_26 : dec m_X10_orders 26 = .ok (.iload_n 2, 1) := by decide +kernel
theorem d_X10_orders_27 : dec m_X10_orders 27 = .ok (.aload_n 0, 1) := by decide +kernel
theorem d_X10_orders_28 : dec m_X10_orders 28 = .ok (.iload 4, 2) := by decide +kernel
theorem d_X10_orders_30 : dec m_X10_orders 30 = .ok (.iconst 1, 1) := by decide +kernel
theorem d_X10_orders_31 : dec m_X10_orders 31 = .ok (.iadd, 1) := by decide +kernel
theorem d_X10_orders_32 : dec m_X10_orders 32 = .ok (.aaload, 1) := by decide +kernel
theorem d_X10_orders_33 : dec m_X10_orders 33 = .ok (.iconst 2, 1) := by decide +kernel
theorem d_X10_orders_34 : dec m_X10_orders 34 = .ok (.iaload, 1) := by decide +kernel
theorem d_X10_orders_35 : dec m_X10_orders 35 = .ok (.imul, 1) := by decide +kernel
theorem d_X10_orders_36 : dec m_X10_orders 36 = .ok (.if_icmp .gt 6, 3) := by decide +kernel
theorem d_X10_orders_39 : dec m_X10_orders 39 = .ok (.goto 27, 3) := by decide +kernel
theorem d_X10_orders_42 : dec m_X10_orders 42 = .ok (.aload_n 0, 1) := by decide +kernel
theorem d_X10_orders_43 : dec m_X10_orders 43 = .ok (.iload 4, 2) := by decide +kernel
theorem d_X10_orders_45 : dec m_X10_orders 45 = .ok (.aaload, 1) := by decide +kernel
theorem d_X10_orders_46 : dec m_X10_orders 46 = .ok (.astore 5, 2) := by decide +kernel
theorem d_X10_orders_48 : dec m_X10_orders 48 = .ok (.aload_n 0, 1) := by decide +kernel
theorem d_X10_orders_49 : dec m_X10_orders 49 = .ok (.iload 4, 2) := by decide +kernel
theorem d_X10_orders_51 : dec m_X10_orders 51 = .ok (.aload_n 0, 1) := by decide +kernel
theorem d_X10_orders_52 : dec m_X10_orders 52 = .ok (.iload 4, 2) := by decide +kernel
theorem d_X10_orders_54 : dec m_X10_orders 54 = .ok (.iconst 1, 1) := by decide +kernel
theorem d_X10_orders_55 : dec m_X10_orders 55 = .ok (.iadd, 1) := by decide +kernel
theorem d_X10_orders_56 : dec m_X10_orders 56 = .ok (.aaload, 1) := by decide +kernel
theorem d_X10_orders_57 : dec m_X10_orders 57 = .ok (.aastore, 1) := by decide +kernel
theorem d_X10_orders_58 : dec m_X10_orders 58 = .ok (.aload_n 0, 1) := by decide +kernel
theorem d_X10_orders_59 : dec m_X10_orders 59 = .ok (.iload 4, 2) := by decide +kernel
theorem d_X10_orders_61 : dec m_X10_orders 61 = .ok (.iconst 1, 1) := by decide +kernel
theorem d_X10_orders_62 : dec m_X10_orders 62 = .ok (.iadd, 1) := by decide +kernel
theorem d_X10_orders_63 : dec m_X10_orders 63 = .ok (.aload 5, 2) := by decide +kernel
theorem d_X10_orders_65 : dec m_X10_orders 65 = .ok (.aastore, 1) := by decide +kernel
theorem d_X10_orders_66 : dec m_X10_orders 66 = .ok (.iinc 4 1, 3) := by decide +kernel
theorem d_X10_orders_69 : dec m_X10_orders 69 = .ok (.goto (-59), 3) := by decide +kernel
theorem d_X10_orders_72 : dec m_X10_orders 72 = .ok (.iinc 3 1, 3) := by decide +kernel
theorem d_X10_orders_75 : dec m_X10_orders 75 = .ok (.goto (-73), 3) := by decide +kernel
theorem d_X10_orders_78 : dec m_X10_orders 78 = .ok (.return_, 1) := by decide +kernel
theorem d_X10_by_0 : dec m_X10_by 0 = .ok (.aload_n 0, 1) := by decide +kernel
theorem d_X10_by_1 : dec m_X10_by 1 = .ok (.iconst 0, 1) := by decide +kernel
theorem d_X10_by_2 : dec m_X10_by 2 = .ok (.putfield 53, 3) := by decide +kernel
theorem d_X10_by_5 : dec m_X10_by 5 = .ok (.aload_n 0, 1) := by decide +kernel
theorem d_X10_by_6 : dec m_X10_by 6 = .ok (.getfield 50, 3) := by decide +kernel
theorem d_X10_by_9 : dec m_X10_by 9 = .ok (.ifCond .ne 5, 3) := by decide +kernel
theorem d_X10_by_12 : dec m_X10_by 12 = .ok (.aload_n 0, 1) := by decide +kernel
theorem d_X10_by_13 : dec m_X10_by 13 = .ok (.areturn, 1) := by decide +kernel
theorem d_X10_by_14 : dec m_X10_by 14 = .ok (.aload_n 0, 1) := by decide +kernel
theorem d_X10_by_15 : dec m_X10_by 15 = .ok (.getfield 9, 3) := by decide +kernel
theorem d_X10_by_18 : dec m_X10_by 18 = .ok (.aload_n 0, 1) := by decide +kernel
theorem d_X10_by_19 : dec m_X10_by 19 = .ok (.getfield 50, 3) := by decide +kernel
theorem d_X10_by_22 : dec m_X10_by 22 = .ok (.iconst 1, 1) := by decide +kernel
theorem d_X10_by_23 : dec m_X10_by 23 = .ok (.isub, 1) := by decide +kernel
theorem d_X10_by_24 : dec m_X10_by 24 = .ok (.aaload, 1) := by decide +kernel
theorem d_X10_by_25 : dec m_X10_by 25 = .ok (.iconst 2, 1) := by decide +kernel
theorem d_X10_by_26 : dec m_X10_by 26 = .ok (.iaload, 1) := by decide +kernel
theorem d_X10_by_27 : dec m_X10_by 27 = .ok (.istore_n 3, 1) := by decide +kernel
theorem d_X10_by_28 : dec m_X10_by 28 = .ok (.aload_n 0, 1) := by decide +kernel
theorem d_X10_by_29 : dec m_X10_by 29 = .ok (.getfield 15, 3) := by decide +kernel
theorem d_X10_by_32 : dec m_X10_by 32 = .ok (.aload_n 0, 1) := by decide +kernel
theorem d_X10_by_33 : dec m_X10_by 33 = .ok (.getfield 50, 3) := by decide +kernel
theorem d_X10_by_36 : dec m_X10_by 36 = .ok (.iconst 1, 1) := by decide +kernel
theorem d_X10_by_37 : dec m_X10_by 37 = .ok (.isub, 1) := by decide +kernel
theorem d_X10_by_38 : dec m_X10_by 38 = .ok (.aaload, 1) := by decide +kernel
theorem d_X10_by_39 : dec m_X10_by 39 = .ok (.iconst 2, 1) := by decide +kernel
theorem d_X10_by_40 : dec m_X10_by 40 = .ok (.iaload, 1) := by decide +kernel
theorem d_X10_by_41 : dec m_X10_by 41 = .ok (.istore 4, 2) := by decide +kernel
theorem d_X10_by_43 : dec m_X10_by 43 = .ok (.aload_n 0, 1) := by decide +kernel
theorem d_X10_by_44 : dec m_X10_by 44 = .ok (.getfield 40, 3) := by decide +kernel
theorem d_X10_by_47 : dec m_X10_by 47 = .ok (.aload_n 0, 1) := by decide +kernel
theorem d_X10_by_48 : dec m_X10_by 48 = .ok (.getfield 50, 3) := by decide +kernel
theorem d_X10_by_51 : dec m_X10_by 51 = .ok (.if_icmp .le 18, 3) := by decide +kernel
theorem d_X10_by_54 : dec m_X10_by 54 = .ok (.aload_n 0, 1) := by decide +kernel
theorem d_X10_by_55 : dec m_X10_by 55 = .ok (.getfield 34, 3) := by decide +kernel
theorem d_X10_by_58 : dec m_X10_by 58 = .ok (.aload_n 0, 1) := by decide +kernel
theorem d_X10_by_59 : dec m_X10_by 59 = .ok (.getfield 50, 3) := by decide +kernel
theorem d_X10_by_62 : dec m_X10_by 62 = .ok (.if_icmp .le 7, 3) := by decide +kernel
theorem d_X10_by_65 : dec m_X10_by 65 = .ok (.iconst 1, 1) := by decide +kernel
theorem d_X10_by_66 : dec m_X10_by 66 = .ok (.goto 4, 3) := by decide +kernel
theorem d_X10_by_69 : dec m_X10_by 69 = .ok (.iconst 0, 1) := by decide +kernel
theorem d_X10_by_70 : dec m_X10_by 70 = .ok (.istore 5, 2) := by decide +kernel
theorem d_X10_by_72 : dec m_X10_by 72 = .ok (.iload_n 1, 1) := by decide +kernel
theorem d_X10_by_73 : dec m_X10_by 73 = .ok (.ifCond .ne 36, 3) := by decide +kernel
theorem d_X10_by_76 : dec m_X10_by 76 = .ok (.iload 5, 2) := by decide +kernel
theorem d_X10_by_78 : dec m_X10_by 78 = .ok (.ifCond .eq 31, 3) := by decide +kernel
theorem d_X10_by_81 : dec m_X10_by 81 = .ok (.aload_n 0, 1) := by decide +kernel
theorem d_X10_by_82 : dec m_X10_by 82 = .ok (.getfield 9, 3) := by decide +kernel
theorem d_X10_by_85 : dec m_X10_by 85 = .ok (.aload_n 0, 1) := by decide +kernel
theorem d_X10_by_86 : dec m_X10_by 86 = .ok (.getfield 50, 3) := by decide +kernel
theorem d_X10_by_89 : dec m_X10_by 89 = .ok (.aaload, 1) := by decide +kernel
theorem d_X10_by_90 : dec m_X10_by 90 = .ok (.iconst 2, 1) := by decide +kernel
theorem d_X10_by_91 : dec m_X10_by 91 = .ok (.iaload, 1) := by decide +kernel
theorem d_X10_by_92 : dec m_X10_by 92 = .ok (.aload_n 0, 1) := by decide +kernel
theorem d_X10_by_93 : dec m_X10_by 93 = .ok (.getfield 15, 3) := by decide +kernel
theorem d_X10_by_96 : dec m_X10_by 96 = .ok (.aload_n 0, 1) := by decide +kernel
theorem d_X10_by_97 : dec m_X10_by 97 = .ok (.getfield 50, 3) := by decide +kernel
theorem d_X10_by_100 : dec m_X10_by 100 = .ok (.aaload, 1) := by decide +kernel
theorem d_X10_by_101 : dec m_X10_by 101 = .ok (.iconst 2, 1) := by decide +kernel
theorem d_X10_by_102 : dec m_X10_by 102 = .ok (.iaload, 1) := by decide +kernel
theorem d_X10_by_103 : dec m_X10_by 103 = .ok (.iadd, 1) := by decide +kernel
end
section
set_option maxRecDepth 100000
theorem d_X10_by_104 : dec m_X10_by 104 = .ok (.iconst 2, 1) := by decide +kernel
theorem d_X10_by_105 : dec m_X10_by 105 = .ok (.idiv, 1) := by decide +kernel
theorem d_X10_by_106 : dec m_X10_by 106 = .ok (.goto 9, 3) := by decide +kernel
theorem d_X10_by_109 : dec m_X10_by 109 = .ok (.iload_n 3, 1) := by decide +kernel
theorem d_X10_by_110 : dec m_X10_by 110 = .ok (.iload 4, 2) := by decide +kernel
theorem d_X10_by_112 : dec m_X10_by 112 = .ok (.iadd, 1) := by decide +kernel
theorem d_X10_by_113 : dec m_X10_by 113 = .ok (.iconst 2, 1) := by decide +kernel
theorem d_X10_by_114 : dec m_X10_by 114 = .ok (.idiv, 1) := by decide +kernel
theorem d_X10_by_115 : dec m_X10_by 115 = .ok (.istore 6, 2) := by decide +kernel
theorem d_X10_by_117 : dec m_X10_by 117 = .ok (.iload_n 1, 1) := by decide +kernel
theorem d_X10_by_118 : dec m_X10_by 118 = .ok (.iconst 2, 1) := by decide +kernel
theorem d_X10_by_119 : dec m_X10_by 119 = .ok (.if_icmp .eq 25, 3) := by decide +kernel
theorem d_X10_by_122 : dec m_X10_by 122 = .ok (.iload_n 1, 1) := by decide +kernel
theorem d_X10_by_123 : dec m_X10_by 123 = .ok (.ifCond .ne 25, 3) := by decide +kernel
theorem d_X10_by_126 : dec m_X10_by 126 = .ok (.iload 5, 2) := by decide +kernel
theorem d_X10_by_128 : dec m_X10_by 128 = .ok (.ifCond .eq 16, 3) := by decide +kernel
theorem d_X10_by_131 : dec m_X10_by 131 = .ok (.iload 6, 2) := by decide +kernel
theorem d_X10_by_133 : dec m_X10_by 133 = .ok (.iload_n 3, 1) := by decide +kernel
theorem d_X10_by_134 : dec m_X10_by 134 = .ok (.if_icmp .gt 10, 3) := by decide +kernel
theorem d_X10_by_137 : dec m_X10_by 137 = .ok (.iload 6, 2) := by decide +kernel
theorem d_X10_by_139 : dec m_X10_by 139 = .ok (.iload 4, 2) := by decide +kernel
theorem d_X10_by_141 : dec m_X10_by 141 = .ok (.if_icmp .ge 7, 3) := by decide +kernel
theorem d_X10_by_144 : dec m_X10_by 144 = .ok (.iconst 1, 1) := by decide +kernel
theorem d_X10_by_145 : dec m_X10_by 145 = .ok (.goto 4, 3) := by decide +kernel
theorem d_X10_by_148 : dec m_X10_by 148 = .ok (.iconst 0, 1) := by decide +kernel
theorem d_X10_by_149 : dec m_X10_by 149 = .ok (.istore 7, 2) := by decide +kernel
theorem d_X10_by_151 : dec m_X10_by 151 = .ok (.aload_n 0, 1) := by decide +kernel
theorem d_X10_by_152 : dec m_X10_by 152 = .ok (.iload 7, 2) := by decide +kernel
theorem d_X10_by_154 : dec m_X10_by 154 = .ok (.ifCond .eq 12, 3) := by decide +kernel
theorem d_X10_by_157 : dec m_X10_by 157 = .ok (.aload_n 0, 1) := by decide +kernel
theorem d_X10_by_158 : dec m_X10_by 158 = .ok (.getfield 50, 3) := by decide +kernel
theorem d_X10_by_161 : dec m_X10_by 161 = .ok (.iconst 1, 1) := by decide +kernel
theorem d_X10_by_162 : dec m_X10_by 162 = .ok (.isub, 1) := by decide +kernel
theorem d_X10_by_163 : dec m_X10_by 163 = .ok (.goto 7, 3) := by decide +kernel
theorem d_X10_by_166 : dec m_X10_by 166 = .ok (.aload_n 0, 1) := by decide +kernel
theorem d_X10_by_167 : dec m_X10_by 167 = .ok (.getfield 50, 3) := by decide +kernel
theorem d_X10_by_170 : dec m_X10_by 170 = .ok (.putfield 53, 3) := by decide +kernel
theorem d_X10_by_173 : dec m_X10_by 173 = .ok (.aload_n 0, 1) := by decide +kernel
theorem d_X10_by_174 : dec m_X10_by 174 = .ok (.iload 7, 2) := by decide +kernel
theorem d_X10_by_176 : dec m_X10_by 176 = .ok (.ifCond .eq 7, 3) := by decide +kernel
theorem d_X10_by_179 : dec m_X10_by 179 = .ok (.iload_n 3, 1) := by decide +kernel
theorem d_X10_by_180 : dec m_X10_by 180 = .ok (.goto 5, 3) := by decide +kernel
theorem d_X10_by_183 : dec m_X10_by 183 = .ok (.iload 6, 2) := by decide +kernel
theorem d_X10_by_185 : dec m_X10_by 185 = .ok (.putfield 56, 3) := by decide +kernel
theorem d_X10_by_188 : dec m_X10_by 188 = .ok (.aload_n 0, 1) := by decide +kernel
theorem d_X10_by_189 : dec m_X10_by 189 = .ok (.iload 7, 2) := by decide +kernel
theorem d_X10_by_191 : dec m_X10_by 191 = .ok (.ifCond .eq 8, 3) := by decide +kernel
theorem d_X10_by_194 : dec m_X10_by 194 = .ok (.iload 4, 2) := by decide +kernel
theorem d_X10_by_196 : dec m_X10_by 196 = .ok (.goto 5, 3) := by decide +kernel
theorem d_X10_by_199 : dec m_X10_by 199 = .ok (.iload 6, 2) := by decide +kernel
theorem d_X10_by_201 : dec m_X10_by 201 = .ok (.iload_n 2, 1) := by decide +kernel
theorem d_X10_by_202 : dec m_X10_by 202 = .ok (.isub, 1) := by decide +kernel
theorem d_X10_by_203 : dec m_X10_by 203 = .ok (.putfield 59, 3) := by decide +kernel
theorem d_X10_by_206 : dec m_X10_by 206 = .ok (.aload_n 0, 1) := by decide +kernel
theorem d_X10_by_207 : dec m_X10_by 207 = .ok (.areturn, 1) := by decide +kernel
theorem d_X10_doneOf_0 : dec m_X10_doneOf 0 = .ok (.iconst 0, 1) := by decide +kernel
theorem d_X10_doneOf_1 : dec m_X10_doneOf 1 = .ok (.istore_n 2, 1) := by decide +kernel
theorem d_X10_doneOf_2 : dec m_X10_doneOf 2 = .ok (.iconst 0, 1) := by decide +kernel
theorem d_X10_doneOf_3 : dec m_X10_doneOf 3 = .ok (.istore_n 3, 1) := by decide +kernel
theorem d_X10_doneOf_4 : dec m_X10_doneOf 4 = .ok (.iload_n 3, 1) := by decide +kernel
theorem d_X10_doneOf_5 : dec m_X10_doneOf 5 = .ok (.aload_n 0, 1) := by decide +kernel
theorem d_X10_doneOf_6 : dec m_X10_doneOf 6 = .ok (.getfield 53, 3) := by decide +kernel
theorem d_X10_doneOf_9 : dec m_X10_doneOf 9 = .ok (.if_icmp .ge 41, 3) := by decide +kernel
theorem d_X10_doneOf_12 : dec m_X10_doneOf 12 = .ok (.iload_n 2, 1) := by decide +kernel
theorem d_X10_doneOf_13 : dec m_X10_doneOf 13 = .ok (.aload_n 0, 1) := by decide +kernel
theorem d_X10_doneOf_14 : dec m_X10_doneOf 14 = .ok (.getfield 9, 3) := by decide +kernel
theorem d_X10_doneOf_17 : dec m_X10_doneOf 17 = .ok (.iload_n 3, 1) := by decide +kernel
theorem d_X10_doneOf_18 : dec m_X10_doneOf 18 = .ok (.aaload, 1) := by decide +kernel
theorem d_X10_doneOf_19 : dec m_X10_doneOf 19 = .ok (.iconst 0, 1) := by decide +kernel
theorem d_X10_doneOf_20 : dec m_X10_doneOf 20 = .ok (.iaload, 1) := by decide +kernel
theorem d_X10_doneOf_21 : dec m_X10_doneOf 21 = .ok (.iload_n 1, 1) := by decide +kernel
theorem d_X10_doneOf_22 : dec m_X10_doneOf 22 = .ok (.if_icmp .eq 15, 3) := by decide +kernel
theorem d_X10_doneOf_25 : dec m_X10_doneOf 25 = .ok (.aload_n 0, 1) := by decide +kernel
theorem d_X10_doneOf_26 : dec m_X10_doneOf 26 = .ok (.getfield 15, 3) := by decide +kernel
theorem d_X10_doneOf_29 : dec m_X10_doneOf 29 = .ok (.iload_n 3, 1) := by decide +kernel
theorem d_X10_doneOf_30 : dec m_X10_doneOf 30 = .ok (.aaload, 1) := by decide +kernel
theorem d_X10_doneOf_31 : dec m_X10_doneOf 31 = .ok (.iconst 0, 1) := by decide +kernel
theorem d_X10_doneOf_32 : dec m_X10_doneOf 32 = .ok (.iaload, 1) := by decide +kernel
theorem d_X10_doneOf_33 : dec m_X10_doneOf 33 = .ok (.iload_n 1, 1) := by decide +kernel
theorem d_X10_doneOf_34 : dec m_X10_doneOf 34 = .ok (.if_icmp .ne 7, 3) := by decide +kernel
theorem d_X10_doneOf_37 : dec m_X10_doneOf 37 = .ok (.iconst 1, 1) := by decide +kernel
theorem d_X10_doneOf_38 : dec m_X10_doneOf 38 = .ok (.goto 4, 3) := by decide +kernel
theorem d_X10_doneOf_41 : dec m_X10_doneOf 41 = .ok (.iconst 0, 1) := by decide +kernel
theorem d_X10_doneOf_42 : dec m_X10_doneOf 42 = .ok (.iadd, 1) := by decide +kernel
theorem d_X10_doneOf_43 : dec m_X10_doneOf 43 = .ok (.istore_n 2, 1) := by decide +kernel
theorem d_X10_doneOf_44 : dec m_X10_doneOf 44 = .ok (.iinc 3 1, 3) := by decide +kernel
theorem d_X10_doneOf_47 : dec m_X10_doneOf 47 = .ok (.goto (-43), 3) := by decide +kernel
theorem d_X10_doneOf_50 : dec m_X10_doneOf 50 = .ok (.iload_n 2, 1) := by decide +kernel
theorem d_X10_doneOf_51 : dec m_X10_doneOf 51 = .ok (.ireturn, 1) := by decide +kernel
theorem d_J0_length_8abf5_0 : dec m_J0_length_8abf5 0 = .ok (.aload_n 0, 1) := by decide +kernel
theorem d_J0_length_8abf5_1 : dec m_J0_length_8abf5 1 = .ok (.getfield 9, 3) := by decide +kernel
theorem d_J0_length_8abf5_4 : dec m_J0_length_8abf5 4 = .ok (.arraylength, 1) := by decide +kernel
theorem d_J0_length_8abf5_5 : dec m_J0_length_8abf5 5 = .ok (.aload_n 0, 1) := by decide +kernel
theorem d_J0_length_8abf5_6 : dec m_J0_length_8abf5 6 = .ok (.invokevirtual 335, 3) := by decide +kernel
theorem d_J0_length_8abf5_9 : dec m_J0_length_8abf5 9 = .ok (.ishr, 1) := by decide +kernel
theorem d_J0_length_8abf5_10 : dec m_J0_length_8abf5 10 = .ok (.ireturn, 1) := by decide +kernel
theorem d_J0_charAt_5068e_0 : dec m_J0_charAt_5068e 0 = .ok (.aload_n 0, 1) := by decide +kernel
theorem d_J0_charAt_5068e_1 : dec m_J0_charAt_5068e 1 = .ok (.invokevirtual 492, 3) := by decide +kernel
theorem d_J0_charAt_5068e_4 : dec m_J0_charAt_5068e 4 = .ok (.ifCond .eq 12, 3) := by decide +kernel
theorem d_J0_charAt_5068e_7 : dec m_J0_charAt_5068e 7 = .ok (.aload_n 0, 1) := by decide +kernel
theorem d_J0_charAt_5068e_8 : dec m_J0_charAt_5068e 8 = .ok (.getfield 9, 3) := by decide +kernel
theorem d_J0_charAt_5068e_11 : dec m_J0_charAt_5068e 11 = .ok (.iload_n 1, 1) := by decide +kernel
theorem d_J0_charAt_5068e_12 : dec m_J0_charAt_5068e 12 = .ok (.invokestatic 495, 3) := by decide +kernel
theorem d_J0_charAt_5068e_15 : dec m_J0_charAt_5068e 15 = .ok (.ireturn, 1) := by decide +kernel
theorem d_J0_charAt_5068e_16 : dec m_J0_charAt_5068e 16 = .ok (.aload_n 0, 1) := by decide +kernel
theorem d_J0_charAt_5068e_17 : dec m_J0_charAt_5068e 17 = .ok (.getfield 9, 3) := by decide +kernel
theorem d_J0_charAt_5068e_20 : dec m_J0_charAt_5068e 20 = .ok (.iload_n 1, 1) := by decide +kernel
theorem d_J0_charAt_5068e_21 : dec m_J0_charAt_5068e 21 = .ok (.invokestatic 498, 3) := by decide +kernel
theorem d_J0_charAt_5068e_24 : dec m_J0_charAt_5068e 24 = .ok (.ireturn, 1) := by decide +kernel
theorem d_J1_charAt_3b067_0 : dec m_J1_charAt_3b067 0 = .ok (.iload_n 1, 1) := by decide +kernel
theorem d_J1_charAt_3b067_1 : dec m_J1_charAt_3b067 1 = .ok (.aload_n 0, 1) := by decide +kernel
theorem d_J1_charAt_3b067_2 : dec m_J1_charAt_3b067 2 = .ok (.arraylength, 1) := by decide +kernel
theorem d_J1_charAt_3b067_3 : dec m_J1_charAt_3b067 3 = .ok (.invokestatic 9, 3) := by decide +kernel
theorem d_J1_charAt_3b067_6 : dec m_J1_charAt_3b067 6 = .ok (.aload_n 0, 1) := by decide +kernel
theorem d_J1_charAt_3b067_7 : dec m_J1_charAt_3b067 7 = .ok (.iload_n 1, 1) := by decide +kernel
theorem d_J1_charAt_3b067_8 : dec m_J1_charAt_3b067 8 = .ok (.baload, 1) := by decide +kernel
theorem d_J1_charAt_3b067_9 : dec m_J1_charAt_3b067 9 = .ok (.sipush 255, 3) := by decide +kernel
theorem d_J1_charAt_3b067_12 : dec m_J1_charAt_3b067 12 = .ok (.iand, 1) := by decide +kernel
theorem d_J1_charAt_3b067_13 : dec m_J1_charAt_3b067 13 = .ok (.i2c, 1) := by decide +kernel
theorem d_J1_charAt_3b067_14 : dec m_J1_charAt_3b067 14 = .ok (.ireturn, 1) := by decide +kernel
theorem d_J0_checkIndex_df160_0 : dec m_J0_checkIndex_df160 0 = .ok (.iload_n 0, 1) := by decide +kernel
theorem d_J0_checkIndex_df160_1 : dec m_J0_checkIndex_df160 1 = .ok (.iload_n 1, 1) := by decide +kernel
theorem d_J0_checkIndex_df160_2 : dec m_J0_checkIndex_df160 2 = .ok (.getstatic 1053, 3) := by decide +kernel
theorem d_J0_checkIndex_df160_5 : dec m_J0_checkIndex_df160 5 = .ok (.invokestatic 1059, 3) := by decide +kernel
theorem d_J0_checkIndex_df160_8 : dec m_J0_checkIndex_df160 8 = .ok (.pop, 1) := by decide +kernel
theorem d_J0_checkIndex_df160_9 : dec m_J0_checkIndex_df160 9 = .ok (.return_, 1) := by decide +kernel
theorem d_J0_coder_7d493_0 : dec m_J0_coder_7d493 0 = .ok (.getstatic 38, 3) := by decide +kernel
theorem d_J0_coder_7d493_3 : dec m_J0_coder_7d493 3 = .ok (.ifCond .eq 10, 3) := by decide +kernel
theorem d_J0_coder_7d493_6 : dec m_J0_coder_7d493 6 = .ok (.aload_n 0, 1) := by decide +kernel
theorem d_J0_coder_7d493_7 : dec m_J0_coder_7d493 7 = .ok (.getfield 15, 3) := by decide +kernel
theorem d_J0_coder_7d493_10 : dec m_J0_coder_7d493 10 = .ok (.goto 4, 3) := by decide +kernel
theorem d_J0_coder_7d493_13 : dec m_J0_coder_7d493 13 = .ok (.iconst 1, 1) := by decide +kernel
theorem d_J0_coder_7d493_14 : dec m_J0_coder_7d493 14 = .ok (.ireturn, 1) := by decide +kernel
theorem d_J0_isLatin1_aae02_0 : dec m_J0_isLatin1_aae02 0 = .ok (.getstatic 38, 3) := by decide +kernel
theorem d_J0_isLatin1_aae02_3 : dec m_J0_isLatin1_aae02 3 = .ok (.ifCond .eq 14, 3) := by decide +kernel
theorem d_J0_isLatin1_aae02_6 : dec m_J0_isLatin1_aae02 6 = .ok (.aload_n 0, 1) := by decide +kernel
theorem d_J0_isLatin1_aae02_7 : dec m_J0_isLatin1_aae02 7 = .ok (.getfield 15, 3) := by decide +kernel
theorem d_J0_isLatin1_aae02_10 : dec m_J0_isLatin1_aae02 10 = .ok (.ifCond .ne 7, 3) := by decide +kernel
theorem d_J0_isLatin1_aae02_13 : dec m_J0_isLatin1_aae02 13 = .ok (.iconst 1, 1) := by decide +kernel
theorem d_J0_isLatin1_aae02_14 : dec m_J0_isLatin1_aae02 14 = .ok (.goto 4, 3) := by decide +kernel
theorem d_J0_isLatin1_aae02_17 : dec m_J0_isLatin1_aae02 17 = .ok (.iconst 0, 1) := by decide +kernel
theorem d_J0_isLatin1_aae02_18 : dec m_J0_isLatin1_aae02 18 = .ok (.ireturn, 1) := by decide +kernel
theorem d_J3_checkIndex_8e157_0 : dec m_J3_checkIndex_8e157 0 = .ok (.iload_n 0, 1) := by decide +kernel
theorem d_J3_checkIndex_8e157_1 : dec m_J3_checkIndex_8e157 1 = .ok (.ifCond .lt 8, 3) := by decide +kernel
theorem d_J3_checkIndex_8e157_4 : dec m_J3_checkIndex_8e157 4 = .ok (.iload_n 0, 1) := by decide +kernel
theorem d_J3_checkIndex_8e157_5 : dec m_J3_checkIndex_8e157 5 = .ok (.iload_n 1, 1) := by decide +kernel
theorem d_J3_checkIndex_8e157_6 : dec m_J3_checkIndex_8e157 6 = .ok (.if_icmp .lt 10, 3) := by decide +kernel
theorem d_J3_checkIndex_8e157_9 : dec m_J3_checkIndex_8e157 9 = .ok (.aload_n 2, 1) := by decide +kernel
theorem d_J3_checkIndex_8e157_10 : dec m_J3_checkIndex_8e157 10 = .ok (.iload_n 0, 1) := by decide +kernel
theorem d_J3_checkIndex_8e157_11 : dec m_J3_checkIndex_8e157 11 = .ok (.iload_n 1, 1) := by decide +kernel
theorem d_J3_checkIndex_8e157_12 : dec m_J3_checkIndex_8e157 12 = .ok (.invokestatic 95, 3) := by decide +kernel
theorem d_J3_checkIndex_8e157_15 : dec m_J3_checkIndex_8e157 15 = .ok (.athrow, 1) := by decide +kernel
theorem d_J3_checkIndex_8e157_16 : dec m_J3_checkIndex_8e157 16 = .ok (.iload_n 0, 1) := by decide +kernel
theorem d_J3_checkIndex_8e157_17 : dec m_J3_checkIndex_8e157 17 = .ok (.ireturn, 1) := by decide +kernel
theorem d_J4_init_d00df_0 : dec m_J4_init_d00df 0 = .ok (.aload_n 0, 1) := by decide +kernel
theorem d_J4_init_d00df_1 : dec m_J4_init_d00df 1 = .ok (.iload_n 1, 1) := by decide +kernel
theorem d_J4_init_d00df_2 : dec m_J4_init_d00df 2 = .ok (.invokespecial 1, 3) := by decide +kernel
theorem d_J4_init_d00df_5 : dec m_J4_init_d00df 5 = .ok (.return_, 1) := by decide +kernel
theorem d_J5_init_d00df_0 : dec m_J5_init_d00df 0 = .ok (.aload_n 0, 1) := by decide +kernel
theorem d_J5_init_d00df_1 : dec m_J5_init_d00df 1 = .ok (.invokespecial 3, 3) := by decide +kernel
theorem d_J5_init_d00df_4 : dec m_J5_init_d00df 4 = .ok (.getstatic 18, 3) := by decide +kernel
theorem d_J5_init_d00df_7 : dec m_J5_init_d00df 7 = .ok (.ifCond .eq 18, 3) := by decide +kernel
theorem d_J5_init_d00df_10 : dec m_J5_init_d00df 10 = .ok (.aload_n 0, 1) := by decide +kernel
theorem d_J5_init_d00df_11 : dec m_J5_init_d00df 11 = .ok (.iload_n 1, 1) := by decide +kernel
theorem d_J5_init_d00df_12 : dec m_J5_init_d00df 12 = .ok (.newarray .byte, 2) := by decide +kernel
theorem d_J5_init_d00df_14 : dec m_J5_init_d00df 14 = .ok (.putfield 15, 3) := by decide +kernel
theorem d_J5_init_d00df_17 : dec m_J5_init_d00df 17 = .ok (.aload_n 0, 1) := by decide +kernel
theorem d_J5_init_d00df_18 : dec m_J5_init_d00df 18 = .ok (.iconst 0, 1) := by decide +kernel
theorem d_J5_init_d00df_19 : dec m_J5_init_d00df 19 = .ok (.putfield 22, 3) := by decide +kernel
theorem d_J5_init_d00df_22 : dec m_J5_init_d00df 22 = .ok (.goto 16, 3) := by decide +kernel
theorem d_J5_init_d00df_25 : dec m_J5_init_d00df 25 = .ok (.aload_n 0, 1) := by decide +kernel
theorem d_J5_init_d00df_26 : dec m_J5_init_d00df 26 = .ok (.iload_n 1, 1) := by decide +kernel
theorem d_J5_init_d00df_27 : dec m_J5_init_d00df 27 = .ok (.invokestatic 26, 3) := by decide +kernel
theorem d_J5_init_d00df_30 : dec m_J5_init_d00df 30 = .ok (.putfield 15, 3) := by decide +kernel
theorem d_J5_init_d00df_33 : dec m_J5_init_d00df 33 = .ok (.aload_n 0, 1) := by decide +kernel
theorem d_J5_init_d00df_34 : dec m_J5_init_d00df 34 = .ok (.iconst 1, 1) := by decide +kernel
theorem d_J5_init_d00df_35 : dec m_J5_init_d00df 35 = .ok (.putfield 22, 3) := by decide +kernel
theorem d_J5_init_d00df_38 : dec m_J5_init_d00df 38 = .ok (.return_, 1) := by decide +kernel
theorem d_J4_append_15ec4_0 : dec m_J4_append_15ec4 0 = .ok (.aload_n 0, 1) := by decide +kernel
theorem d_J4_append_15ec4_1 : dec m_J4_append_15ec4 1 = .ok (.aload_n 1, 1) := by decide +kernel
theorem d_J4_append_15ec4_2 : dec m_J4_append_15ec4 2 = .ok (.invokespecial 29, 3) := by decide +kernel
theorem d_J4_append_15ec4_5 : dec m_J4_append_15ec4 5 = .ok (.pop, 1) := by decide +kernel
theorem d_J4_append_15ec4_6 : dec m_J4_append_15ec4 6 = .ok (.aload_n 0, 1) := by decide +kernel
theorem d_J4_append_15ec4_7 : dec m_J4_append_15ec4 7 = .ok (.areturn, 1) := by decide +kernel
theorem d_J4_append_cf468_0 : dec m_J4_append_cf468 0 = .ok (.aload_n 0, 1) := by decide +kernel
theorem d_J4_append_cf468_1 : dec m_J4_append_cf468 1 = .ok (.iload_n 1, 1) := by decide +kernel
theorem d_J4_append_cf468_2 : dec m_J4_append_cf468 2 = .ok (.invokespecial 50, 3) := by decide +kernel
theorem d_J4_append_cf468_5 : dec m_J4_append_cf468 5 = .ok (.pop, 1) := by decide +kernel
theorem d_J4_append_cf468_6 : dec m_J4_append_cf468 6 = .ok (.aload_n 0, 1) := by decide +kernel
theorem d_J4_append_cf468_7 : dec m_J4_append_cf468 7 = .ok (.areturn, 1) := by decide +kernel
theorem d_J4_append_bf812_0 : dec m_J4_append_bf812 0 = .ok (.aload_n 0, 1) := by decide +kernel
theorem d_J4_append_bf812_1 : dec m_J4_append_bf812 1 = .ok (.iload_n 1, 1) := by decide +kernel
theorem d_J4_append_bf812_2 : dec m_J4_append_bf812 2 = .ok (.invokespecial 53, 3) := by decide +kernel
theorem d_J4_append_bf812_5 : dec m_J4_append_bf812 5 = .ok (.pop, 1) := by decide +kernel
theorem d_J4_append_bf812_6 : dec m_J4_append_bf812 6 = .ok (.aload_n 0, 1) := by decide +kernel
theorem d_J4_append_bf812_7 : dec m_J4_append_bf812 7 = .ok (.areturn, 1) := by decide +kernel
theorem d_J4_toString_0e30d_0 : dec m_J4_toString_0e30d 0 = .ok (.new 18, 3) := by decide +kernel
theorem d_J4_toString_0e30d_3 : dec m_J4_toString_0e30d 3 = .ok (.dup, 1) := by decide +kernel
theorem d_J4_toString_0e30d_4 : dec m_J4_toString_0e30d 4 = .ok (.aload_n 0, 1) := by decide +kernel
theorem d_J4_toString_0e30d_5 : dec m_J4_toString_0e30d 5 = .ok (.invokespecial 137, 3) := by decide +kernel
theorem d_J4_toString_0e30d_8 : dec m_J4_toString_0e30d 8 = .ok (.areturn, 1) := by decide +kernel
theorem d_J4_length_8abf5_0 : dec m_J4_length_8abf5 0 = .ok (.aload_n 0, 1) := by decide +kernel
theorem d_J4_length_8abf5_1 : dec m_J4_length_8abf5 1 = .ok (.invokespecial 343, 3) := by decide +kernel
theorem d_J4_length_8abf5_4 : dec m_J4_length_8abf5 4 = .ok (.ireturn, 1) := by decide +kernel
theorem d_J5_length_8abf5_0 : dec m_J5_length_8abf5 0 = .ok (.aload_n 0, 1) := by decide +kernel
theorem d_J5_length_8abf5_1 : dec m_J5_length_8abf5 1 = .ok (.getfield 79, 3) := by decide +kernel
theorem d_J5_length_8abf5_4 : dec m_J5_length_8abf5 4 = .ok (.ireturn, 1) := by decide +kernel
theorem d_J5_append_cf1ce_0 : dec m_J5_append_cf1ce 0 = .ok (.aload_n 1, 1) := by decide +kernel
theorem d_J5_append_cf1ce_1 : dec m_J5_append_cf1ce 1 = .ok (.ifnonnull 8, 3) := by decide +kernel
theorem d_J5_append_cf1ce_4 : dec m_J5_append_cf1ce 4 = .ok (.aload_n 0, 1) := by decide +kernel
theorem d_J5_append_cf1ce_5 : dec m_J5_append_cf1ce 5 = .ok (.invokevirtual 204, 3) := by decide +kernel
theorem d_J5_append_cf1ce_8 : dec m_J5_append_cf1ce 8 = .ok (.areturn, 1) := by decide +kernel
theorem d_J5_append_cf1ce_9 : dec m_J5_append_cf1ce 9 = .ok (.aload_n 1, 1) := by decide +kernel
theorem d_J5_append_cf1ce_10 : dec m_J5_append_cf1ce 10 = .ok (.invokevirtual 32, 3) := by decide +kernel
theorem d_J5_append_cf1ce_13 : dec m_J5_append_cf1ce 13 = .ok (.istore_n 2, 1) := by decide +kernel
theorem d_J5_append_cf1ce_14 : dec m_J5_append_cf1ce 14 = .ok (.aload_n 0, 1) := by decide +kernel
theorem d_J5_append_cf1ce_15 : dec m_J5_append_cf1ce 15 = .ok (.aload_n 0, 1) := by decide +kernel
theorem d_J5_append_cf1ce_16 : dec m_J5_append_cf1ce 16 = .ok (.getfield 79, 3) := by decide +kernel
theorem d_J5_append_cf1ce_19 : dec m_J5_append_cf1ce 19 = .ok (.iload_n 2, 1) := by decide +kernel
theorem d_J5_append_cf1ce_20 : dec m_J5_append_cf1ce 20 = .ok (.iadd, 1) := by decide +kernel
theorem d_J5_append_cf1ce_21 : dec m_J5_append_cf1ce 21 = .ok (.invokevirtual 100, 3) := by decide +kernel
theorem d_J5_append_cf1ce_24 : dec m_J5_append_cf1ce 24 = .ok (.aload_n 0, 1) := by decide +kernel
theorem d_J5_append_cf1ce_25 : dec m_J5_append_cf1ce 25 = .ok (.aload_n 0, 1) := by decide +kernel
theorem d_J5_append_cf1ce_26 : dec m_J5_append_cf1ce 26 = .ok (.getfield 79, 3) := by decide +kernel
theorem d_J5_append_cf1ce_29 : dec m_J5_append_cf1ce 29 = .ok (.aload_n 1, 1) := by decide +kernel
theorem d_J5_append_cf1ce_30 : dec m_J5_append_cf1ce 30 = .ok (.invokevirtual 208, 3) := by decide +kernel
theorem d_J5_append_cf1ce_33 : dec m_J5_append_cf1ce 33 = .ok (.aload_n 0, 1) := by decide +kernel
theorem d_J5_append_cf1ce_34 : dec m_J5_append_cf1ce 34 = .ok (.dup, 1) := by decide +kernel
theorem d_J5_append_cf1ce_35 : dec m_J5_append_cf1ce 35 = .ok (.getfield 79, 3) := by decide +kernel
theorem d_J5_append_cf1ce_38 : dec m_J5_append_cf1ce 38 = .ok (.iload_n 2, 1) := by decide +kernel
theorem d_J5_append_cf1ce_39 : dec m_J5_append_cf1ce 39 = .ok (.iadd, 1) := by decide +kernel
theorem d_J5_append_cf1ce_40 : dec m_J5_append_cf1ce 40 = .ok (.putfield 79, 3) := by decide +kernel
theorem d_J5_append_cf1ce_43 : dec m_J5_append_cf1ce 43 = .ok (.aload_n 0, 1) := by decide +kernel
theorem d_J5_append_cf1ce_44 : dec m_J5_append_cf1ce 44 = .ok (.areturn, 1) := by decide +kernel
theorem d_J5_append_3fe6f_0 : dec m_J5_append_3fe6f 0 = .ok (.aload_n 0, 1) := by decide +kernel
theorem d_J5_append_3fe6f_1 : dec m_J5_append_3fe6f 1 = .ok (.aload_n 0, 1) := by decide +kernel
theorem d_J5_append_3fe6f_2 : dec m_J5_append_3fe6f 2 = .ok (.getfield 79, 3) := by decide +kernel
theorem d_J5_append_3fe6f_5 : dec m_J5_append_3fe6f 5 = .ok (.iconst 1, 1) := by decide +kernel
theorem d_J5_append_3fe6f_6 : dec m_J5_append_3fe6f 6 = .ok (.iadd, 1) := by decide +kernel
theorem d_J5_append_3fe6f_7 : dec m_J5_append_3fe6f 7 = .ok (.invokevirtual 100, 3) := by decide +kernel
theorem d_J5_append_3fe6f_10 : dec m_J5_append_3fe6f 10 = .ok (.aload_n 0, 1) := by decide +kernel
theorem d_J5_append_3fe6f_11 : dec m_J5_append_3fe6f 11 = .ok (.invokevirtual 83, 3) := by decide +kernel
theorem d_J5_append_3fe6f_14 : dec m_J5_append_3fe6f 14 = .ok (.ifCond .eq 31, 3) := by decide +kernel
theorem d_J5_append_3fe6f_17 : dec m_J5_append_3fe6f 17 = .ok (.iload_n 1, 1) := by decide +kernel
theorem d_J5_append_3fe6f_18 : dec m_J5_append_3fe6f 18 = .ok (.invokestatic 191, 3) := by decide +kernel
theorem d_J5_append_3fe6f_21 : dec m_J5_append_3fe6f 21 = .ok (.ifCond .eq 24, 3) := by decide +kernel
theorem d_J5_append_3fe6f_24 : dec m_J5_append_3fe6f 24 = .ok (.aload_n 0, 1) := by decide +kernel
theorem d_J5_append_3fe6f_25 : dec m_J5_append_3fe6f 25 = .ok (.getfield 15, 3) := by decide +kernel
theorem d_J5_append_3fe6f_28 : dec m_J5_append_3fe6f 28 = .ok (.aload_n 0, 1) := by decide +kernel
theorem d_J5_append_3fe6f_29 : dec m_J5_append_3fe6f 29 = .ok (.dup, 1) := by decide +kernel
theorem d_J5_append_3fe6f_30 : dec m_J5_append_3fe6f 30 = .ok (.getfield 79, 3) := by decide +kernel
theorem d_J5_append_3fe6f_33 : dec m_J5_append_3fe6f 33 = .ok (.dup_x1, 1) := by decide +kernel
theorem d_J5_append_3fe6f_34 : dec m_J5_append_3fe6f 34 = .ok (.iconst 1, 1) := by decide +kernel
theorem d_J5_append_3fe6f_35 : dec m_J5_append_3fe6f 35 = .ok (.iadd, 1) := by decide +kernel
theorem d_J5_append_3fe6f_36 : dec m_J5_append_3fe6f 36 = .ok (.putfield 79, 3) := by decide +kernel
theorem d_J5_append_3fe6f_39 : dec m_J5_append_3fe6f 39 = .ok (.iload_n 1, 1) := by decide +kernel
theorem d_J5_append_3fe6f_40 : dec m_J5_append_3fe6f 40 = .ok (.i2b, 1) := by decide +kernel
theorem d_J5_append_3fe6f_41 : dec m_J5_append_3fe6f 41 = .ok (.bastore, 1) := by decide +kernel
theorem d_J5_append_3fe6f_42 : dec m_J5_append_3fe6f 42 = .ok (.goto 33, 3) := by decide +kernel
theorem d_J5_append_3fe6f_45 : dec m_J5_append_3fe6f 45 = .ok (.aload_n 0, 1) := by decide +kernel
theorem d_J5_append_3fe6f_46 : dec m_J5_append_3fe6f 46 = .ok (.invokevirtual 83, 3) := by decide +kernel
theorem d_J5_append_3fe6f_49 : dec m_J5_append_3fe6f 49 = .ok (.ifCond .eq 7, 3) := by decide +kernel
theorem d_J5_append_3fe6f_52 : dec m_J5_append_3fe6f 52 = .ok (.aload_n 0, 1) := by decide +kernel
theorem d_J5_append_3fe6f_53 : dec m_J5_append_3fe6f 53 = .ok (.invokevirtual 195, 3) := by decide +kernel
theorem d_J5_append_3fe6f_56 : dec m_J5_append_3fe6f 56 = .ok (.aload_n 0, 1) := by decide +kernel
theorem d_J5_append_3fe6f_57 : dec m_J5_append_3fe6f 57 = .ok (.getfield 15, 3) := by decide +kernel
theorem d_J5_append_3fe6f_60 : dec m_J5_append_3fe6f 60 = .ok (.aload_n 0, 1) := by decide +kernel
theorem d_J5_append_3fe6f_61 : dec m_J5_append_3fe6f 61 = .ok (.dup, 1) := by decide +kernel
theorem d_J5_append_3fe6f_62 : dec m_J5_append_3fe6f 62 = .ok (.getfield 79, 3) := by decide +kernel
theorem d_J5_append_3fe6f_65 : dec m_J5_append_3fe6f 65 = .ok (.dup_x1, 1) := by decide +kernel
theorem d_J5_append_3fe6f_66 : dec m_J5_append_3fe6f 66 = .ok (.iconst 1, 1) := by decide +kernel
theorem d_J5_append_3fe6f_67 : dec m_J5_append_3fe6f 67 = .ok (.iadd, 1) := by decide +kernel
theorem d_J5_append_3fe6f_68 : dec m_J5_append_3fe6f 68 = .ok (.putfield 79, 3) := by decide +kernel
theorem d_J5_append_3fe6f_71 : dec m_J5_append_3fe6f 71 = .ok (.iload_n 1, 1) := by decide +kernel
theorem d_J5_append_3fe6f_72 : dec m_J5_append_3fe6f 72 = .ok (.invokestatic 197, 3) := by decide +kernel
theorem d_J5_append_3fe6f_75 : dec m_J5_append_3fe6f 75 = .ok (.aload_n 0, 1) := by decide +kernel
theorem d_J5_append_3fe6f_76 : dec m_J5_append_3fe6f 76 = .ok (.areturn, 1) := by decide +kernel
theorem d_J5_append_c97b9_0 : dec m_J5_append_c97b9 0 = .ok (.aload_n 0, 1) := by decide +kernel
theorem d_J5_append_c97b9_1 : dec m_J5_append_c97b9 1 = .ok (.getfield 79, 3) := by decide +kernel
theorem d_J5_append_c97b9_4 : dec m_J5_append_c97b9 4 = .ok (.istore_n 2, 1) := by decide +kernel
theorem d_J5_append_c97b9_5 : dec m_J5_append_c97b9 5 = .ok (.iload_n 2, 1) := by decide +kernel
theorem d_J5_append_c97b9_6 : dec m_J5_append_c97b9 6 = .ok (.iload_n 1, 1) := by decide +kernel
theorem d_J5_append_c97b9_7 : dec m_J5_append_c97b9 7 = .ok (.invokestatic 245, 3) := by decide +kernel
theorem d_J5_append_c97b9_10 : dec m_J5_append_c97b9 10 = .ok (.iadd, 1) := by decide +kernel
theorem d_J5_append_c97b9_11 : dec m_J5_append_c97b9 11 = .ok (.istore_n 3, 1) := by decide +kernel
theorem d_J5_append_c97b9_12 : dec m_J5_append_c97b9 12 = .ok (.aload_n 0, 1) := by decide +kernel
theorem d_J5_append_c97b9_13 : dec m_J5_append_c97b9 13 = .ok (.iload_n 3, 1) := by decide +kernel
theorem d_J5_append_c97b9_14 : dec m_J5_append_c97b9 14 = .ok (.invokevirtual 100, 3) := by decide +kernel
theorem d_J5_append_c97b9_17 : dec m_J5_append_c97b9 17 = .ok (.aload_n 0, 1) := by decide +kernel
theorem d_J5_append_c97b9_18 : dec m_J5_append_c97b9 18 = .ok (.invokevirtual 83, 3) := by decide +kernel
theorem d_J5_append_c97b9_21 : dec m_J5_append_c97b9 21 = .ok (.ifCond .eq 16, 3) := by decide +kernel
theorem d_J5_append_c97b9_24 : dec m_J5_append_c97b9 24 = .ok (.iload_n 1, 1) := by decide +kernel
theorem d_J5_append_c97b9_25 : dec m_J5_append_c97b9 25 = .ok (.iload_n 3, 1) := by decide +kernel
theorem d_J5_append_c97b9_26 : dec m_J5_append_c97b9 26 = .ok (.aload_n 0, 1) := by decide +kernel
theorem d_J5_append_c97b9_27 : dec m_J5_append_c97b9 27 = .ok (.getfield 15, 3) := by decide +kernel
theorem d_J5_append_c97b9_30 : dec m_J5_append_c97b9 30 = .ok (.invokestatic 248, 3) := by decide +kernel
theorem d_J5_append_c97b9_33 : dec m_J5_append_c97b9 33 = .ok (.pop, 1) := by decide +kernel
theorem d_J5_append_c97b9_34 : dec m_J5_append_c97b9 34 = .ok (.goto 14, 3) := by decide +kernel
theorem d_J5_append_c97b9_37 : dec m_J5_append_c97b9 37 = .ok (.iload_n 1, 1) := by decide +kernel
theorem d_J5_append_c97b9_38 : dec m_J5_append_c97b9 38 = .ok (.iload_n 2, 1) := by decide +kernel
theorem d_J5_append_c97b9_39 : dec m_J5_append_c97b9 39 = .ok (.iload_n 3, 1) := by decide +kernel
theorem d_J5_append_c97b9_40 : dec m_J5_append_c97b9 40 = .ok (.aload_n 0, 1) := by decide +kernel
theorem d_J5_append_c97b9_41 : dec m_J5_append_c97b9 41 = .ok (.getfield 15, 3) := by decide +kernel
theorem d_J5_append_c97b9_44 : dec m_J5_append_c97b9 44 = .ok (.invokestatic 251, 3) := by decide +kernel
theorem d_J5_append_c97b9_47 : dec m_J5_append_c97b9 47 = .ok (.pop, 1) := by decide +kernel
theorem d_J5_append_c97b9_48 : dec m_J5_append_c97b9 48 = .ok (.aload_n 0, 1) := by decide +kernel
theorem d_J5_append_c97b9_49 : dec m_J5_append_c97b9 49 = .ok (.iload_n 3, 1) := by decide +kernel
theorem d_J5_append_c97b9_50 : dec m_J5_append_c97b9 50 = .ok (.putfield 79, 3) := by decide +kernel
theorem d_J5_append_c97b9_53 : dec m_J5_append_c97b9 53 = .ok (.aload_n 0, 1) := by decide +kernel
theorem d_J5_append_c97b9_54 : dec m_J5_append_c97b9 54 = .ok (.areturn, 1) := by decide +kernel
theorem d_J5_ensureCapacityInternal_d00df_0 : dec m_J5_ensureCapacityInternal_d00df 0 = .ok (.aload_n 0, 1) := by decide +kernel
theorem d_J5_ensureCapacityInternal_d00df_1 : dec m_J5_ensureCapacityInternal_d00df 1 = .ok (.getfield 15, 3) := by decide +kernel
theorem d_J5_ensureCapacityInternal_d00df_4 : dec m_J5_ensureCapacityInternal_d00df 4 = .ok (.arraylength, 1) := by decide +kernel
theorem d_J5_ensureCapacityInternal_d00df_5 : dec m_J5_ensureCapacityInternal_d00df 5 = .ok (.aload_n 0, 1) := by decide +kernel
theorem d_J5_ensureCapacityInternal_d00df_6 : dec m_J5_ensureCapacityInternal_d00df 6 = .ok (.getfield 22, 3) := by decide +kernel
theorem d_J5_ensureCapacityInternal_d00df_9 : dec m_J5_ensureCapacityInternal_d00df 9 = .ok (.ishr, 1) := by decide +kernel
theorem d_J5_ensureCapacityInternal_d00df_10 : dec m_J5_ensureCapacityInternal_d00df 10 = .ok (.istore_n 2, 1) := by decide +kernel
theorem d_J5_ensureCapacityInternal_d00df_11 : dec m_J5_ensureCapacityInternal_d00df 11 = .ok (.iload_n 1, 1) := by decide +kernel
theorem d_J5_ensureCapacityInternal_d00df_12 : dec m_J5_ensureCapacityInternal_d00df 12 = .ok (.iload_n 2, 1) := by decide +kernel
theorem d_J5_ensureCapacityInternal_d00df_13 : dec m_J5_ensureCapacityInternal_d00df 13 = .ok (.isub, 1) := by decide +kernel
theorem d_J5_ensureCapacityInternal_d00df_14 : dec m_J5_ensureCapacityInternal_d00df 14 = .ok (.ifCond .le 24, 3) := by decide +kernel
theorem d_J5_ensureCapacityInternal_d00df_17 : dec m_J5_ensureCapacityInternal_d00df 17 = .ok (.aload_n 0, 1) := by decide +kernel
theorem d_J5_ensureCapacityInternal_d00df_18 : dec m_J5_ensureCapacityInternal_d00df 18 = .ok (.aload_n 0, 1) := by decide +kernel
theorem d_J5_ensureCapacityInternal_d00df_19 : dec m_J5_ensureCapacityInternal_d00df 19 = .ok (.getfield 15, 3) := by decide +kernel
theorem d_J5_ensureCapacityInternal_d00df_22 : dec m_J5_ensureCapacityInternal_d00df 22 = .ok (.aload_n 0, 1) := by decide +kernel
theorem d_J5_ensureCapacityInternal_d00df_23 : dec m_J5_ensureCapacityInternal_d00df 23 = .ok (.iload_n 1, 1) := by decide +kernel
theorem d_J5_ensureCapacityInternal_d00df_24 : dec m_J5_ensureCapacityInternal_d00df 24 = .ok (.invokevirtual 104, 3) := by decide +kernel
theorem d_J5_ensureCapacityInternal_d00df_27 : dec m_J5_ensureCapacityInternal_d00df 27 = .ok (.aload_n 0, 1) := by decide +kernel
theorem d_J5_ensureCapacityInternal_d00df_28 : dec m_J5_ensureCapacityInternal_d00df 28 = .ok (.getfield 22, 3) := by decide +kernel
theorem d_J5_ensureCapacityInternal_d00df_31 : dec m_J5_ensureCapacityInternal_d00df 31 = .ok (.ishl, 1) := by decide +kernel
theorem d_J5_ensureCapacityInternal_d00df_32 : dec m_J5_ensureCapacityInternal_d00df 32 = .ok (.invokestatic 108, 3) := by decide +kernel
theorem d_J5_ensureCapacityInternal_d00df_35 : dec m_J5_ensureCapacityInternal_d00df 35 = .ok (.putfield 15, 3) := by decide +kernel
theorem d_J5_ensureCapacityInternal_d00df_38 : dec m_J5_ensureCapacityInternal_d00df 38 = .ok (.return_, 1) := by decide +kernel
theorem d_J5_getValue_6d5f1_0 : dec m_J5_getValue_6d5f1 0 = .ok (.aload_n 0, 1) := by decide +kernel
theorem d_J5_getValue_6d5f1_1 : dec m_J5_getValue_6d5f1 1 = .ok (.getfield 15, 3) := by decide +kernel
theorem d_J5_getValue_6d5f1_4 : dec m_J5_getValue_6d5f1 4 = .ok (.areturn, 1) := by decide +kernel
theorem d_J5_isLatin1_aae02_0 : dec m_J5_isLatin1_aae02 0 = .ok (.getstatic 18, 3) := by decide +kernel
theorem d_J5_isLatin1_aae02_3 : dec m_J5_isLatin1_aae02 3 = .ok (.ifCond .eq 14, 3) := by decide +kernel
theorem d_J5_isLatin1_aae02_6 : dec m_J5_isLatin1_aae02 6 = .ok (.aload_n 0, 1) := by decide +kernel
theorem d_J5_isLatin1_aae02_7 : dec m_J5_isLatin1_aae02 7 = .ok (.getfield 22, 3) := by decide +kernel
theorem d_J5_isLatin1_aae02_10 : dec m_J5_isLatin1_aae02 10 = .ok (.ifCond .ne 7, 3) := by decide +kernel
theorem d_J5_isLatin1_aae02_13 : dec m_J5_isLatin1_aae02 13 = .ok (.iconst 1, 1) := by decide +kernel
theorem d_J5_isLatin1_aae02_14 : dec m_J5_isLatin1_aae02 14 = .ok (.goto 4, 3) := by decide +kernel
theorem d_J5_isLatin1_aae02_17 : dec m_J5_isLatin1_aae02 17 = .ok (.iconst 0, 1) := by decide +kernel
theorem d_J5_isLatin1_aae02_18 : dec m_J5_isLatin1_aae02 18 = .ok (.ireturn, 1) := by decide +kernel
theorem d_J5_inflateIfNeededFor_a7421_0 : dec m_J5_inflateIfNeededFor_a7421 0 = .ok (.getstatic 18, 3) := by decide +kernel
theorem d_J5_inflateIfNeededFor_a7421_3 : dec m_J5_inflateIfNeededFor_a7421 3 = .ok (.ifCond .eq 18, 3) := by decide +kernel
theorem d_J5_inflateIfNeededFor_a7421_6 : dec m_J5_inflateIfNeededFor_a7421 6 = .ok (.aload_n 0, 1) := by decide +kernel
theorem d_J5_inflateIfNeededFor_a7421_7 : dec m_J5_inflateIfNeededFor_a7421 7 = .ok (.getfield 22, 3) := by decide +kernel
theorem d_J5_inflateIfNeededFor_a7421_10 : dec m_J5_inflateIfNeededFor_a7421 10 = .ok (.aload_n 1, 1) := by decide +kernel
theorem d_J5_inflateIfNeededFor_a7421_11 : dec m_J5_inflateIfNeededFor_a7421 11 = .ok (.invokevirtual 40, 3) := by decide +kernel
theorem d_J5_inflateIfNeededFor_a7421_14 : dec m_J5_inflateIfNeededFor_a7421 14 = .ok (.if_icmp .eq 7, 3) := by decide +kernel
theorem d_J5_inflateIfNeededFor_a7421_17 : dec m_J5_inflateIfNeededFor_a7421 17 = .ok (.aload_n 0, 1) := by decide +kernel
theorem d_J5_inflateIfNeededFor_a7421_18 : dec m_J5_inflateIfNeededFor_a7421 18 = .ok (.invokevirtual 195, 3) := by decide +kernel
theorem d_J5_inflateIfNeededFor_a7421_21 : dec m_J5_inflateIfNeededFor_a7421 21 = .ok (.return_, 1) := by decide +kernel
theorem d_J5_putStringAt_47b60_0 : dec m_J5_putStringAt_47b60 0 = .ok (.aload_n 0, 1) := by decide +kernel
theorem d_J5_putStringAt_47b60_1 : dec m_J5_putStringAt_47b60 1 = .ok (.aload_n 2, 1) := by decide +kernel
theorem d_J5_putStringAt_47b60_2 : dec m_J5_putStringAt_47b60 2 = .ok (.invokevirtual 397, 3) := by decide +kernel
theorem d_J5_putStringAt_47b60_5 : dec m_J5_putStringAt_47b60 5 = .ok (.aload_n 2, 1) := by decide +kernel
theorem d_J5_putStringAt_47b60_6 : dec m_J5_putStringAt_47b60 6 = .ok (.aload_n 0, 1) := by decide +kernel
theorem d_J5_putStringAt_47b60_7 : dec m_J5_putStringAt_47b60 7 = .ok (.getfield 15, 3) := by decide +kernel
theorem d_J5_putStringAt_47b60_10 : dec m_J5_putStringAt_47b60 10 = .ok (.iload_n 1, 1) := by decide +kernel
theorem d_J5_putStringAt_47b60_11 : dec m_J5_putStringAt_47b60 11 = .ok (.aload_n 0, 1) := by decide +kernel
theorem d_J5_putStringAt_47b60_12 : dec m_J5_putStringAt_47b60 12 = .ok (.getfield 22, 3) := by decide +kernel
theorem d_J5_putStringAt_47b60_15 : dec m_J5_putStringAt_47b60 15 = .ok (.invokevirtual 399, 3) := by decide +kernel
theorem d_J5_putStringAt_47b60_18 : dec m_J5_putStringAt_47b60 18 = .ok (.return_, 1) := by decide +kernel
theorem d_J6_getChars_ba4f3_0 : dec m_J6_getChars_ba4f3 0 = .ok (.iload_n 1, 1) := by decide +kernel
theorem d_J6_getChars_ba4f3_1 : dec m_J6_getChars_ba4f3 1 = .ok (.istore 5, 2) := by decide +kernel
theorem d_J6_getChars_ba4f3_3 : dec m_J6_getChars_ba4f3 3 = .ok (.iload_n 0, 1) := by decide +kernel
theorem d_J6_getChars_ba4f3_4 : dec m_J6_getChars_ba4f3 4 = .ok (.ifCond .ge 7, 3) := by decide +kernel
theorem d_J6_getChars_ba4f3_7 : dec m_J6_getChars_ba4f3 7 = .ok (.iconst 1, 1) := by decide +kernel
theorem d_J6_getChars_ba4f3_8 : dec m_J6_getChars_ba4f3 8 = .ok (.goto 4, 3) := by decide +kernel
theorem d_J6_getChars_ba4f3_11 : dec m_J6_getChars_ba4f3 11 = .ok (.iconst 0, 1) := by decide +kernel
theorem d_J6_getChars_ba4f3_12 : dec m_J6_getChars_ba4f3 12 = .ok (.istore 6, 2) := by decide +kernel
theorem d_J6_getChars_ba4f3_14 : dec m_J6_getChars_ba4f3 14 = .ok (.iload 6, 2) := by decide +kernel
theorem d_J6_getChars_ba4f3_16 : dec m_J6_getChars_ba4f3 16 = .ok (.ifCond .ne 6, 3) := by decide +kernel
theorem d_J6_getChars_ba4f3_19 : dec m_J6_getChars_ba4f3 19 = .ok (.iload_n 0, 1) := by decide +kernel
theorem d_J6_getChars_ba4f3_20 : dec m_J6_getChars_ba4f3 20 = .ok (.ineg, 1) := by decide +kernel
theorem d_J6_getChars_ba4f3_21 : dec m_J6_getChars_ba4f3 21 = .ok (.istore_n 0, 1) := by decide +kernel
theorem d_J6_getChars_ba4f3_22 : dec m_J6_getChars_ba4f3 22 = .ok (.iload_n 0, 1) := by decide +kernel
theorem d_J6_getChars_ba4f3_23 : dec m_J6_getChars_ba4f3 23 = .ok (.bipush (-100), 2) := by decide +kernel
theorem d_J6_getChars_ba4f3_25 : dec m_J6_getChars_ba4f3 25 = .ok (.if_icmp .gt 47, 3) := by decide +kernel
theorem d_J6_getChars_ba4f3_28 : dec m_J6_getChars_ba4f3 28 = .ok (.iload_n 0, 1) := by decide +kernel
theorem d_J6_getChars_ba4f3_29 : dec m_J6_getChars_ba4f3 29 = .ok (.bipush 100, 2) := by decide +kernel
theorem d_J6_getChars_ba4f3_31 : dec m_J6_getChars_ba4f3 31 = .ok (.idiv, 1) := by decide +kernel
theorem d_J6_getChars_ba4f3_32 : dec m_J6_getChars_ba4f3 32 = .ok (.istore_n 3, 1) := by decide +kernel
theorem d_J6_getChars_ba4f3_33 : dec m_J6_getChars_ba4f3 33 = .ok (.iload_n 3, 1) := by decide +kernel
theorem d_J6_getChars_ba4f3_34 : dec m_J6_getChars_ba4f3 34 = .ok (.bipush 100, 2) := by decide +kernel
theorem d_J6_getChars_ba4f3_36 : dec m_J6_getChars_ba4f3 36 = .ok (.imul, 1) := by decide +kernel
theorem d_J6_getChars_ba4f3_37 : dec m_J6_getChars_ba4f3 37 = .ok (.iload_n 0, 1) := by decide +kernel
theorem d_J6_getChars_ba4f3_38 : dec m_J6_getChars_ba4f3 38 = .ok (.isub, 1) := by decide +kernel
theorem d_J6_getChars_ba4f3_39 : dec m_J6_getChars_ba4f3 39 = .ok (.istore 4, 2) := by decide +kernel
theorem d_J6_getChars_ba4f3_41 : dec m_J6_getChars_ba4f3 41 = .ok (.iload_n 3, 1) := by decide +kernel
theorem d_J6_getChars_ba4f3_42 : dec m_J6_getChars_ba4f3 42 = .ok (.istore_n 0, 1) := by decide +kernel
theorem d_J6_getChars_ba4f3_43 : dec m_J6_getChars_ba4f3 43 = .ok (.aload_n 2, 1) := by decide +kernel
theorem d_J6_getChars_ba4f3_44 : dec m_J6_getChars_ba4f3 44 = .ok (.iinc 5 (-1), 3) := by decide +kernel
theorem d_J6_getChars_ba4f3_47 : dec m_J6_getChars_ba4f3 47 = .ok (.iload 5, 2) := by decide +kernel
theorem d_J6_getChars_ba4f3_49 : dec m_J6_getChars_ba4f3 49 = .ok (.getstatic 83, 3) := by decide +kernel
theorem d_J6_getChars_ba4f3_52 : dec m_J6_getChars_ba4f3 52 = .ok (.iload 4, 2) := by decide +kernel
theorem d_J6_getChars_ba4f3_54 : dec m_J6_getChars_ba4f3 54 = .ok (.baload, 1) := by decide +kernel
theorem d_J6_getChars_ba4f3_55 : dec m_J6_getChars_ba4f3 55 = .ok (.bastore, 1) := by decide +kernel
theorem d_J6_getChars_ba4f3_56 : dec m_J6_getChars_ba4f3 56 = .ok (.aload_n 2, 1) := by decide +kernel
theorem d_J6_getChars_ba4f3_57 : dec m_J6_getChars_ba4f3 57 = .ok (.iinc 5 (-1), 3) := by decide +kernel
theorem d_J6_getChars_ba4f3_60 : dec m_J6_getChars_ba4f3 60 = .ok (.iload 5, 2) := by decide +kernel
theorem d_J6_getChars_ba4f3_62 : dec m_J6_getChars_ba4f3 62 = .ok (.getstatic 87, 3) := by decide +kernel
theorem d_J6_getChars_ba4f3_65 : dec m_J6_getChars_ba4f3 65 = .ok (.iload 4, 2) := by decide +kernel
theorem d_J6_getChars_ba4f3_67 : dec m_J6_getChars_ba4f3 67 = .ok (.baload, 1) := by decide +kernel
theorem d_J6_getChars_ba4f3_68 : dec m_J6_getChars_ba4f3 68 = .ok (.bastore, 1) := by decide +kernel
theorem d_J6_getChars_ba4f3_69 : dec m_J6_getChars_ba4f3 69 = .ok (.goto (-47), 3) := by decide +kernel
theorem d_J6_getChars_ba4f3_72 : dec m_J6_getChars_ba4f3 72 = .ok (.aload_n 2, 1) := by decide +kernel
theorem d_J6_getChars_ba4f3_73 : dec m_J6_getChars_ba4f3 73 = .ok (.iinc 5 (-1), 3) := by decide +kernel
theorem d_J6_getChars_ba4f3_76 : dec m_J6_getChars_ba4f3 76 = .ok (.iload 5, 2) := by decide +kernel
theorem d_J6_getChars_ba4f3_78 : dec m_J6_getChars_ba4f3 78 = .ok (.getstatic 83, 3) := by decide +kernel
theorem d_J6_getChars_ba4f3_81 : dec m_J6_getChars_ba4f3 81 = .ok (.iload_n 0, 1) := by decide +kernel
theorem d_J6_getChars_ba4f3_82 : dec m_J6_getChars_ba4f3 82 = .ok (.ineg, 1) := by decide +kernel
theorem d_J6_getChars_ba4f3_83 : dec m_J6_getChars_ba4f3 83 = .ok (.baload, 1) := by decide +kernel
theorem d_J6_getChars_ba4f3_84 : dec m_J6_getChars_ba4f3 84 = .ok (.bastore, 1) := by decide +kernel
theorem d_J6_getChars_ba4f3_85 : dec m_J6_getChars_ba4f3 85 = .ok (.iload_n 0, 1) := by decide +kernel
theorem d_J6_getChars_ba4f3_86 : dec m_J6_getChars_ba4f3 86 = .ok (.bipush (-9), 2) := by decide +kernel
theorem d_J6_getChars_ba4f3_88 : dec m_J6_getChars_ba4f3 88 = .ok (.if_icmp .ge 16, 3) := by decide +kernel
theorem d_J6_getChars_ba4f3_91 : dec m_J6_getChars_ba4f3 91 = .ok (.aload_n 2, 1) := by decide +kernel
theorem d_J6_getChars_ba4f3_92 : dec m_J6_getChars_ba4f3 92 = .ok (.iinc 5 (-1), 3) := by decide +kernel
theorem d_J6_getChars_ba4f3_95 : dec m_J6_getChars_ba4f3 95 = .ok (.iload 5, 2) := by decide +kernel
theorem d_J6_getChars_ba4f3_97 : dec m_J6_getChars_ba4f3 97 = .ok (.getstatic 87, 3) := by decide +kernel
theorem d_J6_getChars_ba4f3_100 : dec m_J6_getChars_ba4f3 100 = .ok (.iload_n 0, 1) := by decide +kernel
theorem d_J6_getChars_ba4f3_101 : dec m_J6_getChars_ba4f3 101 = .ok (.ineg, 1) := by decide +kernel
theorem d_J6_getChars_ba4f3_102 : dec m_J6_getChars_ba4f3 102 = .ok (.baload, 1) := by decide +kernel
theorem d_J6_getChars_ba4f3_103 : dec m_J6_getChars_ba4f3 103 = .ok (.bastore, 1) := by decide +kernel
theorem d_J6_getChars_ba4f3_104 : dec m_J6_getChars_ba4f3 104 = .ok (.iload 6, 2) := by decide +kernel
theorem d_J6_getChars_ba4f3_106 : dec m_J6_getChars_ba4f3 106 = .ok (.ifCond .eq 12, 3) := by decide +kernel
theorem d_J6_getChars_ba4f3_109 : dec m_J6_getChars_ba4f3 109 = .ok (.aload_n 2, 1) := by decide +kernel
theorem d_J6_getChars_ba4f3_110 : dec m_J6_getChars_ba4f3 110 = .ok (.iinc 5 (-1), 3) := by decide +kernel
theorem d_J6_getChars_ba4f3_113 : dec m_J6_getChars_ba4f3 113 = .ok (.iload 5, 2) := by decide +kernel
theorem d_J6_getChars_ba4f3_115 : dec m_J6_getChars_ba4f3 115 = .ok (.bipush 45, 2) := by decide +kernel
theorem d_J6_getChars_ba4f3_117 : dec m_J6_getChars_ba4f3 117 = .ok (.bastore, 1) := by decide +kernel
theorem d_J6_getChars_ba4f3_118 : dec m_J6_getChars_ba4f3 118 = .ok (.iload 5, 2) := by decide +kernel
theorem d_J6_getChars_ba4f3_120 : dec m_J6_getChars_ba4f3 120 = .ok (.ireturn, 1) := by decide +kernel
theorem d_J6_stringSize_0f7a4_0 : dec m_J6_stringSize_0f7a4 0 = .ok (.iconst 1, 1) := by decide +kernel
theorem d_J6_stringSize_0f7a4_1 : dec m_J6_stringSize_0f7a4 1 = .ok (.istore_n 1, 1) := by decide +kernel
theorem d_J6_stringSize_0f7a4_2 : dec m_J6_stringSize_0f7a4 2 = .ok (.iload_n 0, 1) := by decide +kernel
theorem d_J6_stringSize_0f7a4_3 : dec m_J6_stringSize_0f7a4 3 = .ok (.ifCond .lt 8, 3) := by decide +kernel
theorem d_J6_stringSize_0f7a4_6 : dec m_J6_stringSize_0f7a4 6 = .ok (.iconst 0, 1) := by decide +kernel
theorem d_J6_stringSize_0f7a4_7 : dec m_J6_stringSize_0f7a4 7 = .ok (.istore_n 1, 1) := by decide +kernel
theorem d_J6_stringSize_0f7a4_8 : dec m_J6_stringSize_0f7a4 8 = .ok (.iload_n 0, 1) := by decide +kernel
theorem d_J6_stringSize_0f7a4_9 : dec m_J6_stringSize_0f7a4 9 = .ok (.ineg, 1) := by decide +kernel
theorem d_J6_stringSize_0f7a4_10 : dec m_J6_stringSize_0f7a4 10 = .ok (.istore_n 0, 1) := by decide +kernel
theorem d_J6_stringSize_0f7a4_11 : dec m_J6_stringSize_0f7a4 11 = .ok (.bipush (-10), 2) := by decide +kernel
theorem d_J6_stringSize_0f7a4_13 : dec m_J6_stringSize_0f7a4 13 = .ok (.istore_n 2, 1) := by decide +kernel
theorem d_J6_stringSize_0f7a4_14 : dec m_J6_stringSize_0f7a4 14 = .ok (.iconst 1, 1) := by decide +kernel
theorem d_J6_stringSize_0f7a4_15 : dec m_J6_stringSize_0f7a4 15 = .ok (.istore_n 3, 1) := by decide +kernel
theorem d_J6_stringSize_0f7a4_16 : dec m_J6_stringSize_0f7a4 16 = .ok (.iload_n 3, 1) := by decide +kernel
theorem d_J6_stringSize_0f7a4_17 : dec m_J6_stringSize_0f7a4 17 = .ok (.bipush 10, 2) := by decide +kernel
theorem d_J6_stringSize_0f7a4_19 : dec m_J6_stringSize_0f7a4 19 = .ok (.if_icmp .ge 23, 3) := by decide +kernel
theorem d_J6_stringSize_0f7a4_22 : dec m_J6_stringSize_0f7a4 22 = .ok (.iload_n 0, 1) := by decide +kernel
theorem d_J6_stringSize_0f7a4_23 : dec m_J6_stringSize_0f7a4 23 = .ok (.iload_n 2, 1) := by decide +kernel
theorem d_J6_stringSize_0f7a4_24 : dec m_J6_stringSize_0f7a4 24 = .ok (.if_icmp .le 7, 3) := by decide +kernel
theorem d_J6_stringSize_0f7a4_27 : dec m_J6_stringSize_0f7a4 27 = .ok (.iload_n 3, 1) := by decide +kernel
theorem d_J6_stringSize_0f7a4_28 : dec m_J6_stringSize_0f7a4 28 = .ok (.iload_n 1, 1) := by decide +kernel
theorem d_J6_stringSize_0f7a4_29 : dec m_J6_stringSize_0f7a4 29 = .ok (.iadd, 1) := by decide +kernel
theorem d_J6_stringSize_0f7a4_30 : dec m_J6_stringSize_0f7a4 30 = .ok (.ireturn, 1) := by decide +kernel
theorem d_J6_stringSize_0f7a4_31 : dec m_J6_stringSize_0f7a4 31 = .ok (.bipush 10, 2) := by decide +kernel
theorem d_J6_stringSize_0f7a4_33 : dec m_J6_stringSize_0f7a4 33 = .ok (.iload_n 2, 1) := by decide +kernel
theorem d_J6_stringSize_0f7a4_34 : dec m_J6_stringSize_0f7a4 34 = .ok (.imul, 1) := by decide +kernel
theorem d_J6_stringSize_0f7a4_35 : dec m_J6_stringSize_0f7a4 35 = .ok (.istore_n 2, 1) := by decide +kernel
theorem d_J6_stringSize_0f7a4_36 : dec m_J6_stringSize_0f7a4 36 = .ok (.iinc 3 1, 3) := by decide +kernel
theorem d_J6_stringSize_0f7a4_39 : dec m_J6_stringSize_0f7a4 39 = .ok (.goto (-23), 3) := by decide +kernel
theorem d_J6_stringSize_0f7a4_42 : dec m_J6_stringSize_0f7a4 42 = .ok (.bipush 10, 2) := by decide +kernel
theorem d_J6_stringSize_0f7a4_44 : dec m_J6_stringSize_0f7a4 44 = .ok (.iload_n 1, 1) := by decide +kernel
theorem d_J6_stringSize_0f7a4_45 : dec m_J6_stringSize_0f7a4 45 = .ok (.iadd, 1) := by decide +kernel
theorem d_J6_stringSize_0f7a4_46 : dec m_J6_stringSize_0f7a4 46 = .ok (.ireturn, 1) := by decide +kernel
theorem d_J0_init_81219_0 : dec m_J0_init_81219 0 = .ok (.aload_n 0, 1) := by decide +kernel
theorem d_J0_init_81219_1 : dec m_J0_init_81219 1 = .ok (.aload_n 1, 1) := by decide +kernel
theorem d_J0_init_81219_2 : dec m_J0_init_81219 2 = .ok (.aconst_null, 1) := by decide +kernel
theorem d_J0_init_81219_3 : dec m_J0_init_81219 3 = .ok (.invokespecial 489, 3) := by decide +kernel
theorem d_J0_init_81219_6 : dec m_J0_init_81219 6 = .ok (.return_, 1) := by decide +kernel
theorem d_J0_init_db425_0 : dec m_J0_init_db425 0 = .ok (.aload_n 0, 1) := by decide +kernel
theorem d_J0_init_db425_1 : dec m_J0_init_db425 1 = .ok (.invokespecial 1, 3) := by decide +kernel
theorem d_J0_init_db425_4 : dec m_J0_init_db425 4 = .ok (.aload_n 1, 1) := by decide +kernel
theorem d_J0_init_db425_5 : dec m_J0_init_db425 5 = .ok (.invokevirtual 552, 3) := by decide +kernel
theorem d_J0_init_db425_8 : dec m_J0_init_db425 8 = .ok (.astore_n 3, 1) := by decide +kernel
theorem d_J0_init_db425_9 : dec m_J0_init_db425 9 = .ok (.aload_n 1, 1) := by decide +kernel
theorem d_J0_init_db425_10 : dec m_J0_init_db425 10 = .ok (.invokevirtual 549, 3) := by decide +kernel
theorem d_J0_init_db425_13 : dec m_J0_init_db425 13 = .ok (.istore 4, 2) := by decide +kernel
theorem d_J0_init_db425_15 : dec m_J0_init_db425 15 = .ok (.aload_n 1, 1) := by decide +kernel
theorem d_J0_init_db425_16 : dec m_J0_init_db425 16 = .ok (.invokevirtual 1047, 3) := by decide +kernel
theorem d_J0_init_db425_19 : dec m_J0_init_db425 19 = .ok (.ifCond .eq 22, 3) := by decide +kernel
theorem d_J0_init_db425_22 : dec m_J0_init_db425 22 = .ok (.aload_n 0, 1) := by decide +kernel
theorem d_J0_init_db425_23 : dec m_J0_init_db425 23 = .ok (.iconst 0, 1) := by decide +kernel
theorem d_J0_init_db425_24 : dec m_J0_init_db425 24 = .ok (.putfield 15, 3) := by decide +kernel
theorem d_J0_init_db425_27 : dec m_J0_init_db425 27 = .ok (.aload_n 0, 1) := by decide +kernel
theorem d_J0_init_db425_28 : dec m_J0_init_db425 28 = .ok (.aload_n 3, 1) := by decide +kernel
theorem d_J0_init_db425_29 : dec m_J0_init_db425 29 = .ok (.iconst 0, 1) := by decide +kernel
theorem d_J0_init_db425_30 : dec m_J0_init_db425 30 = .ok (.iload 4, 2) := by decide +kernel
theorem d_J0_init_db425_32 : dec m_J0_init_db425 32 = .ok (.invokestatic 54, 3) := by decide +kernel
theorem d_J0_init_db425_35 : dec m_J0_init_db425 35 = .ok (.putfield 9, 3) := by decide +kernel
theorem d_J0_init_db425_38 : dec m_J0_init_db425 38 = .ok (.goto 59, 3) := by decide +kernel
theorem d_J0_init_db425_41 : dec m_J0_init_db425 41 = .ok (.getstatic 38, 3) := by decide +kernel
theorem d_J0_init_db425_44 : dec m_J0_init_db425 44 = .ok (.ifCond .eq 35, 3) := by decide +kernel
theorem d_J0_init_db425_47 : dec m_J0_init_db425 47 = .ok (.aload_n 1, 1) := by decide +kernel
theorem d_J0_init_db425_48 : dec m_J0_init_db425 48 = .ok (.getfield 1048, 3) := by decide +kernel
theorem d_J0_init_db425_51 : dec m_J0_init_db425 51 = .ok (.ifCond .eq 28, 3) := by decide +kernel
theorem d_J0_init_db425_54 : dec m_J0_init_db425 54 = .ok (.aload_n 0, 1) := by decide +kernel
theorem d_J0_init_db425_55 : dec m_J0_init_db425 55 = .ok (.aload_n 3, 1) := by decide +kernel
theorem d_J0_init_db425_56 : dec m_J0_init_db425 56 = .ok (.iconst 0, 1) := by decide +kernel
theorem d_J0_init_db425_57 : dec m_J0_init_db425 57 = .ok (.iload 4, 2) := by decide +kernel
theorem d_J0_init_db425_59 : dec m_J0_init_db425 59 = .ok (.invokestatic 1051, 3) := by decide +kernel
theorem d_J0_init_db425_62 : dec m_J0_init_db425 62 = .ok (.putfield 9, 3) := by decide +kernel
theorem d_J0_init_db425_65 : dec m_J0_init_db425 65 = .ok (.aload_n 0, 1) := by decide +kernel
theorem d_J0_init_db425_66 : dec m_J0_init_db425 66 = .ok (.aload_n 0, 1) := by decide +kernel
theorem d_J0_init_db425_67 : dec m_J0_init_db425 67 = .ok (.getfield 9, 3) := by decide +kernel
theorem d_J0_init_db425_70 : dec m_J0_init_db425 70 = .ok (.iload 4, 2) := by decide +kernel
theorem d_J0_init_db425_72 : dec m_J0_init_db425 72 = .ok (.invokestatic 47, 3) := by decide +kernel
theorem d_J0_init_db425_75 : dec m_J0_init_db425 75 = .ok (.putfield 15, 3) := by decide +kernel
theorem d_J0_init_db425_78 : dec m_J0_init_db425 78 = .ok (.return_, 1) := by decide +kernel
theorem d_J0_init_db425_79 : dec m_J0_init_db425 79 = .ok (.aload_n 0, 1) := by decide +kernel
theorem d_J0_init_db425_80 : dec m_J0_init_db425 80 = .ok (.iconst 1, 1) := by decide +kernel
theorem d_J0_init_db425_81 : dec m_J0_init_db425 81 = .ok (.putfield 15, 3) := by decide +kernel
theorem d_J0_init_db425_84 : dec m_J0_init_db425 84 = .ok (.aload_n 0, 1) := by decide +kernel
theorem d_J0_init_db425_85 : dec m_J0_init_db425 85 = .ok (.aload_n 3, 1) := by decide +kernel
theorem d_J0_init_db425_86 : dec m_J0_init_db425 86 = .ok (.iconst 0, 1) := by decide +kernel
theorem d_J0_init_db425_87 : dec m_J0_init_db425 87 = .ok (.iload 4, 2) := by decide +kernel
theorem d_J0_init_db425_89 : dec m_J0_init_db425 89 = .ok (.iconst 1, 1) := by decide +kernel
theorem d_J0_init_db425_90 : dec m_J0_init_db425 90 = .ok (.ishl, 1) := by decide +kernel
theorem d_J0_init_db425_91 : dec m_J0_init_db425 91 = .ok (.invokestatic 54, 3) := by decide +kernel
theorem d_J0_init_db425_94 : dec m_J0_init_db425 94 = .ok (.putfield 9, 3) := by decide +kernel
theorem d_J0_init_db425_97 : dec m_J0_init_db425 97 = .ok (.return_, 1) := by decide +kernel
theorem d_J0_getBytes_840e7_0 : dec m_J0_getBytes_840e7 0 = .ok (.aload_n 0, 1) := by decide +kernel
theorem d_J0_getBytes_840e7_1 : dec m_J0_getBytes_840e7 1 = .ok (.invokevirtual 335, 3) := by decide +kernel
theorem d_J0_getBytes_840e7_4 : dec m_J0_getBytes_840e7 4 = .ok (.iload_n 3, 1) := by decide +kernel
theorem d_J0_getBytes_840e7_5 : dec m_J0_getBytes_840e7 5 = .ok (.if_icmp .ne 23, 3) := by decide +kernel
theorem d_J0_getBytes_840e7_8 : dec m_J0_getBytes_840e7 8 = .ok (.aload_n 0, 1) := by decide +kernel
theorem d_J0_getBytes_840e7_9 : dec m_J0_getBytes_840e7 9 = .ok (.getfield 9, 3) := by decide +kernel
theorem d_J0_getBytes_840e7_12 : dec m_J0_getBytes_840e7 12 = .ok (.iconst 0, 1) := by decide +kernel
theorem d_J0_getBytes_840e7_13 : dec m_J0_getBytes_840e7 13 = .ok (.aload_n 1, 1) := by decide +kernel
theorem d_J0_getBytes_840e7_14 : dec m_J0_getBytes_840e7 14 = .ok (.iload_n 2, 1) := by decide +kernel
theorem d_J0_getBytes_840e7_15 : dec m_J0_getBytes_840e7 15 = .ok (.iload_n 3, 1) := by decide +kernel
theorem d_J0_getBytes_840e7_16 : dec m_J0_getBytes_840e7 16 = .ok (.ishl, 1) := by decide +kernel
theorem d_J0_getBytes_840e7_17 : dec m_J0_getBytes_840e7 17 = .ok (.aload_n 0, 1) := by decide +kernel
theorem d_J0_getBytes_840e7_18 : dec m_J0_getBytes_840e7 18 = .ok (.getfield 9, 3) := by decide +kernel
theorem d_J0_getBytes_840e7_21 : dec m_J0_getBytes_840e7 21 = .ok (.arraylength, 1) := by decide +kernel
theorem d_J0_getBytes_840e7_22 : dec m_J0_getBytes_840e7 22 = .ok (.invokestatic 212, 3) := by decide +kernel
theorem d_J0_getBytes_840e7_25 : dec m_J0_getBytes_840e7 25 = .ok (.goto 18, 3) := by decide +kernel
theorem d_J0_getBytes_840e7_28 : dec m_J0_getBytes_840e7 28 = .ok (.aload_n 0, 1) := by decide +kernel
theorem d_J0_getBytes_840e7_29 : dec m_J0_getBytes_840e7 29 = .ok (.getfield 9, 3) := by decide +kernel
theorem d_J0_getBytes_840e7_32 : dec m_J0_getBytes_840e7 32 = .ok (.iconst 0, 1) := by decide +kernel
theorem d_J0_getBytes_840e7_33 : dec m_J0_getBytes_840e7 33 = .ok (.aload_n 1, 1) := by decide +kernel
theorem d_J0_getBytes_840e7_34 : dec m_J0_getBytes_840e7 34 = .ok (.iload_n 2, 1) := by decide +kernel
theorem d_J0_getBytes_840e7_35 : dec m_J0_getBytes_840e7 35 = .ok (.aload_n 0, 1) := by decide +kernel
theorem d_J0_getBytes_840e7_36 : dec m_J0_getBytes_840e7 36 = .ok (.getfield 9, 3) := by decide +kernel
theorem d_J0_getBytes_840e7_39 : dec m_J0_getBytes_840e7 39 = .ok (.arraylength, 1) := by decide +kernel
theorem d_J0_getBytes_840e7_40 : dec m_J0_getBytes_840e7 40 = .ok (.invokestatic 106, 3) := by decide +kernel
theorem d_J0_getBytes_840e7_43 : dec m_J0_getBytes_840e7 43 = .ok (.return_, 1) := by decide +kernel
theorem d_J7_copyOfRange_39247_0 : dec m_J7_copyOfRange_39247 0 = .ok (.iload_n 1, 1) := by decide +kernel
theorem d_J7_copyOfRange_39247_1 : dec m_J7_copyOfRange_39247 1 = .ok (.ifCond .ne 9, 3) := by decide +kernel
theorem d_J7_copyOfRange_39247_4 : dec m_J7_copyOfRange_39247 4 = .ok (.iload_n 2, 1) := by decide +kernel
theorem d_J7_copyOfRange_39247_5 : dec m_J7_copyOfRange_39247 5 = .ok (.aload_n 0, 1) := by decide +kernel
theorem d_J7_copyOfRange_39247_6 : dec m_J7_copyOfRange_39247 6 = .ok (.arraylength, 1) := by decide +kernel
theorem d_J7_copyOfRange_39247_7 : dec m_J7_copyOfRange_39247 7 = .ok (.if_icmp .eq 10, 3) := by decide +kernel
theorem d_J7_copyOfRange_39247_10 : dec m_J7_copyOfRange_39247 10 = .ok (.aload_n 0, 1) := by decide +kernel
theorem d_J7_copyOfRange_39247_11 : dec m_J7_copyOfRange_39247 11 = .ok (.iload_n 1, 1) := by decide +kernel
theorem d_J7_copyOfRange_39247_12 : dec m_J7_copyOfRange_39247 12 = .ok (.iload_n 2, 1) := by decide +kernel
theorem d_J7_copyOfRange_39247_13 : dec m_J7_copyOfRange_39247 13 = .ok (.invokestatic 339, 3) := by decide +kernel
theorem d_J7_copyOfRange_39247_16 : dec m_J7_copyOfRange_39247 16 = .ok (.areturn, 1) := by decide +kernel
theorem d_J7_copyOfRange_39247_17 : dec m_J7_copyOfRange_39247 17 = .ok (.aload_n 0, 1) := by decide +kernel
theorem d_J7_copyOfRange_39247_18 : dec m_J7_copyOfRange_39247 18 = .ok (.invokevirtual 310, 3) := by decide +kernel
theorem d_J7_copyOfRange_39247_21 : dec m_J7_copyOfRange_39247 21 = .ok (.checkcast 311, 3) := by decide +kernel
theorem d_J7_copyOfRange_39247_24 : dec m_J7_copyOfRange_39247 24 = .ok (.areturn, 1) := by decide +kernel
theorem d_J7_copyOfRangeByte_39247_0 : dec m_J7_copyOfRangeByte_39247 0 = .ok (.iload_n 1, 1) := by decide +kernel
theorem d_J7_copyOfRangeByte_39247_1 : dec m_J7_copyOfRangeByte_39247 1 = .ok (.iload_n 2, 1) := by decide +kernel
theorem d_J7_copyOfRangeByte_39247_2 : dec m_J7_copyOfRangeByte_39247 2 = .ok (.invokestatic 343, 3) := by decide +kernel
theorem d_J7_copyOfRangeByte_39247_5 : dec m_J7_copyOfRangeByte_39247 5 = .ok (.iload_n 2, 1) := by decide +kernel
theorem d_J7_copyOfRangeByte_39247_6 : dec m_J7_copyOfRangeByte_39247 6 = .ok (.iload_n 1, 1) := by decide +kernel
theorem d_J7_copyOfRangeByte_39247_7 : dec m_J7_copyOfRangeByte_39247 7 = .ok (.isub, 1) := by decide +kernel
theorem d_J7_copyOfRangeByte_39247_8 : dec m_J7_copyOfRangeByte_39247 8 = .ok (.istore_n 3, 1) := by decide +kernel
theorem d_J7_copyOfRangeByte_39247_9 : dec m_J7_copyOfRangeByte_39247 9 = .ok (.iload_n 3, 1) := by decide +kernel
theorem d_J7_copyOfRangeByte_39247_10 : dec m_J7_copyOfRangeByte_39247 10 = .ok (.newarray .byte, 2) := by decide +kernel
theorem d_J7_copyOfRangeByte_39247_12 : dec m_J7_copyOfRangeByte_39247 12 = .ok (.astore 4, 2) := by decide +kernel
theorem d_J7_copyOfRangeByte_39247_14 : dec m_J7_copyOfRangeByte_39247 14 = .ok (.aload_n 0, 1) := by decide +kernel
theorem d_J7_copyOfRangeByte_39247_15 : dec m_J7_copyOfRangeByte_39247 15 = .ok (.iload_n 1, 1) := by decide +kernel
theorem d_J7_copyOfRangeByte_39247_16 : dec m_J7_copyOfRangeByte_39247 16 = .ok (.aload 4, 2) := by decide +kernel
theorem d_J7_copyOfRangeByte_39247_18 : dec m_J7_copyOfRangeByte_39247 18 = .ok (.iconst 0, 1) := by decide +kernel
theorem d_J7_copyOfRangeByte_39247_19 : dec m_J7_copyOfRangeByte_39247 19 = .ok (.aload_n 0, 1) := by decide +kernel
theorem d_J7_copyOfRangeByte_39247_20 : dec m_J7_copyOfRangeByte_39247 20 = .ok (.arraylength, 1) := by decide +kernel
theorem d_J7_copyOfRangeByte_39247_21 : dec m_J7_copyOfRangeByte_39247 21 = .ok (.iload_n 1, 1) := by decide +kernel
theorem d_J7_copyOfRangeByte_39247_22 : dec m_J7_copyOfRangeByte_39247 22 = .ok (.isub, 1) := by decide +kernel
theorem d_J7_copyOfRangeByte_39247_23 : dec m_J7_copyOfRangeByte_39247 23 = .ok (.iload_n 3, 1) := by decide +kernel
theorem d_J7_copyOfRangeByte_39247_24 : dec m_J7_copyOfRangeByte_39247 24 = .ok (.invokestatic 304, 3) := by decide +kernel
theorem d_J7_copyOfRangeByte_39247_27 : dec m_J7_copyOfRangeByte_39247 27 = .ok (.invokestatic 150, 3) := by decide +kernel
theorem d_J7_copyOfRangeByte_39247_30 : dec m_J7_copyOfRangeByte_39247 30 = .ok (.aload 4, 2) := by decide +kernel
theorem d_J7_copyOfRangeByte_39247_32 : dec m_J7_copyOfRangeByte_39247 32 = .ok (.areturn, 1) := by decide +kernel
theorem d_J7_checkLength_df160_0 : dec m_J7_checkLength_df160 0 = .ok (.iload_n 1, 1) := by decide +kernel
theorem d_J7_checkLength_df160_1 : dec m_J7_checkLength_df160 1 = .ok (.iload_n 0, 1) := by decide +kernel
theorem d_J7_checkLength_df160_2 : dec m_J7_checkLength_df160 2 = .ok (.if_icmp .ge 35, 3) := by decide +kernel
theorem d_J7_checkLength_df160_5 : dec m_J7_checkLength_df160 5 = .ok (.new 43, 3) := by decide +kernel
theorem d_J7_checkLength_df160_8 : dec m_J7_checkLength_df160 8 = .ok (.dup, 1) := by decide +kernel
theorem d_J7_checkLength_df160_9 : dec m_J7_checkLength_df160 9 = .ok (.new 45, 3) := by decide +kernel
theorem d_J7_checkLength_df160_12 : dec m_J7_checkLength_df160 12 = .ok (.dup, 1) := by decide +kernel
theorem d_J7_checkLength_df160_13 : dec m_J7_checkLength_df160 13 = .ok (.invokespecial 47, 3) := by decide +kernel
theorem d_J7_checkLength_df160_16 : dec m_J7_checkLength_df160 16 = .ok (.iload_n 0, 1) := by decide +kernel
theorem d_J7_checkLength_df160_17 : dec m_J7_checkLength_df160 17 = .ok (.invokevirtual 54, 3) := by decide +kernel
theorem d_J7_checkLength_df160_20 : dec m_J7_checkLength_df160 20 = .ok (.ldc_w 337, 3) := by decide +kernel
theorem d_J7_checkLength_df160_23 : dec m_J7_checkLength_df160 23 = .ok (.invokevirtual 50, 3) := by decide +kernel
theorem d_J7_checkLength_df160_26 : dec m_J7_checkLength_df160 26 = .ok (.iload_n 1, 1) := by decide +kernel
theorem d_J7_checkLength_df160_27 : dec m_J7_checkLength_df160 27 = .ok (.invokevirtual 54, 3) := by decide +kernel
theorem d_J7_checkLength_df160_30 : dec m_J7_checkLength_df160 30 = .ok (.invokevirtual 61, 3) := by decide +kernel
theorem d_J7_checkLength_df160_33 : dec m_J7_checkLength_df160 33 = .ok (.invokespecial 65, 3) := by decide +kernel
theorem d_J7_checkLength_df160_36 : dec m_J7_checkLength_df160 36 = .ok (.athrow, 1) := by decide +kernel
theorem d_J7_checkLength_df160_37 : dec m_J7_checkLength_df160 37 = .ok (.return_, 1) := by decide +kernel
theorem d_J1_canEncode_fc78d_0 : dec m_J1_canEncode_fc78d 0 = .ok (.iload_n 0, 1) := by decide +kernel
theorem d_J1_canEncode_fc78d_1 : dec m_J1_canEncode_fc78d 1 = .ok (.sipush 255, 3) := by decide +kernel
theorem d_J1_canEncode_fc78d_4 : dec m_J1_canEncode_fc78d 4 = .ok (.if_icmp .gt 7, 3) := by decide +kernel
theorem d_J1_canEncode_fc78d_7 : dec m_J1_canEncode_fc78d 7 = .ok (.iconst 1, 1) := by decide +kernel
theorem d_J1_canEncode_fc78d_8 : dec m_J1_canEncode_fc78d 8 = .ok (.goto 4, 3) := by decide +kernel
theorem d_J1_canEncode_fc78d_11 : dec m_J1_canEncode_fc78d 11 = .ok (.iconst 0, 1) := by decide +kernel
theorem d_J1_canEncode_fc78d_12 : dec m_J1_canEncode_fc78d 12 = .ok (.ireturn, 1) := by decide +kernel
theorem d_L_cell_0 : dec m_L_cell 0 = .ok (.iload_n 1, 1) := by decide +kernel
theorem d_L_cell_1 : dec m_L_cell 1 = .ok (.aload_n 0, 1) := by decide +kernel
theorem d_L_cell_2 : dec m_L_cell 2 = .ok (.arraylength, 1) := by decide +kernel
theorem d_L_cell_3 : dec m_L_cell 3 = .ok (.if_icmp .ge 9, 3) := by decide +kernel
theorem d_L_cell_6 : dec m_L_cell 6 = .ok (.aload_n 0, 1) := by decide +kernel
theorem d_L_cell_7 : dec m_L_cell 7 = .ok (.iload_n 1, 1) := by decide +kernel
theorem d_L_cell_8 : dec m_L_cell 8 = .ok (.iaload, 1) := by decide +kernel
theorem d_L_cell_9 : dec m_L_cell 9 = .ok (.goto 11, 3) := by decide +kernel
theorem d_L_cell_12 : dec m_L_cell 12 = .ok (.sipush 16807, 3) := by decide +kernel
theorem d_L_cell_15 : dec m_L_cell 15 = .ok (.iload_n 1, 1) := by decide +kernel
theorem d_L_cell_16 : dec m_L_cell 16 = .ok (.imul, 1) := by decide +kernel
theorem d_L_cell_17 : dec m_L_cell 17 = .ok (.ldc 7, 2) := by decide +kernel
theorem d_L_cell_19 : dec m_L_cell 19 = .ok (.iadd, 1) := by decide +kernel
theorem d_L_cell_20 : dec m_L_cell 20 = .ok (.ireturn, 1) := by decide +kernel
theorem d_L_says_0 : dec m_L_says 0 = .ok (.iconst 0, 1) := by decide +kernel
theorem d_L_says_1 : dec m_L_says 1 = .ok (.istore_n 2, 1) := by decide +kernel
theorem d_L_says_2 : dec m_L_says 2 = .ok (.iconst 0, 1) := by decide +kernel
theorem d_L_says_3 : dec m_L_says 3 = .ok (.istore_n 3, 1) := by decide +kernel
theorem d_L_says_4 : dec m_L_says 4 = .ok (.iload_n 3, 1) := by decide +kernel
theorem d_L_says_5 : dec m_L_says 5 = .ok (.aload_n 1, 1) := by decide +kernel
theorem d_L_says_6 : dec m_L_says 6 = .ok (.invokeinterface 8 1, 5) := by decide +kernel
theorem d_L_says_11 : dec m_L_says 11 = .ok (.if_icmp .ge 100, 3) := by decide +kernel
theorem d_L_says_14 : dec m_L_says 14 = .ok (.iconst 5, 1) := by decide +kernel
theorem d_L_says_15 : dec m_L_says 15 = .ok (.newarray .int, 2) := by decide +kernel
theorem d_L_says_17 : dec m_L_says 17 = .ok (.astore 4, 2) := by decide +kernel
theorem d_L_says_19 : dec m_L_says 19 = .ok (.iconst 0, 1) := by decide +kernel
theorem d_L_says_20 : dec m_L_says 20 = .ok (.istore 5, 2) := by decide +kernel
theorem d_L_says_22 : dec m_L_says 22 = .ok (.iload 5, 2) := by decide +kernel
theorem d_L_says_24 : dec m_L_says 24 = .ok (.bipush 20, 2) := by decide +kernel
theorem d_L_says_26 : dec m_L_says 26 = .ok (.if_icmp .ge 54, 3) := by decide +kernel
theorem d_L_says_29 : dec m_L_says 29 = .ok (.aload 4, 2) := by decide +kernel
theorem d_L_says_31 : dec m_L_says 31 = .ok (.iload 5, 2) := by decide +kernel
theorem d_L_says_33 : dec m_L_says 33 = .ok (.iconst 4, 1) := by decide +kernel
theorem d_L_says_34 : dec m_L_says 34 = .ok (.idiv, 1) := by decide +kernel
theorem d_L_says_35 : dec m_L_says 35 = .ok (.aload 4, 2) := by decide +kernel
theorem d_L_says_37 : dec m_L_says 37 = .ok (.iload 5, 2) := by decide +kernel
theorem d_L_says_39 : dec m_L_says 39 = .ok (.iconst 4, 1) := by decide +kernel
theorem d_L_says_40 : dec m_L_says 40 = .ok (.idiv, 1) := by decide +kernel
theorem d_L_says_41 : dec m_L_says 41 = .ok (.iaload, 1) := by decide +kernel
theorem d_L_says_42 : dec m_L_says 42 = .ok (.bipush 8, 2) := by decide +kernel
theorem d_L_says_44 : dec m_L_says 44 = .ok (.ishl, 1) := by decide +kernel
theorem d_L_says_45 : dec m_L_says 45 = .ok (.iload_n 3, 1) := by decide +kernel
theorem d_L_says_46 : dec m_L_says 46 = .ok (.iload 5, 2) := by decide +kernel
theorem d_L_says_48 : dec m_L_says 48 = .ok (.iadd, 1) := by decide +kernel
theorem d_L_says_49 : dec m_L_says 49 = .ok (.aload_n 1, 1) := by decide +kernel
theorem d_L_says_50 : dec m_L_says 50 = .ok (.invokeinterface 8 1, 5) := by decide +kernel
theorem d_L_says_55 : dec m_L_says 55 = .ok (.if_icmp .ge 16, 3) := by decide +kernel
theorem d_L_says_58 : dec m_L_says 58 = .ok (.aload_n 1, 1) := by decide +kernel
theorem d_L_says_59 : dec m_L_says 59 = .ok (.iload_n 3, 1) := by decide +kernel
theorem d_L_says_60 : dec m_L_says 60 = .ok (.iload 5, 2) := by decide +kernel
theorem d_L_says_62 : dec m_L_says 62 = .ok (.iadd, 1) := by decide +kernel
theorem d_L_says_63 : dec m_L_says 63 = .ok (.invokeinterface 14 2, 5) := by decide +kernel
theorem d_L_says_68 : dec m_L_says 68 = .ok (.goto 4, 3) := by decide +kernel
theorem d_L_says_71 : dec m_L_says 71 = .ok (.iconst 0, 1) := by decide +kernel
theorem d_L_says_72 : dec m_L_says 72 = .ok (.ior, 1) := by decide +kernel
theorem d_L_says_73 : dec m_L_says 73 = .ok (.iastore, 1) := by decide +kernel
theorem d_L_says_74 : dec m_L_says 74 = .ok (.iinc 5 1, 3) := by decide +kernel
theorem d_L_says_77 : dec m_L_says 77 = .ok (.goto (-55), 3) := by decide +kernel
theorem d_L_says_80 : dec m_L_says 80 = .ok (.aload_n 0, 1) := by decide +kernel
theorem d_L_says_81 : dec m_L_says 81 = .ok (.aload 4, 2) := by decide +kernel
theorem d_L_says_83 : dec m_L_says 83 = .ok (.iconst 0, 1) := by decide +kernel
theorem d_L_says_84 : dec m_L_says 84 = .ok (.iaload, 1) := by decide +kernel
theorem d_L_says_85 : dec m_L_says 85 = .ok (.aload 4, 2) := by decide +kernel
theorem d_L_says_87 : dec m_L_says 87 = .ok (.iconst 1, 1) := by decide +kernel
theorem d_L_says_88 : dec m_L_says 88 = .ok (.iaload, 1) := by decide +kernel
theorem d_L_says_89 : dec m_L_says 89 = .ok (.aload 4, 2) := by decide +kernel
theorem d_L_says_91 : dec m_L_says 91 = .ok (.iconst 2, 1) := by decide +kernel
theorem d_L_says_92 : dec m_L_says 92 = .ok (.iaload, 1) := by decide +kernel
theorem d_L_says_93 : dec m_L_says 93 = .ok (.aload 4, 2) := by decide +kernel
theorem d_L_says_95 : dec m_L_says 95 = .ok (.iconst 3, 1) := by decide +kernel
theorem d_L_says_96 : dec m_L_says 96 = .ok (.iaload, 1) := by decide +kernel
theorem d_L_says_97 : dec m_L_says 97 = .ok (.aload 4, 2) := by decide +kernel
theorem d_L_says_99 : dec m_L_says 99 = .ok (.iconst 4, 1) := by decide +kernel
theorem d_L_says_100 : dec m_L_says 100 = .ok (.iaload, 1) := by decide +kernel
theorem d_L_says_101 : dec m_L_says 101 = .ok (.invokevirtual 18, 3) := by decide +kernel
theorem d_L_says_104 : dec m_L_says 104 = .ok (.istore_n 2, 1) := by decide +kernel
theorem d_L_says_105 : dec m_L_says 105 = .ok (.iinc 3 20, 3) := by decide +kernel
theorem d_L_says_108 : dec m_L_says 108 = .ok (.goto (-104), 3) := by decide +kernel
theorem d_L_says_111 : dec m_L_says 111 = .ok (.iload_n 2, 1) := by decide +kernel
theorem d_L_says_112 : dec m_L_says 112 = .ok (.aload_n 1, 1) := by decide +kernel
theorem d_L_says_113 : dec m_L_says 113 = .ok (.invokeinterface 8 1, 5) := by decide +kernel
theorem d_L_says_118 : dec m_L_says 118 = .ok (.if_icmp .lt 26, 3) := by decide +kernel
theorem d_L_says_121 : dec m_L_says 121 = .ok (.aload_n 0, 1) := by decide +kernel
theorem d_L_says_122 : dec m_L_says 122 = .ok (.aload_n 1, 1) := by decide +kernel
theorem d_L_says_123 : dec m_L_says 123 = .ok (.invokeinterface 8 1, 5) := by decide +kernel
theorem d_L_says_128 : dec m_L_says 128 = .ok (.invokevirtual 24, 3) := by decide +kernel
theorem d_L_says_131 : dec m_L_says 131 = .ok (.aload_n 1, 1) := by decide +kernel
theorem d_L_says_132 : dec m_L_says 132 = .ok (.invokeinterface 8 1, 5) := by decide +kernel
theorem d_L_says_137 : dec m_L_says 137 = .ok (.if_icmp .ne 7, 3) := by decide +kernel
theorem d_L_says_140 : dec m_L_says 140 = .ok (.iconst 1, 1) := by decide +kernel
theorem d_L_says_141 : dec m_L_says 141 = .ok (.goto 4, 3) := by decide +kernel
theorem d_L_says_144 : dec m_L_says 144 = .ok (.iconst 0, 1) := by decide +kernel
theorem d_L_says_145 : dec m_L_says 145 = .ok (.ireturn, 1) := by decide +kernel
theorem d_L_deal_0 : dec m_L_deal 0 = .ok (.new 28, 3) := by decide +kernel
theorem d_L_deal_3 : dec m_L_deal 3 = .ok (.dup, 1) := by decide +kernel
theorem d_L_deal_4 : dec m_L_deal 4 = .ok (.aload_n 0, 1) := by decide +kernel
theorem d_L_deal_5 : dec m_L_deal 5 = .ok (.iconst 1, 1) := by decide +kernel
theorem d_L_deal_6 : dec m_L_deal 6 = .ok (.aload_n 0, 1) := by decide +kernel
theorem d_L_deal_7 : dec m_L_deal 7 = .ok (.getfield 30, 3) := by decide +kernel
theorem d_L_deal_10 : dec m_L_deal 10 = .ok (.iload_n 1, 1) := by decide +kernel
theorem d_L_deal_11 : dec m_L_deal 11 = .ok (.iaload, 1) := by decide +kernel
theorem d_L_deal_12 : dec m_L_deal 12 = .ok (.ishl, 1) := by decide +kernel
theorem d_L_deal_13 : dec m_L_deal 13 = .ok (.iload_n 3, 1) := by decide +kernel
theorem d_L_deal_14 : dec m_L_deal 14 = .ok (.invokespecial 36, 3) := by decide +kernel
theorem d_L_deal_17 : dec m_L_deal 17 = .ok (.iload_n 2, 1) := by decide +kernel
theorem d_L_deal_18 : dec m_L_deal 18 = .ok (.aload_n 0, 1) := by decide +kernel
theorem d_L_deal_19 : dec m_L_deal 19 = .ok (.getfield 39, 3) := by decide +kernel
theorem d_L_deal_22 : dec m_L_deal 22 = .ok (.invokevirtual 43, 3) := by decide +kernel
theorem d_L_deal_25 : dec m_L_deal 25 = .ok (.astore 4, 2) := by decide +kernel
theorem d_L_deal_27 : dec m_L_deal 27 = .ok (.aload 4, 2) := by decide +kernel
theorem d_L_deal_29 : dec m_L_deal 29 = .ok (.iload_n 1, 1) := by decide +kernel
theorem d_L_deal_30 : dec m_L_deal 30 = .ok (.invokevirtual 47, 3) := by decide +kernel
theorem d_L_deal_33 : dec m_L_deal 33 = .ok (.istore 5, 2) := by decide +kernel
theorem d_L_deal_35 : dec m_L_deal 35 = .ok (.iload_n 2, 1) := by decide +kernel
theorem d_L_deal_36 : dec m_L_deal 36 = .ok (.iconst 3, 1) := by decide +kernel
theorem d_L_deal_37 : dec m_L_deal 37 = .ok (.if_icmp .eq 29, 3) := by decide +kernel
theorem d_L_deal_40 : dec m_L_deal 40 = .ok (.iload 5, 2) := by decide +kernel
theorem d_L_deal_42 : dec m_L_deal 42 = .ok (.aload_n 0, 1) := by decide +kernel
theorem d_L_deal_43 : dec m_L_deal 43 = .ok (.getfield 50, 3) := by decide +kernel
theorem d_L_deal_46 : dec m_L_deal 46 = .ok (.iload_n 1, 1) := by decide +kernel
theorem d_L_deal_47 : dec m_L_deal 47 = .ok (.baload, 1) := by decide +kernel
theorem d_L_deal_48 : dec m_L_deal 48 = .ok (.ifCond .eq 11, 3) := by decide +kernel
theorem d_L_deal_51 : dec m_L_deal 51 = .ok (.aload 4, 2) := by decide +kernel
theorem d_L_deal_53 : dec m_L_deal 53 = .ok (.getfield 54, 3) := by decide +kernel
theorem d_L_deal_56 : dec m_L_deal 56 = .ok (.goto 8, 3) := by decide +kernel
theorem d_L_deal_59 : dec m_L_deal 59 = .ok (.aload 4, 2) := by decide +kernel
theorem d_L_deal_61 : dec m_L_deal 61 = .ok (.getfield 57, 3) := by decide +kernel
theorem d_L_deal_64 : dec m_L_deal 64 = .ok (.imul, 1) := by decide +kernel
theorem d_L_deal_65 : dec m_L_deal 65 = .ok (.ireturn, 1) := by decide +kernel
theorem d_L_deal_66 : dec m_L_deal 66 = .ok (.aload_n 0, 1) := by decide +kernel
theorem d_L_deal_67 : dec m_L_deal 67 = .ok (.invokevirtual 60, 3) := by decide +kernel
theorem d_L_deal_70 : dec m_L_deal 70 = .ok (.astore 6, 2) := by decide +kernel
theorem d_L_deal_72 : dec m_L_deal 72 = .ok (.aload 6, 2) := by decide +kernel
theorem d_L_deal_74 : dec m_L_deal 74 = .ok (.getfield 64, 3) := by decide +kernel
theorem d_L_deal_77 : dec m_L_deal 77 = .ok (.iload_n 1, 1) := by decide +kernel
theorem d_L_deal_78 : dec m_L_deal 78 = .ok (.iconst 0, 1) := by decide +kernel
theorem d_L_deal_79 : dec m_L_deal 79 = .ok (.newarray .int, 2) := by decide +kernel
theorem d_L_deal_81 : dec m_L_deal 81 = .ok (.aastore, 1) := by decide +kernel
theorem d_L_deal_82 : dec m_L_deal 82 = .ok (.new 28, 3) := by decide +kernel
theorem d_L_deal_85 : dec m_L_deal 85 = .ok (.dup, 1) := by decide +kernel
theorem d_L_deal_86 : dec m_L_deal 86 = .ok (.aload 6, 2) := by decide +kernel
theorem d_L_deal_88 : dec m_L_deal 88 = .ok (.iconst 1, 1) := by decide +kernel
theorem d_L_deal_89 : dec m_L_deal 89 = .ok (.aload_n 0, 1) := by decide +kernel
theorem d_L_deal_90 : dec m_L_deal 90 = .ok (.getfield 30, 3) := by decide +kernel
theorem d_L_deal_93 : dec m_L_deal 93 = .ok (.iload_n 1, 1) := by decide +kernel
theorem d_L_deal_94 : dec m_L_deal 94 = .ok (.iaload, 1) := by decide +kernel
theorem d_L_deal_95 : dec m_L_deal 95 = .ok (.ishl, 1) := by decide +kernel
theorem d_L_deal_96 : dec m_L_deal 96 = .ok (.iload_n 3, 1) := by decide +kernel
theorem d_L_deal_97 : dec m_L_deal 97 = .ok (.invokespecial 36, 3) := by decide +kernel
theorem d_L_deal_100 : dec m_L_deal 100 = .ok (.getfield 68, 3) := by decide +kernel
theorem d_L_deal_103 : dec m_L_deal 103 = .ok (.istore 7, 2) := by decide +kernel
theorem d_L_deal_105 : dec m_L_deal 105 = .ok (.iconst 0, 1) := by decide +kernel
theorem d_L_deal_106 : dec m_L_deal 106 = .ok (.istore 8, 2) := by decide +kernel
theorem d_L_deal_108 : dec m_L_deal 108 = .ok (.iconst 0, 1) := by decide +kernel
theorem d_L_deal_109 : dec m_L_deal 109 = .ok (.istore 9, 2) := by decide +kernel
theorem d_L_deal_111 : dec m_L_deal 111 = .ok (.iload 9, 2) := by decide +kernel
theorem d_L_deal_113 : dec m_L_deal 113 = .ok (.iload 5, 2) := by decide +kernel
theorem d_L_deal_115 : dec m_L_deal 115 = .ok (.if_icmp .ge 23, 3) := by decide +kernel
theorem d_L_deal_118 : dec m_L_deal 118 = .ok (.iload 8, 2) := by decide +kernel
theorem d_L_deal_120 : dec m_L_deal 120 = .ok (.aload_n 0, 1) := by decide +kernel
theorem d_L_deal_121 : dec m_L_deal 121 = .ok (.getfield 64, 3) := by decide +kernel
theorem d_L_deal_124 : dec m_L_deal 124 = .ok (.iload_n 1, 1) := by decide +kernel
theorem d_L_deal_125 : dec m_L_deal 125 = .ok (.aaload, 1) := by decide +kernel
theorem d_L_deal_126 : dec m_L_deal 126 = .ok (.iload 9, 2) := by decide +kernel
theorem d_L_deal_128 : dec m_L_deal 128 = .ok (.iaload, 1) := by decide +kernel
theorem d_L_deal_129 : dec m_L_deal 129 = .ok (.iadd, 1) := by decide +kernel
theorem d_L_deal_130 : dec m_L_deal 130 = .ok (.istore 8, 2) := by decide +kernel
theorem d_L_deal_132 : dec m_L_deal 132 = .ok (.iinc 9 1, 3) := by decide +kernel
theorem d_L_deal_135 : dec m_L_deal 135 = .ok (.goto (-24), 3) := by decide +kernel
theorem d_L_deal_138 : dec m_L_deal 138 = .ok (.aload_n 0, 1) := by decide +kernel
theorem d_L_deal_139 : dec m_L_deal 139 = .ok (.getfield 50, 3) := by decide +kernel
theorem d_L_deal_142 : dec m_L_deal 142 = .ok (.iload_n 1, 1) := by decide +kernel
theorem d_L_deal_143 : dec m_L_deal 143 = .ok (.baload, 1) := by decide +kernel
theorem d_L_deal_144 : dec m_L_deal 144 = .ok (.ifCond .eq 17, 3) := by decide +kernel
theorem d_L_deal_147 : dec m_L_deal 147 = .ok (.aload 4, 2) := by decide +kernel
theorem d_L_deal_149 : dec m_L_deal 149 = .ok (.getfield 68, 3) := by decide +kernel
theorem d_L_deal_152 : dec m_L_deal 152 = .ok (.iload 8, 2) := by decide +kernel
theorem d_L_deal_154 : dec m_L_deal 154 = .ok (.iadd, 1) := by decide +kernel
theorem d_L_deal_155 : dec m_L_deal 155 = .ok (.iload 7, 2) := by decide +kernel
theorem d_L_deal_157 : dec m_L_deal 157 = .ok (.isub, 1) := by decide +kernel
theorem d_L_deal_158 : dec m_L_deal 158 = .ok (.goto 14, 3) := by decide +kernel
theorem d_L_deal_161 : dec m_L_deal 161 = .ok (.iload 7, 2) := by decide +kernel
theorem d_L_deal_163 : dec m_L_deal 163 = .ok (.aload 4, 2) := by decide +kernel
theorem d_L_deal_165 : dec m_L_deal 165 = .ok (.getfield 68, 3) := by decide +kernel
theorem d_L_deal_168 : dec m_L_deal 168 = .ok (.iload 8, 2) := by decide +kernel
theorem d_L_deal_170 : dec m_L_deal 170 = .ok (.isub, 1) := by decide +kernel
theorem d_L_deal_171 : dec m_L_deal 171 = .ok (.isub, 1) := by decide +kernel
theorem d_L_deal_172 : dec m_L_deal 172 = .ok (.ireturn, 1) := by decide +kernel
theorem d_L_takings_0 : dec m_L_takings 0 = .ok (.iconst 0, 1) := by decide +kernel
theorem d_L_takings_1 : dec m_L_takings 1 = .ok (.istore_n 3, 1) := by decide +kernel
theorem d_L_takings_2 : dec m_L_takings 2 = .ok (.iconst 0, 1) := by decide +kernel
theorem d_L_takings_3 : dec m_L_takings 3 = .ok (.istore 4, 2) := by decide +kernel
theorem d_L_takings_5 : dec m_L_takings 5 = .ok (.iload 4, 2) := by decide +kernel
theorem d_L_takings_7 : dec m_L_takings 7 = .ok (.aload_n 0, 1) := by decide +kernel
theorem d_L_takings_8 : dec m_L_takings 8 = .ok (.getfield 80, 3) := by decide +kernel
theorem d_L_takings_11 : dec m_L_takings 11 = .ok (.if_icmp .ge 53, 3) := by decide +kernel
theorem d_L_takings_14 : dec m_L_takings 14 = .ok (.aload_n 0, 1) := by decide +kernel
theorem d_L_takings_15 : dec m_L_takings 15 = .ok (.getfield 30, 3) := by decide +kernel
theorem d_L_takings_18 : dec m_L_takings 18 = .ok (.iload 4, 2) := by decide +kernel
theorem d_L_takings_20 : dec m_L_takings 20 = .ok (.iaload, 1) := by decide +kernel
theorem d_L_takings_21 : dec m_L_takings 21 = .ok (.iload_n 1, 1) := by decide +kernel
theorem d_L_takings_22 : dec m_L_takings 22 = .ok (.if_icmp .ne 36, 3) := by decide +kernel
theorem d_L_takings_25 : dec m_L_takings 25 = .ok (.iload_n 3, 1) := by decide +kernel
theorem d_L_takings_26 : dec m_L_takings 26 = .ok (.aload_n 0, 1) := by decide +kernel
theorem d_L_takings_27 : dec m_L_takings 27 = .ok (.getfield 50, 3) := by decide +kernel
theorem d_L_takings_30 : dec m_L_takings 30 = .ok (.iload 4, 2) := by decide +kernel
theorem d_L_takings_32 : dec m_L_takings 32 = .ok (.baload, 1) := by decide +kernel
theorem d_L_takings_33 : dec m_L_takings 33 = .ok (.ifCond .eq 15, 3) := by decide +kernel
theorem d_L_takings_36 : dec m_L_takings 36 = .ok (.aload_n 0, 1) := by decide +kernel
theorem d_L_takings_37 : dec m_L_takings 37 = .ok (.iload 4, 2) := by decide +kernel
theorem d_L_takings_39 : dec m_L_takings 39 = .ok (.iload_n 2, 1) := by decide +kernel
theorem d_L_takings_40 : dec m_L_takings 40 = .ok (.iconst (-1), 1) := by decide +kernel
theorem d_L_takings_41 : dec m_L_takings 41 = .ok (.invokestatic 74, 3) := by decide +kernel
theorem d_L_takings_44 : dec m_L_takings 44 = .ok (.ineg, 1) := by decide +kernel
theorem d_L_takings_45 : dec m_L_takings 45 = .ok (.goto 11, 3) := by decide +kernel
theorem d_L_takings_48 : dec m_L_takings 48 = .ok (.aload_n 0, 1) := by decide +kernel
theorem d_L_takings_49 : dec m_L_takings 49 = .ok (.iload 4, 2) := by decide +kernel
theorem d_L_takings_51 : dec m_L_takings 51 = .ok (.iload_n 2, 1) := by decide +kernel
theorem d_L_takings_52 : dec m_L_takings 52 = .ok (.iconst (-1), 1) := by decide +kernel
theorem d_L_takings_53 : dec m_L_takings 53 = .ok (.invokestatic 74, 3) := by decide +kernel
theorem d_L_takings_56 : dec m_L_takings 56 = .ok (.iadd, 1) := by decide +kernel
theorem d_L_takings_57 : dec m_L_takings 57 = .ok (.istore_n 3, 1) := by decide +kernel
theorem d_L_takings_58 : dec m_L_takings 58 = .ok (.iinc 4 1, 3) := by decide +kernel
theorem d_L_takings_61 : dec m_L_takings 61 = .ok (.goto (-56), 3) := by decide +kernel
theorem d_L_takings_64 : dec m_L_takings 64 = .ok (.iload_n 3, 1) := by decide +kernel
theorem d_L_takings_65 : dec m_L_takings 65 = .ok (.ireturn, 1) := by decide +kernel
theorem d_L_same_0 : dec m_L_same 0 = .ok (.iconst 0, 1) := by decide +kernel
theorem d_L_same_1 : dec m_L_same 1 = .ok (.istore_n 2, 1) := by decide +kernel
theorem d_L_same_2 : dec m_L_same 2 = .ok (.iconst 0, 1) := by decide +kernel
theorem d_L_same_3 : dec m_L_same 3 = .ok (.istore_n 3, 1) := by decide +kernel
theorem d_L_same_4 : dec m_L_same 4 = .ok (.bipush (-2), 2) := by decide +kernel
theorem d_L_same_6 : dec m_L_same 6 = .ok (.istore 4, 2) := by decide +kernel
theorem d_L_same_8 : dec m_L_same 8 = .ok (.aload_n 0, 1) := by decide +kernel
theorem d_L_same_9 : dec m_L_same 9 = .ok (.iconst 0, 1) := by decide +kernel
theorem d_L_same_10 : dec m_L_same 10 = .ok (.invokevirtual 83, 3) := by decide +kernel
theorem d_L_same_13 : dec m_L_same 13 = .ok (.aload_n 1, 1) := by decide +kernel
theorem d_L_same_14 : dec m_L_same 14 = .ok (.getfield 80, 3) := by decide +kernel
theorem d_L_same_17 : dec m_L_same 17 = .ok (.if_icmp .ne 41, 3) := by decide +kernel
theorem d_L_same_20 : dec m_L_same 20 = .ok (.aload_n 0, 1) := by decide +kernel
theorem d_L_same_21 : dec m_L_same 21 = .ok (.iconst 2, 1) := by decide +kernel
theorem d_L_same_22 : dec m_L_same 22 = .ok (.invokevirtual 83, 3) := by decide +kernel
theorem d_L_same_25 : dec m_L_same 25 = .ok (.aload_n 1, 1) := by decide +kernel
theorem d_L_same_26 : dec m_L_same 26 = .ok (.getfield 39, 3) := by decide +kernel
theorem d_L_same_29 : dec m_L_same 29 = .ok (.if_icmp .ne 29, 3) := by decide +kernel
theorem d_L_same_32 : dec m_L_same 32 = .ok (.aload_n 0, 1) := by decide +kernel
theorem d_L_same_33 : dec m_L_same 33 = .ok (.iconst 3, 1) := by decide +kernel
theorem d_L_same_34 : dec m_L_same 34 = .ok (.invokevirtual 83, 3) := by decide +kernel
theorem d_L_same_37 : dec m_L_same 37 = .ok (.aload_n 1, 1) := by decide +kernel
theorem d_L_same_38 : dec m_L_same 38 = .ok (.getfield 71, 3) := by decide +kernel
theorem d_L_same_41 : dec m_L_same 41 = .ok (.if_icmp .ne 17, 3) := by decide +kernel
theorem d_L_same_44 : dec m_L_same 44 = .ok (.aload_n 0, 1) := by decide +kernel
theorem d_L_same_45 : dec m_L_same 45 = .ok (.bipush 9, 2) := by decide +kernel
theorem d_L_same_47 : dec m_L_same 47 = .ok (.invokevirtual 83, 3) := by decide +kernel
theorem d_L_same_50 : dec m_L_same 50 = .ok (.iconst (-1), 1) := by decide +kernel
theorem d_L_same_51 : dec m_L_same 51 = .ok (.if_icmp .ne 7, 3) := by decide +kernel
theorem d_L_same_54 : dec m_L_same 54 = .ok (.iconst 1, 1) := by decide +kernel
theorem d_L_same_55 : dec m_L_same 55 = .ok (.goto 4, 3) := by decide +kernel
theorem d_L_same_58 : dec m_L_same 58 = .ok (.iconst 0, 1) := by decide +kernel
theorem d_L_same_59 : dec m_L_same 59 = .ok (.istore 5, 2) := by decide +kernel
theorem d_L_same_61 : dec m_L_same 61 = .ok (.iconst 0, 1) := by decide +kernel
theorem d_L_same_62 : dec m_L_same 62 = .ok (.istore 6, 2) := by decide +kernel
theorem d_L_same_64 : dec m_L_same 64 = .ok (.iload 6, 2) := by decide +kernel
theorem d_L_same_66 : dec m_L_same 66 = .ok (.aload_n 1, 1) := by decide +kernel
theorem d_L_same_67 : dec m_L_same 67 = .ok (.getfield 80, 3) := by decide +kernel
theorem d_L_same_70 : dec m_L_same 70 = .ok (.if_icmp .ge 233, 3) := by decide +kernel
theorem d_L_same_73 : dec m_L_same 73 = .ok (.iload 5, 2) := by decide +kernel
theorem d_L_same_75 : dec m_L_same 75 = .ok (.ifCond .eq 228, 3) := by decide +kernel
theorem d_L_same_78 : dec m_L_same 78 = .ok (.aload_n 1, 1) := by decide +kernel
theorem d_L_same_79 : dec m_L_same 79 = .ok (.getfield 64, 3) := by decide +kernel
theorem d_L_same_82 : dec m_L_same 82 = .ok (.iload 6, 2) := by decide +kernel
theorem d_L_same_84 : dec m_L_same 84 = .ok (.aaload, 1) := by decide +kernel
theorem d_L_same_85 : dec m_L_same 85 = .ok (.arraylength, 1) := by decide +kernel
theorem d_L_same_86 : dec m_L_same 86 = .ok (.istore 7, 2) := by decide +kernel
theorem d_L_same_88 : dec m_L_same 88 = .ok (.iload_n 2, 1) := by decide +kernel
theorem d_L_same_89 : dec m_L_same 89 = .ok (.iload 7, 2) := by decide +kernel
theorem d_L_same_91 : dec m_L_same 91 = .ok (.iadd, 1) := by decide +kernel
theorem d_L_same_92 : dec m_L_same 92 = .ok (.istore_n 2, 1) := by decide +kernel
theorem d_L_same_93 : dec m_L_same 93 = .ok (.iload_n 3, 1) := by decide +kernel
theorem d_L_same_94 : dec m_L_same 94 = .ok (.aload_n 1, 1) := by decide +kernel
theorem d_L_same_95 : dec m_L_same 95 = .ok (.getfield 86, 3) := by decide +kernel
theorem d_L_same_98 : dec m_L_same 98 = .ok (.iload 6, 2) := by decide +kernel
theorem d_L_same_100 : dec m_L_same 100 = .ok (.iaload, 1) := by decide +kernel
theorem d_L_same_101 : dec m_L_same 101 = .ok (.iadd, 1) := by decide +kernel
theorem d_L_same_102 : dec m_L_same 102 = .ok (.istore_n 3, 1) := by decide +kernel
theorem d_L_same_103 : dec m_L_same 103 = .ok (.iload 4, 2) := by decide +kernel
theorem d_L_same_105 : dec m_L_same 105 = .ok (.ifCond .lt 20, 3) := by decide +kernel
theorem d_L_same_108 : dec m_L_same 108 = .ok (.aload_n 1, 1) := by decide +kernel
theorem d_L_same_109 : dec m_L_same 109 = .ok (.getfield 86, 3) := by decide +kernel
theorem d_L_same_112 : dec m_L_same 112 = .ok (.iload 6, 2) := by decide +kernel
theorem d_L_same_114 : dec m_L_same 114 = .ok (.iaload, 1) := by decide +kernel
theorem d_L_same_115 : dec m_L_same 115 = .ok (.aload_n 1, 1) := by decide +kernel
theorem d_L_same_116 : dec m_L_same 116 = .ok (.getfield 86, 3) := by decide +kernel
theorem d_L_same_119 : dec m_L_same 119 = .ok (.iload 4, 2) := by decide +kernel
theorem d_L_same_121 : dec m_L_same 121 = .ok (.iaload, 1) := by decide +kernel
theorem d_L_same_122 : dec m_L_same 122 = .ok (.if_icmp .le 8, 3) := by decide +kernel
theorem d_L_same_125 : dec m_L_same 125 = .ok (.iload 6, 2) := by decide +kernel
theorem d_L_same_127 : dec m_L_same 127 = .ok (.goto 5, 3) := by decide +kernel
theorem d_L_same_130 : dec m_L_same 130 = .ok (.iload 4, 2) := by decide +kernel
theorem d_L_same_132 : dec m_L_same 132 = .ok (.istore 4, 2) := by decide +kernel
theorem d_L_same_134 : dec m_L_same 134 = .ok (.aload_n 0, 1) := by decide +kernel
theorem d_L_same_135 : dec m_L_same 135 = .ok (.iload 6, 2) := by decide +kernel
theorem d_L_same_137 : dec m_L_same 137 = .ok (.iconst 0, 1) := by decide +kernel
theorem d_L_same_138 : dec m_L_same 138 = .ok (.invokevirtual 89, 3) := by decide +kernel
theorem d_L_same_141 : dec m_L_same 141 = .ok (.aload_n 1, 1) := by decide +kernel
theorem d_L_same_142 : dec m_L_same 142 = .ok (.getfield 50, 3) := by decide +kernel
theorem d_L_same_145 : dec m_L_same 145 = .ok (.iload 6, 2) := by decide +kernel
theorem d_L_same_147 : dec m_L_same 147 = .ok (.baload, 1) := by decide +kernel
theorem d_L_same_148 : dec m_L_same 148 = .ok (.ifCond .eq 7, 3) := by decide +kernel
theorem d_L_same_151 : dec m_L_same 151 = .ok (.iconst 1, 1) := by decide +kernel
theorem d_L_same_152 : dec m_L_same 152 = .ok (.goto 4, 3) := by decide +kernel
theorem d_L_same_155 : dec m_L_same 155 = .ok (.iconst 0, 1) := by decide +kernel
theorem d_L_same_156 : dec m_L_same 156 = .ok (.if_icmp .ne 86, 3) := by decide +kernel
theorem d_L_same_159 : dec m_L_same 159 = .ok (.aload_n 0, 1) := by decide +kernel
theorem d_L_same_160 : dec m_L_same 160 = .ok (.iload 6, 2) := by decide +kernel
theorem d_L_same_162 : dec m_L_same 162 = .ok (.iconst 1, 1) := by decide +kernel
theorem d_L_same_163 : dec m_L_same 163 = .ok (.invokevirtual 89, 3) := by decide +kernel
theorem d_L_same_166 : dec m_L_same 166 = .ok (.aload_n 1, 1) := by decide +kernel
theorem d_L_same_167 : dec m_L_same 167 = .ok (.getfield 30, 3) := by decide +kernel
theorem d_L_same_170 : dec m_L_same 170 = .ok (.iload 6, 2) := by decide +kernel
theorem d_L_same_172 : dec m_L_same 172 = .ok (.iaload, 1) := by decide +kernel
theorem d_L_same_173 : dec m_L_same 173 = .ok (.if_icmp .ne 69, 3) := by decide +kernel
theorem d_L_same_176 : dec m_L_same 176 = .ok (.aload_n 0, 1) := by decide +kernel
theorem d_L_same_177 : dec m_L_same 177 = .ok (.iload 6, 2) := by decide +kernel
theorem d_L_same_179 : dec m_L_same 179 = .ok (.iconst 2, 1) := by decide +kernel
theorem d_L_same_180 : dec m_L_same 180 = .ok (.invokevirtual 89, 3) := by decide +kernel
theorem d_L_same_183 : dec m_L_same 183 = .ok (.iload 7, 2) := by decide +kernel
theorem d_L_same_185 : dec m_L_same 185 = .ok (.if_icmp .ne 57, 3) := by decide +kernel
theorem d_L_same_188 : dec m_L_same 188 = .ok (.aload_n 0, 1) := by decide +kernel
theorem d_L_same_189 : dec m_L_same 189 = .ok (.iload 6, 2) := by decide +kernel
theorem d_L_same_191 : dec m_L_same 191 = .ok (.iconst 3, 1) := by decide +kernel
theorem d_L_same_192 : dec m_L_same 192 = .ok (.invokevirtual 89, 3) := by decide +kernel
theorem d_L_same_195 : dec m_L_same 195 = .ok (.aload_n 1, 1) := by decide +kernel
theorem d_L_same_196 : dec m_L_same 196 = .ok (.getfield 86, 3) := by decide +kernel
theorem d_L_same_199 : dec m_L_same 199 = .ok (.iload 6, 2) := by decide +kernel
theorem d_L_same_201 : dec m_L_same 201 = .ok (.iaload, 1) := by decide +kernel
theorem d_L_same_202 : dec m_L_same 202 = .ok (.if_icmp .ne 40, 3) := by decide +kernel
theorem d_L_same_205 : dec m_L_same 205 = .ok (.aload_n 0, 1) := by decide +kernel
theorem d_L_same_206 : dec m_L_same 206 = .ok (.iload 6, 2) := by decide +kernel
theorem d_L_same_208 : dec m_L_same 208 = .ok (.iconst 5, 1) := by decide +kernel
theorem d_L_same_209 : dec m_L_same 209 = .ok (.invokevirtual 89, 3) := by decide +kernel
theorem d_L_same_212 : dec m_L_same 212 = .ok (.aload_n 1, 1) := by decide +kernel
theorem d_L_same_213 : dec m_L_same 213 = .ok (.getfield 93, 3) := by decide +kernel
theorem d_L_same_216 : dec m_L_same 216 = .ok (.iload 6, 2) := by decide +kernel
theorem d_L_same_218 : dec m_L_same 218 = .ok (.iaload, 1) := by decide +kernel
theorem d_L_same_219 : dec m_L_same 219 = .ok (.if_icmp .ne 23, 3) := by decide +kernel
theorem d_L_same_222 : dec m_L_same 222 = .ok (.aload_n 0, 1) := by decide +kernel
theorem d_L_same_223 : dec m_L_same 223 = .ok (.iload 6, 2) := by decide +kernel
theorem d_L_same_225 : dec m_L_same 225 = .ok (.bipush 10, 2) := by decide +kernel
theorem d_L_same_227 : dec m_L_same 227 = .ok (.iload 7, 2) := by decide +kernel
theorem d_L_same_229 : dec m_L_same 229 = .ok (.iadd, 1) := by decide +kernel
theorem d_L_same_230 : dec m_L_same 230 = .ok (.invokevirtual 89, 3) := by decide +kernel
theorem d_L_same_233 : dec m_L_same 233 = .ok (.ldc 98, 2) := by decide +kernel
theorem d_L_same_235 : dec m_L_same 235 = .ok (.if_icmp .ne 7, 3) := by decide +kernel
theorem d_L_same_238 : dec m_L_same 238 = .ok (.iconst 1, 1) := by decide +kernel
theorem d_L_same_239 : dec m_L_same 239 = .ok (.goto 4, 3) := by decide +kernel
theorem d_L_same_242 : dec m_L_same 242 = .ok (.iconst 0, 1) := by decide +kernel
theorem d_L_same_243 : dec m_L_same 243 = .ok (.istore 5, 2) := by decide +kernel
theorem d_L_same_245 : dec m_L_same 245 = .ok (.iconst 0, 1) := by decide +kernel
theorem d_L_same_246 : dec m_L_same 246 = .ok (.istore 8, 2) := by decide +kernel
theorem d_L_same_248 : dec m_L_same 248 = .ok (.iload 8, 2) := by decide +kernel
theorem d_L_same_250 : dec m_L_same 250 = .ok (.iload 7, 2) := by decide +kernel
theorem d_L_same_252 : dec m_L_same 252 = .ok (.if_icmp .ge 45, 3) := by decide +kernel
theorem d_L_same_255 : dec m_L_same 255 = .ok (.iload 5, 2) := by decide +kernel
theorem d_L_same_257 : dec m_L_same 257 = .ok (.ifCond .eq 40, 3) := by decide +kernel
theorem d_L_same_260 : dec m_L_same 260 = .ok (.aload_n 0, 1) := by decide +kernel
theorem d_L_same_261 : dec m_L_same 261 = .ok (.iload 6, 2) := by decide +kernel
theorem d_L_same_263 : dec m_L_same 263 = .ok (.bipush 10, 2) := by decide +kernel
theorem d_L_same_265 : dec m_L_same 265 = .ok (.iload 8, 2) := by decide +kernel
theorem d_L_same_267 : dec m_L_same 267 = .ok (.iadd, 1) := by decide +kernel
theorem d_L_same_268 : dec m_L_same 268 = .ok (.invokevirtual 89, 3) := by decide +kernel
theorem d_L_same_271 : dec m_L_same 271 = .ok (.aload_n 1, 1) := by decide +kernel
theorem d_L_same_272 : dec m_L_same 272 = .ok (.getfield 64, 3) := by decide +kernel
theorem d_L_same_275 : dec m_L_same 275 = .ok (.iload 6, 2) := by decide +kernel
theorem d_L_same_277 : dec m_L_same 277 = .ok (.aaload, 1) := by decide +kernel
theorem d_L_same_278 : dec m_L_same 278 = .ok (.iload 8, 2) := by decide +kernel
theorem d_L_same_280 : dec m_L_same 280 = .ok (.iaload, 1) := by decide +kernel
theorem d_L_same_281 : dec m_L_same 281 = .ok (.if_icmp .ne 7, 3) := by decide +kernel
theorem d_L_same_284 : dec m_L_same 284 = .ok (.iconst 1, 1) := by decide +kernel
theorem d_L_same_285 : dec m_L_same 285 = .ok (.goto 4, 3) := by decide +kernel
theorem d_L_same_288 : dec m_L_same 288 = .ok (.iconst 0, 1) := by decide +kernel
theorem d_L_same_289 : dec m_L_same 289 = .ok (.istore 5, 2) := by decide +kernel
theorem d_L_same_291 : dec m_L_same 291 = .ok (.iinc 8 1, 3) := by decide +kernel
theorem d_L_same_294 : dec m_L_same 294 = .ok (.goto (-46), 3) := by decide +kernel
theorem d_L_same_297 : dec m_L_same 297 = .ok (.iinc 6 1, 3) := by decide +kernel
theorem d_L_same_300 : dec m_L_same 300 = .ok (.goto (-236), 3) := by decide +kernel
theorem d_L_same_303 : dec m_L_same 303 = .ok (.aload_n 1, 1) := by decide +kernel
theorem d_L_same_304 : dec m_L_same 304 = .ok (.invokevirtual 99, 3) := by decide +kernel
theorem d_L_same_307 : dec m_L_same 307 = .ok (.astore 6, 2) := by decide +kernel
theorem d_L_same_309 : dec m_L_same 309 = .ok (.iload 5, 2) := by decide +kernel
theorem d_L_same_311 : dec m_L_same 311 = .ok (.ifCond .eq 67, 3) := by decide +kernel
theorem d_L_same_314 : dec m_L_same 314 = .ok (.aload_n 0, 1) := by decide +kernel
theorem d_L_same_315 : dec m_L_same 315 = .ok (.iconst 1, 1) := by decide +kernel
theorem d_L_same_316 : dec m_L_same 316 = .ok (.invokevirtual 83, 3) := by decide +kernel
theorem d_L_same_319 : dec m_L_same 319 = .ok (.iload_n 2, 1) := by decide +kernel
theorem d_L_same_320 : dec m_L_same 320 = .ok (.if_icmp .ne 58, 3) := by decide +kernel
theorem d_L_same_323 : dec m_L_same 323 = .ok (.aload_n 0, 1) := by decide +kernel
theorem d_L_same_324 : dec m_L_same 324 = .ok (.aload_n 1, 1) := by decide +kernel
theorem d_L_same_325 : dec m_L_same 325 = .ok (.getfield 80, 3) := by decide +kernel
theorem d_L_same_328 : dec m_L_same 328 = .ok (.iconst 0, 1) := by decide +kernel
theorem d_L_same_329 : dec m_L_same 329 = .ok (.invokevirtual 89, 3) := by decide +kernel
theorem d_L_same_332 : dec m_L_same 332 = .ok (.ldc 98, 2) := by decide +kernel
theorem d_L_same_334 : dec m_L_same 334 = .ok (.if_icmp .ne 44, 3) := by decide +kernel
theorem d_L_same_337 : dec m_L_same 337 = .ok (.aload_n 0, 1) := by decide +kernel
theorem d_L_same_338 : dec m_L_same 338 = .ok (.iconst (-1), 1) := by decide +kernel
theorem d_L_same_339 : dec m_L_same 339 = .ok (.invokevirtual 103, 3) := by decide +kernel
theorem d_L_same_342 : dec m_L_same 342 = .ok (.aload 6, 2) := by decide +kernel
theorem d_L_same_344 : dec m_L_same 344 = .ok (.invokevirtual 106, 3) := by decide +kernel
theorem d_L_same_347 : dec m_L_same 347 = .ok (.if_icmp .ne 31, 3) := by decide +kernel
theorem d_L_same_350 : dec m_L_same 350 = .ok (.aload_n 0, 1) := by decide +kernel
theorem d_L_same_351 : dec m_L_same 351 = .ok (.aload 6, 2) := by decide +kernel
theorem d_L_same_353 : dec m_L_same 353 = .ok (.invokevirtual 106, 3) := by decide +kernel
theorem d_L_same_356 : dec m_L_same 356 = .ok (.invokevirtual 103, 3) := by decide +kernel
theorem d_L_same_359 : dec m_L_same 359 = .ok (.bipush (-2), 2) := by decide +kernel
theorem d_L_same_361 : dec m_L_same 361 = .ok (.if_icmp .ne 17, 3) := by decide +kernel
theorem d_L_same_364 : dec m_L_same 364 = .ok (.aload_n 0, 1) := by decide +kernel
theorem d_L_same_365 : dec m_L_same 365 = .ok (.bipush (-2), 2) := by decide +kernel
theorem d_L_same_367 : dec m_L_same 367 = .ok (.invokevirtual 103, 3) := by decide +kernel
theorem d_L_same_370 : dec m_L_same 370 = .ok (.iconst (-1), 1) := by decide +kernel
theorem d_L_same_371 : dec m_L_same 371 = .ok (.if_icmp .ne 7, 3) := by decide +kernel
theorem d_L_same_374 : dec m_L_same 374 = .ok (.iconst 1, 1) := by decide +kernel
theorem d_L_same_375 : dec m_L_same 375 = .ok (.goto 4, 3) := by decide +kernel
theorem d_L_same_378 : dec m_L_same 378 = .ok (.iconst 0, 1) := by decide +kernel
theorem d_L_same_379 : dec m_L_same 379 = .ok (.istore 5, 2) := by decide +kernel
theorem d_L_same_381 : dec m_L_same 381 = .ok (.iconst 0, 1) := by decide +kernel
theorem d_L_same_382 : dec m_L_same 382 = .ok (.istore 7, 2) := by decide +kernel
theorem d_L_same_384 : dec m_L_same 384 = .ok (.iload 7, 2) := by decide +kernel
theorem d_L_same_386 : dec m_L_same 386 = .ok (.aload 6, 2) := by decide +kernel
theorem d_L_same_388 : dec m_L_same 388 = .ok (.invokevirtual 106, 3) := by decide +kernel
theorem d_L_same_391 : dec m_L_same 391 = .ok (.if_icmp .ge 37, 3) := by decide +kernel
theorem d_L_same_394 : dec m_L_same 394 = .ok (.iload 5, 2) := by decide +kernel
theorem d_L_same_396 : dec m_L_same 396 = .ok (.ifCond .eq 32, 3) := by decide +kernel
theorem d_L_same_399 : dec m_L_same 399 = .ok (.aload_n 0, 1) := by decide +kernel
theorem d_L_same_400 : dec m_L_same 400 = .ok (.iload 7, 2) := by decide +kernel
theorem d_L_same_402 : dec m_L_same 402 = .ok (.invokevirtual 103, 3) := by decide +kernel
theorem d_L_same_405 : dec m_L_same 405 = .ok (.aload 6, 2) := by decide +kernel
theorem d_L_same_407 : dec m_L_same 407 = .ok (.iload 7, 2) := by decide +kernel
theorem d_L_same_409 : dec m_L_same 409 = .ok (.invokevirtual 109, 3) := by decide +kernel
theorem d_L_same_412 : dec m_L_same 412 = .ok (.if_icmp .ne 7, 3) := by decide +kernel
theorem d_L_same_415 : dec m_L_same 415 = .ok (.iconst 1, 1) := by decide +kernel
theorem d_L_same_416 : dec m_L_same 416 = .ok (.goto 4, 3) := by decide +kernel
theorem d_L_same_419 : dec m_L_same 419 = .ok (.iconst 0, 1) := by decide +kernel
theorem d_L_same_420 : dec m_L_same 420 = .ok (.istore 5, 2) := by decide +kernel
theorem d_L_same_422 : dec m_L_same 422 = .ok (.iinc 7 1, 3) := by decide +kernel
theorem d_L_same_425 : dec m_L_same 425 = .ok (.goto (-41), 3) := by decide +kernel
theorem d_L_same_428 : dec m_L_same 428 = .ok (.iload 5, 2) := by decide +kernel
theorem d_L_same_430 : dec m_L_same 430 = .ok (.ifCond .eq 94, 3) := by decide +kernel
theorem d_L_same_433 : dec m_L_same 433 = .ok (.aload_n 0, 1) := by decide +kernel
theorem d_L_same_434 : dec m_L_same 434 = .ok (.iconst 0, 1) := by decide +kernel
theorem d_L_same_435 : dec m_L_same 435 = .ok (.invokevirtual 110, 3) := by decide +kernel
theorem d_L_same_438 : dec m_L_same 438 = .ok (.aload_n 1, 1) := by decide +kernel
theorem d_L_same_439 : dec m_L_same 439 = .ok (.getfield 113, 3) := by decide +kernel
theorem d_L_same_442 : dec m_L_same 442 = .ok (.if_icmp .ne 82, 3) := by decide +kernel
theorem d_L_same_445 : dec m_L_same 445 = .ok (.aload_n 0, 1) := by decide +kernel
theorem d_L_same_446 : dec m_L_same 446 = .ok (.iconst 1, 1) := by decide +kernel
theorem d_L_same_447 : dec m_L_same 447 = .ok (.invokevirtual 110, 3) := by decide +kernel
theorem d_L_same_450 : dec m_L_same 450 = .ok (.iload_n 3, 1) := by decide +kernel
theorem d_L_same_451 : dec m_L_same 451 = .ok (.if_icmp .ne 73, 3) := by decide +kernel
theorem d_L_same_454 : dec m_L_same 454 = .ok (.iload_n 3, 1) := by decide +kernel
theorem d_L_same_455 : dec m_L_same 455 = .ok (.aload_n 1, 1) := by decide +kernel
theorem d_L_same_456 : dec m_L_same 456 = .ok (.getfield 113, 3) := by decide +kernel
theorem d_L_same_459 : dec m_L_same 459 = .ok (.iadd, 1) := by decide +kernel
theorem d_L_same_460 : dec m_L_same 460 = .ok (.ifCond .ne 64, 3) := by decide +kernel
theorem d_L_same_463 : dec m_L_same 463 = .ok (.aload_n 0, 1) := by decide +kernel
theorem d_L_same_464 : dec m_L_same 464 = .ok (.iconst 2, 1) := by decide +kernel
theorem d_L_same_465 : dec m_L_same 465 = .ok (.invokevirtual 110, 3) := by decide +kernel
theorem d_L_same_468 : dec m_L_same 468 = .ok (.aload_n 1, 1) := by decide +kernel
theorem d_L_same_469 : dec m_L_same 469 = .ok (.getfield 116, 3) := by decide +kernel
theorem d_L_same_472 : dec m_L_same 472 = .ok (.if_icmp .ne 52, 3) := by decide +kernel
theorem d_L_same_475 : dec m_L_same 475 = .ok (.aload_n 0, 1) := by decide +kernel
theorem d_L_same_476 : dec m_L_same 476 = .ok (.iconst 3, 1) := by decide +kernel
theorem d_L_same_477 : dec m_L_same 477 = .ok (.invokevirtual 110, 3) := by decide +kernel
theorem d_L_same_480 : dec m_L_same 480 = .ok (.iload 4, 2) := by decide +kernel
theorem d_L_same_482 : dec m_L_same 482 = .ok (.if_icmp .ne 42, 3) := by decide +kernel
theorem d_L_same_485 : dec m_L_same 485 = .ok (.aload_n 0, 1) := by decide +kernel
theorem d_L_same_486 : dec m_L_same 486 = .ok (.iconst 4, 1) := by decide +kernel
theorem d_L_same_487 : dec m_L_same 487 = .ok (.invokevirtual 110, 3) := by decide +kernel
theorem d_L_same_490 : dec m_L_same 490 = .ok (.aload_n 1, 1) := by decide +kernel
theorem d_L_same_491 : dec m_L_same 491 = .ok (.getfield 119, 3) := by decide +kernel
theorem d_L_same_494 : dec m_L_same 494 = .ok (.if_icmp .ne 30, 3) := by decide +kernel
theorem d_L_same_497 : dec m_L_same 497 = .ok (.aload_n 0, 1) := by decide +kernel
theorem d_L_same_498 : dec m_L_same 498 = .ok (.iconst 5, 1) := by decide +kernel
theorem d_L_same_499 : dec m_L_same 499 = .ok (.invokevirtual 110, 3) := by decide +kernel
theorem d_L_same_502 : dec m_L_same 502 = .ok (.aload_n 1, 1) := by decide +kernel
theorem d_L_same_503 : dec m_L_same 503 = .ok (.getfield 122, 3) := by decide +kernel
theorem d_L_same_506 : dec m_L_same 506 = .ok (.if_icmp .ne 18, 3) := by decide +kernel
theorem d_L_same_509 : dec m_L_same 509 = .ok (.aload_n 0, 1) := by decide +kernel
theorem d_L_same_510 : dec m_L_same 510 = .ok (.bipush 6, 2) := by decide +kernel
theorem d_L_same_512 : dec m_L_same 512 = .ok (.invokevirtual 110, 3) := by decide +kernel
theorem d_L_same_515 : dec m_L_same 515 = .ok (.ldc 98, 2) := by decide +kernel
theorem d_L_same_517 : dec m_L_same 517 = .ok (.if_icmp .ne 7, 3) := by decide +kernel
theorem d_L_same_520 : dec m_L_same 520 = .ok (.iconst 1, 1) := by decide +kernel
theorem d_L_same_521 : dec m_L_same 521 = .ok (.goto 4, 3) := by decide +kernel
theorem d_L_same_524 : dec m_L_same 524 = .ok (.iconst 0, 1) := by decide +kernel
theorem d_L_same_525 : dec m_L_same 525 = .ok (.ireturn, 1) := by decide +kernel
theorem d_L_closes_0 : dec m_L_closes 0 = .ok (.new 28, 3) := by decide +kernel
theorem d_L_closes_3 : dec m_L_closes 3 = .ok (.dup, 1) := by decide +kernel
theorem d_L_closes_4 : dec m_L_closes 4 = .ok (.aload_n 0, 1) := by decide +kernel
theorem d_L_closes_5 : dec m_L_closes 5 = .ok (.iconst 1, 1) := by decide +kernel
theorem d_L_closes_6 : dec m_L_closes 6 = .ok (.iload_n 1, 1) := by decide +kernel
theorem d_L_closes_7 : dec m_L_closes 7 = .ok (.ishl, 1) := by decide +kernel
theorem d_L_closes_8 : dec m_L_closes 8 = .ok (.iconst (-1), 1) := by decide +kernel
theorem d_L_closes_9 : dec m_L_closes 9 = .ok (.invokespecial 36, 3) := by decide +kernel
theorem d_L_closes_12 : dec m_L_closes 12 = .ok (.aload_n 0, 1) := by decide +kernel
theorem d_L_closes_13 : dec m_L_closes 13 = .ok (.getfield 71, 3) := by decide +kernel
theorem d_L_closes_16 : dec m_L_closes 16 = .ok (.aload_n 0, 1) := by decide +kernel
theorem d_L_closes_17 : dec m_L_closes 17 = .ok (.getfield 39, 3) := by decide +kernel
theorem d_L_closes_20 : dec m_L_closes 20 = .ok (.invokevirtual 43, 3) := by decide +kernel
theorem d_L_closes_23 : dec m_L_closes 23 = .ok (.astore_n 2, 1) := by decide +kernel
theorem d_L_closes_24 : dec m_L_closes 24 = .ok (.aload_n 2, 1) := by decide +kernel
theorem d_L_closes_25 : dec m_L_closes 25 = .ok (.getfield 125, 3) := by decide +kernel
theorem d_L_closes_28 : dec m_L_closes 28 = .ok (.ifCond .ne 6, 3) := by decide +kernel
theorem d_L_closes_31 : dec m_L_closes 31 = .ok (.bipush (-2), 2) := by decide +kernel
theorem d_L_closes_33 : dec m_L_closes 33 = .ok (.ireturn, 1) := by decide +kernel
theorem d_L_closes_34 : dec m_L_closes 34 = .ok (.aload_n 0, 1) := by decide +kernel
theorem d_L_closes_35 : dec m_L_closes 35 = .ok (.iload_n 1, 1) := by decide +kernel
theorem d_L_closes_36 : dec m_L_closes 36 = .ok (.aload_n 0, 1) := by decide +kernel
theorem d_L_closes_37 : dec m_L_closes 37 = .ok (.getfield 71, 3) := by decide +kernel
theorem d_L_closes_40 : dec m_L_closes 40 = .ok (.invokestatic 128, 3) := by decide +kernel
theorem d_L_closes_43 : dec m_L_closes 43 = .ok (.istore_n 3, 1) := by decide +kernel
theorem d_L_closes_44 : dec m_L_closes 44 = .ok (.bipush 21, 2) := by decide +kernel
theorem d_L_closes_46 : dec m_L_closes 46 = .ok (.newarray .int, 2) := by decide +kernel
theorem d_L_closes_48 : dec m_L_closes 48 = .ok (.astore 4, 2) := by decide +kernel
theorem d_L_closes_50 : dec m_L_closes 50 = .ok (.bipush 21, 2) := by decide +kernel
theorem d_L_closes_52 : dec m_L_closes 52 = .ok (.newarray .int, 2) := by decide +kernel
theorem d_L_closes_54 : dec m_L_closes 54 = .ok (.astore 5, 2) := by decide +kernel
theorem d_L_closes_56 : dec m_L_closes 56 = .ok (.iconst 0, 1) := by decide +kernel
theorem d_L_closes_57 : dec m_L_closes 57 = .ok (.istore 6, 2) := by decide +kernel
theorem d_L_closes_59 : dec m_L_closes 59 = .ok (.iload 6, 2) := by decide +kernel
theorem d_L_closes_61 : dec m_L_closes 61 = .ok (.aload_n 0, 1) := by decide +kernel
theorem d_L_closes_62 : dec m_L_closes 62 = .ok (.getfield 80, 3) := by decide +kernel
theorem d_L_closes_65 : dec m_L_closes 65 = .ok (.if_icmp .ge 66, 3) := by decide +kernel
theorem d_L_closes_68 : dec m_L_closes 68 = .ok (.aload 4, 2) := by decide +kernel
theorem d_L_closes_70 : dec m_L_closes 70 = .ok (.iload 6, 2) := by decide +kernel
theorem d_L_closes_72 : dec m_L_closes 72 = .ok (.aload_n 0, 1) := by decide +kernel
theorem d_L_closes_73 : dec m_L_closes 73 = .ok (.getfield 30, 3) := by decide +kernel
theorem d_L_closes_76 : dec m_L_closes 76 = .ok (.iload 6, 2) := by decide +kernel
theorem d_L_closes_78 : dec m_L_closes 78 = .ok (.iaload, 1) := by decide +kernel
theorem d_L_closes_79 : dec m_L_closes 79 = .ok (.iload_n 1, 1) := by decide +kernel
theorem d_L_closes_80 : dec m_L_closes 80 = .ok (.if_icmp .ne 17, 3) := by decide +kernel
theorem d_L_closes_83 : dec m_L_closes 83 = .ok (.aload_n 0, 1) := by decide +kernel
theorem d_L_closes_84 : dec m_L_closes 84 = .ok (.iload 6, 2) := by decide +kernel
theorem d_L_closes_86 : dec m_L_closes 86 = .ok (.aload_n 0, 1) := by decide +kernel
theorem d_L_closes_87 : dec m_L_closes 87 = .ok (.getfield 71, 3) := by decide +kernel
theorem d_L_closes_90 : dec m_L_closes 90 = .ok (.iconst (-1), 1) := by decide +kernel
theorem d_L_closes_91 : dec m_L_closes 91 = .ok (.invokestatic 74, 3) := by decide +kernel
theorem d_L_closes_94 : dec m_L_closes 94 = .ok (.goto 4, 3) := by decide +kernel
theorem d_L_closes_97 : dec m_L_closes 97 = .ok (.iconst 0, 1) := by decide +kernel
theorem d_L_closes_98 : dec m_L_closes 98 = .ok (.iastore, 1) := by decide +kernel
theorem d_L_closes_99 : dec m_L_closes 99 = .ok (.aload 5, 2) := by decide +kernel
theorem d_L_closes_101 : dec m_L_closes 101 = .ok (.iload 6, 2) := by decide +kernel
theorem d_L_closes_103 : dec m_L_closes 103 = .ok (.aload_n 0, 1) := by decide +kernel
theorem d_L_closes_104 : dec m_L_closes 104 = .ok (.getfield 30, 3) := by decide +kernel
theorem d_L_closes_107 : dec m_L_closes 107 = .ok (.iload 6, 2) := by decide +kernel
theorem d_L_closes_109 : dec m_L_closes 109 = .ok (.iaload, 1) := by decide +kernel
theorem d_L_closes_110 : dec m_L_closes 110 = .ok (.iload_n 1, 1) := by decide +kernel
theorem d_L_closes_111 : dec m_L_closes 111 = .ok (.if_icmp .ne 12, 3) := by decide +kernel
theorem d_L_closes_114 : dec m_L_closes 114 = .ok (.aload_n 2, 1) := by decide +kernel
theorem d_L_closes_115 : dec m_L_closes 115 = .ok (.iload 6, 2) := by decide +kernel
theorem d_L_closes_117 : dec m_L_closes 117 = .ok (.invokevirtual 47, 3) := by decide +kernel
theorem d_L_closes_120 : dec m_L_closes 120 = .ok (.goto 4, 3) := by decide +kernel
theorem d_L_closes_123 : dec m_L_closes 123 = .ok (.iconst 0, 1) := by decide +kernel
theorem d_L_closes_124 : dec m_L_closes 124 = .ok (.iastore, 1) := by decide +kernel
theorem d_L_closes_125 : dec m_L_closes 125 = .ok (.iinc 6 1, 3) := by decide +kernel
theorem d_L_closes_128 : dec m_L_closes 128 = .ok (.goto (-69), 3) := by decide +kernel
theorem d_L_closes_131 : dec m_L_closes 131 = .ok (.iconst 0, 1) := by decide +kernel
theorem d_L_closes_132 : dec m_L_closes 132 = .ok (.istore 6, 2) := by decide +kernel
theorem d_L_closes_134 : dec m_L_closes 134 = .ok (.iload 6, 2) := by decide +kernel
theorem d_L_closes_136 : dec m_L_closes 136 = .ok (.aload_n 0, 1) := by decide +kernel
theorem d_L_closes_137 : dec m_L_closes 137 = .ok (.getfield 80, 3) := by decide +kernel
theorem d_L_closes_140 : dec m_L_closes 140 = .ok (.if_icmp .ge 106, 3) := by decide +kernel
theorem d_L_closes_143 : dec m_L_closes 143 = .ok (.aload_n 0, 1) := by decide +kernel
theorem d_L_closes_144 : dec m_L_closes 144 = .ok (.getfield 86, 3) := by decide +kernel
theorem d_L_closes_147 : dec m_L_closes 147 = .ok (.iload 6, 2) := by decide +kernel
theorem d_L_closes_149 : dec m_L_closes 149 = .ok (.dup2, 1) := by decide +kernel
theorem d_L_closes_150 : dec m_L_closes 150 = .ok (.iaload, 1) := by decide +kernel
theorem d_L_closes_151 : dec m_L_closes 151 = .ok (.aload_n 0, 1) := by decide +kernel
theorem d_L_closes_152 : dec m_L_closes 152 = .ok (.getfield 50, 3) := by decide +kernel
theorem d_L_closes_155 : dec m_L_closes 155 = .ok (.iload 6, 2) := by decide +kernel
theorem d_L_closes_157 : dec m_L_closes 157 = .ok (.baload, 1) := by decide +kernel
theorem d_L_closes_158 : dec m_L_closes 158 = .ok (.ifCond .eq 11, 3) := by decide +kernel
theorem d_L_closes_161 : dec m_L_closes 161 = .ok (.aload 4, 2) := by decide +kernel
theorem d_L_closes_163 : dec m_L_closes 163 = .ok (.iload 6, 2) := by decide +kernel
theorem d_L_closes_165 : dec m_L_closes 165 = .ok (.iaload, 1) := by decide +kernel
theorem d_L_closes_166 : dec m_L_closes 166 = .ok (.goto 9, 3) := by decide +kernel
theorem d_L_closes_169 : dec m_L_closes 169 = .ok (.aload 4, 2) := by decide +kernel
theorem d_L_closes_171 : dec m_L_closes 171 = .ok (.iload 6, 2) := by decide +kernel
theorem d_L_closes_173 : dec m_L_closes 173 = .ok (.iaload, 1) := by decide +kernel
theorem d_L_closes_174 : dec m_L_closes 174 = .ok (.ineg, 1) := by decide +kernel
theorem d_L_closes_175 : dec m_L_closes 175 = .ok (.iadd, 1) := by decide +kernel
theorem d_L_closes_176 : dec m_L_closes 176 = .ok (.iastore, 1) := by decide +kernel
theorem d_L_closes_177 : dec m_L_closes 177 = .ok (.aload_n 0, 1) := by decide +kernel
theorem d_L_closes_178 : dec m_L_closes 178 = .ok (.getfield 93, 3) := by decide +kernel
theorem d_L_closes_181 : dec m_L_closes 181 = .ok (.iload 6, 2) := by decide +kernel
theorem d_L_closes_183 : dec m_L_closes 183 = .ok (.dup2, 1) := by decide +kernel
theorem d_L_closes_184 : dec m_L_closes 184 = .ok (.iaload, 1) := by decide +kernel
theorem d_L_closes_185 : dec m_L_closes 185 = .ok (.aload 5, 2) := by decide +kernel
theorem d_L_closes_187 : dec m_L_closes 187 = .ok (.iload 6, 2) := by decide +kernel
theorem d_L_closes_189 : dec m_L_closes 189 = .ok (.iaload, 1) := by decide +kernel
theorem d_L_closes_190 : dec m_L_closes 190 = .ok (.iadd, 1) := by decide +kernel
theorem d_L_closes_191 : dec m_L_closes 191 = .ok (.iastore, 1) := by decide +kernel
theorem d_L_closes_192 : dec m_L_closes 192 = .ok (.aload_n 0, 1) := by decide +kernel
theorem d_L_closes_193 : dec m_L_closes 193 = .ok (.getfield 64, 3) := by decide +kernel
theorem d_L_closes_196 : dec m_L_closes 196 = .ok (.iload 6, 2) := by decide +kernel
theorem d_L_closes_198 : dec m_L_closes 198 = .ok (.aaload, 1) := by decide +kernel
theorem d_L_closes_199 : dec m_L_closes 199 = .ok (.arraylength, 1) := by decide +kernel
theorem d_L_closes_200 : dec m_L_closes 200 = .ok (.aload 5, 2) := by decide +kernel
theorem d_L_closes_202 : dec m_L_closes 202 = .ok (.iload 6, 2) := by decide +kernel
theorem d_L_closes_204 : dec m_L_closes 204 = .ok (.iaload, 1) := by decide +kernel
theorem d_L_closes_205 : dec m_L_closes 205 = .ok (.isub, 1) := by decide +kernel
theorem d_L_closes_206 : dec m_L_closes 206 = .ok (.newarray .int, 2) := by decide +kernel
theorem d_L_closes_208 : dec m_L_closes 208 = .ok (.astore 7, 2) := by decide +kernel
theorem d_L_closes_210 : dec m_L_closes 210 = .ok (.aload_n 0, 1) := by decide +kernel
theorem d_L_closes_211 : dec m_L_closes 211 = .ok (.getfield 64, 3) := by decide +kernel
theorem d_L_closes_214 : dec m_L_closes 214 = .ok (.iload 6, 2) := by decide +kernel
theorem d_L_closes_216 : dec m_L_closes 216 = .ok (.aaload, 1) := by decide +kernel
theorem d_L_closes_217 : dec m_L_closes 217 = .ok (.aload 5, 2) := by decide +kernel
theorem d_L_closes_219 : dec m_L_closes 219 = .ok (.iload 6, 2) := by decide +kernel
theorem d_L_closes_221 : dec m_L_closes 221 = .ok (.iaload, 1) := by decide +kernel
theorem d_L_closes_222 : dec m_L_closes 222 = .ok (.aload 7, 2) := by decide +kernel
theorem d_L_closes_224 : dec m_L_closes 224 = .ok (.iconst 0, 1) := by decide +kernel
theorem d_L_closes_225 : dec m_L_closes 225 = .ok (.aload 7, 2) := by decide +kernel
theorem d_L_closes_227 : dec m_L_closes 227 = .ok (.arraylength, 1) := by decide +kernel
theorem d_L_closes_228 : dec m_L_closes 228 = .ok (.invokestatic 132, 3) := by decide +kernel
theorem d_L_closes_231 : dec m_L_closes 231 = .ok (.aload_n 0, 1) := by decide +kernel
theorem d_L_closes_232 : dec m_L_closes 232 = .ok (.getfield 64, 3) := by decide +kernel
theorem d_L_closes_235 : dec m_L_closes 235 = .ok (.iload 6, 2) := by decide +kernel
theorem d_L_closes_237 : dec m_L_closes 237 = .ok (.aload 7, 2) := by decide +kernel
theorem d_L_closes_239 : dec m_L_closes 239 = .ok (.aastore, 1) := by decide +kernel
theorem d_L_closes_240 : dec m_L_closes 240 = .ok (.iinc 6 1, 3) := by decide +kernel
theorem d_L_closes_243 : dec m_L_closes 243 = .ok (.goto (-109), 3) := by decide +kernel
theorem d_L_closes_246 : dec m_L_closes 246 = .ok (.aload_n 0, 1) := by decide +kernel
theorem d_L_closes_247 : dec m_L_closes 247 = .ok (.dup, 1) := by decide +kernel
theorem d_L_closes_248 : dec m_L_closes 248 = .ok (.getfield 113, 3) := by decide +kernel
theorem d_L_closes_251 : dec m_L_closes 251 = .ok (.iload_n 3, 1) := by decide +kernel
theorem d_L_closes_252 : dec m_L_closes 252 = .ok (.iadd, 1) := by decide +kernel
theorem d_L_closes_253 : dec m_L_closes 253 = .ok (.putfield 113, 3) := by decide +kernel
theorem d_L_closes_256 : dec m_L_closes 256 = .ok (.aload_n 0, 1) := by decide +kernel
theorem d_L_closes_257 : dec m_L_closes 257 = .ok (.aload_n 0, 1) := by decide +kernel
theorem d_L_closes_258 : dec m_L_closes 258 = .ok (.getfield 122, 3) := by decide +kernel
theorem d_L_closes_261 : dec m_L_closes 261 = .ok (.ifCond .ne 7, 3) := by decide +kernel
theorem d_L_closes_264 : dec m_L_closes 264 = .ok (.iload_n 3, 1) := by decide +kernel
theorem d_L_closes_265 : dec m_L_closes 265 = .ok (.goto 11, 3) := by decide +kernel
theorem d_L_closes_268 : dec m_L_closes 268 = .ok (.aload_n 0, 1) := by decide +kernel
theorem d_L_closes_269 : dec m_L_closes 269 = .ok (.getfield 119, 3) := by decide +kernel
theorem d_L_closes_272 : dec m_L_closes 272 = .ok (.iload_n 3, 1) := by decide +kernel
theorem d_L_closes_273 : dec m_L_closes 273 = .ok (.invokestatic 138, 3) := by decide +kernel
theorem d_L_closes_276 : dec m_L_closes 276 = .ok (.putfield 119, 3) := by decide +kernel
theorem d_L_closes_279 : dec m_L_closes 279 = .ok (.aload_n 0, 1) := by decide +kernel
theorem d_L_closes_280 : dec m_L_closes 280 = .ok (.dup, 1) := by decide +kernel
theorem d_L_closes_281 : dec m_L_closes 281 = .ok (.getfield 122, 3) := by decide +kernel
theorem d_L_closes_284 : dec m_L_closes 284 = .ok (.iconst 1, 1) := by decide +kernel
theorem d_L_closes_285 : dec m_L_closes 285 = .ok (.iadd, 1) := by decide +kernel
theorem d_L_closes_286 : dec m_L_closes 286 = .ok (.putfield 122, 3) := by decide +kernel
theorem d_L_closes_289 : dec m_L_closes 289 = .ok (.aload_n 0, 1) := by decide +kernel
theorem d_L_closes_290 : dec m_L_closes 290 = .ok (.dup, 1) := by decide +kernel
theorem d_L_closes_291 : dec m_L_closes 291 = .ok (.getfield 116, 3) := by decide +kernel
theorem d_L_closes_294 : dec m_L_closes 294 = .ok (.aload_n 2, 1) := by decide +kernel
theorem d_L_closes_295 : dec m_L_closes 295 = .ok (.getfield 125, 3) := by decide +kernel
theorem d_L_closes_298 : dec m_L_closes 298 = .ok (.iadd, 1) := by decide +kernel
theorem d_L_closes_299 : dec m_L_closes 299 = .ok (.putfield 116, 3) := by decide +kernel
theorem d_L_closes_302 : dec m_L_closes 302 = .ok (.aload_n 2, 1) := by decide +kernel
theorem d_L_closes_303 : dec m_L_closes 303 = .ok (.getfield 125, 3) := by decide +kernel
theorem d_L_closes_306 : dec m_L_closes 306 = .ok (.ireturn, 1) := by decide +kernel
theorem d_L_goesOn_0 : dec m_L_goesOn 0 = .ok (.iload_n 0, 1) := by decide +kernel
theorem d_L_goesOn_1 : dec m_L_goesOn 1 = .ok (.ifCond .eq 16, 3) := by decide +kernel
theorem d_L_goesOn_4 : dec m_L_goesOn 4 = .ok (.iload_n 2, 1) := by decide +kernel
theorem d_L_goesOn_5 : dec m_L_goesOn 5 = .ok (.iload_n 1, 1) := by decide +kernel
theorem d_L_goesOn_6 : dec m_L_goesOn 6 = .ok (.if_icmp .lt 7, 3) := by decide +kernel
theorem d_L_goesOn_9 : dec m_L_goesOn 9 = .ok (.iconst 1, 1) := by decide +kernel
theorem d_L_goesOn_10 : dec m_L_goesOn 10 = .ok (.goto 17, 3) := by decide +kernel
theorem d_L_goesOn_13 : dec m_L_goesOn 13 = .ok (.iconst 0, 1) := by decide +kernel
theorem d_L_goesOn_14 : dec m_L_goesOn 14 = .ok (.goto 13, 3) := by decide +kernel
theorem d_L_goesOn_17 : dec m_L_goesOn 17 = .ok (.iload_n 2, 1) := by decide +kernel
theorem d_L_goesOn_18 : dec m_L_goesOn 18 = .ok (.iload_n 1, 1) := by decide +kernel
theorem d_L_goesOn_19 : dec m_L_goesOn 19 = .ok (.if_icmp .gt 7, 3) := by decide +kernel
theorem d_L_goesOn_22 : dec m_L_goesOn 22 = .ok (.iconst 1, 1) := by decide +kernel
theorem d_L_goesOn_23 : dec m_L_goesOn 23 = .ok (.goto 4, 3) := by decide +kernel
theorem d_L_goesOn_26 : dec m_L_goesOn 26 = .ok (.iconst 0, 1) := by decide +kernel
theorem d_L_goesOn_27 : dec m_L_goesOn 27 = .ok (.ireturn, 1) := by decide +kernel
end
