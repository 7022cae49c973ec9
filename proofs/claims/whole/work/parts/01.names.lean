-- ===== PART A: goes FIRST, ahead of the names: the tables' words, and 'selects' of the private methods out of them =====
/-- a private method of a class that the tables say can be made, by its rows of tables_1 -/
def lw_okq (q : MethodName × Nat) : Prop := (q.1.cls ≠ "java/lang/invoke/MethodHandle" ∧ q.1.cls ≠ "java/lang/invoke/VarHandle") ∧ Cond.instantiable q.1.cls q.2 ∈ tables_1 ∧ Cond.privateMethod q.1 ∈ tables_1 ∧ Cond.instanceMethod q.1 ∈ tables_1
theorem lw_p0 : lw_okq (⟨"TradeHall$Tape", "skipBlanks", "()V"⟩, 7) := ⟨⟨by decide +kernel, by decide +kernel⟩, List.mem_of_getElem? (i := 90) (by decide +kernel), List.mem_of_getElem? (i := 313) (by decide +kernel), List.mem_of_getElem? (i := 314) (by decide +kernel)⟩
theorem lw_p1 : lw_okq (⟨"TradeHall$Tape", "byteAt", "(I)I"⟩, 7) := ⟨⟨by decide +kernel, by decide +kernel⟩, List.mem_of_getElem? (i := 90) (by decide +kernel), List.mem_of_getElem? (i := 317) (by decide +kernel), List.mem_of_getElem? (i := 318) (by decide +kernel)⟩
theorem lw_p2 : lw_okq (⟨"TradeHall$Tape", "readPart", "()V"⟩, 7) := ⟨⟨by decide +kernel, by decide +kernel⟩, List.mem_of_getElem? (i := 90) (by decide +kernel), List.mem_of_getElem? (i := 321) (by decide +kernel), List.mem_of_getElem? (i := 322) (by decide +kernel)⟩
theorem lw_p3 : lw_okq (⟨"TradeHall$Tape", "skipWord", "()V"⟩, 7) := ⟨⟨by decide +kernel, by decide +kernel⟩, List.mem_of_getElem? (i := 90) (by decide +kernel), List.mem_of_getElem? (i := 325) (by decide +kernel), List.mem_of_getElem? (i := 326) (by decide +kernel)⟩
theorem lw_p4 : lw_okq (⟨"TradeHall$Tape", "isWord", "(ILjava/lang/String;)Z"⟩, 7) := ⟨⟨by decide +kernel, by decide +kernel⟩, List.mem_of_getElem? (i := 90) (by decide +kernel), List.mem_of_getElem? (i := 333) (by decide +kernel), List.mem_of_getElem? (i := 334) (by decide +kernel)⟩
theorem lw_p5 : lw_okq (⟨"TradeHall$Tape", "readTrader", "(IZ)V"⟩, 7) := ⟨⟨by decide +kernel, by decide +kernel⟩, List.mem_of_getElem? (i := 90) (by decide +kernel), List.mem_of_getElem? (i := 385) (by decide +kernel), List.mem_of_getElem? (i := 386) (by decide +kernel)⟩
theorem lw_p6 : lw_okq (⟨"TradeHall$Tape", "note", "(II)V"⟩, 7) := ⟨⟨by decide +kernel, by decide +kernel⟩, List.mem_of_getElem? (i := 90) (by decide +kernel), List.mem_of_getElem? (i := 389) (by decide +kernel), List.mem_of_getElem? (i := 390) (by decide +kernel)⟩
theorem lw_p7 : lw_okq (⟨"TradeHall$Tape", "readNumber", "(I)I"⟩, 7) := ⟨⟨by decide +kernel, by decide +kernel⟩, List.mem_of_getElem? (i := 90) (by decide +kernel), List.mem_of_getElem? (i := 393) (by decide +kernel), List.mem_of_getElem? (i := 394) (by decide +kernel)⟩
theorem lw_p8 : lw_okq (⟨"TradeHall$Tape", "readFee", "(I)V"⟩, 7) := ⟨⟨by decide +kernel, by decide +kernel⟩, List.mem_of_getElem? (i := 90) (by decide +kernel), List.mem_of_getElem? (i := 444) (by decide +kernel), List.mem_of_getElem? (i := 445) (by decide +kernel)⟩
theorem lw_p9 : lw_okq (⟨"TradeHall$Tape", "readLaw", "(I)V"⟩, 7) := ⟨⟨by decide +kernel, by decide +kernel⟩, List.mem_of_getElem? (i := 90) (by decide +kernel), List.mem_of_getElem? (i := 449) (by decide +kernel), List.mem_of_getElem? (i := 450) (by decide +kernel)⟩
theorem lw_p10 : lw_okq (⟨"TradeHall$History", "at", "(I)LTradeHall$Hall;"⟩, 3) := ⟨⟨by decide +kernel, by decide +kernel⟩, List.mem_of_getElem? (i := 122) (by decide +kernel), List.mem_of_getElem? (i := 483) (by decide +kernel), List.mem_of_getElem? (i := 484) (by decide +kernel)⟩
theorem lw_p11 : lw_okq (⟨"TradeHall", "settleGrade", "(I)V"⟩, 11) := ⟨⟨by decide +kernel, by decide +kernel⟩, List.mem_of_getElem? (i := 18) (by decide +kernel), List.mem_of_getElem? (i := 534) (by decide +kernel), List.mem_of_getElem? (i := 535) (by decide +kernel)⟩
theorem lw_p12 : lw_okq (⟨"TradeHall$Book", "priceForAll", "()I"⟩, 11) := ⟨⟨by decide +kernel, by decide +kernel⟩, List.mem_of_getElem? (i := 172) (by decide +kernel), List.mem_of_getElem? (i := 576) (by decide +kernel), List.mem_of_getElem? (i := 577) (by decide +kernel)⟩
theorem lw_p13 : lw_okq (⟨"TradeHall$Book", "slotAt", "(ZI)I"⟩, 11) := ⟨⟨by decide +kernel, by decide +kernel⟩, List.mem_of_getElem? (i := 172) (by decide +kernel), List.mem_of_getElem? (i := 597) (by decide +kernel), List.mem_of_getElem? (i := 598) (by decide +kernel)⟩
theorem lw_p14 : lw_okq (⟨"TradeHall$Book", "amountsDone", "(ZI)I"⟩, 11) := ⟨⟨by decide +kernel, by decide +kernel⟩, List.mem_of_getElem? (i := 172) (by decide +kernel), List.mem_of_getElem? (i := 606) (by decide +kernel), List.mem_of_getElem? (i := 607) (by decide +kernel)⟩
theorem lw_p15 : lw_okq (⟨"TradeHall$Book", "amount", "(ZI)I"⟩, 11) := ⟨⟨by decide +kernel, by decide +kernel⟩, List.mem_of_getElem? (i := 172) (by decide +kernel), List.mem_of_getElem? (i := 610) (by decide +kernel), List.mem_of_getElem? (i := 611) (by decide +kernel)⟩
def lw_privs_1 : List (MethodName × Nat) := [(⟨"TradeHall$Tape", "skipBlanks", "()V"⟩, 7), (⟨"TradeHall$Tape", "byteAt", "(I)I"⟩, 7), (⟨"TradeHall$Tape", "readPart", "()V"⟩, 7), (⟨"TradeHall$Tape", "skipWord", "()V"⟩, 7), (⟨"TradeHall$Tape", "isWord", "(ILjava/lang/String;)Z"⟩, 7), (⟨"TradeHall$Tape", "readTrader", "(IZ)V"⟩, 7), (⟨"TradeHall$Tape", "note", "(II)V"⟩, 7), (⟨"TradeHall$Tape", "readNumber", "(I)I"⟩, 7), (⟨"TradeHall$Tape", "readFee", "(I)V"⟩, 7), (⟨"TradeHall$Tape", "readLaw", "(I)V"⟩, 7), (⟨"TradeHall$History", "at", "(I)LTradeHall$Hall;"⟩, 3), (⟨"TradeHall", "settleGrade", "(I)V"⟩, 11), (⟨"TradeHall$Book", "priceForAll", "()I"⟩, 11), (⟨"TradeHall$Book", "slotAt", "(ZI)I"⟩, 11), (⟨"TradeHall$Book", "amountsDone", "(ZI)I"⟩, 11), (⟨"TradeHall$Book", "amount", "(ZI)I"⟩, 11)]
theorem lw_r1 : ∀ q ∈ lw_privs_1, lw_okq q := List.forall_mem_cons.mpr ⟨lw_p0, List.forall_mem_cons.mpr ⟨lw_p1, List.forall_mem_cons.mpr ⟨lw_p2, List.forall_mem_cons.mpr ⟨lw_p3, List.forall_mem_cons.mpr ⟨lw_p4, List.forall_mem_cons.mpr ⟨lw_p5, List.forall_mem_cons.mpr ⟨lw_p6, List.forall_mem_cons.mpr ⟨lw_p7, List.forall_mem_cons.mpr ⟨lw_p8, List.forall_mem_cons.mpr ⟨lw_p9, List.forall_mem_cons.mpr ⟨lw_p10, List.forall_mem_cons.mpr ⟨lw_p11, List.forall_mem_cons.mpr ⟨lw_p12, List.forall_mem_cons.mpr ⟨lw_p13, List.forall_mem_cons.mpr ⟨lw_p14, List.forall_mem_cons.mpr ⟨lw_p15, fun _ h => absurd h List.not_mem_nil⟩⟩⟩⟩⟩⟩⟩⟩⟩⟩⟩⟩⟩⟩⟩⟩
theorem lw_p16 : lw_okq (⟨"TradeHall$Shelves", "at", "(I)LTradeHall$Hall;"⟩, 2) := ⟨⟨by decide +kernel, by decide +kernel⟩, List.mem_of_getElem? (i := 142) (by decide +kernel), List.mem_of_getElem? (i := 651) (by decide +kernel), List.mem_of_getElem? (i := 652) (by decide +kernel)⟩
theorem lw_p17 : lw_okq (⟨"TradeHall", "setAside", "(II)V"⟩, 11) := ⟨⟨by decide +kernel, by decide +kernel⟩, List.mem_of_getElem? (i := 18) (by decide +kernel), List.mem_of_getElem? (i := 733) (by decide +kernel), List.mem_of_getElem? (i := 734) (by decide +kernel)⟩
theorem lw_p18 : lw_okq (⟨"TradeHall", "gainByLie", "(II)I"⟩, 11) := ⟨⟨by decide +kernel, by decide +kernel⟩, List.mem_of_getElem? (i := 18) (by decide +kernel), List.mem_of_getElem? (i := 737) (by decide +kernel), List.mem_of_getElem? (i := 738) (by decide +kernel)⟩
theorem lw_p19 : lw_okq (⟨"TradeHall", "settleLie", "(II)V"⟩, 11) := ⟨⟨by decide +kernel, by decide +kernel⟩, List.mem_of_getElem? (i := 18) (by decide +kernel), List.mem_of_getElem? (i := 741) (by decide +kernel), List.mem_of_getElem? (i := 742) (by decide +kernel)⟩
theorem lw_p20 : lw_okq (⟨"TradeHall", "ways", "(II)J"⟩, 11) := ⟨⟨by decide +kernel, by decide +kernel⟩, List.mem_of_getElem? (i := 18) (by decide +kernel), List.mem_of_getElem? (i := 784) (by decide +kernel), List.mem_of_getElem? (i := 785) (by decide +kernel)⟩
theorem lw_p21 : lw_okq (⟨"TradeHall", "weighFees", "()V"⟩, 11) := ⟨⟨by decide +kernel, by decide +kernel⟩, List.mem_of_getElem? (i := 18) (by decide +kernel), List.mem_of_getElem? (i := 806) (by decide +kernel), List.mem_of_getElem? (i := 807) (by decide +kernel)⟩
theorem lw_p22 : lw_okq (⟨"TradeHall$Serving", "offerGrade", "(LTradeHall$Hall;IZ)V"⟩, 3) := ⟨⟨by decide +kernel, by decide +kernel⟩, List.mem_of_getElem? (i := 236) (by decide +kernel), List.mem_of_getElem? (i := 819) (by decide +kernel), List.mem_of_getElem? (i := 820) (by decide +kernel)⟩
theorem lw_p23 : lw_okq (⟨"TradeHall$Serving", "offerUnits", "(LTradeHall$Hall;IZ)V"⟩, 3) := ⟨⟨by decide +kernel, by decide +kernel⟩, List.mem_of_getElem? (i := 236) (by decide +kernel), List.mem_of_getElem? (i := 825) (by decide +kernel), List.mem_of_getElem? (i := 826) (by decide +kernel)⟩
theorem lw_p24 : lw_okq (⟨"TradeHall$Serving", "offerAsk", "(I)V"⟩, 3) := ⟨⟨by decide +kernel, by decide +kernel⟩, List.mem_of_getElem? (i := 236) (by decide +kernel), List.mem_of_getElem? (i := 831) (by decide +kernel), List.mem_of_getElem? (i := 832) (by decide +kernel)⟩
theorem lw_p25 : lw_okq (⟨"TradeHall$Serving", "offerBid", "(I)V"⟩, 3) := ⟨⟨by decide +kernel, by decide +kernel⟩, List.mem_of_getElem? (i := 236) (by decide +kernel), List.mem_of_getElem? (i := 836) (by decide +kernel), List.mem_of_getElem? (i := 837) (by decide +kernel)⟩
theorem lw_p26 : lw_okq (⟨"TradeHall", "worthOfAll", "()I"⟩, 11) := ⟨⟨by decide +kernel, by decide +kernel⟩, List.mem_of_getElem? (i := 18) (by decide +kernel), List.mem_of_getElem? (i := 840) (by decide +kernel), List.mem_of_getElem? (i := 841) (by decide +kernel)⟩
theorem lw_p27 : lw_okq (⟨"TradeHall", "worthOf", "(II)I"⟩, 11) := ⟨⟨by decide +kernel, by decide +kernel⟩, List.mem_of_getElem? (i := 18) (by decide +kernel), List.mem_of_getElem? (i := 844) (by decide +kernel), List.mem_of_getElem? (i := 845) (by decide +kernel)⟩
theorem lw_p28 : lw_okq (⟨"TradeHall$Letters", "beginPart", "(Ljava/lang/String;)V"⟩, 2) := ⟨⟨by decide +kernel, by decide +kernel⟩, List.mem_of_getElem? (i := 158) (by decide +kernel), List.mem_of_getElem? (i := 896) (by decide +kernel), List.mem_of_getElem? (i := 897) (by decide +kernel)⟩
theorem lw_p29 : lw_okq (⟨"TradeHall$Letters", "put", "(I)V"⟩, 2) := ⟨⟨by decide +kernel, by decide +kernel⟩, List.mem_of_getElem? (i := 158) (by decide +kernel), List.mem_of_getElem? (i := 900) (by decide +kernel), List.mem_of_getElem? (i := 901) (by decide +kernel)⟩
theorem lw_p30 : lw_okq (⟨"TradeHall$Letters", "putWord", "(Ljava/lang/String;)V"⟩, 2) := ⟨⟨by decide +kernel, by decide +kernel⟩, List.mem_of_getElem? (i := 158) (by decide +kernel), List.mem_of_getElem? (i := 904) (by decide +kernel), List.mem_of_getElem? (i := 905) (by decide +kernel)⟩
theorem lw_p31 : lw_okq (⟨"TradeHall$Letters", "putNumber", "(I)V"⟩, 2) := ⟨⟨by decide +kernel, by decide +kernel⟩, List.mem_of_getElem? (i := 158) (by decide +kernel), List.mem_of_getElem? (i := 911) (by decide +kernel), List.mem_of_getElem? (i := 912) (by decide +kernel)⟩
def lw_privs_2 : List (MethodName × Nat) := [(⟨"TradeHall$Shelves", "at", "(I)LTradeHall$Hall;"⟩, 2), (⟨"TradeHall", "setAside", "(II)V"⟩, 11), (⟨"TradeHall", "gainByLie", "(II)I"⟩, 11), (⟨"TradeHall", "settleLie", "(II)V"⟩, 11), (⟨"TradeHall", "ways", "(II)J"⟩, 11), (⟨"TradeHall", "weighFees", "()V"⟩, 11), (⟨"TradeHall$Serving", "offerGrade", "(LTradeHall$Hall;IZ)V"⟩, 3), (⟨"TradeHall$Serving", "offerUnits", "(LTradeHall$Hall;IZ)V"⟩, 3), (⟨"TradeHall$Serving", "offerAsk", "(I)V"⟩, 3), (⟨"TradeHall$Serving", "offerBid", "(I)V"⟩, 3), (⟨"TradeHall", "worthOfAll", "()I"⟩, 11), (⟨"TradeHall", "worthOf", "(II)I"⟩, 11), (⟨"TradeHall$Letters", "beginPart", "(Ljava/lang/String;)V"⟩, 2), (⟨"TradeHall$Letters", "put", "(I)V"⟩, 2), (⟨"TradeHall$Letters", "putWord", "(Ljava/lang/String;)V"⟩, 2), (⟨"TradeHall$Letters", "putNumber", "(I)V"⟩, 2)]
theorem lw_r2 : ∀ q ∈ lw_privs_2, lw_okq q := List.forall_mem_cons.mpr ⟨lw_p16, List.forall_mem_cons.mpr ⟨lw_p17, List.forall_mem_cons.mpr ⟨lw_p18, List.forall_mem_cons.mpr ⟨lw_p19, List.forall_mem_cons.mpr ⟨lw_p20, List.forall_mem_cons.mpr ⟨lw_p21, List.forall_mem_cons.mpr ⟨lw_p22, List.forall_mem_cons.mpr ⟨lw_p23, List.forall_mem_cons.mpr ⟨lw_p24, List.forall_mem_cons.mpr ⟨lw_p25, List.forall_mem_cons.mpr ⟨lw_p26, List.forall_mem_cons.mpr ⟨lw_p27, List.forall_mem_cons.mpr ⟨lw_p28, List.forall_mem_cons.mpr ⟨lw_p29, List.forall_mem_cons.mpr ⟨lw_p30, List.forall_mem_cons.mpr ⟨lw_p31, fun _ h => absurd h List.not_mem_nil⟩⟩⟩⟩⟩⟩⟩⟩⟩⟩⟩⟩⟩⟩⟩⟩
theorem lw_p32 : lw_okq (⟨"TradeHall", "areTwoOfOneGrade", "(II)Z"⟩, 11) := ⟨⟨by decide +kernel, by decide +kernel⟩, List.mem_of_getElem? (i := 18) (by decide +kernel), List.mem_of_getElem? (i := 952) (by decide +kernel), List.mem_of_getElem? (i := 953) (by decide +kernel)⟩
theorem lw_p33 : lw_okq (⟨"TradeHall", "rankGrade", "(I)V"⟩, 11) := ⟨⟨by decide +kernel, by decide +kernel⟩, List.mem_of_getElem? (i := 18) (by decide +kernel), List.mem_of_getElem? (i := 960) (by decide +kernel), List.mem_of_getElem? (i := 961) (by decide +kernel)⟩
theorem lw_p34 : lw_okq (⟨"TradeHall$Ranking", "has", "(I)Z"⟩, 3) := ⟨⟨by decide +kernel, by decide +kernel⟩, List.mem_of_getElem? (i := 219) (by decide +kernel), List.mem_of_getElem? (i := 972) (by decide +kernel), List.mem_of_getElem? (i := 973) (by decide +kernel)⟩
theorem lw_p35 : lw_okq (⟨"TradeHall", "gainByPact", "(III)I"⟩, 11) := ⟨⟨by decide +kernel, by decide +kernel⟩, List.mem_of_getElem? (i := 18) (by decide +kernel), List.mem_of_getElem? (i := 1006) (by decide +kernel), List.mem_of_getElem? (i := 1007) (by decide +kernel)⟩
theorem lw_p36 : lw_okq (⟨"TradeHall", "gradesWithTrades", "()I"⟩, 11) := ⟨⟨by decide +kernel, by decide +kernel⟩, List.mem_of_getElem? (i := 18) (by decide +kernel), List.mem_of_getElem? (i := 1036) (by decide +kernel), List.mem_of_getElem? (i := 1037) (by decide +kernel)⟩
theorem lw_p37 : lw_okq (⟨"TradeHallModel", "isTrader", "(I)Z"⟩, 44) := ⟨⟨by decide +kernel, by decide +kernel⟩, List.mem_of_getElem? (i := 1040) (by decide +kernel), List.mem_of_getElem? (i := 1183) (by decide +kernel), List.mem_of_getElem? (i := 1184) (by decide +kernel)⟩
theorem lw_p38 : lw_okq (⟨"TradeHallModel", "traders", "()I"⟩, 44) := ⟨⟨by decide +kernel, by decide +kernel⟩, List.mem_of_getElem? (i := 1040) (by decide +kernel), List.mem_of_getElem? (i := 1187) (by decide +kernel), List.mem_of_getElem? (i := 1188) (by decide +kernel)⟩
theorem lw_p39 : lw_okq (⟨"TradeHallModel", "of", "(II)I"⟩, 44) := ⟨⟨by decide +kernel, by decide +kernel⟩, List.mem_of_getElem? (i := 1040) (by decide +kernel), List.mem_of_getElem? (i := 1196) (by decide +kernel), List.mem_of_getElem? (i := 1197) (by decide +kernel)⟩
theorem lw_p40 : lw_okq (⟨"TradeHallModel", "lays", "(I)V"⟩, 44) := ⟨⟨by decide +kernel, by decide +kernel⟩, List.mem_of_getElem? (i := 1040) (by decide +kernel), List.mem_of_getElem? (i := 1200) (by decide +kernel), List.mem_of_getElem? (i := 1201) (by decide +kernel)⟩
theorem lw_p41 : lw_okq (⟨"TradeHallModel", "laysOf", "(I)V"⟩, 44) := ⟨⟨by decide +kernel, by decide +kernel⟩, List.mem_of_getElem? (i := 1040) (by decide +kernel), List.mem_of_getElem? (i := 1204) (by decide +kernel), List.mem_of_getElem? (i := 1205) (by decide +kernel)⟩
theorem lw_p42 : lw_okq (⟨"TradeHallModel", "isIn", "(II)Z"⟩, 44) := ⟨⟨by decide +kernel, by decide +kernel⟩, List.mem_of_getElem? (i := 1040) (by decide +kernel), List.mem_of_getElem? (i := 1208) (by decide +kernel), List.mem_of_getElem? (i := 1209) (by decide +kernel)⟩
theorem lw_p43 : lw_okq (⟨"TradeHallModel", "sells", "(I)Z"⟩, 44) := ⟨⟨by decide +kernel, by decide +kernel⟩, List.mem_of_getElem? (i := 1040) (by decide +kernel), List.mem_of_getElem? (i := 1215) (by decide +kernel), List.mem_of_getElem? (i := 1216) (by decide +kernel)⟩
theorem lw_p44 : lw_okq (⟨"TradeHallModel", "comesAsk", "(II)V"⟩, 44) := ⟨⟨by decide +kernel, by decide +kernel⟩, List.mem_of_getElem? (i := 1040) (by decide +kernel), List.mem_of_getElem? (i := 1219) (by decide +kernel), List.mem_of_getElem? (i := 1220) (by decide +kernel)⟩
theorem lw_p45 : lw_okq (⟨"TradeHallModel", "said", "(II)I"⟩, 44) := ⟨⟨by decide +kernel, by decide +kernel⟩, List.mem_of_getElem? (i := 1040) (by decide +kernel), List.mem_of_getElem? (i := 1223) (by decide +kernel), List.mem_of_getElem? (i := 1224) (by decide +kernel)⟩
theorem lw_p46 : lw_okq (⟨"TradeHallModel", "comesBid", "(II)V"⟩, 44) := ⟨⟨by decide +kernel, by decide +kernel⟩, List.mem_of_getElem? (i := 1040) (by decide +kernel), List.mem_of_getElem? (i := 1230) (by decide +kernel), List.mem_of_getElem? (i := 1231) (by decide +kernel)⟩
theorem lw_p47 : lw_okq (⟨"TradeHallModel", "laysBy", "(I)V"⟩, 44) := ⟨⟨by decide +kernel, by decide +kernel⟩, List.mem_of_getElem? (i := 1040) (by decide +kernel), List.mem_of_getElem? (i := 1234) (by decide +kernel), List.mem_of_getElem? (i := 1235) (by decide +kernel)⟩
def lw_privs_3 : List (MethodName × Nat) := [(⟨"TradeHall", "areTwoOfOneGrade", "(II)Z"⟩, 11), (⟨"TradeHall", "rankGrade", "(I)V"⟩, 11), (⟨"TradeHall$Ranking", "has", "(I)Z"⟩, 3), (⟨"TradeHall", "gainByPact", "(III)I"⟩, 11), (⟨"TradeHall", "gradesWithTrades", "()I"⟩, 11), (⟨"TradeHallModel", "isTrader", "(I)Z"⟩, 44), (⟨"TradeHallModel", "traders", "()I"⟩, 44), (⟨"TradeHallModel", "of", "(II)I"⟩, 44), (⟨"TradeHallModel", "lays", "(I)V"⟩, 44), (⟨"TradeHallModel", "laysOf", "(I)V"⟩, 44), (⟨"TradeHallModel", "isIn", "(II)Z"⟩, 44), (⟨"TradeHallModel", "sells", "(I)Z"⟩, 44), (⟨"TradeHallModel", "comesAsk", "(II)V"⟩, 44), (⟨"TradeHallModel", "said", "(II)I"⟩, 44), (⟨"TradeHallModel", "comesBid", "(II)V"⟩, 44), (⟨"TradeHallModel", "laysBy", "(I)V"⟩, 44)]
theorem lw_r3 : ∀ q ∈ lw_privs_3, lw_okq q := List.forall_mem_cons.mpr ⟨lw_p32, List.forall_mem_cons.mpr ⟨lw_p33, List.forall_mem_cons.mpr ⟨lw_p34, List.forall_mem_cons.mpr ⟨lw_p35, List.forall_mem_cons.mpr ⟨lw_p36, List.forall_mem_cons.mpr ⟨lw_p37, List.forall_mem_cons.mpr ⟨lw_p38, List.forall_mem_cons.mpr ⟨lw_p39, List.forall_mem_cons.mpr ⟨lw_p40, List.forall_mem_cons.mpr ⟨lw_p41, List.forall_mem_cons.mpr ⟨lw_p42, List.forall_mem_cons.mpr ⟨lw_p43, List.forall_mem_cons.mpr ⟨lw_p44, List.forall_mem_cons.mpr ⟨lw_p45, List.forall_mem_cons.mpr ⟨lw_p46, List.forall_mem_cons.mpr ⟨lw_p47, fun _ h => absurd h List.not_mem_nil⟩⟩⟩⟩⟩⟩⟩⟩⟩⟩⟩⟩⟩⟩⟩⟩
theorem lw_p48 : lw_okq (⟨"TradeHallModel", "laysCut", "()V"⟩, 44) := ⟨⟨by decide +kernel, by decide +kernel⟩, List.mem_of_getElem? (i := 1040) (by decide +kernel), List.mem_of_getElem? (i := 1238) (by decide +kernel), List.mem_of_getElem? (i := 1239) (by decide +kernel)⟩
theorem lw_p49 : lw_okq (⟨"TradeHallModel", "laysLess", "()V"⟩, 44) := ⟨⟨by decide +kernel, by decide +kernel⟩, List.mem_of_getElem? (i := 1040) (by decide +kernel), List.mem_of_getElem? (i := 1242) (by decide +kernel), List.mem_of_getElem? (i := 1243) (by decide +kernel)⟩
theorem lw_p50 : lw_okq (⟨"TradeHallModel", "all", "(I)V"⟩, 44) := ⟨⟨by decide +kernel, by decide +kernel⟩, List.mem_of_getElem? (i := 1040) (by decide +kernel), List.mem_of_getElem? (i := 1249) (by decide +kernel), List.mem_of_getElem? (i := 1250) (by decide +kernel)⟩
theorem lw_p51 : lw_okq (⟨"TradeHallModel", "doneOf", "(I)I"⟩, 44) := ⟨⟨by decide +kernel, by decide +kernel⟩, List.mem_of_getElem? (i := 1040) (by decide +kernel), List.mem_of_getElem? (i := 1253) (by decide +kernel), List.mem_of_getElem? (i := 1254) (by decide +kernel)⟩
theorem lw_p52 : lw_okq (⟨"TradeHallModel", "priceOr", "(I)I"⟩, 44) := ⟨⟨by decide +kernel, by decide +kernel⟩, List.mem_of_getElem? (i := 1040) (by decide +kernel), List.mem_of_getElem? (i := 1269) (by decide +kernel), List.mem_of_getElem? (i := 1270) (by decide +kernel)⟩
theorem lw_p53 : lw_okq (⟨"TradeHallModel", "takingsBy", "(II)I"⟩, 44) := ⟨⟨by decide +kernel, by decide +kernel⟩, List.mem_of_getElem? (i := 1040) (by decide +kernel), List.mem_of_getElem? (i := 1273) (by decide +kernel), List.mem_of_getElem? (i := 1274) (by decide +kernel)⟩
theorem lw_p54 : lw_okq (⟨"TradeHallModel", "dealOf", "(II)I"⟩, 44) := ⟨⟨by decide +kernel, by decide +kernel⟩, List.mem_of_getElem? (i := 1040) (by decide +kernel), List.mem_of_getElem? (i := 1277) (by decide +kernel), List.mem_of_getElem? (i := 1278) (by decide +kernel)⟩
theorem lw_p55 : lw_okq (⟨"TradeHallModel", "worthOf", "(I)I"⟩, 44) := ⟨⟨by decide +kernel, by decide +kernel⟩, List.mem_of_getElem? (i := 1040) (by decide +kernel), List.mem_of_getElem? (i := 1281) (by decide +kernel), List.mem_of_getElem? (i := 1282) (by decide +kernel)⟩
theorem lw_p56 : lw_okq (⟨"TradeHallModel", "worthWithout", "(II)I"⟩, 44) := ⟨⟨by decide +kernel, by decide +kernel⟩, List.mem_of_getElem? (i := 1040) (by decide +kernel), List.mem_of_getElem? (i := 1285) (by decide +kernel), List.mem_of_getElem? (i := 1286) (by decide +kernel)⟩
theorem lw_p57 : lw_okq (⟨"TradeHallModel", "sumOf", "(IIZ)I"⟩, 44) := ⟨⟨by decide +kernel, by decide +kernel⟩, List.mem_of_getElem? (i := 1040) (by decide +kernel), List.mem_of_getElem? (i := 1289) (by decide +kernel), List.mem_of_getElem? (i := 1290) (by decide +kernel)⟩
theorem lw_p58 : lw_okq (⟨"TradeHallModel", "doneWorth", "()I"⟩, 44) := ⟨⟨by decide +kernel, by decide +kernel⟩, List.mem_of_getElem? (i := 1040) (by decide +kernel), List.mem_of_getElem? (i := 1293) (by decide +kernel), List.mem_of_getElem? (i := 1294) (by decide +kernel)⟩
theorem lw_p59 : lw_okq (⟨"TradeHallModel", "gainOf", "(I)I"⟩, 44) := ⟨⟨by decide +kernel, by decide +kernel⟩, List.mem_of_getElem? (i := 1040) (by decide +kernel), List.mem_of_getElem? (i := 1301) (by decide +kernel), List.mem_of_getElem? (i := 1302) (by decide +kernel)⟩
theorem lw_p60 : lw_okq (⟨"TradeHallModel", "gainBy", "(II)I"⟩, 44) := ⟨⟨by decide +kernel, by decide +kernel⟩, List.mem_of_getElem? (i := 1040) (by decide +kernel), List.mem_of_getElem? (i := 1311) (by decide +kernel), List.mem_of_getElem? (i := 1312) (by decide +kernel)⟩
theorem lw_p61 : lw_okq (⟨"TradeHallModel", "isDoneBy", "(II)Z"⟩, 44) := ⟨⟨by decide +kernel, by decide +kernel⟩, List.mem_of_getElem? (i := 1040) (by decide +kernel), List.mem_of_getElem? (i := 1323) (by decide +kernel), List.mem_of_getElem? (i := 1324) (by decide +kernel)⟩
theorem lw_p62 : lw_okq (⟨"TradeHallModel", "pactBy", "(III)I"⟩, 44) := ⟨⟨by decide +kernel, by decide +kernel⟩, List.mem_of_getElem? (i := 1040) (by decide +kernel), List.mem_of_getElem? (i := 1340) (by decide +kernel), List.mem_of_getElem? (i := 1341) (by decide +kernel)⟩
theorem lw_p63 : lw_okq (⟨"TradeHallModel", "laysRanks", "(I)V"⟩, 44) := ⟨⟨by decide +kernel, by decide +kernel⟩, List.mem_of_getElem? (i := 1040) (by decide +kernel), List.mem_of_getElem? (i := 1352) (by decide +kernel), List.mem_of_getElem? (i := 1353) (by decide +kernel)⟩
def lw_privs_4 : List (MethodName × Nat) := [(⟨"TradeHallModel", "laysCut", "()V"⟩, 44), (⟨"TradeHallModel", "laysLess", "()V"⟩, 44), (⟨"TradeHallModel", "all", "(I)V"⟩, 44), (⟨"TradeHallModel", "doneOf", "(I)I"⟩, 44), (⟨"TradeHallModel", "priceOr", "(I)I"⟩, 44), (⟨"TradeHallModel", "takingsBy", "(II)I"⟩, 44), (⟨"TradeHallModel", "dealOf", "(II)I"⟩, 44), (⟨"TradeHallModel", "worthOf", "(I)I"⟩, 44), (⟨"TradeHallModel", "worthWithout", "(II)I"⟩, 44), (⟨"TradeHallModel", "sumOf", "(IIZ)I"⟩, 44), (⟨"TradeHallModel", "doneWorth", "()I"⟩, 44), (⟨"TradeHallModel", "gainOf", "(I)I"⟩, 44), (⟨"TradeHallModel", "gainBy", "(II)I"⟩, 44), (⟨"TradeHallModel", "isDoneBy", "(II)Z"⟩, 44), (⟨"TradeHallModel", "pactBy", "(III)I"⟩, 44), (⟨"TradeHallModel", "laysRanks", "(I)V"⟩, 44)]
theorem lw_r4 : ∀ q ∈ lw_privs_4, lw_okq q := List.forall_mem_cons.mpr ⟨lw_p48, List.forall_mem_cons.mpr ⟨lw_p49, List.forall_mem_cons.mpr ⟨lw_p50, List.forall_mem_cons.mpr ⟨lw_p51, List.forall_mem_cons.mpr ⟨lw_p52, List.forall_mem_cons.mpr ⟨lw_p53, List.forall_mem_cons.mpr ⟨lw_p54, List.forall_mem_cons.mpr ⟨lw_p55, List.forall_mem_cons.mpr ⟨lw_p56, List.forall_mem_cons.mpr ⟨lw_p57, List.forall_mem_cons.mpr ⟨lw_p58, List.forall_mem_cons.mpr ⟨lw_p59, List.forall_mem_cons.mpr ⟨lw_p60, List.forall_mem_cons.mpr ⟨lw_p61, List.forall_mem_cons.mpr ⟨lw_p62, List.forall_mem_cons.mpr ⟨lw_p63, fun _ h => absurd h List.not_mem_nil⟩⟩⟩⟩⟩⟩⟩⟩⟩⟩⟩⟩⟩⟩⟩⟩
theorem lw_p64 : lw_okq (⟨"TradeHallModel", "wantedAt", "(I)I"⟩, 44) := ⟨⟨by decide +kernel, by decide +kernel⟩, List.mem_of_getElem? (i := 1040) (by decide +kernel), List.mem_of_getElem? (i := 1366) (by decide +kernel), List.mem_of_getElem? (i := 1367) (by decide +kernel)⟩
theorem lw_p65 : lw_okq (⟨"TradeHallModel", "hadAt", "(I)I"⟩, 44) := ⟨⟨by decide +kernel, by decide +kernel⟩, List.mem_of_getElem? (i := 1040) (by decide +kernel), List.mem_of_getElem? (i := 1370) (by decide +kernel), List.mem_of_getElem? (i := 1371) (by decide +kernel)⟩
theorem lw_p66 : lw_okq (⟨"TradeHallModel", "livelyAt", "(I)I"⟩, 44) := ⟨⟨by decide +kernel, by decide +kernel⟩, List.mem_of_getElem? (i := 1040) (by decide +kernel), List.mem_of_getElem? (i := 1374) (by decide +kernel), List.mem_of_getElem? (i := 1375) (by decide +kernel)⟩
theorem lw_p67 : lw_okq (⟨"TradeHallModel", "tied", "([II)J"⟩, 44) := ⟨⟨by decide +kernel, by decide +kernel⟩, List.mem_of_getElem? (i := 1040) (by decide +kernel), List.mem_of_getElem? (i := 1399) (by decide +kernel), List.mem_of_getElem? (i := 1400) (by decide +kernel)⟩
theorem lw_p68 : lw_okq (⟨"TradeHallModel", "takingsOf", "(I)I"⟩, 44) := ⟨⟨by decide +kernel, by decide +kernel⟩, List.mem_of_getElem? (i := 1040) (by decide +kernel), List.mem_of_getElem? (i := 1427) (by decide +kernel), List.mem_of_getElem? (i := 1428) (by decide +kernel)⟩
theorem lw_p69 : lw_okq (⟨"TradeHallModel", "goesOnBy", "(I)V"⟩, 44) := ⟨⟨by decide +kernel, by decide +kernel⟩, List.mem_of_getElem? (i := 1040) (by decide +kernel), List.mem_of_getElem? (i := 1435) (by decide +kernel), List.mem_of_getElem? (i := 1436) (by decide +kernel)⟩
theorem lw_p70 : lw_okq (⟨"TradeHallModel", "laysSums", "(I)V"⟩, 44) := ⟨⟨by decide +kernel, by decide +kernel⟩, List.mem_of_getElem? (i := 1040) (by decide +kernel), List.mem_of_getElem? (i := 1439) (by decide +kernel), List.mem_of_getElem? (i := 1440) (by decide +kernel)⟩
theorem lw_p71 : lw_okq (⟨"TradeHallModel", "tries", "(III)V"⟩, 44) := ⟨⟨by decide +kernel, by decide +kernel⟩, List.mem_of_getElem? (i := 1040) (by decide +kernel), List.mem_of_getElem? (i := 1443) (by decide +kernel), List.mem_of_getElem? (i := 1444) (by decide +kernel)⟩
theorem lw_p72 : lw_okq (⟨"TradeHallModel", "worthOfAll", "()I"⟩, 44) := ⟨⟨by decide +kernel, by decide +kernel⟩, List.mem_of_getElem? (i := 1040) (by decide +kernel), List.mem_of_getElem? (i := 1447) (by decide +kernel), List.mem_of_getElem? (i := 1448) (by decide +kernel)⟩
theorem lw_p73 : lw_okq (⟨"TradeHallModel", "units", "()I"⟩, 44) := ⟨⟨by decide +kernel, by decide +kernel⟩, List.mem_of_getElem? (i := 1040) (by decide +kernel), List.mem_of_getElem? (i := 1481) (by decide +kernel), List.mem_of_getElem? (i := 1482) (by decide +kernel)⟩
theorem lw_p74 : lw_okq (⟨"TradeHallModel", "shelves", "()I"⟩, 44) := ⟨⟨by decide +kernel, by decide +kernel⟩, List.mem_of_getElem? (i := 1040) (by decide +kernel), List.mem_of_getElem? (i := 1485) (by decide +kernel), List.mem_of_getElem? (i := 1486) (by decide +kernel)⟩
theorem lw_p75 : lw_okq (⟨"TradeHallModel", "trading", "()I"⟩, 44) := ⟨⟨by decide +kernel, by decide +kernel⟩, List.mem_of_getElem? (i := 1040) (by decide +kernel), List.mem_of_getElem? (i := 1489) (by decide +kernel), List.mem_of_getElem? (i := 1490) (by decide +kernel)⟩
theorem lw_p76 : lw_okq (⟨"TradeHallModel", "spellAll", "()V"⟩, 44) := ⟨⟨by decide +kernel, by decide +kernel⟩, List.mem_of_getElem? (i := 1040) (by decide +kernel), List.mem_of_getElem? (i := 1497) (by decide +kernel), List.mem_of_getElem? (i := 1498) (by decide +kernel)⟩
theorem lw_p77 : lw_okq (⟨"TradeHallModel", "spellTrader", "(I)V"⟩, 44) := ⟨⟨by decide +kernel, by decide +kernel⟩, List.mem_of_getElem? (i := 1040) (by decide +kernel), List.mem_of_getElem? (i := 1501) (by decide +kernel), List.mem_of_getElem? (i := 1502) (by decide +kernel)⟩
theorem lw_p78 : lw_okq (⟨"TradeHallModel", "parts", "()V"⟩, 44) := ⟨⟨by decide +kernel, by decide +kernel⟩, List.mem_of_getElem? (i := 1040) (by decide +kernel), List.mem_of_getElem? (i := 1505) (by decide +kernel), List.mem_of_getElem? (i := 1506) (by decide +kernel)⟩
theorem lw_p79 : lw_okq (⟨"TradeHallModel", "spell", "(I)V"⟩, 44) := ⟨⟨by decide +kernel, by decide +kernel⟩, List.mem_of_getElem? (i := 1040) (by decide +kernel), List.mem_of_getElem? (i := 1509) (by decide +kernel), List.mem_of_getElem? (i := 1510) (by decide +kernel)⟩
def lw_privs_5 : List (MethodName × Nat) := [(⟨"TradeHallModel", "wantedAt", "(I)I"⟩, 44), (⟨"TradeHallModel", "hadAt", "(I)I"⟩, 44), (⟨"TradeHallModel", "livelyAt", "(I)I"⟩, 44), (⟨"TradeHallModel", "tied", "([II)J"⟩, 44), (⟨"TradeHallModel", "takingsOf", "(I)I"⟩, 44), (⟨"TradeHallModel", "goesOnBy", "(I)V"⟩, 44), (⟨"TradeHallModel", "laysSums", "(I)V"⟩, 44), (⟨"TradeHallModel", "tries", "(III)V"⟩, 44), (⟨"TradeHallModel", "worthOfAll", "()I"⟩, 44), (⟨"TradeHallModel", "units", "()I"⟩, 44), (⟨"TradeHallModel", "shelves", "()I"⟩, 44), (⟨"TradeHallModel", "trading", "()I"⟩, 44), (⟨"TradeHallModel", "spellAll", "()V"⟩, 44), (⟨"TradeHallModel", "spellTrader", "(I)V"⟩, 44), (⟨"TradeHallModel", "parts", "()V"⟩, 44), (⟨"TradeHallModel", "spell", "(I)V"⟩, 44)]
theorem lw_r5 : ∀ q ∈ lw_privs_5, lw_okq q := List.forall_mem_cons.mpr ⟨lw_p64, List.forall_mem_cons.mpr ⟨lw_p65, List.forall_mem_cons.mpr ⟨lw_p66, List.forall_mem_cons.mpr ⟨lw_p67, List.forall_mem_cons.mpr ⟨lw_p68, List.forall_mem_cons.mpr ⟨lw_p69, List.forall_mem_cons.mpr ⟨lw_p70, List.forall_mem_cons.mpr ⟨lw_p71, List.forall_mem_cons.mpr ⟨lw_p72, List.forall_mem_cons.mpr ⟨lw_p73, List.forall_mem_cons.mpr ⟨lw_p74, List.forall_mem_cons.mpr ⟨lw_p75, List.forall_mem_cons.mpr ⟨lw_p76, List.forall_mem_cons.mpr ⟨lw_p77, List.forall_mem_cons.mpr ⟨lw_p78, List.forall_mem_cons.mpr ⟨lw_p79, fun _ h => absurd h List.not_mem_nil⟩⟩⟩⟩⟩⟩⟩⟩⟩⟩⟩⟩⟩⟩⟩⟩
theorem lw_p80 : lw_okq (⟨"TradeHallModel", "spellWord", "(Ljava/lang/String;)V"⟩, 44) := ⟨⟨by decide +kernel, by decide +kernel⟩, List.mem_of_getElem? (i := 1040) (by decide +kernel), List.mem_of_getElem? (i := 1515) (by decide +kernel), List.mem_of_getElem? (i := 1516) (by decide +kernel)⟩
theorem lw_p81 : lw_okq (⟨"TradeHallModel", "spellNumber", "(I)V"⟩, 44) := ⟨⟨by decide +kernel, by decide +kernel⟩, List.mem_of_getElem? (i := 1040) (by decide +kernel), List.mem_of_getElem? (i := 1521) (by decide +kernel), List.mem_of_getElem? (i := 1522) (by decide +kernel)⟩
theorem lw_p82 : lw_okq (⟨"TradeHallModel", "keepsAct", "()V"⟩, 44) := ⟨⟨by decide +kernel, by decide +kernel⟩, List.mem_of_getElem? (i := 1040) (by decide +kernel), List.mem_of_getElem? (i := 1538) (by decide +kernel), List.mem_of_getElem? (i := 1539) (by decide +kernel)⟩
theorem lw_p83 : lw_okq (⟨"TradeHallModel", "becomes", "(II)I"⟩, 44) := ⟨⟨by decide +kernel, by decide +kernel⟩, List.mem_of_getElem? (i := 1040) (by decide +kernel), List.mem_of_getElem? (i := 1562) (by decide +kernel), List.mem_of_getElem? (i := 1563) (by decide +kernel)⟩
theorem lw_p84 : lw_okq (⟨"TradeHallModel", "goes", "(II)V"⟩, 44) := ⟨⟨by decide +kernel, by decide +kernel⟩, List.mem_of_getElem? (i := 1040) (by decide +kernel), List.mem_of_getElem? (i := 1574) (by decide +kernel), List.mem_of_getElem? (i := 1575) (by decide +kernel)⟩
theorem lw_p85 : lw_okq (⟨"TradeHallModel", "puts", "(I)V"⟩, 44) := ⟨⟨by decide +kernel, by decide +kernel⟩, List.mem_of_getElem? (i := 1040) (by decide +kernel), List.mem_of_getElem? (i := 1594) (by decide +kernel), List.mem_of_getElem? (i := 1595) (by decide +kernel)⟩
theorem lw_p86 : lw_okq (⟨"TradeHallModel", "readsAll", "()Z"⟩, 44) := ⟨⟨by decide +kernel, by decide +kernel⟩, List.mem_of_getElem? (i := 1040) (by decide +kernel), List.mem_of_getElem? (i := 1606) (by decide +kernel), List.mem_of_getElem? (i := 1607) (by decide +kernel)⟩
theorem lw_p87 : lw_okq (⟨"TradeHallModel", "nextByte", "()I"⟩, 44) := ⟨⟨by decide +kernel, by decide +kernel⟩, List.mem_of_getElem? (i := 1040) (by decide +kernel), List.mem_of_getElem? (i := 1610) (by decide +kernel), List.mem_of_getElem? (i := 1611) (by decide +kernel)⟩
theorem lw_p88 : lw_okq (⟨"TradeHallModel", "byteAt", "(I)I"⟩, 44) := ⟨⟨by decide +kernel, by decide +kernel⟩, List.mem_of_getElem? (i := 1040) (by decide +kernel), List.mem_of_getElem? (i := 1614) (by decide +kernel), List.mem_of_getElem? (i := 1615) (by decide +kernel)⟩
theorem lw_p89 : lw_okq (⟨"TradeHallModel", "readsPart", "()Z"⟩, 44) := ⟨⟨by decide +kernel, by decide +kernel⟩, List.mem_of_getElem? (i := 1040) (by decide +kernel), List.mem_of_getElem? (i := 1618) (by decide +kernel), List.mem_of_getElem? (i := 1619) (by decide +kernel)⟩
theorem lw_p90 : lw_okq (⟨"TradeHallModel", "isWord", "(Ljava/lang/String;)Z"⟩, 44) := ⟨⟨by decide +kernel, by decide +kernel⟩, List.mem_of_getElem? (i := 1040) (by decide +kernel), List.mem_of_getElem? (i := 1623) (by decide +kernel), List.mem_of_getElem? (i := 1624) (by decide +kernel)⟩
theorem lw_p91 : lw_okq (⟨"TradeHallModel", "readsTrader", "(Z)Z"⟩, 44) := ⟨⟨by decide +kernel, by decide +kernel⟩, List.mem_of_getElem? (i := 1040) (by decide +kernel), List.mem_of_getElem? (i := 1629) (by decide +kernel), List.mem_of_getElem? (i := 1630) (by decide +kernel)⟩
theorem lw_p92 : lw_okq (⟨"TradeHallModel", "fails", "(II)Z"⟩, 44) := ⟨⟨by decide +kernel, by decide +kernel⟩, List.mem_of_getElem? (i := 1040) (by decide +kernel), List.mem_of_getElem? (i := 1633) (by decide +kernel), List.mem_of_getElem? (i := 1634) (by decide +kernel)⟩
theorem lw_p93 : lw_okq (⟨"TradeHallModel", "readsNumber", "(II)Z"⟩, 44) := ⟨⟨by decide +kernel, by decide +kernel⟩, List.mem_of_getElem? (i := 1040) (by decide +kernel), List.mem_of_getElem? (i := 1637) (by decide +kernel), List.mem_of_getElem? (i := 1638) (by decide +kernel)⟩
theorem lw_p94 : lw_okq (⟨"TradeHallModel", "isDigit", "()Z"⟩, 44) := ⟨⟨by decide +kernel, by decide +kernel⟩, List.mem_of_getElem? (i := 1040) (by decide +kernel), List.mem_of_getElem? (i := 1641) (by decide +kernel), List.mem_of_getElem? (i := 1642) (by decide +kernel)⟩
theorem lw_p95 : lw_okq (⟨"TradeHallModel", "readsUnits", "(IZ)Z"⟩, 44) := ⟨⟨by decide +kernel, by decide +kernel⟩, List.mem_of_getElem? (i := 1040) (by decide +kernel), List.mem_of_getElem? (i := 1648) (by decide +kernel), List.mem_of_getElem? (i := 1649) (by decide +kernel)⟩
def lw_privs_6 : List (MethodName × Nat) := [(⟨"TradeHallModel", "spellWord", "(Ljava/lang/String;)V"⟩, 44), (⟨"TradeHallModel", "spellNumber", "(I)V"⟩, 44), (⟨"TradeHallModel", "keepsAct", "()V"⟩, 44), (⟨"TradeHallModel", "becomes", "(II)I"⟩, 44), (⟨"TradeHallModel", "goes", "(II)V"⟩, 44), (⟨"TradeHallModel", "puts", "(I)V"⟩, 44), (⟨"TradeHallModel", "readsAll", "()Z"⟩, 44), (⟨"TradeHallModel", "nextByte", "()I"⟩, 44), (⟨"TradeHallModel", "byteAt", "(I)I"⟩, 44), (⟨"TradeHallModel", "readsPart", "()Z"⟩, 44), (⟨"TradeHallModel", "isWord", "(Ljava/lang/String;)Z"⟩, 44), (⟨"TradeHallModel", "readsTrader", "(Z)Z"⟩, 44), (⟨"TradeHallModel", "fails", "(II)Z"⟩, 44), (⟨"TradeHallModel", "readsNumber", "(II)Z"⟩, 44), (⟨"TradeHallModel", "isDigit", "()Z"⟩, 44), (⟨"TradeHallModel", "readsUnits", "(IZ)Z"⟩, 44)]
theorem lw_r6 : ∀ q ∈ lw_privs_6, lw_okq q := List.forall_mem_cons.mpr ⟨lw_p80, List.forall_mem_cons.mpr ⟨lw_p81, List.forall_mem_cons.mpr ⟨lw_p82, List.forall_mem_cons.mpr ⟨lw_p83, List.forall_mem_cons.mpr ⟨lw_p84, List.forall_mem_cons.mpr ⟨lw_p85, List.forall_mem_cons.mpr ⟨lw_p86, List.forall_mem_cons.mpr ⟨lw_p87, List.forall_mem_cons.mpr ⟨lw_p88, List.forall_mem_cons.mpr ⟨lw_p89, List.forall_mem_cons.mpr ⟨lw_p90, List.forall_mem_cons.mpr ⟨lw_p91, List.forall_mem_cons.mpr ⟨lw_p92, List.forall_mem_cons.mpr ⟨lw_p93, List.forall_mem_cons.mpr ⟨lw_p94, List.forall_mem_cons.mpr ⟨lw_p95, fun _ h => absurd h List.not_mem_nil⟩⟩⟩⟩⟩⟩⟩⟩⟩⟩⟩⟩⟩⟩⟩⟩
theorem lw_p96 : lw_okq (⟨"TradeHallModel", "readsFee", "()Z"⟩, 44) := ⟨⟨by decide +kernel, by decide +kernel⟩, List.mem_of_getElem? (i := 1040) (by decide +kernel), List.mem_of_getElem? (i := 1654) (by decide +kernel), List.mem_of_getElem? (i := 1655) (by decide +kernel)⟩
theorem lw_p97 : lw_okq (⟨"TradeHallModel", "readsLaw", "()Z"⟩, 44) := ⟨⟨by decide +kernel, by decide +kernel⟩, List.mem_of_getElem? (i := 1040) (by decide +kernel), List.mem_of_getElem? (i := 1659) (by decide +kernel), List.mem_of_getElem? (i := 1660) (by decide +kernel)⟩
def lw_privs_7 : List (MethodName × Nat) := [(⟨"TradeHallModel", "readsFee", "()Z"⟩, 44), (⟨"TradeHallModel", "readsLaw", "()Z"⟩, 44)]
theorem lw_r7 : ∀ q ∈ lw_privs_7, lw_okq q := List.forall_mem_cons.mpr ⟨lw_p96, List.forall_mem_cons.mpr ⟨lw_p97, fun _ h => absurd h List.not_mem_nil⟩⟩
def lw_privs : List (MethodName × Nat) := lw_privs_1 ++ (lw_privs_2 ++ (lw_privs_3 ++ (lw_privs_4 ++ (lw_privs_5 ++ (lw_privs_6 ++ (lw_privs_7))))))
def lw_tbl : List Cond := k2_sels lw_privs ++ tables_1
theorem lw_privs_ok : ∀ q ∈ lw_privs, lw_okq q := by
  show ∀ q ∈ lw_privs_1 ++ (lw_privs_2 ++ (lw_privs_3 ++ (lw_privs_4 ++ (lw_privs_5 ++ (lw_privs_6 ++ (lw_privs_7)))))), lw_okq q
  exact List.forall_mem_append.mpr ⟨lw_r1, List.forall_mem_append.mpr ⟨lw_r2, List.forall_mem_append.mpr ⟨lw_r3, List.forall_mem_append.mpr ⟨lw_r4, List.forall_mem_append.mpr ⟨lw_r5, List.forall_mem_append.mpr ⟨lw_r6, lw_r7⟩⟩⟩⟩⟩⟩
/-- the streams that the claim lets the run draw from -/
abbrev lw_cs : List Choice := [Jvm.Choice.named "NaN.bits"]
theorem lw_bits : nanBits ∈ lw_cs := by first | decide | exact List.mem_cons_self | simp [lw_cs, nanBits]
def RX0 : String := "TradeHall$Book"
def TX0 : u_T := fun k => match k with
  | 0 => ("TradeHall$Book", "bids", "[I", true)
  | 1 => ("TradeHall$Book", "asks", "[I", true)
  | 2 => ("TradeHall$Book", "bidCount", "I", false)
  | 3 => ("TradeHall$Book", "askCount", "I", false)
  | 4 => ("TradeHall$Book", "fee", "I", false)
  | 5 => ("TradeHall$Book", "law", "I", false)
  | 6 => ("TradeHall$Book", "trades", "I", false)
  | 7 => ("TradeHall$Book", "worth", "I", false)
  | 8 => ("TradeHall$Book", "done", "I", false)
  | 9 => ("TradeHall$Book", "buyerPays", "I", false)
  | _ => ("TradeHall$Book", "sellerHas", "I", false)
def tyX0 : Nat → FieldType := fun k => match k with
  | 0 => .array .int
  | 1 => .array .int
  | 2 => .int
  | 3 => .int
  | 4 => .int
  | 5 => .int
  | 6 => .int
  | 7 => .int
  | 8 => .int
  | 9 => .int
  | _ => .int
abbrev wsX00 : List Cond := u_ws RX0 TX0 11
theorem nmX0 : ∀ a, a < 11 → ∀ b, b < 11 → a ≠ b → (TX0 a).2.1 ≠ (TX0 b).2.1 := by decide +kernel
theorem tyX0_ok : ∀ k, k < 11 → parseFieldDescriptor (TX0 k).2.2.1 = some (tyX0 k) := by decide +kernel
abbrev cX0_init : ByteArray := prog_2_method_1_code
def yX0_init : MethodName := ⟨RX0, "<init>", "()V"⟩
abbrev cX0_take : ByteArray := prog_2_method_2_code
def yX0_take : MethodName := ⟨RX0, "take", "(LTradeHall$Hall;II)V"⟩
abbrev cX0_takeTrader : ByteArray := prog_2_method_3_code
def yX0_takeTrader : MethodName := ⟨RX0, "takeTrader", "(LTradeHall$Hall;II)V"⟩
abbrev cX0_copyFrom : ByteArray := prog_2_method_4_code
def yX0_copyFrom : MethodName := ⟨RX0, "copyFrom", "(LTradeHall$Book;)V"⟩
abbrev cX0_insert : ByteArray := prog_2_method_5_code
def yX0_insert : MethodName := ⟨RX0, "insert", "([III)I"⟩
abbrev cX0_traderAt : ByteArray := prog_2_method_6_code
def yX0_traderAt : MethodName := ⟨RX0, "traderAt", "(ZI)I"⟩
abbrev cX0_unitAt : ByteArray := prog_2_method_7_code
def yX0_unitAt : MethodName := ⟨RX0, "unitAt", "(ZI)I"⟩
abbrev cX0_slotAt : ByteArray := prog_2_method_8_code
def yX0_slotAt : MethodName := ⟨RX0, "slotAt", "(ZI)I"⟩
abbrev cX0_bid : ByteArray := prog_2_method_9_code
def yX0_bid : MethodName := ⟨RX0, "bid", "(I)I"⟩
abbrev cX0_ask : ByteArray := prog_2_method_10_code
def yX0_ask : MethodName := ⟨RX0, "ask", "(I)I"⟩
abbrev cX0_amount : ByteArray := prog_2_method_11_code
def yX0_amount : MethodName := ⟨RX0, "amount", "(ZI)I"⟩
abbrev cX0_lastBid : ByteArray := prog_2_method_12_code
def yX0_lastBid : MethodName := ⟨RX0, "lastBid", "()I"⟩
abbrev cX0_lastAsk : ByteArray := prog_2_method_13_code
def yX0_lastAsk : MethodName := ⟨RX0, "lastAsk", "()I"⟩
abbrev cX0_settle : ByteArray := prog_2_method_14_code
def yX0_settle : MethodName := ⟨RX0, "settle", "(II)V"⟩
abbrev cX0_priceForAll : ByteArray := prog_2_method_15_code
def yX0_priceForAll : MethodName := ⟨RX0, "priceForAll", "()I"⟩
abbrev cX0_hasOnePrice : ByteArray := prog_2_method_16_code
def yX0_hasOnePrice : MethodName := ⟨RX0, "hasOnePrice", "()Z"⟩
abbrev cX0_worthOfFirst : ByteArray := prog_2_method_17_code
def yX0_worthOfFirst : MethodName := ⟨RX0, "worthOfFirst", "(I)I"⟩
abbrev cX0_lost : ByteArray := prog_2_method_18_code
def yX0_lost : MethodName := ⟨RX0, "lost", "()I"⟩
abbrev cX0_worthWithout : ByteArray := prog_2_method_19_code
def yX0_worthWithout : MethodName := ⟨RX0, "worthWithout", "(I)I"⟩
abbrev cX0_doneOf : ByteArray := prog_2_method_20_code
def yX0_doneOf : MethodName := ⟨RX0, "doneOf", "(ZI)I"⟩
abbrev cX0_moneyOf : ByteArray := prog_2_method_21_code
def yX0_moneyOf : MethodName := ⟨RX0, "moneyOf", "(ZI)I"⟩
abbrev cX0_amountsDone : ByteArray := prog_2_method_22_code
def yX0_amountsDone : MethodName := ⟨RX0, "amountsDone", "(ZI)I"⟩
abbrev cX0_takings : ByteArray := prog_2_method_23_code
def yX0_takings : MethodName := ⟨RX0, "takings", "()I"⟩
abbrev cX0_gainOf : ByteArray := prog_2_method_24_code
def yX0_gainOf : MethodName := ⟨RX0, "gainOf", "(LTradeHall$Hall;I)I"⟩
abbrev cX0_openTwos : ByteArray := prog_2_method_25_code
def yX0_openTwos : MethodName := ⟨RX0, "openTwos", "()I"⟩
abbrev cX0_openDifference : ByteArray := prog_2_method_26_code
def yX0_openDifference : MethodName := ⟨RX0, "openDifference", "()I"⟩
abbrev cX0_likeLast : ByteArray := prog_2_method_27_code
def yX0_likeLast : MethodName := ⟨RX0, "likeLast", "(ZI)I"⟩
abbrev cX0_leastEntry : ByteArray := prog_2_method_28_code
def yX0_leastEntry : MethodName := ⟨RX0, "leastEntry", "()I"⟩
abbrev cX0_greatestEntry : ByteArray := prog_2_method_29_code
def yX0_greatestEntry : MethodName := ⟨RX0, "greatestEntry", "()I"⟩
abbrev cX0_leastPrice : ByteArray := prog_2_method_30_code
def yX0_leastPrice : MethodName := ⟨RX0, "leastPrice", "()I"⟩
abbrev cX0_greatestPrice : ByteArray := prog_2_method_31_code
def yX0_greatestPrice : MethodName := ⟨RX0, "greatestPrice", "()I"⟩
abbrev cX0_bidsNotBelow : ByteArray := prog_2_method_32_code
def yX0_bidsNotBelow : MethodName := ⟨RX0, "bidsNotBelow", "(I)I"⟩
abbrev cX0_asksNotAbove : ByteArray := prog_2_method_33_code
def yX0_asksNotAbove : MethodName := ⟨RX0, "asksNotAbove", "(I)I"⟩
def RX1 : String := "TradeHall$Hall"
def TX1 : u_T := fun k => match k with
  | 0 => ("TradeHall$Hall", "sells", "[Z", true)
  | 1 => ("TradeHall$Hall", "grades", "[I", true)
  | 2 => ("TradeHall$Hall", "units", "[I", true)
  | 3 => ("TradeHall$Hall", "says", "[I", true)
  | 4 => ("TradeHall$Hall", "purses", "[I", true)
  | 5 => ("TradeHall$Hall", "traded", "[I", true)
  | 6 => ("TradeHall$Hall", "size", "I", false)
  | 7 => ("TradeHall$Hall", "fee", "I", false)
  | 8 => ("TradeHall$Hall", "law", "I", false)
  | 9 => ("TradeHall$Hall", "chest", "I", false)
  | 10 => ("TradeHall$Hall", "tradesClosed", "I", false)
  | 11 => ("TradeHall$Hall", "closes", "I", false)
  | _ => ("TradeHall$Hall", "mostTaken", "I", false)
def tyX1 : Nat → FieldType := fun k => match k with
  | 0 => .array .boolean
  | 1 => .array .int
  | 2 => .array .int
  | 3 => .array .int
  | 4 => .array .int
  | 5 => .array .int
  | 6 => .int
  | 7 => .int
  | 8 => .int
  | 9 => .int
  | 10 => .int
  | 11 => .int
  | _ => .int
abbrev wsX10 : List Cond := u_ws RX1 TX1 13
theorem nmX1 : ∀ a, a < 13 → ∀ b, b < 13 → a ≠ b → (TX1 a).2.1 ≠ (TX1 b).2.1 := by decide +kernel
theorem tyX1_ok : ∀ k, k < 13 → parseFieldDescriptor (TX1 k).2.2.1 = some (tyX1 k) := by decide +kernel
abbrev cX1_init : ByteArray := prog_3_method_1_code
def yX1_init : MethodName := ⟨RX1, "<init>", "()V"⟩
abbrev cX1_clear : ByteArray := prog_3_method_2_code
def yX1_clear : MethodName := ⟨RX1, "clear", "()V"⟩
abbrev cX1_copyFrom : ByteArray := prog_3_method_3_code
def yX1_copyFrom : MethodName := ⟨RX1, "copyFrom", "(LTradeHall$Hall;)V"⟩
abbrev cX1_has : ByteArray := prog_3_method_4_code
def yX1_has : MethodName := ⟨RX1, "has", "(I)Z"⟩
abbrev cX1_hasUnit : ByteArray := prog_3_method_5_code
def yX1_hasUnit : MethodName := ⟨RX1, "hasUnit", "(II)Z"⟩
abbrev cX1_isSeller : ByteArray := prog_3_method_6_code
def yX1_isSeller : MethodName := ⟨RX1, "isSeller", "(I)Z"⟩
abbrev cX1_gradeOf : ByteArray := prog_3_method_7_code
def yX1_gradeOf : MethodName := ⟨RX1, "gradeOf", "(I)I"⟩
abbrev cX1_unitsOf : ByteArray := prog_3_method_8_code
def yX1_unitsOf : MethodName := ⟨RX1, "unitsOf", "(I)I"⟩
abbrev cX1_purseOf : ByteArray := prog_3_method_9_code
def yX1_purseOf : MethodName := ⟨RX1, "purseOf", "(I)I"⟩
abbrev cX1_tradedOf : ByteArray := prog_3_method_10_code
def yX1_tradedOf : MethodName := ⟨RX1, "tradedOf", "(I)I"⟩
abbrev cX1_said : ByteArray := prog_3_method_11_code
def yX1_said : MethodName := ⟨RX1, "said", "(II)I"⟩
abbrev cX1_setSaid : ByteArray := prog_3_method_12_code
def yX1_setSaid : MethodName := ⟨RX1, "setSaid", "(III)V"⟩
abbrev cX1_saidOfFirst : ByteArray := prog_3_method_13_code
def yX1_saidOfFirst : MethodName := ⟨RX1, "saidOfFirst", "(II)I"⟩
abbrev cX1_fits : ByteArray := prog_3_method_14_code
def yX1_fits : MethodName := ⟨RX1, "fits", "(III)Z"⟩
abbrev cX1_inOrder : ByteArray := prog_3_method_15_code
def yX1_inOrder : MethodName := ⟨RX1, "inOrder", "(ZII)Z"⟩
abbrev cX1_enter : ByteArray := prog_3_method_16_code
def yX1_enter : MethodName := ⟨RX1, "enter", "(ZI)I"⟩
abbrev cX1_append : ByteArray := prog_3_method_17_code
def yX1_append : MethodName := ⟨RX1, "append", "(II)I"⟩
abbrev cX1_dropFirst : ByteArray := prog_3_method_18_code
def yX1_dropFirst : MethodName := ⟨RX1, "dropFirst", "(II)V"⟩
abbrev cX1_trade : ByteArray := prog_3_method_19_code
def yX1_trade : MethodName := ⟨RX1, "trade", "(III)V"⟩
abbrev cX1_noteClose : ByteArray := prog_3_method_20_code
def yX1_noteClose : MethodName := ⟨RX1, "noteClose", "(II)V"⟩
abbrev cX1_allUnits : ByteArray := prog_3_method_21_code
def yX1_allUnits : MethodName := ⟨RX1, "allUnits", "()I"⟩
abbrev cX1_allPurses : ByteArray := prog_3_method_22_code
def yX1_allPurses : MethodName := ⟨RX1, "allPurses", "()I"⟩
abbrev cX1_richest : ByteArray := prog_3_method_23_code
def yX1_richest : MethodName := ⟨RX1, "richest", "()I"⟩
def RX2 : String := "TradeHall$History"
def TX2 : u_T := fun k => match k with
  | 0 => ("TradeHall$History", "past", "[LTradeHall$Hall;", true)
  | 1 => ("TradeHall$History", "next", "I", false)
  | _ => ("TradeHall$History", "size", "I", false)
def tyX2 : Nat → FieldType := fun k => match k with
  | 0 => .array (.object "TradeHall$Hall")
  | 1 => .int
  | _ => .int
abbrev wsX20 : List Cond := u_ws RX2 TX2 3
theorem nmX2 : ∀ a, a < 3 → ∀ b, b < 3 → a ≠ b → (TX2 a).2.1 ≠ (TX2 b).2.1 := by decide +kernel
theorem tyX2_ok : ∀ k, k < 3 → parseFieldDescriptor (TX2 k).2.2.1 = some (tyX2 k) := by decide +kernel
abbrev cX2_init : ByteArray := prog_4_method_1_code
def yX2_init : MethodName := ⟨RX2, "<init>", "()V"⟩
abbrev cX2_forget : ByteArray := prog_4_method_2_code
def yX2_forget : MethodName := ⟨RX2, "forget", "()V"⟩
abbrev cX2_remember : ByteArray := prog_4_method_3_code
def yX2_remember : MethodName := ⟨RX2, "remember", "(LTradeHall$Hall;)V"⟩
abbrev cX2_takeBack : ByteArray := prog_4_method_4_code
def yX2_takeBack : MethodName := ⟨RX2, "takeBack", "(LTradeHall$Hall;)I"⟩
abbrev cX2_at : ByteArray := prog_4_method_5_code
def yX2_at : MethodName := ⟨RX2, "at", "(I)LTradeHall$Hall;"⟩
def RX3 : String := "TradeHall$Letters"
def TX3 : u_T := fun k => match k with
  | 0 => ("TradeHall$Letters", "bytes", "[I", true)
  | _ => ("TradeHall$Letters", "size", "I", false)
def tyX3 : Nat → FieldType := fun k => match k with
  | 0 => .array .int
  | _ => .int
abbrev wsX30 : List Cond := u_ws RX3 TX3 2
theorem nmX3 : ∀ a, a < 2 → ∀ b, b < 2 → a ≠ b → (TX3 a).2.1 ≠ (TX3 b).2.1 := by decide +kernel
theorem tyX3_ok : ∀ k, k < 2 → parseFieldDescriptor (TX3 k).2.2.1 = some (tyX3 k) := by decide +kernel
abbrev cX3_init : ByteArray := prog_5_method_1_code
def yX3_init : MethodName := ⟨RX3, "<init>", "()V"⟩
abbrev cX3_at : ByteArray := prog_5_method_2_code
def yX3_at : MethodName := ⟨RX3, "at", "(I)I"⟩
abbrev cX3_write : ByteArray := prog_5_method_3_code
def yX3_write : MethodName := ⟨RX3, "write", "(LTradeHall$Hall;)V"⟩
abbrev cX3_beginPart : ByteArray := prog_5_method_4_code
def yX3_beginPart : MethodName := ⟨RX3, "beginPart", "(Ljava/lang/String;)V"⟩
abbrev cX3_putWord : ByteArray := prog_5_method_5_code
def yX3_putWord : MethodName := ⟨RX3, "putWord", "(Ljava/lang/String;)V"⟩
abbrev cX3_putNumber : ByteArray := prog_5_method_6_code
def yX3_putNumber : MethodName := ⟨RX3, "putNumber", "(I)V"⟩
abbrev cX3_put : ByteArray := prog_5_method_7_code
def yX3_put : MethodName := ⟨RX3, "put", "(I)V"⟩
def RX4 : String := "TradeHall$Ranking"
def TX4 : u_T := fun k => match k with
  | 0 => ("TradeHall$Ranking", "order", "[I", true)
  | 1 => ("TradeHall$Ranking", "gains", "[I", true)
  | _ => ("TradeHall$Ranking", "size", "I", false)
def tyX4 : Nat → FieldType := fun k => match k with
  | 0 => .array .int
  | 1 => .array .int
  | _ => .int
abbrev wsX40 : List Cond := u_ws RX4 TX4 3
theorem nmX4 : ∀ a, a < 3 → ∀ b, b < 3 → a ≠ b → (TX4 a).2.1 ≠ (TX4 b).2.1 := by decide +kernel
theorem tyX4_ok : ∀ k, k < 3 → parseFieldDescriptor (TX4 k).2.2.1 = some (tyX4 k) := by decide +kernel
abbrev cX4_init : ByteArray := prog_6_method_1_code
def yX4_init : MethodName := ⟨RX4, "<init>", "()V"⟩
abbrev cX4_place : ByteArray := prog_6_method_2_code
def yX4_place : MethodName := ⟨RX4, "place", "(II)V"⟩
abbrev cX4_has : ByteArray := prog_6_method_3_code
def yX4_has : MethodName := ⟨RX4, "has", "(I)Z"⟩
abbrev cX4_traderAt : ByteArray := prog_6_method_4_code
def yX4_traderAt : MethodName := ⟨RX4, "traderAt", "(I)I"⟩
abbrev cX4_gainAt : ByteArray := prog_6_method_5_code
def yX4_gainAt : MethodName := ⟨RX4, "gainAt", "(I)I"⟩
abbrev cX4_winners : ByteArray := prog_6_method_6_code
def yX4_winners : MethodName := ⟨RX4, "winners", "()I"⟩
abbrev cX4_firstAsBits : ByteArray := prog_6_method_7_code
def yX4_firstAsBits : MethodName := ⟨RX4, "firstAsBits", "(I)I"⟩
def RX5 : String := "TradeHall$Serving"
def TX5 : u_T := fun k => match k with
  | 0 => ("TradeHall$Serving", "most", "[I", true)
  | 1 => ("TradeHall$Serving", "value", "I", false)
  | _ => ("TradeHall$Serving", "pairs", "I", false)
def tyX5 : Nat → FieldType := fun k => match k with
  | 0 => .array .int
  | 1 => .int
  | _ => .int
abbrev wsX50 : List Cond := u_ws RX5 TX5 3
theorem nmX5 : ∀ a, a < 3 → ∀ b, b < 3 → a ≠ b → (TX5 a).2.1 ≠ (TX5 b).2.1 := by decide +kernel
theorem tyX5_ok : ∀ k, k < 3 → parseFieldDescriptor (TX5 k).2.2.1 = some (tyX5 k) := by decide +kernel
abbrev cX5_init : ByteArray := prog_7_method_1_code
def yX5_init : MethodName := ⟨RX5, "<init>", "()V"⟩
abbrev cX5_serve : ByteArray := prog_7_method_2_code
def yX5_serve : MethodName := ⟨RX5, "serve", "(LTradeHall$Hall;)V"⟩
abbrev cX5_offerGrade : ByteArray := prog_7_method_3_code
def yX5_offerGrade : MethodName := ⟨RX5, "offerGrade", "(LTradeHall$Hall;IZ)V"⟩
abbrev cX5_offerUnits : ByteArray := prog_7_method_4_code
def yX5_offerUnits : MethodName := ⟨RX5, "offerUnits", "(LTradeHall$Hall;IZ)V"⟩
abbrev cX5_offerAsk : ByteArray := prog_7_method_5_code
def yX5_offerAsk : MethodName := ⟨RX5, "offerAsk", "(I)V"⟩
abbrev cX5_offerBid : ByteArray := prog_7_method_6_code
def yX5_offerBid : MethodName := ⟨RX5, "offerBid", "(I)V"⟩
def RX6 : String := "TradeHall$Shelves"
def TX6 : u_T := fun k => match k with
  | 0 => ("TradeHall$Shelves", "halls", "[LTradeHall$Hall;", true)
  | _ => ("TradeHall$Shelves", "kept", "I", false)
def tyX6 : Nat → FieldType := fun k => match k with
  | 0 => .array (.object "TradeHall$Hall")
  | _ => .int
abbrev wsX60 : List Cond := u_ws RX6 TX6 2
theorem nmX6 : ∀ a, a < 2 → ∀ b, b < 2 → a ≠ b → (TX6 a).2.1 ≠ (TX6 b).2.1 := by decide +kernel
theorem tyX6_ok : ∀ k, k < 2 → parseFieldDescriptor (TX6 k).2.2.1 = some (tyX6 k) := by decide +kernel
abbrev cX6_init : ByteArray := prog_8_method_1_code
def yX6_init : MethodName := ⟨RX6, "<init>", "()V"⟩
abbrev cX6_holds : ByteArray := prog_8_method_2_code
def yX6_holds : MethodName := ⟨RX6, "holds", "(I)Z"⟩
abbrev cX6_put : ByteArray := prog_8_method_3_code
def yX6_put : MethodName := ⟨RX6, "put", "(ILTradeHall$Hall;)V"⟩
abbrev cX6_fetch : ByteArray := prog_8_method_4_code
def yX6_fetch : MethodName := ⟨RX6, "fetch", "(ILTradeHall$Hall;)V"⟩
abbrev cX6_at : ByteArray := prog_8_method_5_code
def yX6_at : MethodName := ⟨RX6, "at", "(I)LTradeHall$Hall;"⟩
def RX7 : String := "TradeHall$Tape"
def TX7 : u_T := fun k => match k with
  | 0 => ("TradeHall$Tape", "bytes", "[I", true)
  | 1 => ("TradeHall$Tape", "told", "LTradeHall$Hall;", true)
  | 2 => ("TradeHall$Tape", "size", "I", false)
  | 3 => ("TradeHall$Tape", "place", "I", false)
  | 4 => ("TradeHall$Tape", "fault", "I", false)
  | 5 => ("TradeHall$Tape", "hasFee", "Z", false)
  | _ => ("TradeHall$Tape", "hasLaw", "Z", false)
def tyX7 : Nat → FieldType := fun k => match k with
  | 0 => .array .int
  | 1 => .object "TradeHall$Hall"
  | 2 => .int
  | 3 => .int
  | 4 => .int
  | 5 => .boolean
  | _ => .boolean
abbrev wsX70 : List Cond := u_ws RX7 TX7 7
theorem nmX7 : ∀ a, a < 7 → ∀ b, b < 7 → a ≠ b → (TX7 a).2.1 ≠ (TX7 b).2.1 := by decide +kernel
theorem tyX7_ok : ∀ k, k < 7 → parseFieldDescriptor (TX7 k).2.2.1 = some (tyX7 k) := by decide +kernel
abbrev cX7_init : ByteArray := prog_9_method_1_code
def yX7_init : MethodName := ⟨RX7, "<init>", "()V"⟩
abbrev cX7_append : ByteArray := prog_9_method_2_code
def yX7_append : MethodName := ⟨RX7, "append", "(I)V"⟩
abbrev cX7_read : ByteArray := prog_9_method_3_code
def yX7_read : MethodName := ⟨RX7, "read", "()I"⟩
abbrev cX7_readPart : ByteArray := prog_9_method_4_code
def yX7_readPart : MethodName := ⟨RX7, "readPart", "()V"⟩
abbrev cX7_readTrader : ByteArray := prog_9_method_5_code
def yX7_readTrader : MethodName := ⟨RX7, "readTrader", "(IZ)V"⟩
abbrev cX7_readFee : ByteArray := prog_9_method_6_code
def yX7_readFee : MethodName := ⟨RX7, "readFee", "(I)V"⟩
abbrev cX7_readLaw : ByteArray := prog_9_method_7_code
def yX7_readLaw : MethodName := ⟨RX7, "readLaw", "(I)V"⟩
abbrev cX7_readNumber : ByteArray := prog_9_method_8_code
def yX7_readNumber : MethodName := ⟨RX7, "readNumber", "(I)I"⟩
abbrev cX7_note : ByteArray := prog_9_method_9_code
def yX7_note : MethodName := ⟨RX7, "note", "(II)V"⟩
abbrev cX7_skipBlanks : ByteArray := prog_9_method_10_code
def yX7_skipBlanks : MethodName := ⟨RX7, "skipBlanks", "()V"⟩
abbrev cX7_skipWord : ByteArray := prog_9_method_11_code
def yX7_skipWord : MethodName := ⟨RX7, "skipWord", "()V"⟩
abbrev cX7_isWord : ByteArray := prog_9_method_12_code
def yX7_isWord : MethodName := ⟨RX7, "isWord", "(ILjava/lang/String;)Z"⟩
abbrev cX7_byteAt : ByteArray := prog_9_method_13_code
def yX7_byteAt : MethodName := ⟨RX7, "byteAt", "(I)I"⟩
abbrev cX7_isDigit : ByteArray := prog_9_method_14_code
def yX7_isDigit : MethodName := ⟨RX7, "isDigit", "(I)Z"⟩
abbrev cX7_isSmallLetter : ByteArray := prog_9_method_15_code
def yX7_isSmallLetter : MethodName := ⟨RX7, "isSmallLetter", "(I)Z"⟩
def RX8 : String := "TradeHall"
def TX8 : u_T := fun k => match k with
  | 0 => ("TradeHall", "hall", "LTradeHall$Hall;", true)
  | 1 => ("TradeHall", "tape", "LTradeHall$Tape;", true)
  | 2 => ("TradeHall", "history", "LTradeHall$History;", true)
  | 3 => ("TradeHall", "shelves", "LTradeHall$Shelves;", true)
  | 4 => ("TradeHall", "letters", "LTradeHall$Letters;", true)
  | 5 => ("TradeHall", "book", "LTradeHall$Book;", true)
  | 6 => ("TradeHall", "others", "LTradeHall$Book;", true)
  | 7 => ("TradeHall", "ranking", "LTradeHall$Ranking;", true)
  | 8 => ("TradeHall", "serving", "LTradeHall$Serving;", true)
  | 9 => ("TradeHall", "takingsByFee", "[I", true)
  | _ => ("TradeHall", "waysRow", "[J", true)
def tyX8 : Nat → FieldType := fun k => match k with
  | 0 => .object "TradeHall$Hall"
  | 1 => .object "TradeHall$Tape"
  | 2 => .object "TradeHall$History"
  | 3 => .object "TradeHall$Shelves"
  | 4 => .object "TradeHall$Letters"
  | 5 => .object "TradeHall$Book"
  | 6 => .object "TradeHall$Book"
  | 7 => .object "TradeHall$Ranking"
  | 8 => .object "TradeHall$Serving"
  | 9 => .array .int
  | _ => .array .long
abbrev wsX80 : List Cond := u_ws RX8 TX8 11
theorem nmX8 : ∀ a, a < 11 → ∀ b, b < 11 → a ≠ b → (TX8 a).2.1 ≠ (TX8 b).2.1 := by decide +kernel
theorem tyX8_ok : ∀ k, k < 11 → parseFieldDescriptor (TX8 k).2.2.1 = some (tyX8 k) := by decide +kernel
abbrev cX8_init : ByteArray := prog_1_method_1_code
def yX8_init : MethodName := ⟨RX8, "<init>", "()V"⟩
abbrev cX8_feed : ByteArray := prog_1_method_2_code
def yX8_feed : MethodName := ⟨RX8, "feed", "(IIIII)I"⟩
abbrev cX8_end : ByteArray := prog_1_method_3_code
def yX8_end : MethodName := ⟨RX8, "end", "(I)I"⟩
abbrev cX8_tell : ByteArray := prog_1_method_4_code
def yX8_tell : MethodName := ⟨RX8, "tell", "()I"⟩
abbrev cX8_come : ByteArray := prog_1_method_5_code
def yX8_come : MethodName := ⟨RX8, "come", "(ZI)I"⟩
abbrev cX8_add : ByteArray := prog_1_method_6_code
def yX8_add : MethodName := ⟨RX8, "add", "(II)I"⟩
abbrev cX8_say : ByteArray := prog_1_method_7_code
def yX8_say : MethodName := ⟨RX8, "say", "(III)I"⟩
abbrev cX8_leave : ByteArray := prog_1_method_8_code
def yX8_leave : MethodName := ⟨RX8, "leave", "(I)I"⟩
abbrev cX8_fee : ByteArray := prog_1_method_9_code
def yX8_fee : MethodName := ⟨RX8, "fee", "(I)I"⟩
abbrev cX8_law : ByteArray := prog_1_method_10_code
def yX8_law : MethodName := ⟨RX8, "law", "(I)I"⟩
abbrev cX8_close : ByteArray := prog_1_method_11_code
def yX8_close : MethodName := ⟨RX8, "close", "(I)I"⟩
abbrev cX8_undo : ByteArray := prog_1_method_12_code
def yX8_undo : MethodName := ⟨RX8, "undo", "()I"⟩
abbrev cX8_keep : ByteArray := prog_1_method_13_code
def yX8_keep : MethodName := ⟨RX8, "keep", "(I)I"⟩
abbrev cX8_back : ByteArray := prog_1_method_14_code
def yX8_back : MethodName := ⟨RX8, "back", "(I)I"⟩
abbrev cX8_trader : ByteArray := prog_1_method_15_code
def yX8_trader : MethodName := ⟨RX8, "trader", "(II)I"⟩
abbrev cX8_row : ByteArray := prog_1_method_16_code
def yX8_row : MethodName := ⟨RX8, "row", "(IZII)I"⟩
abbrev cX8_market : ByteArray := prog_1_method_17_code
def yX8_market : MethodName := ⟨RX8, "market", "(II)I"⟩
abbrev cX8_deal : ByteArray := prog_1_method_18_code
def yX8_deal : MethodName := ⟨RX8, "deal", "(II)I"⟩
abbrev cX8_lie : ByteArray := prog_1_method_19_code
def yX8_lie : MethodName := ⟨RX8, "lie", "(II)I"⟩
abbrev cX8_tempted : ByteArray := prog_1_method_20_code
def yX8_tempted : MethodName := ⟨RX8, "tempted", "(II)I"⟩
abbrev cX8_missed : ByteArray := prog_1_method_21_code
def yX8_missed : MethodName := ⟨RX8, "missed", "(I)I"⟩
abbrev cX8_open : ByteArray := prog_1_method_22_code
def yX8_open : MethodName := ⟨RX8, "open", "(II)I"⟩
abbrev cX8_ties : ByteArray := prog_1_method_23_code
def yX8_ties : MethodName := ⟨RX8, "ties", "(I)J"⟩
abbrev cX8_under : ByteArray := prog_1_method_24_code
def yX8_under : MethodName := ⟨RX8, "under", "(III)I"⟩
abbrev cX8_feeing : ByteArray := prog_1_method_25_code
def yX8_feeing : MethodName := ⟨RX8, "feeing", "(III)I"⟩
abbrev cX8_bestFee : ByteArray := prog_1_method_26_code
def yX8_bestFee : MethodName := ⟨RX8, "bestFee", "(I)I"⟩
abbrev cX8_served : ByteArray := prog_1_method_27_code
def yX8_served : MethodName := ⟨RX8, "served", "(I)I"⟩
abbrev cX8_share : ByteArray := prog_1_method_28_code
def yX8_share : MethodName := ⟨RX8, "share", "()J"⟩
abbrev cX8_audit : ByteArray := prog_1_method_29_code
def yX8_audit : MethodName := ⟨RX8, "audit", "(I)I"⟩
abbrev cX8_entry : ByteArray := prog_1_method_30_code
def yX8_entry : MethodName := ⟨RX8, "entry", "(ZI)I"⟩
abbrev cX8_letter : ByteArray := prog_1_method_31_code
def yX8_letter : MethodName := ⟨RX8, "letter", "(I)I"⟩
abbrev cX8_match : ByteArray := prog_1_method_32_code
def yX8_match : MethodName := ⟨RX8, "match", "(III)I"⟩
abbrev cX8_merged : ByteArray := prog_1_method_33_code
def yX8_merged : MethodName := ⟨RX8, "merged", "(III)I"⟩
abbrev cX8_prices : ByteArray := prog_1_method_34_code
def yX8_prices : MethodName := ⟨RX8, "prices", "(II)I"⟩
abbrev cX8_bar : ByteArray := prog_1_method_35_code
def yX8_bar : MethodName := ⟨RX8, "bar", "(I)I"⟩
abbrev cX8_helps : ByteArray := prog_1_method_36_code
def yX8_helps : MethodName := ⟨RX8, "helps", "(II)I"⟩
abbrev cX8_winner : ByteArray := prog_1_method_37_code
def yX8_winner : MethodName := ⟨RX8, "winner", "(II)I"⟩
abbrev cX8_demand : ByteArray := prog_1_method_38_code
def yX8_demand : MethodName := ⟨RX8, "demand", "(III)I"⟩
abbrev cX8_lively : ByteArray := prog_1_method_39_code
def yX8_lively : MethodName := ⟨RX8, "lively", "(II)I"⟩
abbrev cX8_pact : ByteArray := prog_1_method_40_code
def yX8_pact : MethodName := ⟨RX8, "pact", "(III)I"⟩
abbrev cX8_moved : ByteArray := prog_1_method_41_code
def yX8_moved : MethodName := ⟨RX8, "moved", "(II)I"⟩
abbrev cX8_ranked : ByteArray := prog_1_method_42_code
def yX8_ranked : MethodName := ⟨RX8, "ranked", "(II)I"⟩
abbrev cX8_skim : ByteArray := prog_1_method_43_code
def yX8_skim : MethodName := ⟨RX8, "skim", "(III)I"⟩
abbrev cX8_count : ByteArray := prog_1_method_44_code
def yX8_count : MethodName := ⟨RX8, "count", "(I)I"⟩
abbrev cX8_isGrade : ByteArray := prog_1_method_45_code
def yX8_isGrade : MethodName := ⟨RX8, "isGrade", "(I)Z"⟩
abbrev cX8_isValue : ByteArray := prog_1_method_46_code
def yX8_isValue : MethodName := ⟨RX8, "isValue", "(I)Z"⟩
abbrev cX8_isFee : ByteArray := prog_1_method_47_code
def yX8_isFee : MethodName := ⟨RX8, "isFee", "(I)Z"⟩
abbrev cX8_isLaw : ByteArray := prog_1_method_48_code
def yX8_isLaw : MethodName := ⟨RX8, "isLaw", "(I)Z"⟩
abbrev cX8_isShelf : ByteArray := prog_1_method_49_code
def yX8_isShelf : MethodName := ⟨RX8, "isShelf", "(I)Z"⟩
abbrev cX8_isZeroOrOne : ByteArray := prog_1_method_50_code
def yX8_isZeroOrOne : MethodName := ⟨RX8, "isZeroOrOne", "(I)Z"⟩
abbrev cX8_bit : ByteArray := prog_1_method_51_code
def yX8_bit : MethodName := ⟨RX8, "bit", "(I)I"⟩
abbrev cX8_lawWord : ByteArray := prog_1_method_52_code
def yX8_lawWord : MethodName := ⟨RX8, "lawWord", "(I)Ljava/lang/String;"⟩
abbrev cX8_nearestToZero : ByteArray := prog_1_method_53_code
def yX8_nearestToZero : MethodName := ⟨RX8, "nearestToZero", "(I)I"⟩
abbrev cX8_areTwoOfOneGrade : ByteArray := prog_1_method_54_code
def yX8_areTwoOfOneGrade : MethodName := ⟨RX8, "areTwoOfOneGrade", "(II)Z"⟩
abbrev cX8_settleGrade : ByteArray := prog_1_method_55_code
def yX8_settleGrade : MethodName := ⟨RX8, "settleGrade", "(I)V"⟩
abbrev cX8_worthOf : ByteArray := prog_1_method_56_code
def yX8_worthOf : MethodName := ⟨RX8, "worthOf", "(II)I"⟩
abbrev cX8_worthOfAll : ByteArray := prog_1_method_57_code
def yX8_worthOfAll : MethodName := ⟨RX8, "worthOfAll", "()I"⟩
abbrev cX8_gradesWithTrades : ByteArray := prog_1_method_58_code
def yX8_gradesWithTrades : MethodName := ⟨RX8, "gradesWithTrades", "()I"⟩
abbrev cX8_setAside : ByteArray := prog_1_method_59_code
def yX8_setAside : MethodName := ⟨RX8, "setAside", "(II)V"⟩
abbrev cX8_settleLie : ByteArray := prog_1_method_60_code
def yX8_settleLie : MethodName := ⟨RX8, "settleLie", "(II)V"⟩
abbrev cX8_gainByLie : ByteArray := prog_1_method_61_code
def yX8_gainByLie : MethodName := ⟨RX8, "gainByLie", "(II)I"⟩
abbrev cX8_gainByPact : ByteArray := prog_1_method_62_code
def yX8_gainByPact : MethodName := ⟨RX8, "gainByPact", "(III)I"⟩
abbrev cX8_rankGrade : ByteArray := prog_1_method_63_code
def yX8_rankGrade : MethodName := ⟨RX8, "rankGrade", "(I)V"⟩
abbrev cX8_weighFees : ByteArray := prog_1_method_64_code
def yX8_weighFees : MethodName := ⟨RX8, "weighFees", "()V"⟩
abbrev cX8_ways : ByteArray := prog_1_method_65_code
def yX8_ways : MethodName := ⟨RX8, "ways", "(II)J"⟩
abbrev cX8_bitsOfShare : ByteArray := prog_1_method_66_code
def yX8_bitsOfShare : MethodName := ⟨RX8, "bitsOfShare", "(II)J"⟩
def RX9 : String := "TradeHallModel"
def TX9 : u_T := fun k => match k with
  | 0 => ("TradeHallModel", "now", "[I", true)
  | 1 => ("TradeHallModel", "was", "[I", true)
  | 2 => ("TradeHallModel", "undone", "I", false)
  | 3 => ("TradeHallModel", "kept", "[I", true)
  | 4 => ("TradeHallModel", "isKept", "[Z", true)
  | 5 => ("TradeHallModel", "gone", "I", false)
  | 6 => ("TradeHallModel", "liars", "I", false)
  | 7 => ("TradeHallModel", "lie", "I", false)
  | 8 => ("TradeHallModel", "bidder", "[I", true)
  | 9 => ("TradeHallModel", "bidUnit", "[I", true)
  | 10 => ("TradeHallModel", "bid", "[I", true)
  | 11 => ("TradeHallModel", "bids", "I", false)
  | 12 => ("TradeHallModel", "asker", "[I", true)
  | 13 => ("TradeHallModel", "askUnit", "[I", true)
  | 14 => ("TradeHallModel", "ask", "[I", true)
  | 15 => ("TradeHallModel", "asks", "I", false)
  | 16 => ("TradeHallModel", "trades", "I", false)
  | 17 => ("TradeHallModel", "worth", "I", false)
  | 18 => ("TradeHallModel", "done", "I", false)
  | 19 => ("TradeHallModel", "pays", "I", false)
  | 20 => ("TradeHallModel", "gets", "I", false)
  | 21 => ("TradeHallModel", "rank", "[I", true)
  | 22 => ("TradeHallModel", "gains", "[I", true)
  | 23 => ("TradeHallModel", "ranks", "I", false)
  | 24 => ("TradeHallModel", "best", "[I", true)
  | 25 => ("TradeHallModel", "fewest", "[I", true)
  | 26 => ("TradeHallModel", "nextBest", "[I", true)
  | 27 => ("TradeHallModel", "nextFewest", "[I", true)
  | 28 => ("TradeHallModel", "sumBids", "[I", true)
  | 29 => ("TradeHallModel", "sumAsks", "[I", true)
  | 30 => ("TradeHallModel", "spelt", "I", false)
  | 31 => ("TradeHallModel", "wanted", "I", false)
  | 32 => ("TradeHallModel", "found", "I", false)
  | 33 => ("TradeHallModel", "dealt", "[I", true)
  | 34 => ("TradeHallModel", "went", "[I", true)
  | 35 => ("TradeHallModel", "tape", "[B", true)
  | 36 => ("TradeHallModel", "taped", "I", false)
  | 37 => ("TradeHallModel", "spot", "I", false)
  | 38 => ("TradeHallModel", "wrong", "I", false)
  | 39 => ("TradeHallModel", "number", "I", false)
  | 40 => ("TradeHallModel", "numberAt", "I", false)
  | 41 => ("TradeHallModel", "read", "[I", true)
  | 42 => ("TradeHallModel", "hasFee", "Z", false)
  | _ => ("TradeHallModel", "hasLaw", "Z", false)
def tyX9 : Nat → FieldType := fun k => match k with
  | 0 => .array .int
  | 1 => .array .int
  | 2 => .int
  | 3 => .array .int
  | 4 => .array .boolean
  | 5 => .int
  | 6 => .int
  | 7 => .int
  | 8 => .array .int
  | 9 => .array .int
  | 10 => .array .int
  | 11 => .int
  | 12 => .array .int
  | 13 => .array .int
  | 14 => .array .int
  | 15 => .int
  | 16 => .int
  | 17 => .int
  | 18 => .int
  | 19 => .int
  | 20 => .int
  | 21 => .array .int
  | 22 => .array .int
  | 23 => .int
  | 24 => .array .int
  | 25 => .array .int
  | 26 => .array .int
  | 27 => .array .int
  | 28 => .array .int
  | 29 => .array .int
  | 30 => .int
  | 31 => .int
  | 32 => .int
  | 33 => .array .int
  | 34 => .array .int
  | 35 => .array .byte
  | 36 => .int
  | 37 => .int
  | 38 => .int
  | 39 => .int
  | 40 => .int
  | 41 => .array .int
  | 42 => .boolean
  | _ => .boolean
abbrev wsX90 : List Cond := u_ws RX9 TX9 44
theorem nmX9 : ∀ a, a < 44 → ∀ b, b < 44 → a ≠ b → (TX9 a).2.1 ≠ (TX9 b).2.1 := by decide +kernel
theorem tyX9_ok : ∀ k, k < 44 → parseFieldDescriptor (TX9 k).2.2.1 = some (tyX9 k) := by decide +kernel
abbrev cX9_init : ByteArray := prog_11_method_1_code
def yX9_init : MethodName := ⟨RX9, "<init>", "()V"⟩
abbrev cX9_in : ByteArray := prog_11_method_2_code
def yX9_in : MethodName := ⟨RX9, "in", "(JJJ)Z"⟩
abbrev cX9_has : ByteArray := prog_11_method_3_code
def yX9_has : MethodName := ⟨RX9, "has", "(II)Z"⟩
abbrev cX9_traders : ByteArray := prog_11_method_4_code
def yX9_traders : MethodName := ⟨RX9, "traders", "()I"⟩
abbrev cX9_isTrader : ByteArray := prog_11_method_5_code
def yX9_isTrader : MethodName := ⟨RX9, "isTrader", "(I)Z"⟩
abbrev cX9_isGrade : ByteArray := prog_11_method_6_code
def yX9_isGrade : MethodName := ⟨RX9, "isGrade", "(I)Z"⟩
abbrev cX9_of : ByteArray := prog_11_method_7_code
def yX9_of : MethodName := ⟨RX9, "of", "(II)I"⟩
abbrev cX9_sells : ByteArray := prog_11_method_8_code
def yX9_sells : MethodName := ⟨RX9, "sells", "(I)Z"⟩
abbrev cX9_held : ByteArray := prog_11_method_9_code
def yX9_held : MethodName := ⟨RX9, "held", "(I)I"⟩
abbrev cX9_said : ByteArray := prog_11_method_10_code
def yX9_said : MethodName := ⟨RX9, "said", "(II)I"⟩
abbrev cX9_isIn : ByteArray := prog_11_method_11_code
def yX9_isIn : MethodName := ⟨RX9, "isIn", "(II)Z"⟩
abbrev cX9_comesBid : ByteArray := prog_11_method_12_code
def yX9_comesBid : MethodName := ⟨RX9, "comesBid", "(II)V"⟩
abbrev cX9_comesAsk : ByteArray := prog_11_method_13_code
def yX9_comesAsk : MethodName := ⟨RX9, "comesAsk", "(II)V"⟩
abbrev cX9_laysOf : ByteArray := prog_11_method_14_code
def yX9_laysOf : MethodName := ⟨RX9, "laysOf", "(I)V"⟩
abbrev cX9_worthOf : ByteArray := prog_11_method_15_code
def yX9_worthOf : MethodName := ⟨RX9, "worthOf", "(I)I"⟩
abbrev cX9_worthWithout : ByteArray := prog_11_method_16_code
def yX9_worthWithout : MethodName := ⟨RX9, "worthWithout", "(II)I"⟩
abbrev cX9_halfDown : ByteArray := prog_11_method_17_code
def yX9_halfDown : MethodName := ⟨RX9, "halfDown", "(I)I"⟩
abbrev cX9_all : ByteArray := prog_11_method_18_code
def yX9_all : MethodName := ⟨RX9, "all", "(I)V"⟩
abbrev cX9_laysLess : ByteArray := prog_11_method_19_code
def yX9_laysLess : MethodName := ⟨RX9, "laysLess", "()V"⟩
abbrev cX9_laysCut : ByteArray := prog_11_method_20_code
def yX9_laysCut : MethodName := ⟨RX9, "laysCut", "()V"⟩
abbrev cX9_laysBy : ByteArray := prog_11_method_21_code
def yX9_laysBy : MethodName := ⟨RX9, "laysBy", "(I)V"⟩
abbrev cX9_lays : ByteArray := prog_11_method_22_code
def yX9_lays : MethodName := ⟨RX9, "lays", "(I)V"⟩
abbrev cX9_doneOf : ByteArray := prog_11_method_23_code
def yX9_doneOf : MethodName := ⟨RX9, "doneOf", "(I)I"⟩
abbrev cX9_sumOf : ByteArray := prog_11_method_24_code
def yX9_sumOf : MethodName := ⟨RX9, "sumOf", "(IIZ)I"⟩
abbrev cX9_dealOf : ByteArray := prog_11_method_25_code
def yX9_dealOf : MethodName := ⟨RX9, "dealOf", "(II)I"⟩
abbrev cX9_gainOf : ByteArray := prog_11_method_26_code
def yX9_gainOf : MethodName := ⟨RX9, "gainOf", "(I)I"⟩
abbrev cX9_takingsBy : ByteArray := prog_11_method_27_code
def yX9_takingsBy : MethodName := ⟨RX9, "takingsBy", "(II)I"⟩
abbrev cX9_doneWorth : ByteArray := prog_11_method_28_code
def yX9_doneWorth : MethodName := ⟨RX9, "doneWorth", "()I"⟩
abbrev cX9_takingsOf : ByteArray := prog_11_method_29_code
def yX9_takingsOf : MethodName := ⟨RX9, "takingsOf", "(I)I"⟩
abbrev cX9_trader : ByteArray := prog_11_method_30_code
def yX9_trader : MethodName := ⟨RX9, "trader", "(II)I"⟩
abbrev cX9_row : ByteArray := prog_11_method_31_code
def yX9_row : MethodName := ⟨RX9, "row", "(IZII)I"⟩
abbrev cX9_priceOr : ByteArray := prog_11_method_32_code
def yX9_priceOr : MethodName := ⟨RX9, "priceOr", "(I)I"⟩
abbrev cX9_market : ByteArray := prog_11_method_33_code
def yX9_market : MethodName := ⟨RX9, "market", "(II)I"⟩
abbrev cX9_deal : ByteArray := prog_11_method_34_code
def yX9_deal : MethodName := ⟨RX9, "deal", "(II)I"⟩
abbrev cX9_gainBy : ByteArray := prog_11_method_35_code
def yX9_gainBy : MethodName := ⟨RX9, "gainBy", "(II)I"⟩
abbrev cX9_lie : ByteArray := prog_11_method_36_code
def yX9_lie : MethodName := ⟨RX9, "lie", "(II)I"⟩
abbrev cX9_tempted : ByteArray := prog_11_method_37_code
def yX9_tempted : MethodName := ⟨RX9, "tempted", "(II)I"⟩
abbrev cX9_isDoneBy : ByteArray := prog_11_method_38_code
def yX9_isDoneBy : MethodName := ⟨RX9, "isDoneBy", "(II)Z"⟩
abbrev cX9_bar : ByteArray := prog_11_method_39_code
def yX9_bar : MethodName := ⟨RX9, "bar", "(I)I"⟩
abbrev cX9_missed : ByteArray := prog_11_method_40_code
def yX9_missed : MethodName := ⟨RX9, "missed", "(I)I"⟩
abbrev cX9_helps : ByteArray := prog_11_method_41_code
def yX9_helps : MethodName := ⟨RX9, "helps", "(II)I"⟩
abbrev cX9_pactBy : ByteArray := prog_11_method_42_code
def yX9_pactBy : MethodName := ⟨RX9, "pactBy", "(III)I"⟩
abbrev cX9_pact : ByteArray := prog_11_method_43_code
def yX9_pact : MethodName := ⟨RX9, "pact", "(III)I"⟩
abbrev cX9_moved : ByteArray := prog_11_method_44_code
def yX9_moved : MethodName := ⟨RX9, "moved", "(II)I"⟩
abbrev cX9_laysRanks : ByteArray := prog_11_method_45_code
def yX9_laysRanks : MethodName := ⟨RX9, "laysRanks", "(I)V"⟩
abbrev cX9_ranked : ByteArray := prog_11_method_46_code
def yX9_ranked : MethodName := ⟨RX9, "ranked", "(II)I"⟩
abbrev cX9_skim : ByteArray := prog_11_method_47_code
def yX9_skim : MethodName := ⟨RX9, "skim", "(III)I"⟩
abbrev cX9_wantedAt : ByteArray := prog_11_method_48_code
def yX9_wantedAt : MethodName := ⟨RX9, "wantedAt", "(I)I"⟩
abbrev cX9_hadAt : ByteArray := prog_11_method_49_code
def yX9_hadAt : MethodName := ⟨RX9, "hadAt", "(I)I"⟩
abbrev cX9_livelyAt : ByteArray := prog_11_method_50_code
def yX9_livelyAt : MethodName := ⟨RX9, "livelyAt", "(I)I"⟩
abbrev cX9_demand : ByteArray := prog_11_method_51_code
def yX9_demand : MethodName := ⟨RX9, "demand", "(III)I"⟩
abbrev cX9_lively : ByteArray := prog_11_method_52_code
def yX9_lively : MethodName := ⟨RX9, "lively", "(II)I"⟩
abbrev cX9_winner : ByteArray := prog_11_method_53_code
def yX9_winner : MethodName := ⟨RX9, "winner", "(II)I"⟩
abbrev cX9_open : ByteArray := prog_11_method_54_code
def yX9_open : MethodName := ⟨RX9, "open", "(II)I"⟩
abbrev cX9_match : ByteArray := prog_11_method_55_code
def yX9_match : MethodName := ⟨RX9, "match", "(III)I"⟩
abbrev cX9_shared : ByteArray := prog_11_method_56_code
def yX9_shared : MethodName := ⟨RX9, "shared", "(JJ)J"⟩
abbrev cX9_times : ByteArray := prog_11_method_57_code
def yX9_times : MethodName := ⟨RX9, "times", "(JJ)J"⟩
abbrev cX9_choose : ByteArray := prog_11_method_58_code
def yX9_choose : MethodName := ⟨RX9, "choose", "(II)J"⟩
abbrev cX9_tied : ByteArray := prog_11_method_59_code
def yX9_tied : MethodName := ⟨RX9, "tied", "([II)J"⟩
abbrev cX9_ties : ByteArray := prog_11_method_60_code
def yX9_ties : MethodName := ⟨RX9, "ties", "(I)J"⟩
abbrev cX9_under : ByteArray := prog_11_method_61_code
def yX9_under : MethodName := ⟨RX9, "under", "(III)I"⟩
abbrev cX9_feeing : ByteArray := prog_11_method_62_code
def yX9_feeing : MethodName := ⟨RX9, "feeing", "(III)I"⟩
abbrev cX9_bestFee : ByteArray := prog_11_method_63_code
def yX9_bestFee : MethodName := ⟨RX9, "bestFee", "(I)I"⟩
abbrev cX9_laysSums : ByteArray := prog_11_method_64_code
def yX9_laysSums : MethodName := ⟨RX9, "laysSums", "(I)V"⟩
abbrev cX9_tries : ByteArray := prog_11_method_65_code
def yX9_tries : MethodName := ⟨RX9, "tries", "(III)V"⟩
abbrev cX9_goesOnBy : ByteArray := prog_11_method_66_code
def yX9_goesOnBy : MethodName := ⟨RX9, "goesOnBy", "(I)V"⟩
abbrev cX9_worthOfAll : ByteArray := prog_11_method_67_code
def yX9_worthOfAll : MethodName := ⟨RX9, "worthOfAll", "()I"⟩
abbrev cX9_served : ByteArray := prog_11_method_68_code
def yX9_served : MethodName := ⟨RX9, "served", "(I)I"⟩
abbrev cX9_bitsOf : ByteArray := prog_11_method_69_code
def yX9_bitsOf : MethodName := ⟨RX9, "bitsOf", "(JJ)J"⟩
abbrev cX9_share : ByteArray := prog_11_method_70_code
def yX9_share : MethodName := ⟨RX9, "share", "()J"⟩
abbrev cX9_audit : ByteArray := prog_11_method_71_code
def yX9_audit : MethodName := ⟨RX9, "audit", "(I)I"⟩
abbrev cX9_entry : ByteArray := prog_11_method_72_code
def yX9_entry : MethodName := ⟨RX9, "entry", "(ZI)I"⟩
abbrev cX9_merged : ByteArray := prog_11_method_73_code
def yX9_merged : MethodName := ⟨RX9, "merged", "(III)I"⟩
abbrev cX9_prices : ByteArray := prog_11_method_74_code
def yX9_prices : MethodName := ⟨RX9, "prices", "(II)I"⟩
abbrev cX9_shelves : ByteArray := prog_11_method_75_code
def yX9_shelves : MethodName := ⟨RX9, "shelves", "()I"⟩
abbrev cX9_units : ByteArray := prog_11_method_76_code
def yX9_units : MethodName := ⟨RX9, "units", "()I"⟩
abbrev cX9_trading : ByteArray := prog_11_method_77_code
def yX9_trading : MethodName := ⟨RX9, "trading", "()I"⟩
abbrev cX9_count : ByteArray := prog_11_method_78_code
def yX9_count : MethodName := ⟨RX9, "count", "(I)I"⟩
abbrev cX9_spell : ByteArray := prog_11_method_79_code
def yX9_spell : MethodName := ⟨RX9, "spell", "(I)V"⟩
abbrev cX9_spellWord : ByteArray := prog_11_method_80_code
def yX9_spellWord : MethodName := ⟨RX9, "spellWord", "(Ljava/lang/String;)V"⟩
abbrev cX9_spellNumber : ByteArray := prog_11_method_81_code
def yX9_spellNumber : MethodName := ⟨RX9, "spellNumber", "(I)V"⟩
abbrev cX9_parts : ByteArray := prog_11_method_82_code
def yX9_parts : MethodName := ⟨RX9, "parts", "()V"⟩
abbrev cX9_lawWord : ByteArray := prog_11_method_83_code
def yX9_lawWord : MethodName := ⟨RX9, "lawWord", "(I)Ljava/lang/String;"⟩
abbrev cX9_spellTrader : ByteArray := prog_11_method_84_code
def yX9_spellTrader : MethodName := ⟨RX9, "spellTrader", "(I)V"⟩
abbrev cX9_spellAll : ByteArray := prog_11_method_85_code
def yX9_spellAll : MethodName := ⟨RX9, "spellAll", "()V"⟩
abbrev cX9_letter : ByteArray := prog_11_method_86_code
def yX9_letter : MethodName := ⟨RX9, "letter", "(I)I"⟩
abbrev cX9_keepsAct : ByteArray := prog_11_method_87_code
def yX9_keepsAct : MethodName := ⟨RX9, "keepsAct", "()V"⟩
abbrev cX9_come : ByteArray := prog_11_method_88_code
def yX9_come : MethodName := ⟨RX9, "come", "(ZI)I"⟩
abbrev cX9_mayFollow : ByteArray := prog_11_method_89_code
def yX9_mayFollow : MethodName := ⟨RX9, "mayFollow", "(ZII)Z"⟩
abbrev cX9_add : ByteArray := prog_11_method_90_code
def yX9_add : MethodName := ⟨RX9, "add", "(II)I"⟩
abbrev cX9_say : ByteArray := prog_11_method_91_code
def yX9_say : MethodName := ⟨RX9, "say", "(III)I"⟩
abbrev cX9_leave : ByteArray := prog_11_method_92_code
def yX9_leave : MethodName := ⟨RX9, "leave", "(I)I"⟩
abbrev cX9_becomes : ByteArray := prog_11_method_93_code
def yX9_becomes : MethodName := ⟨RX9, "becomes", "(II)I"⟩
abbrev cX9_fee : ByteArray := prog_11_method_94_code
def yX9_fee : MethodName := ⟨RX9, "fee", "(I)I"⟩
abbrev cX9_law : ByteArray := prog_11_method_95_code
def yX9_law : MethodName := ⟨RX9, "law", "(I)I"⟩
abbrev cX9_goes : ByteArray := prog_11_method_96_code
def yX9_goes : MethodName := ⟨RX9, "goes", "(II)V"⟩
abbrev cX9_close : ByteArray := prog_11_method_97_code
def yX9_close : MethodName := ⟨RX9, "close", "(I)I"⟩
abbrev cX9_undo : ByteArray := prog_11_method_98_code
def yX9_undo : MethodName := ⟨RX9, "undo", "()I"⟩
abbrev cX9_keep : ByteArray := prog_11_method_99_code
def yX9_keep : MethodName := ⟨RX9, "keep", "(I)I"⟩
abbrev cX9_back : ByteArray := prog_11_method_100_code
def yX9_back : MethodName := ⟨RX9, "back", "(I)I"⟩
abbrev cX9_puts : ByteArray := prog_11_method_101_code
def yX9_puts : MethodName := ⟨RX9, "puts", "(I)V"⟩
abbrev cX9_feed : ByteArray := prog_11_method_102_code
def yX9_feed : MethodName := ⟨RX9, "feed", "(IIIII)I"⟩
abbrev cX9_end : ByteArray := prog_11_method_103_code
def yX9_end : MethodName := ⟨RX9, "end", "(I)I"⟩
abbrev cX9_byteAt : ByteArray := prog_11_method_104_code
def yX9_byteAt : MethodName := ⟨RX9, "byteAt", "(I)I"⟩
abbrev cX9_nextByte : ByteArray := prog_11_method_105_code
def yX9_nextByte : MethodName := ⟨RX9, "nextByte", "()I"⟩
abbrev cX9_fails : ByteArray := prog_11_method_106_code
def yX9_fails : MethodName := ⟨RX9, "fails", "(II)Z"⟩
abbrev cX9_isWord : ByteArray := prog_11_method_107_code
def yX9_isWord : MethodName := ⟨RX9, "isWord", "(Ljava/lang/String;)Z"⟩
abbrev cX9_isDigit : ByteArray := prog_11_method_108_code
def yX9_isDigit : MethodName := ⟨RX9, "isDigit", "()Z"⟩
abbrev cX9_readsNumber : ByteArray := prog_11_method_109_code
def yX9_readsNumber : MethodName := ⟨RX9, "readsNumber", "(II)Z"⟩
abbrev cX9_readsUnits : ByteArray := prog_11_method_110_code
def yX9_readsUnits : MethodName := ⟨RX9, "readsUnits", "(IZ)Z"⟩
abbrev cX9_readsTrader : ByteArray := prog_11_method_111_code
def yX9_readsTrader : MethodName := ⟨RX9, "readsTrader", "(Z)Z"⟩
abbrev cX9_readsFee : ByteArray := prog_11_method_112_code
def yX9_readsFee : MethodName := ⟨RX9, "readsFee", "()Z"⟩
abbrev cX9_readsLaw : ByteArray := prog_11_method_113_code
def yX9_readsLaw : MethodName := ⟨RX9, "readsLaw", "()Z"⟩
abbrev cX9_readsPart : ByteArray := prog_11_method_114_code
def yX9_readsPart : MethodName := ⟨RX9, "readsPart", "()Z"⟩
abbrev cX9_readsAll : ByteArray := prog_11_method_115_code
def yX9_readsAll : MethodName := ⟨RX9, "readsAll", "()Z"⟩
abbrev cX9_tell : ByteArray := prog_11_method_116_code
def yX9_tell : MethodName := ⟨RX9, "tell", "()I"⟩
def RJ9 : String := "java/lang/Math"
def TJ9 : u_T := fun k => match k with
  | _ => ("", "", "", false)
def tyJ9 : Nat → FieldType := fun k => match k with
  | _ => .int
abbrev wsJ90 : List Cond := u_ws RJ9 TJ9 0
theorem nmJ9 : ∀ a, a < 0 → ∀ b, b < 0 → a ≠ b → (TJ9 a).2.1 ≠ (TJ9 b).2.1 := by decide +kernel
theorem tyJ9_ok : ∀ k, k < 0 → parseFieldDescriptor (TJ9 k).2.2.1 = some (tyJ9 k) := by decide +kernel
abbrev cJ9_max_7cf53 : ByteArray := prog_12_method_65_code
def yJ9_max_7cf53 : MethodName := ⟨RJ9, "max", "(II)I"⟩
abbrev cJ9_min_7cf53 : ByteArray := prog_12_method_69_code
def yJ9_min_7cf53 : MethodName := ⟨RJ9, "min", "(II)I"⟩
abbrev cJ9_min_f86c9 : ByteArray := prog_12_method_70_code
def yJ9_min_f86c9 : MethodName := ⟨RJ9, "min", "(JJ)J"⟩
def RJ0 : String := "java/lang/String"
def TJ0 : u_T := fun k => match k with
  | _ => ("", "", "", false)
def tyJ0 : Nat → FieldType := fun k => match k with
  | _ => .int
abbrev wsJ00 : List Cond := u_ws RJ0 TJ0 0
theorem nmJ0 : ∀ a, a < 0 → ∀ b, b < 0 → a ≠ b → (TJ0 a).2.1 ≠ (TJ0 b).2.1 := by decide +kernel
theorem tyJ0_ok : ∀ k, k < 0 → parseFieldDescriptor (TJ0 k).2.2.1 = some (tyJ0 k) := by decide +kernel
abbrev cJ0_length_8abf5 : ByteArray := prog_13_method_54_code
def yJ0_length_8abf5 : MethodName := ⟨RJ0, "length", "()I"⟩
abbrev cJ0_charAt_5068e : ByteArray := prog_13_method_56_code
def yJ0_charAt_5068e : MethodName := ⟨RJ0, "charAt", "(I)C"⟩
abbrev cJ0_coder_7d493 : ByteArray := prog_13_method_152_code
def yJ0_coder_7d493 : MethodName := ⟨RJ0, "coder", "()B"⟩
abbrev cJ0_isLatin1_aae02 : ByteArray := prog_13_method_154_code
def yJ0_isLatin1_aae02 : MethodName := ⟨RJ0, "isLatin1", "()Z"⟩
abbrev cJ0_checkIndex_df160 : ByteArray := prog_13_method_155_code
def yJ0_checkIndex_df160 : MethodName := ⟨RJ0, "checkIndex", "(II)V"⟩
def RJ1 : String := "java/lang/StringLatin1"
def TJ1 : u_T := fun k => match k with
  | _ => ("", "", "", false)
def tyJ1 : Nat → FieldType := fun k => match k with
  | _ => .int
abbrev wsJ10 : List Cond := u_ws RJ1 TJ1 0
theorem nmJ1 : ∀ a, a < 0 → ∀ b, b < 0 → a ≠ b → (TJ1 a).2.1 ≠ (TJ1 b).2.1 := by decide +kernel
theorem tyJ1_ok : ∀ k, k < 0 → parseFieldDescriptor (TJ1 k).2.2.1 = some (tyJ1 k) := by decide +kernel
abbrev cJ1_charAt_3b067 : ByteArray := prog_14_method_2_code
def yJ1_charAt_3b067 : MethodName := ⟨RJ1, "charAt", "([BI)C"⟩
def RJ2 : String := "java/lang/StringUTF16"
def TJ2 : u_T := fun k => match k with
  | _ => ("", "", "", false)
def tyJ2 : Nat → FieldType := fun k => match k with
  | _ => .int
abbrev wsJ20 : List Cond := u_ws RJ2 TJ2 0
theorem nmJ2 : ∀ a, a < 0 → ∀ b, b < 0 → a ≠ b → (TJ2 a).2.1 ≠ (TJ2 b).2.1 := by decide +kernel
theorem tyJ2_ok : ∀ k, k < 0 → parseFieldDescriptor (TJ2 k).2.2.1 = some (tyJ2 k) := by decide +kernel
abbrev cJ2_getChar_3b067 : ByteArray := prog_15_method_5_code
def yJ2_getChar_3b067 : MethodName := ⟨RJ2, "getChar", "([BI)C"⟩
abbrev cJ2_length_9d52b : ByteArray := prog_15_method_6_code
def yJ2_length_9d52b : MethodName := ⟨RJ2, "length", "([B)I"⟩
abbrev cJ2_charAt_3b067 : ByteArray := prog_15_method_83_code
def yJ2_charAt_3b067 : MethodName := ⟨RJ2, "charAt", "([BI)C"⟩
abbrev cJ2_checkIndex_2214a : ByteArray := prog_15_method_91_code
def yJ2_checkIndex_2214a : MethodName := ⟨RJ2, "checkIndex", "(I[B)V"⟩
def RJ10 : String := "java/lang/System"
def TJ10 : u_T := fun k => match k with
  | _ => ("", "", "", false)
def tyJ10 : Nat → FieldType := fun k => match k with
  | _ => .int
abbrev wsJ100 : List Cond := u_ws RJ10 TJ10 0
theorem nmJ10 : ∀ a, a < 0 → ∀ b, b < 0 → a ≠ b → (TJ10 a).2.1 ≠ (TJ10 b).2.1 := by decide +kernel
theorem tyJ10_ok : ∀ k, k < 0 → parseFieldDescriptor (TJ10 k).2.2.1 = some (tyJ10 k) := by decide +kernel
def RJ3 : String := "jdk/internal/util/Preconditions"
def TJ3 : u_T := fun k => match k with
  | _ => ("", "", "", false)
def tyJ3 : Nat → FieldType := fun k => match k with
  | _ => .int
abbrev wsJ30 : List Cond := u_ws RJ3 TJ3 0
theorem nmJ3 : ∀ a, a < 0 → ∀ b, b < 0 → a ≠ b → (TJ3 a).2.1 ≠ (TJ3 b).2.1 := by decide +kernel
theorem tyJ3_ok : ∀ k, k < 0 → parseFieldDescriptor (TJ3 k).2.2.1 = some (tyJ3 k) := by decide +kernel
abbrev cJ3_checkIndex_8e157 : ByteArray := prog_17_method_11_code
def yJ3_checkIndex_8e157 : MethodName := ⟨RJ3, "checkIndex", "(IILjava/util/function/BiFunction;)I"⟩
def RL : String := "TradeHallLaw"
abbrev cL_law : ByteArray := code
def yL_law : MethodName := ⟨RL, "law", "([I)Z"⟩
abbrev vwCl : List vw_C := [(RX0, TX0, 11), (RX1, TX1, 13), (RX2, TX2, 3), (RX3, TX3, 2), (RX4, TX4, 3), (RX5, TX5, 3), (RX6, TX6, 2), (RX7, TX7, 7), (RX8, TX8, 11), (RX9, TX9, 44)]
