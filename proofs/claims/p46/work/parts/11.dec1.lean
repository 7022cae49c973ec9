set_option maxRecDepth 100000
theorem d_X7_readTrader_106 : dec m_X7_readTrader 106 = .ok (.ifCond .ne 13, 3) := by decide +kernel
theorem d_X7_readTrader_109 : dec m_X7_readTrader 109 = .ok (.aload_n 0, 1) := by decide +kernel
theorem d_X7_readTrader_110 : dec m_X7_readTrader 110 = .ok (.iload 6, 2) := by decide +kernel
theorem d_X7_readTrader_112 : dec m_X7_readTrader 112 = .ok (.iconst 2, 1) := by decide +kernel
theorem d_X7_readTrader_113 : dec m_X7_readTrader 113 = .ok (.invokevirtual 52, 3) := by decide +kernel
theorem d_X7_readTrader_116 : dec m_X7_readTrader 116 = .ok (.goto 23, 3) := by decide +kernel
theorem d_X7_readTrader_119 : dec m_X7_readTrader 119 = .ok (.aload_n 0, 1) := by decide +kernel
theorem d_X7_readTrader_120 : dec m_X7_readTrader 120 = .ok (.getfield 32, 3) := by decide +kernel
theorem d_X7_readTrader_123 : dec m_X7_readTrader 123 = .ok (.ifCond .ne 16, 3) := by decide +kernel
theorem d_X7_readTrader_126 : dec m_X7_readTrader 126 = .ok (.iload 5, 2) := by decide +kernel
theorem d_X7_readTrader_128 : dec m_X7_readTrader 128 = .ok (.iconst 4, 1) := by decide +kernel
theorem d_X7_readTrader_129 : dec m_X7_readTrader 129 = .ok (.if_icmp .lt 10, 3) := by decide +kernel
theorem d_X7_readTrader_132 : dec m_X7_readTrader 132 = .ok (.aload_n 0, 1) := by decide +kernel
theorem d_X7_readTrader_133 : dec m_X7_readTrader 133 = .ok (.iload 6, 2) := by decide +kernel
theorem d_X7_readTrader_135 : dec m_X7_readTrader 135 = .ok (.iconst 3, 1) := by decide +kernel
theorem d_X7_readTrader_136 : dec m_X7_readTrader 136 = .ok (.invokevirtual 52, 3) := by decide +kernel
theorem d_X7_readTrader_139 : dec m_X7_readTrader 139 = .ok (.aload_n 0, 1) := by decide +kernel
theorem d_X7_readTrader_140 : dec m_X7_readTrader 140 = .ok (.getfield 32, 3) := by decide +kernel
theorem d_X7_readTrader_143 : dec m_X7_readTrader 143 = .ok (.ifCond .eq 4, 3) := by decide +kernel
theorem d_X7_readTrader_146 : dec m_X7_readTrader 146 = .ok (.return_, 1) := by decide +kernel
theorem d_X7_readTrader_147 : dec m_X7_readTrader 147 = .ok (.aload_n 0, 1) := by decide +kernel
theorem d_X7_readTrader_148 : dec m_X7_readTrader 148 = .ok (.getfield 18, 3) := by decide +kernel
theorem d_X7_readTrader_151 : dec m_X7_readTrader 151 = .ok (.iload 4, 2) := by decide +kernel
theorem d_X7_readTrader_153 : dec m_X7_readTrader 153 = .ok (.iload 7, 2) := by decide +kernel
theorem d_X7_readTrader_155 : dec m_X7_readTrader 155 = .ok (.invokevirtual 98, 3) := by decide +kernel
theorem d_X7_readTrader_158 : dec m_X7_readTrader 158 = .ok (.pop, 1) := by decide +kernel
theorem d_X7_readTrader_159 : dec m_X7_readTrader 159 = .ok (.aload_n 0, 1) := by decide +kernel
theorem d_X7_readTrader_160 : dec m_X7_readTrader 160 = .ok (.invokevirtual 42, 3) := by decide +kernel
theorem d_X7_readTrader_163 : dec m_X7_readTrader 163 = .ok (.iinc 5 1, 3) := by decide +kernel
theorem d_X7_readTrader_166 : dec m_X7_readTrader 166 = .ok (.goto (-115), 3) := by decide +kernel
theorem d_X7_readTrader_169 : dec m_X7_readTrader 169 = .ok (.return_, 1) := by decide +kernel
theorem d_X7_readFee_0 : dec m_X7_readFee 0 = .ok (.aload_n 0, 1) := by decide +kernel
theorem d_X7_readFee_1 : dec m_X7_readFee 1 = .ok (.getfield 35, 3) := by decide +kernel
theorem d_X7_readFee_4 : dec m_X7_readFee 4 = .ok (.ifCond .eq 10, 3) := by decide +kernel
theorem d_X7_readFee_7 : dec m_X7_readFee 7 = .ok (.aload_n 0, 1) := by decide +kernel
theorem d_X7_readFee_8 : dec m_X7_readFee 8 = .ok (.iload_n 1, 1) := by decide +kernel
theorem d_X7_readFee_9 : dec m_X7_readFee 9 = .ok (.iconst 3, 1) := by decide +kernel
theorem d_X7_readFee_10 : dec m_X7_readFee 10 = .ok (.invokevirtual 52, 3) := by decide +kernel
theorem d_X7_readFee_13 : dec m_X7_readFee 13 = .ok (.return_, 1) := by decide +kernel
theorem d_X7_readFee_14 : dec m_X7_readFee 14 = .ok (.aload_n 0, 1) := by decide +kernel
theorem d_X7_readFee_15 : dec m_X7_readFee 15 = .ok (.iconst 1, 1) := by decide +kernel
theorem d_X7_readFee_16 : dec m_X7_readFee 16 = .ok (.putfield 35, 3) := by decide +kernel
theorem d_X7_readFee_19 : dec m_X7_readFee 19 = .ok (.aload_n 0, 1) := by decide +kernel
theorem d_X7_readFee_20 : dec m_X7_readFee 20 = .ok (.getfield 18, 3) := by decide +kernel
theorem d_X7_readFee_23 : dec m_X7_readFee 23 = .ok (.aload_n 0, 1) := by decide +kernel
theorem d_X7_readFee_24 : dec m_X7_readFee 24 = .ok (.sipush 500, 3) := by decide +kernel
theorem d_X7_readFee_27 : dec m_X7_readFee 27 = .ok (.invokevirtual 83, 3) := by decide +kernel
theorem d_X7_readFee_30 : dec m_X7_readFee 30 = .ok (.putfield 102, 3) := by decide +kernel
theorem d_X7_readFee_33 : dec m_X7_readFee 33 = .ok (.return_, 1) := by decide +kernel
theorem d_X7_readLaw_0 : dec m_X7_readLaw 0 = .ok (.aload_n 0, 1) := by decide +kernel
theorem d_X7_readLaw_1 : dec m_X7_readLaw 1 = .ok (.getfield 39, 3) := by decide +kernel
theorem d_X7_readLaw_4 : dec m_X7_readLaw 4 = .ok (.ifCond .eq 10, 3) := by decide +kernel
theorem d_X7_readLaw_7 : dec m_X7_readLaw 7 = .ok (.aload_n 0, 1) := by decide +kernel
theorem d_X7_readLaw_8 : dec m_X7_readLaw 8 = .ok (.iload_n 1, 1) := by decide +kernel
theorem d_X7_readLaw_9 : dec m_X7_readLaw 9 = .ok (.iconst 3, 1) := by decide +kernel
theorem d_X7_readLaw_10 : dec m_X7_readLaw 10 = .ok (.invokevirtual 52, 3) := by decide +kernel
theorem d_X7_readLaw_13 : dec m_X7_readLaw 13 = .ok (.return_, 1) := by decide +kernel
theorem d_X7_readLaw_14 : dec m_X7_readLaw 14 = .ok (.aload_n 0, 1) := by decide +kernel
theorem d_X7_readLaw_15 : dec m_X7_readLaw 15 = .ok (.iconst 1, 1) := by decide +kernel
theorem d_X7_readLaw_16 : dec m_X7_readLaw 16 = .ok (.putfield 39, 3) := by decide +kernel
theorem d_X7_readLaw_19 : dec m_X7_readLaw 19 = .ok (.aload_n 0, 1) := by decide +kernel
theorem d_X7_readLaw_20 : dec m_X7_readLaw 20 = .ok (.invokevirtual 42, 3) := by decide +kernel
theorem d_X7_readLaw_23 : dec m_X7_readLaw 23 = .ok (.aload_n 0, 1) := by decide +kernel
theorem d_X7_readLaw_24 : dec m_X7_readLaw 24 = .ok (.getfield 29, 3) := by decide +kernel
theorem d_X7_readLaw_27 : dec m_X7_readLaw 27 = .ok (.istore_n 2, 1) := by decide +kernel
theorem d_X7_readLaw_28 : dec m_X7_readLaw 28 = .ok (.aload_n 0, 1) := by decide +kernel
theorem d_X7_readLaw_29 : dec m_X7_readLaw 29 = .ok (.invokevirtual 56, 3) := by decide +kernel
theorem d_X7_readLaw_32 : dec m_X7_readLaw 32 = .ok (.iconst 0, 1) := by decide +kernel
theorem d_X7_readLaw_33 : dec m_X7_readLaw 33 = .ok (.istore_n 3, 1) := by decide +kernel
theorem d_X7_readLaw_34 : dec m_X7_readLaw 34 = .ok (.iload_n 3, 1) := by decide +kernel
theorem d_X7_readLaw_35 : dec m_X7_readLaw 35 = .ok (.iconst 3, 1) := by decide +kernel
theorem d_X7_readLaw_36 : dec m_X7_readLaw 36 = .ok (.if_icmp .gt 30, 3) := by decide +kernel
theorem d_X7_readLaw_39 : dec m_X7_readLaw 39 = .ok (.aload_n 0, 1) := by decide +kernel
theorem d_X7_readLaw_40 : dec m_X7_readLaw 40 = .ok (.iload_n 2, 1) := by decide +kernel
theorem d_X7_readLaw_41 : dec m_X7_readLaw 41 = .ok (.iload_n 3, 1) := by decide +kernel
theorem d_X7_readLaw_42 : dec m_X7_readLaw 42 = .ok (.invokestatic 104, 3) := by decide +kernel
theorem d_X7_readLaw_45 : dec m_X7_readLaw 45 = .ok (.invokevirtual 61, 3) := by decide +kernel
theorem d_X7_readLaw_48 : dec m_X7_readLaw 48 = .ok (.ifCond .eq 12, 3) := by decide +kernel
theorem d_X7_readLaw_51 : dec m_X7_readLaw 51 = .ok (.aload_n 0, 1) := by decide +kernel
theorem d_X7_readLaw_52 : dec m_X7_readLaw 52 = .ok (.getfield 18, 3) := by decide +kernel
theorem d_X7_readLaw_55 : dec m_X7_readLaw 55 = .ok (.iload_n 3, 1) := by decide +kernel
theorem d_X7_readLaw_56 : dec m_X7_readLaw 56 = .ok (.putfield 108, 3) := by decide +kernel
theorem d_X7_readLaw_59 : dec m_X7_readLaw 59 = .ok (.return_, 1) := by decide +kernel
theorem d_X7_readLaw_60 : dec m_X7_readLaw 60 = .ok (.iinc 3 1, 3) := by decide +kernel
theorem d_X7_readLaw_63 : dec m_X7_readLaw 63 = .ok (.goto (-29), 3) := by decide +kernel
theorem d_X7_readLaw_66 : dec m_X7_readLaw 66 = .ok (.aload_n 0, 1) := by decide +kernel
theorem d_X7_readLaw_67 : dec m_X7_readLaw 67 = .ok (.iload_n 2, 1) := by decide +kernel
theorem d_X7_readLaw_68 : dec m_X7_readLaw 68 = .ok (.iconst 1, 1) := by decide +kernel
theorem d_X7_readLaw_69 : dec m_X7_readLaw 69 = .ok (.invokevirtual 52, 3) := by decide +kernel
theorem d_X7_readLaw_72 : dec m_X7_readLaw 72 = .ok (.return_, 1) := by decide +kernel
theorem d_X7_readNumber_0 : dec m_X7_readNumber 0 = .ok (.aload_n 0, 1) := by decide +kernel
theorem d_X7_readNumber_1 : dec m_X7_readNumber 1 = .ok (.invokevirtual 42, 3) := by decide +kernel
theorem d_X7_readNumber_4 : dec m_X7_readNumber 4 = .ok (.aload_n 0, 1) := by decide +kernel
theorem d_X7_readNumber_5 : dec m_X7_readNumber 5 = .ok (.getfield 29, 3) := by decide +kernel
theorem d_X7_readNumber_8 : dec m_X7_readNumber 8 = .ok (.istore_n 2, 1) := by decide +kernel
theorem d_X7_readNumber_9 : dec m_X7_readNumber 9 = .ok (.iconst 0, 1) := by decide +kernel
theorem d_X7_readNumber_10 : dec m_X7_readNumber 10 = .ok (.istore_n 3, 1) := by decide +kernel
theorem d_X7_readNumber_11 : dec m_X7_readNumber 11 = .ok (.aload_n 0, 1) := by decide +kernel
theorem d_X7_readNumber_12 : dec m_X7_readNumber 12 = .ok (.getfield 29, 3) := by decide +kernel
theorem d_X7_readNumber_15 : dec m_X7_readNumber 15 = .ok (.aload_n 0, 1) := by decide +kernel
theorem d_X7_readNumber_16 : dec m_X7_readNumber 16 = .ok (.getfield 22, 3) := by decide +kernel
theorem d_X7_readNumber_19 : dec m_X7_readNumber 19 = .ok (.if_icmp .ge 53, 3) := by decide +kernel
theorem d_X7_readNumber_22 : dec m_X7_readNumber 22 = .ok (.aload_n 0, 1) := by decide +kernel
theorem d_X7_readNumber_23 : dec m_X7_readNumber 23 = .ok (.aload_n 0, 1) := by decide +kernel
theorem d_X7_readNumber_24 : dec m_X7_readNumber 24 = .ok (.getfield 29, 3) := by decide +kernel
theorem d_X7_readNumber_27 : dec m_X7_readNumber 27 = .ok (.invokevirtual 48, 3) := by decide +kernel
theorem d_X7_readNumber_30 : dec m_X7_readNumber 30 = .ok (.invokestatic 90, 3) := by decide +kernel
theorem d_X7_readNumber_33 : dec m_X7_readNumber 33 = .ok (.ifCond .eq 39, 3) := by decide +kernel
theorem d_X7_readNumber_36 : dec m_X7_readNumber 36 = .ok (.iload_n 3, 1) := by decide +kernel
theorem d_X7_readNumber_37 : dec m_X7_readNumber 37 = .ok (.bipush 10, 2) := by decide +kernel
theorem d_X7_readNumber_39 : dec m_X7_readNumber 39 = .ok (.imul, 1) := by decide +kernel
theorem d_X7_readNumber_40 : dec m_X7_readNumber 40 = .ok (.aload_n 0, 1) := by decide +kernel
theorem d_X7_readNumber_41 : dec m_X7_readNumber 41 = .ok (.aload_n 0, 1) := by decide +kernel
theorem d_X7_readNumber_42 : dec m_X7_readNumber 42 = .ok (.getfield 29, 3) := by decide +kernel
theorem d_X7_readNumber_45 : dec m_X7_readNumber 45 = .ok (.invokevirtual 48, 3) := by decide +kernel
theorem d_X7_readNumber_48 : dec m_X7_readNumber 48 = .ok (.iadd, 1) := by decide +kernel
theorem d_X7_readNumber_49 : dec m_X7_readNumber 49 = .ok (.bipush 48, 2) := by decide +kernel
theorem d_X7_readNumber_51 : dec m_X7_readNumber 51 = .ok (.isub, 1) := by decide +kernel
theorem d_X7_readNumber_52 : dec m_X7_readNumber 52 = .ok (.sipush 10000, 3) := by decide +kernel
theorem d_X7_readNumber_55 : dec m_X7_readNumber 55 = .ok (.invokestatic 110, 3) := by decide +kernel
theorem d_X7_readNumber_58 : dec m_X7_readNumber 58 = .ok (.istore_n 3, 1) := by decide +kernel
theorem d_X7_readNumber_59 : dec m_X7_readNumber 59 = .ok (.aload_n 0, 1) := by decide +kernel
theorem d_X7_readNumber_60 : dec m_X7_readNumber 60 = .ok (.dup, 1) := by decide +kernel
theorem d_X7_readNumber_61 : dec m_X7_readNumber 61 = .ok (.getfield 29, 3) := by decide +kernel
theorem d_X7_readNumber_64 : dec m_X7_readNumber 64 = .ok (.iconst 1, 1) := by decide +kernel
theorem d_X7_readNumber_65 : dec m_X7_readNumber 65 = .ok (.iadd, 1) := by decide +kernel
theorem d_X7_readNumber_66 : dec m_X7_readNumber 66 = .ok (.putfield 29, 3) := by decide +kernel
theorem d_X7_readNumber_69 : dec m_X7_readNumber 69 = .ok (.goto (-58), 3) := by decide +kernel
theorem d_X7_readNumber_72 : dec m_X7_readNumber 72 = .ok (.aload_n 0, 1) := by decide +kernel
theorem d_X7_readNumber_73 : dec m_X7_readNumber 73 = .ok (.getfield 29, 3) := by decide +kernel
theorem d_X7_readNumber_76 : dec m_X7_readNumber 76 = .ok (.iload_n 2, 1) := by decide +kernel
theorem d_X7_readNumber_77 : dec m_X7_readNumber 77 = .ok (.if_icmp .ne 12, 3) := by decide +kernel
theorem d_X7_readNumber_80 : dec m_X7_readNumber 80 = .ok (.aload_n 0, 1) := by decide +kernel
theorem d_X7_readNumber_81 : dec m_X7_readNumber 81 = .ok (.iload_n 2, 1) := by decide +kernel
theorem d_X7_readNumber_82 : dec m_X7_readNumber 82 = .ok (.iconst 1, 1) := by decide +kernel
theorem d_X7_readNumber_83 : dec m_X7_readNumber 83 = .ok (.invokevirtual 52, 3) := by decide +kernel
theorem d_X7_readNumber_86 : dec m_X7_readNumber 86 = .ok (.goto 14, 3) := by decide +kernel
theorem d_X7_readNumber_89 : dec m_X7_readNumber 89 = .ok (.iload_n 3, 1) := by decide +kernel
theorem d_X7_readNumber_90 : dec m_X7_readNumber 90 = .ok (.iload_n 1, 1) := by decide +kernel
theorem d_X7_readNumber_91 : dec m_X7_readNumber 91 = .ok (.if_icmp .le 9, 3) := by decide +kernel
theorem d_X7_readNumber_94 : dec m_X7_readNumber 94 = .ok (.aload_n 0, 1) := by decide +kernel
theorem d_X7_readNumber_95 : dec m_X7_readNumber 95 = .ok (.iload_n 2, 1) := by decide +kernel
theorem d_X7_readNumber_96 : dec m_X7_readNumber 96 = .ok (.iconst 2, 1) := by decide +kernel
theorem d_X7_readNumber_97 : dec m_X7_readNumber 97 = .ok (.invokevirtual 52, 3) := by decide +kernel
theorem d_X7_readNumber_100 : dec m_X7_readNumber 100 = .ok (.iload_n 3, 1) := by decide +kernel
theorem d_X7_readNumber_101 : dec m_X7_readNumber 101 = .ok (.ireturn, 1) := by decide +kernel
theorem d_X7_note_0 : dec m_X7_note 0 = .ok (.aload_n 0, 1) := by decide +kernel
theorem d_X7_note_1 : dec m_X7_note 1 = .ok (.bipush 8, 2) := by decide +kernel
theorem d_X7_note_3 : dec m_X7_note 3 = .ok (.iload_n 1, 1) := by decide +kernel
theorem d_X7_note_4 : dec m_X7_note 4 = .ok (.imul, 1) := by decide +kernel
theorem d_X7_note_5 : dec m_X7_note 5 = .ok (.iload_n 2, 1) := by decide +kernel
theorem d_X7_note_6 : dec m_X7_note 6 = .ok (.iadd, 1) := by decide +kernel
theorem d_X7_note_7 : dec m_X7_note 7 = .ok (.putfield 32, 3) := by decide +kernel
theorem d_X7_note_10 : dec m_X7_note 10 = .ok (.return_, 1) := by decide +kernel
theorem d_X7_skipBlanks_0 : dec m_X7_skipBlanks 0 = .ok (.aload_n 0, 1) := by decide +kernel
theorem d_X7_skipBlanks_1 : dec m_X7_skipBlanks 1 = .ok (.getfield 29, 3) := by decide +kernel
theorem d_X7_skipBlanks_4 : dec m_X7_skipBlanks 4 = .ok (.aload_n 0, 1) := by decide +kernel
theorem d_X7_skipBlanks_5 : dec m_X7_skipBlanks 5 = .ok (.getfield 22, 3) := by decide +kernel
theorem d_X7_skipBlanks_8 : dec m_X7_skipBlanks 8 = .ok (.if_icmp .ge 29, 3) := by decide +kernel
theorem d_X7_skipBlanks_11 : dec m_X7_skipBlanks 11 = .ok (.aload_n 0, 1) := by decide +kernel
theorem d_X7_skipBlanks_12 : dec m_X7_skipBlanks 12 = .ok (.aload_n 0, 1) := by decide +kernel
theorem d_X7_skipBlanks_13 : dec m_X7_skipBlanks 13 = .ok (.getfield 29, 3) := by decide +kernel
theorem d_X7_skipBlanks_16 : dec m_X7_skipBlanks 16 = .ok (.invokevirtual 48, 3) := by decide +kernel
theorem d_X7_skipBlanks_19 : dec m_X7_skipBlanks 19 = .ok (.bipush 32, 2) := by decide +kernel
theorem d_X7_skipBlanks_21 : dec m_X7_skipBlanks 21 = .ok (.if_icmp .ne 16, 3) := by decide +kernel
theorem d_X7_skipBlanks_24 : dec m_X7_skipBlanks 24 = .ok (.aload_n 0, 1) := by decide +kernel
theorem d_X7_skipBlanks_25 : dec m_X7_skipBlanks 25 = .ok (.dup, 1) := by decide +kernel
theorem d_X7_skipBlanks_26 : dec m_X7_skipBlanks 26 = .ok (.getfield 29, 3) := by decide +kernel
theorem d_X7_skipBlanks_29 : dec m_X7_skipBlanks 29 = .ok (.iconst 1, 1) := by decide +kernel
theorem d_X7_skipBlanks_30 : dec m_X7_skipBlanks 30 = .ok (.iadd, 1) := by decide +kernel
theorem d_X7_skipBlanks_31 : dec m_X7_skipBlanks 31 = .ok (.putfield 29, 3) := by decide +kernel
theorem d_X7_skipBlanks_34 : dec m_X7_skipBlanks 34 = .ok (.goto (-34), 3) := by decide +kernel
theorem d_X7_skipBlanks_37 : dec m_X7_skipBlanks 37 = .ok (.return_, 1) := by decide +kernel
theorem d_X7_skipWord_0 : dec m_X7_skipWord 0 = .ok (.aload_n 0, 1) := by decide +kernel
theorem d_X7_skipWord_1 : dec m_X7_skipWord 1 = .ok (.getfield 29, 3) := by decide +kernel
theorem d_X7_skipWord_4 : dec m_X7_skipWord 4 = .ok (.aload_n 0, 1) := by decide +kernel
theorem d_X7_skipWord_5 : dec m_X7_skipWord 5 = .ok (.getfield 22, 3) := by decide +kernel
theorem d_X7_skipWord_8 : dec m_X7_skipWord 8 = .ok (.if_icmp .ge 30, 3) := by decide +kernel
theorem d_X7_skipWord_11 : dec m_X7_skipWord 11 = .ok (.aload_n 0, 1) := by decide +kernel
theorem d_X7_skipWord_12 : dec m_X7_skipWord 12 = .ok (.aload_n 0, 1) := by decide +kernel
theorem d_X7_skipWord_13 : dec m_X7_skipWord 13 = .ok (.getfield 29, 3) := by decide +kernel
theorem d_X7_skipWord_16 : dec m_X7_skipWord 16 = .ok (.invokevirtual 48, 3) := by decide +kernel
theorem d_X7_skipWord_19 : dec m_X7_skipWord 19 = .ok (.invokestatic 115, 3) := by decide +kernel
theorem d_X7_skipWord_22 : dec m_X7_skipWord 22 = .ok (.ifCond .eq 16, 3) := by decide +kernel
theorem d_X7_skipWord_25 : dec m_X7_skipWord 25 = .ok (.aload_n 0, 1) := by decide +kernel
theorem d_X7_skipWord_26 : dec m_X7_skipWord 26 = .ok (.dup, 1) := by decide +kernel
theorem d_X7_skipWord_27 : dec m_X7_skipWord 27 = .ok (.getfield 29, 3) := by decide +kernel
theorem d_X7_skipWord_30 : dec m_X7_skipWord 30 = .ok (.iconst 1, 1) := by decide +kernel
theorem d_X7_skipWord_31 : dec m_X7_skipWord 31 = .ok (.iadd, 1) := by decide +kernel
theorem d_X7_skipWord_32 : dec m_X7_skipWord 32 = .ok (.putfield 29, 3) := by decide +kernel
theorem d_X7_skipWord_35 : dec m_X7_skipWord 35 = .ok (.goto (-35), 3) := by decide +kernel
theorem d_X7_skipWord_38 : dec m_X7_skipWord 38 = .ok (.return_, 1) := by decide +kernel
theorem d_X7_isWord_0 : dec m_X7_isWord 0 = .ok (.aload_n 0, 1) := by decide +kernel
theorem d_X7_isWord_1 : dec m_X7_isWord 1 = .ok (.getfield 29, 3) := by decide +kernel
theorem d_X7_isWord_4 : dec m_X7_isWord 4 = .ok (.iload_n 1, 1) := by decide +kernel
theorem d_X7_isWord_5 : dec m_X7_isWord 5 = .ok (.isub, 1) := by decide +kernel
theorem d_X7_isWord_6 : dec m_X7_isWord 6 = .ok (.aload_n 2, 1) := by decide +kernel
theorem d_X7_isWord_7 : dec m_X7_isWord 7 = .ok (.invokevirtual 118, 3) := by decide +kernel
theorem d_X7_isWord_10 : dec m_X7_isWord 10 = .ok (.if_icmp .eq 5, 3) := by decide +kernel
theorem d_X7_isWord_13 : dec m_X7_isWord 13 = .ok (.iconst 0, 1) := by decide +kernel
theorem d_X7_isWord_14 : dec m_X7_isWord 14 = .ok (.ireturn, 1) := by decide +kernel
theorem d_X7_isWord_15 : dec m_X7_isWord 15 = .ok (.iconst 0, 1) := by decide +kernel
theorem d_X7_isWord_16 : dec m_X7_isWord 16 = .ok (.istore_n 3, 1) := by decide +kernel
theorem d_X7_isWord_17 : dec m_X7_isWord 17 = .ok (.iload_n 3, 1) := by decide +kernel
theorem d_X7_isWord_18 : dec m_X7_isWord 18 = .ok (.aload_n 2, 1) := by decide +kernel
theorem d_X7_isWord_19 : dec m_X7_isWord 19 = .ok (.invokevirtual 118, 3) := by decide +kernel
theorem d_X7_isWord_22 : dec m_X7_isWord 22 = .ok (.if_icmp .ge 26, 3) := by decide +kernel
theorem d_X7_isWord_25 : dec m_X7_isWord 25 = .ok (.aload_n 0, 1) := by decide +kernel
theorem d_X7_isWord_26 : dec m_X7_isWord 26 = .ok (.iload_n 1, 1) := by decide +kernel
theorem d_X7_isWord_27 : dec m_X7_isWord 27 = .ok (.iload_n 3, 1) := by decide +kernel
theorem d_X7_isWord_28 : dec m_X7_isWord 28 = .ok (.iadd, 1) := by decide +kernel
theorem d_X7_isWord_29 : dec m_X7_isWord 29 = .ok (.invokevirtual 48, 3) := by decide +kernel
theorem d_X7_isWord_32 : dec m_X7_isWord 32 = .ok (.aload_n 2, 1) := by decide +kernel
theorem d_X7_isWord_33 : dec m_X7_isWord 33 = .ok (.iload_n 3, 1) := by decide +kernel
theorem d_X7_isWord_34 : dec m_X7_isWord 34 = .ok (.invokevirtual 124, 3) := by decide +kernel
theorem d_X7_isWord_37 : dec m_X7_isWord 37 = .ok (.if_icmp .eq 5, 3) := by decide +kernel
theorem d_X7_isWord_40 : dec m_X7_isWord 40 = .ok (.iconst 0, 1) := by decide +kernel
theorem d_X7_isWord_41 : dec m_X7_isWord 41 = .ok (.ireturn, 1) := by decide +kernel
theorem d_X7_isWord_42 : dec m_X7_isWord 42 = .ok (.iinc 3 1, 3) := by decide +kernel
theorem d_X7_isWord_45 : dec m_X7_isWord 45 = .ok (.goto (-28), 3) := by decide +kernel
theorem d_X7_isWord_48 : dec m_X7_isWord 48 = .ok (.iconst 1, 1) := by decide +kernel
theorem d_X7_isWord_49 : dec m_X7_isWord 49 = .ok (.ireturn, 1) := by decide +kernel
theorem d_X7_byteAt_0 : dec m_X7_byteAt 0 = .ok (.iload_n 1, 1) := by decide +kernel
theorem d_X7_byteAt_1 : dec m_X7_byteAt 1 = .ok (.ifCond .lt 27, 3) := by decide +kernel
theorem d_X7_byteAt_4 : dec m_X7_byteAt 4 = .ok (.iload_n 1, 1) := by decide +kernel
theorem d_X7_byteAt_5 : dec m_X7_byteAt 5 = .ok (.aload_n 0, 1) := by decide +kernel
theorem d_X7_byteAt_6 : dec m_X7_byteAt 6 = .ok (.getfield 22, 3) := by decide +kernel
theorem d_X7_byteAt_9 : dec m_X7_byteAt 9 = .ok (.if_icmp .ge 19, 3) := by decide +kernel
theorem d_X7_byteAt_12 : dec m_X7_byteAt 12 = .ok (.iload_n 1, 1) := by decide +kernel
theorem d_X7_byteAt_13 : dec m_X7_byteAt 13 = .ok (.sipush 400, 3) := by decide +kernel
theorem d_X7_byteAt_16 : dec m_X7_byteAt 16 = .ok (.if_icmp .ge 12, 3) := by decide +kernel
theorem d_X7_byteAt_19 : dec m_X7_byteAt 19 = .ok (.aload_n 0, 1) := by decide +kernel
theorem d_X7_byteAt_20 : dec m_X7_byteAt 20 = .ok (.getfield 9, 3) := by decide +kernel
theorem d_X7_byteAt_23 : dec m_X7_byteAt 23 = .ok (.iload_n 1, 1) := by decide +kernel
theorem d_X7_byteAt_24 : dec m_X7_byteAt 24 = .ok (.iaload, 1) := by decide +kernel
theorem d_X7_byteAt_25 : dec m_X7_byteAt 25 = .ok (.goto 4, 3) := by decide +kernel
theorem d_X7_byteAt_28 : dec m_X7_byteAt 28 = .ok (.iconst (-1), 1) := by decide +kernel
theorem d_X7_byteAt_29 : dec m_X7_byteAt 29 = .ok (.ireturn, 1) := by decide +kernel
theorem d_X7_isDigit_0 : dec m_X7_isDigit 0 = .ok (.iload_n 0, 1) := by decide +kernel
theorem d_X7_isDigit_1 : dec m_X7_isDigit 1 = .ok (.bipush 48, 2) := by decide +kernel
theorem d_X7_isDigit_3 : dec m_X7_isDigit 3 = .ok (.if_icmp .lt 13, 3) := by decide +kernel
theorem d_X7_isDigit_6 : dec m_X7_isDigit 6 = .ok (.iload_n 0, 1) := by decide +kernel
theorem d_X7_isDigit_7 : dec m_X7_isDigit 7 = .ok (.bipush 57, 2) := by decide +kernel
theorem d_X7_isDigit_9 : dec m_X7_isDigit 9 = .ok (.if_icmp .gt 7, 3) := by decide +kernel
theorem d_X7_isDigit_12 : dec m_X7_isDigit 12 = .ok (.iconst 1, 1) := by decide +kernel
theorem d_X7_isDigit_13 : dec m_X7_isDigit 13 = .ok (.goto 4, 3) := by decide +kernel
theorem d_X7_isDigit_16 : dec m_X7_isDigit 16 = .ok (.iconst 0, 1) := by decide +kernel
theorem d_X7_isDigit_17 : dec m_X7_isDigit 17 = .ok (.ireturn, 1) := by decide +kernel
theorem d_X7_isSmallLetter_0 : dec m_X7_isSmallLetter 0 = .ok (.iload_n 0, 1) := by decide +kernel
theorem d_X7_isSmallLetter_1 : dec m_X7_isSmallLetter 1 = .ok (.bipush 97, 2) := by decide +kernel
theorem d_X7_isSmallLetter_3 : dec m_X7_isSmallLetter 3 = .ok (.if_icmp .lt 13, 3) := by decide +kernel
theorem d_X7_isSmallLetter_6 : dec m_X7_isSmallLetter 6 = .ok (.iload_n 0, 1) := by decide +kernel
theorem d_X7_isSmallLetter_7 : dec m_X7_isSmallLetter 7 = .ok (.bipush 122, 2) := by decide +kernel
theorem d_X7_isSmallLetter_9 : dec m_X7_isSmallLetter 9 = .ok (.if_icmp .gt 7, 3) := by decide +kernel
theorem d_X7_isSmallLetter_12 : dec m_X7_isSmallLetter 12 = .ok (.iconst 1, 1) := by decide +kernel
theorem d_X7_isSmallLetter_13 : dec m_X7_isSmallLetter 13 = .ok (.goto 4, 3) := by decide +kernel
theorem d_X7_isSmallLetter_16 : dec m_X7_isSmallLetter 16 = .ok (.iconst 0, 1) := by decide +kernel
theorem d_X7_isSmallLetter_17 : dec m_X7_isSmallLetter 17 = .ok (.ireturn, 1) := by decide +kernel
theorem d_X8_feed_0 : dec m_X8_feed 0 = .ok (.aload_n 0, 1) := by decide +kernel
theorem d_X8_feed_1 : dec m_X8_feed 1 = .ok (.getfield 19, 3) := by decide +kernel
theorem d_X8_feed_4 : dec m_X8_feed 4 = .ok (.getfield 76, 3) := by decide +kernel
theorem d_X8_feed_7 : dec m_X8_feed 7 = .ok (.bipush 20, 2) := by decide +kernel
theorem d_X8_feed_9 : dec m_X8_feed 9 = .ok (.iadd, 1) := by decide +kernel
theorem d_X8_feed_10 : dec m_X8_feed 10 = .ok (.sipush 400, 3) := by decide +kernel
theorem d_X8_feed_13 : dec m_X8_feed 13 = .ok (.if_icmp .le 5, 3) := by decide +kernel
theorem d_X8_feed_16 : dec m_X8_feed 16 = .ok (.iconst (-1), 1) := by decide +kernel
theorem d_X8_feed_17 : dec m_X8_feed 17 = .ok (.ireturn, 1) := by decide +kernel
theorem d_X8_feed_18 : dec m_X8_feed 18 = .ok (.aload_n 0, 1) := by decide +kernel
theorem d_X8_feed_19 : dec m_X8_feed 19 = .ok (.getfield 19, 3) := by decide +kernel
theorem d_X8_feed_22 : dec m_X8_feed 22 = .ok (.iload_n 1, 1) := by decide +kernel
theorem d_X8_feed_23 : dec m_X8_feed 23 = .ok (.invokevirtual 80, 3) := by decide +kernel
theorem d_X8_feed_26 : dec m_X8_feed 26 = .ok (.aload_n 0, 1) := by decide +kernel
theorem d_X8_feed_27 : dec m_X8_feed 27 = .ok (.getfield 19, 3) := by decide +kernel
theorem d_X8_feed_30 : dec m_X8_feed 30 = .ok (.iload_n 2, 1) := by decide +kernel
theorem d_X8_feed_31 : dec m_X8_feed 31 = .ok (.invokevirtual 80, 3) := by decide +kernel
theorem d_X8_feed_34 : dec m_X8_feed 34 = .ok (.aload_n 0, 1) := by decide +kernel
theorem d_X8_feed_35 : dec m_X8_feed 35 = .ok (.getfield 19, 3) := by decide +kernel
theorem d_X8_feed_38 : dec m_X8_feed 38 = .ok (.iload_n 3, 1) := by decide +kernel
theorem d_X8_feed_39 : dec m_X8_feed 39 = .ok (.invokevirtual 80, 3) := by decide +kernel
theorem d_X8_feed_42 : dec m_X8_feed 42 = .ok (.aload_n 0, 1) := by decide +kernel
theorem d_X8_feed_43 : dec m_X8_feed 43 = .ok (.getfield 19, 3) := by decide +kernel
theorem d_X8_feed_46 : dec m_X8_feed 46 = .ok (.iload 4, 2) := by decide +kernel
theorem d_X8_feed_48 : dec m_X8_feed 48 = .ok (.invokevirtual 80, 3) := by decide +kernel
theorem d_X8_feed_51 : dec m_X8_feed 51 = .ok (.aload_n 0, 1) := by decide +kernel
theorem d_X8_feed_52 : dec m_X8_feed 52 = .ok (.getfield 19, 3) := by decide +kernel
theorem d_X8_feed_55 : dec m_X8_feed 55 = .ok (.iload 5, 2) := by decide +kernel
theorem d_X8_feed_57 : dec m_X8_feed 57 = .ok (.invokevirtual 80, 3) := by decide +kernel
theorem d_X8_feed_60 : dec m_X8_feed 60 = .ok (.aload_n 0, 1) := by decide +kernel
theorem d_X8_feed_61 : dec m_X8_feed 61 = .ok (.getfield 19, 3) := by decide +kernel
theorem d_X8_feed_64 : dec m_X8_feed 64 = .ok (.getfield 76, 3) := by decide +kernel
theorem d_X8_feed_67 : dec m_X8_feed 67 = .ok (.ireturn, 1) := by decide +kernel
theorem d_X8_end_0 : dec m_X8_end 0 = .ok (.iload_n 1, 1) := by decide +kernel
theorem d_X8_end_1 : dec m_X8_end 1 = .ok (.ifCond .lt 14, 3) := by decide +kernel
theorem d_X8_end_4 : dec m_X8_end 4 = .ok (.iload_n 1, 1) := by decide +kernel
theorem d_X8_end_5 : dec m_X8_end 5 = .ok (.aload_n 0, 1) := by decide +kernel
theorem d_X8_end_6 : dec m_X8_end 6 = .ok (.getfield 19, 3) := by decide +kernel
theorem d_X8_end_9 : dec m_X8_end 9 = .ok (.getfield 76, 3) := by decide +kernel
theorem d_X8_end_12 : dec m_X8_end 12 = .ok (.if_icmp .le 5, 3) := by decide +kernel
theorem d_X8_end_15 : dec m_X8_end 15 = .ok (.iconst (-1), 1) := by decide +kernel
theorem d_X8_end_16 : dec m_X8_end 16 = .ok (.ireturn, 1) := by decide +kernel
theorem d_X8_end_17 : dec m_X8_end 17 = .ok (.aload_n 0, 1) := by decide +kernel
theorem d_X8_end_18 : dec m_X8_end 18 = .ok (.getfield 19, 3) := by decide +kernel
theorem d_X8_end_21 : dec m_X8_end 21 = .ok (.iload_n 1, 1) := by decide +kernel
theorem d_X8_end_22 : dec m_X8_end 22 = .ok (.putfield 76, 3) := by decide +kernel
theorem d_X8_end_25 : dec m_X8_end 25 = .ok (.iload_n 1, 1) := by decide +kernel
theorem d_X8_end_26 : dec m_X8_end 26 = .ok (.ireturn, 1) := by decide +kernel
theorem d_X8_tell_0 : dec m_X8_tell 0 = .ok (.aload_n 0, 1) := by decide +kernel
theorem d_X8_tell_1 : dec m_X8_tell 1 = .ok (.getfield 19, 3) := by decide +kernel
theorem d_X8_tell_4 : dec m_X8_tell 4 = .ok (.invokevirtual 84, 3) := by decide +kernel
theorem d_X8_tell_7 : dec m_X8_tell 7 = .ok (.istore_n 1, 1) := by decide +kernel
theorem d_X8_tell_8 : dec m_X8_tell 8 = .ok (.aload_n 0, 1) := by decide +kernel
theorem d_X8_tell_9 : dec m_X8_tell 9 = .ok (.getfield 19, 3) := by decide +kernel
theorem d_X8_tell_12 : dec m_X8_tell 12 = .ok (.iconst 0, 1) := by decide +kernel
theorem d_X8_tell_13 : dec m_X8_tell 13 = .ok (.putfield 76, 3) := by decide +kernel
theorem d_X8_tell_16 : dec m_X8_tell 16 = .ok (.iload_n 1, 1) := by decide +kernel
theorem d_X8_tell_17 : dec m_X8_tell 17 = .ok (.ifCond .eq 8, 3) := by decide +kernel
theorem d_X8_tell_20 : dec m_X8_tell 20 = .ok (.bipush (-2), 2) := by decide +kernel
theorem d_X8_tell_22 : dec m_X8_tell 22 = .ok (.iload_n 1, 1) := by decide +kernel
theorem d_X8_tell_23 : dec m_X8_tell 23 = .ok (.isub, 1) := by decide +kernel
theorem d_X8_tell_24 : dec m_X8_tell 24 = .ok (.ireturn, 1) := by decide +kernel
theorem d_X8_tell_25 : dec m_X8_tell 25 = .ok (.aload_n 0, 1) := by decide +kernel
theorem d_X8_tell_26 : dec m_X8_tell 26 = .ok (.getfield 12, 3) := by decide +kernel
theorem d_X8_tell_29 : dec m_X8_tell 29 = .ok (.aload_n 0, 1) := by decide +kernel
theorem d_X8_tell_30 : dec m_X8_tell 30 = .ok (.getfield 19, 3) := by decide +kernel
theorem d_X8_tell_33 : dec m_X8_tell 33 = .ok (.getfield 88, 3) := by decide +kernel
theorem d_X8_tell_36 : dec m_X8_tell 36 = .ok (.invokevirtual 91, 3) := by decide +kernel
theorem d_X8_tell_39 : dec m_X8_tell 39 = .ok (.aload_n 0, 1) := by decide +kernel
theorem d_X8_tell_40 : dec m_X8_tell 40 = .ok (.getfield 26, 3) := by decide +kernel
theorem d_X8_tell_43 : dec m_X8_tell 43 = .ok (.invokevirtual 95, 3) := by decide +kernel
theorem d_X8_tell_46 : dec m_X8_tell 46 = .ok (.aload_n 0, 1) := by decide +kernel
theorem d_X8_tell_47 : dec m_X8_tell 47 = .ok (.getfield 12, 3) := by decide +kernel
theorem d_X8_tell_50 : dec m_X8_tell 50 = .ok (.getfield 98, 3) := by decide +kernel
theorem d_X8_tell_53 : dec m_X8_tell 53 = .ok (.ireturn, 1) := by decide +kernel
theorem d_X8_come_0 : dec m_X8_come 0 = .ok (.iload_n 2, 1) := by decide +kernel
theorem d_X8_come_1 : dec m_X8_come 1 = .ok (.invokestatic 99, 3) := by decide +kernel
theorem d_X8_come_4 : dec m_X8_come 4 = .ok (.ifCond .ne 5, 3) := by decide +kernel
theorem d_X8_come_7 : dec m_X8_come 7 = .ok (.iconst (-1), 1) := by decide +kernel
theorem d_X8_come_8 : dec m_X8_come 8 = .ok (.ireturn, 1) := by decide +kernel
theorem d_X8_come_9 : dec m_X8_come 9 = .ok (.aload_n 0, 1) := by decide +kernel
theorem d_X8_come_10 : dec m_X8_come 10 = .ok (.getfield 12, 3) := by decide +kernel
theorem d_X8_come_13 : dec m_X8_come 13 = .ok (.getfield 98, 3) := by decide +kernel
theorem d_X8_come_16 : dec m_X8_come 16 = .ok (.bipush 20, 2) := by decide +kernel
theorem d_X8_come_18 : dec m_X8_come 18 = .ok (.if_icmp .lt 6, 3) := by decide +kernel
theorem d_X8_come_21 : dec m_X8_come 21 = .ok (.bipush (-2), 2) := by decide +kernel
theorem d_X8_come_23 : dec m_X8_come 23 = .ok (.ireturn, 1) := by decide +kernel
theorem d_X8_come_24 : dec m_X8_come 24 = .ok (.aload_n 0, 1) := by decide +kernel
theorem d_X8_come_25 : dec m_X8_come 25 = .ok (.getfield 26, 3) := by decide +kernel
theorem d_X8_come_28 : dec m_X8_come 28 = .ok (.aload_n 0, 1) := by decide +kernel
theorem d_X8_come_29 : dec m_X8_come 29 = .ok (.getfield 12, 3) := by decide +kernel
theorem d_X8_come_32 : dec m_X8_come 32 = .ok (.invokevirtual 103, 3) := by decide +kernel
theorem d_X8_come_35 : dec m_X8_come 35 = .ok (.aload_n 0, 1) := by decide +kernel
theorem d_X8_come_36 : dec m_X8_come 36 = .ok (.getfield 12, 3) := by decide +kernel
theorem d_X8_come_39 : dec m_X8_come 39 = .ok (.iload_n 1, 1) := by decide +kernel
theorem d_X8_come_40 : dec m_X8_come 40 = .ok (.iload_n 2, 1) := by decide +kernel
theorem d_X8_come_41 : dec m_X8_come 41 = .ok (.invokevirtual 106, 3) := by decide +kernel
theorem d_X8_come_44 : dec m_X8_come 44 = .ok (.ireturn, 1) := by decide +kernel
theorem d_X8_add_0 : dec m_X8_add 0 = .ok (.aload_n 0, 1) := by decide +kernel
theorem d_X8_add_1 : dec m_X8_add 1 = .ok (.getfield 12, 3) := by decide +kernel
theorem d_X8_add_4 : dec m_X8_add 4 = .ok (.iload_n 1, 1) := by decide +kernel
theorem d_X8_add_5 : dec m_X8_add 5 = .ok (.invokevirtual 110, 3) := by decide +kernel
theorem d_X8_add_8 : dec m_X8_add 8 = .ok (.ifCond .eq 10, 3) := by decide +kernel
theorem d_X8_add_11 : dec m_X8_add 11 = .ok (.iload_n 2, 1) := by decide +kernel
theorem d_X8_add_12 : dec m_X8_add 12 = .ok (.invokestatic 113, 3) := by decide +kernel
theorem d_X8_add_15 : dec m_X8_add 15 = .ok (.ifCond .ne 5, 3) := by decide +kernel
theorem d_X8_add_18 : dec m_X8_add 18 = .ok (.iconst (-1), 1) := by decide +kernel
theorem d_X8_add_19 : dec m_X8_add 19 = .ok (.ireturn, 1) := by decide +kernel
theorem d_X8_add_20 : dec m_X8_add 20 = .ok (.aload_n 0, 1) := by decide +kernel
theorem d_X8_add_21 : dec m_X8_add 21 = .ok (.getfield 12, 3) := by decide +kernel
theorem d_X8_add_24 : dec m_X8_add 24 = .ok (.iload_n 1, 1) := by decide +kernel
theorem d_X8_add_25 : dec m_X8_add 25 = .ok (.invokevirtual 116, 3) := by decide +kernel
theorem d_X8_add_28 : dec m_X8_add 28 = .ok (.istore_n 3, 1) := by decide +kernel
theorem d_X8_add_29 : dec m_X8_add 29 = .ok (.iload_n 3, 1) := by decide +kernel
theorem d_X8_add_30 : dec m_X8_add 30 = .ok (.iconst 4, 1) := by decide +kernel
theorem d_X8_add_31 : dec m_X8_add 31 = .ok (.if_icmp .lt 6, 3) := by decide +kernel
theorem d_X8_add_34 : dec m_X8_add 34 = .ok (.bipush (-2), 2) := by decide +kernel
theorem d_X8_add_36 : dec m_X8_add 36 = .ok (.ireturn, 1) := by decide +kernel
theorem d_X8_add_37 : dec m_X8_add 37 = .ok (.aload_n 0, 1) := by decide +kernel
theorem d_X8_add_38 : dec m_X8_add 38 = .ok (.getfield 12, 3) := by decide +kernel
theorem d_X8_add_41 : dec m_X8_add 41 = .ok (.iload_n 1, 1) := by decide +kernel
theorem d_X8_add_42 : dec m_X8_add 42 = .ok (.iload_n 3, 1) := by decide +kernel
theorem d_X8_add_43 : dec m_X8_add 43 = .ok (.iload_n 2, 1) := by decide +kernel
theorem d_X8_add_44 : dec m_X8_add 44 = .ok (.invokevirtual 120, 3) := by decide +kernel
theorem d_X8_add_47 : dec m_X8_add 47 = .ok (.ifCond .ne 6, 3) := by decide +kernel
theorem d_X8_add_50 : dec m_X8_add 50 = .ok (.bipush (-3), 2) := by decide +kernel
theorem d_X8_add_52 : dec m_X8_add 52 = .ok (.ireturn, 1) := by decide +kernel
theorem d_X8_add_53 : dec m_X8_add 53 = .ok (.aload_n 0, 1) := by decide +kernel
theorem d_X8_add_54 : dec m_X8_add 54 = .ok (.getfield 26, 3) := by decide +kernel
theorem d_X8_add_57 : dec m_X8_add 57 = .ok (.aload_n 0, 1) := by decide +kernel
theorem d_X8_add_58 : dec m_X8_add 58 = .ok (.getfield 12, 3) := by decide +kernel
theorem d_X8_add_61 : dec m_X8_add 61 = .ok (.invokevirtual 103, 3) := by decide +kernel
theorem d_X8_add_64 : dec m_X8_add 64 = .ok (.aload_n 0, 1) := by decide +kernel
theorem d_X8_add_65 : dec m_X8_add 65 = .ok (.getfield 12, 3) := by decide +kernel
theorem d_X8_add_68 : dec m_X8_add 68 = .ok (.iload_n 1, 1) := by decide +kernel
theorem d_X8_add_69 : dec m_X8_add 69 = .ok (.iload_n 2, 1) := by decide +kernel
theorem d_X8_add_70 : dec m_X8_add 70 = .ok (.invokevirtual 124, 3) := by decide +kernel
theorem d_X8_add_73 : dec m_X8_add 73 = .ok (.ireturn, 1) := by decide +kernel
theorem d_X8_say_0 : dec m_X8_say 0 = .ok (.aload_n 0, 1) := by decide +kernel
theorem d_X8_say_1 : dec m_X8_say 1 = .ok (.getfield 12, 3) := by decide +kernel
theorem d_X8_say_4 : dec m_X8_say 4 = .ok (.iload_n 1, 1) := by decide +kernel
theorem d_X8_say_5 : dec m_X8_say 5 = .ok (.iload_n 2, 1) := by decide +kernel
theorem d_X8_say_6 : dec m_X8_say 6 = .ok (.invokevirtual 127, 3) := by decide +kernel
theorem d_X8_say_9 : dec m_X8_say 9 = .ok (.ifCond .eq 10, 3) := by decide +kernel
theorem d_X8_say_12 : dec m_X8_say 12 = .ok (.iload_n 3, 1) := by decide +kernel
theorem d_X8_say_13 : dec m_X8_say 13 = .ok (.invokestatic 113, 3) := by decide +kernel
theorem d_X8_say_16 : dec m_X8_say 16 = .ok (.ifCond .ne 5, 3) := by decide +kernel
theorem d_X8_say_19 : dec m_X8_say 19 = .ok (.iconst (-1), 1) := by decide +kernel
theorem d_X8_say_20 : dec m_X8_say 20 = .ok (.ireturn, 1) := by decide +kernel
theorem d_X8_say_21 : dec m_X8_say 21 = .ok (.aload_n 0, 1) := by decide +kernel
theorem d_X8_say_22 : dec m_X8_say 22 = .ok (.getfield 12, 3) := by decide +kernel
theorem d_X8_say_25 : dec m_X8_say 25 = .ok (.iload_n 1, 1) := by decide +kernel
theorem d_X8_say_26 : dec m_X8_say 26 = .ok (.iload_n 2, 1) := by decide +kernel
theorem d_X8_say_27 : dec m_X8_say 27 = .ok (.invokevirtual 131, 3) := by decide +kernel
theorem d_X8_say_30 : dec m_X8_say 30 = .ok (.istore 4, 2) := by decide +kernel
theorem d_X8_say_32 : dec m_X8_say 32 = .ok (.iload 4, 2) := by decide +kernel
theorem d_X8_say_34 : dec m_X8_say 34 = .ok (.iload_n 3, 1) := by decide +kernel
theorem d_X8_say_35 : dec m_X8_say 35 = .ok (.if_icmp .ne 6, 3) := by decide +kernel
theorem d_X8_say_38 : dec m_X8_say 38 = .ok (.bipush (-2), 2) := by decide +kernel
theorem d_X8_say_40 : dec m_X8_say 40 = .ok (.ireturn, 1) := by decide +kernel
theorem d_X8_say_41 : dec m_X8_say 41 = .ok (.aload_n 0, 1) := by decide +kernel
theorem d_X8_say_42 : dec m_X8_say 42 = .ok (.getfield 12, 3) := by decide +kernel
theorem d_X8_say_45 : dec m_X8_say 45 = .ok (.iload_n 1, 1) := by decide +kernel
theorem d_X8_say_46 : dec m_X8_say 46 = .ok (.iload_n 2, 1) := by decide +kernel
theorem d_X8_say_47 : dec m_X8_say 47 = .ok (.iload_n 3, 1) := by decide +kernel
theorem d_X8_say_48 : dec m_X8_say 48 = .ok (.invokevirtual 120, 3) := by decide +kernel
theorem d_X8_say_51 : dec m_X8_say 51 = .ok (.ifCond .ne 6, 3) := by decide +kernel
theorem d_X8_say_54 : dec m_X8_say 54 = .ok (.bipush (-3), 2) := by decide +kernel
theorem d_X8_say_56 : dec m_X8_say 56 = .ok (.ireturn, 1) := by decide +kernel
theorem d_X8_say_57 : dec m_X8_say 57 = .ok (.aload_n 0, 1) := by decide +kernel
theorem d_X8_say_58 : dec m_X8_say 58 = .ok (.getfield 26, 3) := by decide +kernel
theorem d_X8_say_61 : dec m_X8_say 61 = .ok (.aload_n 0, 1) := by decide +kernel
theorem d_X8_say_62 : dec m_X8_say 62 = .ok (.getfield 12, 3) := by decide +kernel
theorem d_X8_say_65 : dec m_X8_say 65 = .ok (.invokevirtual 103, 3) := by decide +kernel
theorem d_X8_say_68 : dec m_X8_say 68 = .ok (.aload_n 0, 1) := by decide +kernel
theorem d_X8_say_69 : dec m_X8_say 69 = .ok (.getfield 12, 3) := by decide +kernel
theorem d_X8_say_72 : dec m_X8_say 72 = .ok (.iload_n 1, 1) := by decide +kernel
theorem d_X8_say_73 : dec m_X8_say 73 = .ok (.iload_n 2, 1) := by decide +kernel
theorem d_X8_say_74 : dec m_X8_say 74 = .ok (.iload_n 3, 1) := by decide +kernel
theorem d_X8_say_75 : dec m_X8_say 75 = .ok (.invokevirtual 134, 3) := by decide +kernel
theorem d_X8_say_78 : dec m_X8_say 78 = .ok (.iload 4, 2) := by decide +kernel
theorem d_X8_say_80 : dec m_X8_say 80 = .ok (.ireturn, 1) := by decide +kernel
theorem d_X8_leave_0 : dec m_X8_leave 0 = .ok (.aload_n 0, 1) := by decide +kernel
theorem d_X8_leave_1 : dec m_X8_leave 1 = .ok (.getfield 12, 3) := by decide +kernel
theorem d_X8_leave_4 : dec m_X8_leave 4 = .ok (.iload_n 1, 1) := by decide +kernel
theorem d_X8_leave_5 : dec m_X8_leave 5 = .ok (.invokevirtual 116, 3) := by decide +kernel
theorem d_X8_leave_8 : dec m_X8_leave 8 = .ok (.istore_n 2, 1) := by decide +kernel
theorem d_X8_leave_9 : dec m_X8_leave 9 = .ok (.iload_n 2, 1) := by decide +kernel
theorem d_X8_leave_10 : dec m_X8_leave 10 = .ok (.ifCond .ne 5, 3) := by decide +kernel
theorem d_X8_leave_13 : dec m_X8_leave 13 = .ok (.iconst (-1), 1) := by decide +kernel
theorem d_X8_leave_14 : dec m_X8_leave 14 = .ok (.ireturn, 1) := by decide +kernel
theorem d_X8_leave_15 : dec m_X8_leave 15 = .ok (.aload_n 0, 1) := by decide +kernel
theorem d_X8_leave_16 : dec m_X8_leave 16 = .ok (.getfield 26, 3) := by decide +kernel
theorem d_X8_leave_19 : dec m_X8_leave 19 = .ok (.aload_n 0, 1) := by decide +kernel
theorem d_X8_leave_20 : dec m_X8_leave 20 = .ok (.getfield 12, 3) := by decide +kernel
theorem d_X8_leave_23 : dec m_X8_leave 23 = .ok (.invokevirtual 103, 3) := by decide +kernel
theorem d_X8_leave_26 : dec m_X8_leave 26 = .ok (.aload_n 0, 1) := by decide +kernel
theorem d_X8_leave_27 : dec m_X8_leave 27 = .ok (.getfield 12, 3) := by decide +kernel
theorem d_X8_leave_30 : dec m_X8_leave 30 = .ok (.iload_n 1, 1) := by decide +kernel
theorem d_X8_leave_31 : dec m_X8_leave 31 = .ok (.iload_n 2, 1) := by decide +kernel
theorem d_X8_leave_32 : dec m_X8_leave 32 = .ok (.invokevirtual 138, 3) := by decide +kernel
theorem d_X8_leave_35 : dec m_X8_leave 35 = .ok (.iload_n 2, 1) := by decide +kernel
theorem d_X8_leave_36 : dec m_X8_leave 36 = .ok (.ireturn, 1) := by decide +kernel
theorem d_X8_fee_0 : dec m_X8_fee 0 = .ok (.iload_n 1, 1) := by decide +kernel
theorem d_X8_fee_1 : dec m_X8_fee 1 = .ok (.invokestatic 142, 3) := by decide +kernel
theorem d_X8_fee_4 : dec m_X8_fee 4 = .ok (.ifCond .ne 5, 3) := by decide +kernel
theorem d_X8_fee_7 : dec m_X8_fee 7 = .ok (.iconst (-1), 1) := by decide +kernel
theorem d_X8_fee_8 : dec m_X8_fee 8 = .ok (.ireturn, 1) := by decide +kernel
theorem d_X8_fee_9 : dec m_X8_fee 9 = .ok (.aload_n 0, 1) := by decide +kernel
theorem d_X8_fee_10 : dec m_X8_fee 10 = .ok (.getfield 12, 3) := by decide +kernel
theorem d_X8_fee_13 : dec m_X8_fee 13 = .ok (.getfield 145, 3) := by decide +kernel
theorem d_X8_fee_16 : dec m_X8_fee 16 = .ok (.istore_n 2, 1) := by decide +kernel
theorem d_X8_fee_17 : dec m_X8_fee 17 = .ok (.iload_n 2, 1) := by decide +kernel
theorem d_X8_fee_18 : dec m_X8_fee 18 = .ok (.iload_n 1, 1) := by decide +kernel
theorem d_X8_fee_19 : dec m_X8_fee 19 = .ok (.if_icmp .ne 6, 3) := by decide +kernel
theorem d_X8_fee_22 : dec m_X8_fee 22 = .ok (.bipush (-2), 2) := by decide +kernel
theorem d_X8_fee_24 : dec m_X8_fee 24 = .ok (.ireturn, 1) := by decide +kernel
theorem d_X8_fee_25 : dec m_X8_fee 25 = .ok (.aload_n 0, 1) := by decide +kernel
theorem d_X8_fee_26 : dec m_X8_fee 26 = .ok (.getfield 26, 3) := by decide +kernel
theorem d_X8_fee_29 : dec m_X8_fee 29 = .ok (.aload_n 0, 1) := by decide +kernel
theorem d_X8_fee_30 : dec m_X8_fee 30 = .ok (.getfield 12, 3) := by decide +kernel
theorem d_X8_fee_33 : dec m_X8_fee 33 = .ok (.invokevirtual 103, 3) := by decide +kernel
theorem d_X8_fee_36 : dec m_X8_fee 36 = .ok (.aload_n 0, 1) := by decide +kernel
theorem d_X8_fee_37 : dec m_X8_fee 37 = .ok (.getfield 12, 3) := by decide +kernel
theorem d_X8_fee_40 : dec m_X8_fee 40 = .ok (.iload_n 1, 1) := by decide +kernel
theorem d_X8_fee_41 : dec m_X8_fee 41 = .ok (.putfield 145, 3) := by decide +kernel
theorem d_X8_fee_44 : dec m_X8_fee 44 = .ok (.iload_n 2, 1) := by decide +kernel
theorem d_X8_fee_45 : dec m_X8_fee 45 = .ok (.ireturn, 1) := by decide +kernel
theorem d_X8_law_0 : dec m_X8_law 0 = .ok (.iload_n 1, 1) := by decide +kernel
theorem d_X8_law_1 : dec m_X8_law 1 = .ok (.invokestatic 148, 3) := by decide +kernel
theorem d_X8_law_4 : dec m_X8_law 4 = .ok (.ifCond .ne 5, 3) := by decide +kernel
theorem d_X8_law_7 : dec m_X8_law 7 = .ok (.iconst (-1), 1) := by decide +kernel
theorem d_X8_law_8 : dec m_X8_law 8 = .ok (.ireturn, 1) := by decide +kernel
theorem d_X8_law_9 : dec m_X8_law 9 = .ok (.aload_n 0, 1) := by decide +kernel
theorem d_X8_law_10 : dec m_X8_law 10 = .ok (.getfield 12, 3) := by decide +kernel
theorem d_X8_law_13 : dec m_X8_law 13 = .ok (.getfield 151, 3) := by decide +kernel
theorem d_X8_law_16 : dec m_X8_law 16 = .ok (.istore_n 2, 1) := by decide +kernel
theorem d_X8_law_17 : dec m_X8_law 17 = .ok (.iload_n 2, 1) := by decide +kernel
theorem d_X8_law_18 : dec m_X8_law 18 = .ok (.iload_n 1, 1) := by decide +kernel
theorem d_X8_law_19 : dec m_X8_law 19 = .ok (.if_icmp .ne 6, 3) := by decide +kernel
theorem d_X8_law_22 : dec m_X8_law 22 = .ok (.bipush (-2), 2) := by decide +kernel
theorem d_X8_law_24 : dec m_X8_law 24 = .ok (.ireturn, 1) := by decide +kernel
theorem d_X8_law_25 : dec m_X8_law 25 = .ok (.aload_n 0, 1) := by decide +kernel
theorem d_X8_law_26 : dec m_X8_law 26 = .ok (.getfield 26, 3) := by decide +kernel
theorem d_X8_law_29 : dec m_X8_law 29 = .ok (.aload_n 0, 1) := by decide +kernel
theorem d_X8_law_30 : dec m_X8_law 30 = .ok (.getfield 12, 3) := by decide +kernel
theorem d_X8_law_33 : dec m_X8_law 33 = .ok (.invokevirtual 103, 3) := by decide +kernel
theorem d_X8_law_36 : dec m_X8_law 36 = .ok (.aload_n 0, 1) := by decide +kernel
theorem d_X8_law_37 : dec m_X8_law 37 = .ok (.getfield 12, 3) := by decide +kernel
theorem d_X8_law_40 : dec m_X8_law 40 = .ok (.iload_n 1, 1) := by decide +kernel
theorem d_X8_law_41 : dec m_X8_law 41 = .ok (.putfield 151, 3) := by decide +kernel
theorem d_X8_law_44 : dec m_X8_law 44 = .ok (.iload_n 2, 1) := by decide +kernel
theorem d_X8_law_45 : dec m_X8_law 45 = .ok (.ireturn, 1) := by decide +kernel
theorem d_X8_close_0 : dec m_X8_close 0 = .ok (.iload_n 1, 1) := by decide +kernel
theorem d_X8_close_1 : dec m_X8_close 1 = .ok (.invokestatic 99, 3) := by decide +kernel
theorem d_X8_close_4 : dec m_X8_close 4 = .ok (.ifCond .ne 5, 3) := by decide +kernel
theorem d_X8_close_7 : dec m_X8_close 7 = .ok (.iconst (-1), 1) := by decide +kernel
theorem d_X8_close_8 : dec m_X8_close 8 = .ok (.ireturn, 1) := by decide +kernel
theorem d_X8_close_9 : dec m_X8_close 9 = .ok (.aload_n 0, 1) := by decide +kernel
theorem d_X8_close_10 : dec m_X8_close 10 = .ok (.iload_n 1, 1) := by decide +kernel
theorem d_X8_close_11 : dec m_X8_close 11 = .ok (.invokevirtual 154, 3) := by decide +kernel
theorem d_X8_close_14 : dec m_X8_close 14 = .ok (.aload_n 0, 1) := by decide +kernel
theorem d_X8_close_15 : dec m_X8_close 15 = .ok (.getfield 47, 3) := by decide +kernel
theorem d_X8_close_18 : dec m_X8_close 18 = .ok (.getfield 157, 3) := by decide +kernel
theorem d_X8_close_21 : dec m_X8_close 21 = .ok (.ifCond .ne 6, 3) := by decide +kernel
theorem d_X8_close_24 : dec m_X8_close 24 = .ok (.bipush (-2), 2) := by decide +kernel
theorem d_X8_close_26 : dec m_X8_close 26 = .ok (.ireturn, 1) := by decide +kernel
theorem d_X8_close_27 : dec m_X8_close 27 = .ok (.aload_n 0, 1) := by decide +kernel
theorem d_X8_close_28 : dec m_X8_close 28 = .ok (.getfield 26, 3) := by decide +kernel
theorem d_X8_close_31 : dec m_X8_close 31 = .ok (.aload_n 0, 1) := by decide +kernel
theorem d_X8_close_32 : dec m_X8_close 32 = .ok (.getfield 12, 3) := by decide +kernel
theorem d_X8_close_35 : dec m_X8_close 35 = .ok (.invokevirtual 103, 3) := by decide +kernel
theorem d_X8_close_38 : dec m_X8_close 38 = .ok (.iconst 0, 1) := by decide +kernel
theorem d_X8_close_39 : dec m_X8_close 39 = .ok (.istore_n 2, 1) := by decide +kernel
theorem d_X8_close_40 : dec m_X8_close 40 = .ok (.iload_n 2, 1) := by decide +kernel
theorem d_X8_close_41 : dec m_X8_close 41 = .ok (.aload_n 0, 1) := by decide +kernel
theorem d_X8_close_42 : dec m_X8_close 42 = .ok (.getfield 12, 3) := by decide +kernel
theorem d_X8_close_45 : dec m_X8_close 45 = .ok (.getfield 98, 3) := by decide +kernel
theorem d_X8_close_48 : dec m_X8_close 48 = .ok (.if_icmp .ge 44, 3) := by decide +kernel
theorem d_X8_close_51 : dec m_X8_close 51 = .ok (.aload_n 0, 1) := by decide +kernel
theorem d_X8_close_52 : dec m_X8_close 52 = .ok (.getfield 12, 3) := by decide +kernel
theorem d_X8_close_55 : dec m_X8_close 55 = .ok (.iload_n 2, 1) := by decide +kernel
theorem d_X8_close_56 : dec m_X8_close 56 = .ok (.invokevirtual 160, 3) := by decide +kernel
theorem d_X8_close_59 : dec m_X8_close 59 = .ok (.istore_n 3, 1) := by decide +kernel
theorem d_X8_close_60 : dec m_X8_close 60 = .ok (.aload_n 0, 1) := by decide +kernel
theorem d_X8_close_61 : dec m_X8_close 61 = .ok (.getfield 12, 3) := by decide +kernel
theorem d_X8_close_64 : dec m_X8_close 64 = .ok (.iload_n 2, 1) := by decide +kernel
theorem d_X8_close_65 : dec m_X8_close 65 = .ok (.aload_n 0, 1) := by decide +kernel
theorem d_X8_close_66 : dec m_X8_close 66 = .ok (.getfield 47, 3) := by decide +kernel
theorem d_X8_close_69 : dec m_X8_close 69 = .ok (.iload_n 3, 1) := by decide +kernel
theorem d_X8_close_70 : dec m_X8_close 70 = .ok (.iload_n 2, 1) := by decide +kernel
theorem d_X8_close_71 : dec m_X8_close 71 = .ok (.invokevirtual 163, 3) := by decide +kernel
theorem d_X8_close_74 : dec m_X8_close 74 = .ok (.aload_n 0, 1) := by decide +kernel
theorem d_X8_close_75 : dec m_X8_close 75 = .ok (.getfield 47, 3) := by decide +kernel
theorem d_X8_close_78 : dec m_X8_close 78 = .ok (.iload_n 3, 1) := by decide +kernel
theorem d_X8_close_79 : dec m_X8_close 79 = .ok (.iload_n 2, 1) := by decide +kernel
theorem d_X8_close_80 : dec m_X8_close 80 = .ok (.invokevirtual 166, 3) := by decide +kernel
theorem d_X8_close_83 : dec m_X8_close 83 = .ok (.invokevirtual 169, 3) := by decide +kernel
theorem d_X8_close_86 : dec m_X8_close 86 = .ok (.iinc 2 1, 3) := by decide +kernel
theorem d_X8_close_89 : dec m_X8_close 89 = .ok (.goto (-49), 3) := by decide +kernel
theorem d_X8_close_92 : dec m_X8_close 92 = .ok (.aload_n 0, 1) := by decide +kernel
theorem d_X8_close_93 : dec m_X8_close 93 = .ok (.getfield 12, 3) := by decide +kernel
theorem d_X8_close_96 : dec m_X8_close 96 = .ok (.aload_n 0, 1) := by decide +kernel
theorem d_X8_close_97 : dec m_X8_close 97 = .ok (.getfield 47, 3) := by decide +kernel
theorem d_X8_close_100 : dec m_X8_close 100 = .ok (.getfield 157, 3) := by decide +kernel
theorem d_X8_close_103 : dec m_X8_close 103 = .ok (.aload_n 0, 1) := by decide +kernel
theorem d_X8_close_104 : dec m_X8_close 104 = .ok (.getfield 47, 3) := by decide +kernel
theorem d_X8_close_107 : dec m_X8_close 107 = .ok (.invokevirtual 172, 3) := by decide +kernel
theorem d_X8_close_110 : dec m_X8_close 110 = .ok (.invokevirtual 175, 3) := by decide +kernel
theorem d_X8_close_113 : dec m_X8_close 113 = .ok (.aload_n 0, 1) := by decide +kernel
theorem d_X8_close_114 : dec m_X8_close 114 = .ok (.getfield 47, 3) := by decide +kernel
theorem d_X8_close_117 : dec m_X8_close 117 = .ok (.getfield 157, 3) := by decide +kernel
theorem d_X8_close_120 : dec m_X8_close 120 = .ok (.ireturn, 1) := by decide +kernel
theorem d_X8_undo_0 : dec m_X8_undo 0 = .ok (.aload_n 0, 1) := by decide +kernel
theorem d_X8_undo_1 : dec m_X8_undo 1 = .ok (.getfield 26, 3) := by decide +kernel
theorem d_X8_undo_4 : dec m_X8_undo 4 = .ok (.aload_n 0, 1) := by decide +kernel
theorem d_X8_undo_5 : dec m_X8_undo 5 = .ok (.getfield 12, 3) := by decide +kernel
theorem d_X8_undo_8 : dec m_X8_undo 8 = .ok (.invokevirtual 178, 3) := by decide +kernel
theorem d_X8_undo_11 : dec m_X8_undo 11 = .ok (.ireturn, 1) := by decide +kernel
theorem d_X8_keep_0 : dec m_X8_keep 0 = .ok (.iload_n 1, 1) := by decide +kernel
theorem d_X8_keep_1 : dec m_X8_keep 1 = .ok (.invokestatic 182, 3) := by decide +kernel
theorem d_X8_keep_4 : dec m_X8_keep 4 = .ok (.ifCond .ne 5, 3) := by decide +kernel
theorem d_X8_keep_7 : dec m_X8_keep 7 = .ok (.iconst (-1), 1) := by decide +kernel
theorem d_X8_keep_8 : dec m_X8_keep 8 = .ok (.ireturn, 1) := by decide +kernel
theorem d_X8_keep_9 : dec m_X8_keep 9 = .ok (.aload_n 0, 1) := by decide +kernel
theorem d_X8_keep_10 : dec m_X8_keep 10 = .ok (.getfield 33, 3) := by decide +kernel
theorem d_X8_keep_13 : dec m_X8_keep 13 = .ok (.iload_n 1, 1) := by decide +kernel
theorem d_X8_keep_14 : dec m_X8_keep 14 = .ok (.aload_n 0, 1) := by decide +kernel
theorem d_X8_keep_15 : dec m_X8_keep 15 = .ok (.getfield 12, 3) := by decide +kernel
theorem d_X8_keep_18 : dec m_X8_keep 18 = .ok (.invokevirtual 185, 3) := by decide +kernel
theorem d_X8_keep_21 : dec m_X8_keep 21 = .ok (.aload_n 0, 1) := by decide +kernel
theorem d_X8_keep_22 : dec m_X8_keep 22 = .ok (.getfield 12, 3) := by decide +kernel
theorem d_X8_keep_25 : dec m_X8_keep 25 = .ok (.getfield 98, 3) := by decide +kernel
theorem d_X8_keep_28 : dec m_X8_keep 28 = .ok (.ireturn, 1) := by decide +kernel
theorem d_X8_back_0 : dec m_X8_back 0 = .ok (.iload_n 1, 1) := by decide +kernel
theorem d_X8_back_1 : dec m_X8_back 1 = .ok (.invokestatic 182, 3) := by decide +kernel
theorem d_X8_back_4 : dec m_X8_back 4 = .ok (.ifCond .ne 5, 3) := by decide +kernel
theorem d_X8_back_7 : dec m_X8_back 7 = .ok (.iconst (-1), 1) := by decide +kernel
theorem d_X8_back_8 : dec m_X8_back 8 = .ok (.ireturn, 1) := by decide +kernel
theorem d_X8_back_9 : dec m_X8_back 9 = .ok (.aload_n 0, 1) := by decide +kernel
theorem d_X8_back_10 : dec m_X8_back 10 = .ok (.getfield 33, 3) := by decide +kernel
theorem d_X8_back_13 : dec m_X8_back 13 = .ok (.iload_n 1, 1) := by decide +kernel
theorem d_X8_back_14 : dec m_X8_back 14 = .ok (.invokevirtual 189, 3) := by decide +kernel
theorem d_X8_back_17 : dec m_X8_back 17 = .ok (.ifCond .ne 6, 3) := by decide +kernel
theorem d_X8_back_20 : dec m_X8_back 20 = .ok (.bipush (-2), 2) := by decide +kernel
theorem d_X8_back_22 : dec m_X8_back 22 = .ok (.ireturn, 1) := by decide +kernel
theorem d_X8_back_23 : dec m_X8_back 23 = .ok (.aload_n 0, 1) := by decide +kernel
theorem d_X8_back_24 : dec m_X8_back 24 = .ok (.getfield 33, 3) := by decide +kernel
theorem d_X8_back_27 : dec m_X8_back 27 = .ok (.iload_n 1, 1) := by decide +kernel
theorem d_X8_back_28 : dec m_X8_back 28 = .ok (.aload_n 0, 1) := by decide +kernel
theorem d_X8_back_29 : dec m_X8_back 29 = .ok (.getfield 12, 3) := by decide +kernel
theorem d_X8_back_32 : dec m_X8_back 32 = .ok (.invokevirtual 192, 3) := by decide +kernel
theorem d_X8_back_35 : dec m_X8_back 35 = .ok (.aload_n 0, 1) := by decide +kernel
theorem d_X8_back_36 : dec m_X8_back 36 = .ok (.getfield 26, 3) := by decide +kernel
theorem d_X8_back_39 : dec m_X8_back 39 = .ok (.invokevirtual 95, 3) := by decide +kernel
theorem d_X8_back_42 : dec m_X8_back 42 = .ok (.aload_n 0, 1) := by decide +kernel
theorem d_X8_back_43 : dec m_X8_back 43 = .ok (.getfield 12, 3) := by decide +kernel
theorem d_X8_back_46 : dec m_X8_back 46 = .ok (.getfield 98, 3) := by decide +kernel
theorem d_X8_back_49 : dec m_X8_back 49 = .ok (.ireturn, 1) := by decide +kernel
theorem d_X8_trader_0 : dec m_X8_trader 0 = .ok (.aload_n 0, 1) := by decide +kernel
theorem d_X8_trader_1 : dec m_X8_trader 1 = .ok (.getfield 12, 3) := by decide +kernel
theorem d_X8_trader_4 : dec m_X8_trader 4 = .ok (.iload_n 1, 1) := by decide +kernel
theorem d_X8_trader_5 : dec m_X8_trader 5 = .ok (.invokevirtual 110, 3) := by decide +kernel
theorem d_X8_trader_8 : dec m_X8_trader 8 = .ok (.ifCond .ne 6, 3) := by decide +kernel
theorem d_X8_trader_11 : dec m_X8_trader 11 = .ok (.ldc 195, 2) := by decide +kernel
theorem d_X8_trader_13 : dec m_X8_trader 13 = .ok (.ireturn, 1) := by decide +kernel
theorem d_X8_trader_14 : dec m_X8_trader 14 = .ok (.iload_n 2, 1) := by decide +kernel
theorem d_X8_trader_15 : dec m_X8_trader 15 = .ok (.tableswitch 119 0 5 #[37, 54, 63, 72, 81, 110], 37) := by decide +kernel
theorem d_X8_trader_52 : dec m_X8_trader 52 = .ok (.aload_n 0, 1) := by decide +kernel
theorem d_X8_trader_53 : dec m_X8_trader 53 = .ok (.getfield 12, 3) := by decide +kernel
theorem d_X8_trader_56 : dec m_X8_trader 56 = .ok (.iload_n 1, 1) := by decide +kernel
theorem d_X8_trader_57 : dec m_X8_trader 57 = .ok (.invokevirtual 160, 3) := by decide +kernel
theorem d_X8_trader_60 : dec m_X8_trader 60 = .ok (.ifCond .eq 7, 3) := by decide +kernel
theorem d_X8_trader_63 : dec m_X8_trader 63 = .ok (.iconst 1, 1) := by decide +kernel
theorem d_X8_trader_64 : dec m_X8_trader 64 = .ok (.goto 4, 3) := by decide +kernel
theorem d_X8_trader_67 : dec m_X8_trader 67 = .ok (.iconst 0, 1) := by decide +kernel
theorem d_X8_trader_68 : dec m_X8_trader 68 = .ok (.ireturn, 1) := by decide +kernel
theorem d_X8_trader_69 : dec m_X8_trader 69 = .ok (.aload_n 0, 1) := by decide +kernel
theorem d_X8_trader_70 : dec m_X8_trader 70 = .ok (.getfield 12, 3) := by decide +kernel
theorem d_X8_trader_73 : dec m_X8_trader 73 = .ok (.iload_n 1, 1) := by decide +kernel
theorem d_X8_trader_74 : dec m_X8_trader 74 = .ok (.invokevirtual 196, 3) := by decide +kernel
theorem d_X8_trader_77 : dec m_X8_trader 77 = .ok (.ireturn, 1) := by decide +kernel
theorem d_X8_trader_78 : dec m_X8_trader 78 = .ok (.aload_n 0, 1) := by decide +kernel
theorem d_X8_trader_79 : dec m_X8_trader 79 = .ok (.getfield 12, 3) := by decide +kernel
theorem d_X8_trader_82 : dec m_X8_trader 82 = .ok (.iload_n 1, 1) := by decide +kernel
theorem d_X8_trader_83 : dec m_X8_trader 83 = .ok (.invokevirtual 116, 3) := by decide +kernel
theorem d_X8_trader_86 : dec m_X8_trader 86 = .ok (.ireturn, 1) := by decide +kernel
theorem d_X8_trader_87 : dec m_X8_trader 87 = .ok (.aload_n 0, 1) := by decide +kernel
theorem d_X8_trader_88 : dec m_X8_trader 88 = .ok (.getfield 12, 3) := by decide +kernel
theorem d_X8_trader_91 : dec m_X8_trader 91 = .ok (.iload_n 1, 1) := by decide +kernel
theorem d_X8_trader_92 : dec m_X8_trader 92 = .ok (.invokevirtual 199, 3) := by decide +kernel
theorem d_X8_trader_95 : dec m_X8_trader 95 = .ok (.ireturn, 1) := by decide +kernel
theorem d_X8_trader_96 : dec m_X8_trader 96 = .ok (.aload_n 0, 1) := by decide +kernel
theorem d_X8_trader_97 : dec m_X8_trader 97 = .ok (.aload_n 0, 1) := by decide +kernel
theorem d_X8_trader_98 : dec m_X8_trader 98 = .ok (.getfield 12, 3) := by decide +kernel
theorem d_X8_trader_101 : dec m_X8_trader 101 = .ok (.iload_n 1, 1) := by decide +kernel
theorem d_X8_trader_102 : dec m_X8_trader 102 = .ok (.invokevirtual 196, 3) := by decide +kernel
theorem d_X8_trader_105 : dec m_X8_trader 105 = .ok (.invokevirtual 154, 3) := by decide +kernel
theorem d_X8_trader_108 : dec m_X8_trader 108 = .ok (.aload_n 0, 1) := by decide +kernel
theorem d_X8_trader_109 : dec m_X8_trader 109 = .ok (.getfield 47, 3) := by decide +kernel
theorem d_X8_trader_112 : dec m_X8_trader 112 = .ok (.aload_n 0, 1) := by decide +kernel
theorem d_X8_trader_113 : dec m_X8_trader 113 = .ok (.getfield 12, 3) := by decide +kernel
theorem d_X8_trader_116 : dec m_X8_trader 116 = .ok (.iload_n 1, 1) := by decide +kernel
theorem d_X8_trader_117 : dec m_X8_trader 117 = .ok (.invokevirtual 160, 3) := by decide +kernel
theorem d_X8_trader_120 : dec m_X8_trader 120 = .ok (.iload_n 1, 1) := by decide +kernel
theorem d_X8_trader_121 : dec m_X8_trader 121 = .ok (.invokevirtual 163, 3) := by decide +kernel
theorem d_X8_trader_124 : dec m_X8_trader 124 = .ok (.ireturn, 1) := by decide +kernel
theorem d_X8_trader_125 : dec m_X8_trader 125 = .ok (.aload_n 0, 1) := by decide +kernel
theorem d_X8_trader_126 : dec m_X8_trader 126 = .ok (.getfield 12, 3) := by decide +kernel
theorem d_X8_trader_129 : dec m_X8_trader 129 = .ok (.iload_n 1, 1) := by decide +kernel
theorem d_X8_trader_130 : dec m_X8_trader 130 = .ok (.invokevirtual 202, 3) := by decide +kernel
theorem d_X8_trader_133 : dec m_X8_trader 133 = .ok (.ireturn, 1) := by decide +kernel
theorem d_X8_trader_134 : dec m_X8_trader 134 = .ok (.aload_n 0, 1) := by decide +kernel
theorem d_X8_trader_135 : dec m_X8_trader 135 = .ok (.getfield 12, 3) := by decide +kernel
theorem d_X8_trader_138 : dec m_X8_trader 138 = .ok (.iload_n 1, 1) := by decide +kernel
theorem d_X8_trader_139 : dec m_X8_trader 139 = .ok (.iload_n 2, 1) := by decide +kernel
theorem d_X8_trader_140 : dec m_X8_trader 140 = .ok (.bipush 10, 2) := by decide +kernel
theorem d_X8_trader_142 : dec m_X8_trader 142 = .ok (.isub, 1) := by decide +kernel
theorem d_X8_trader_143 : dec m_X8_trader 143 = .ok (.invokevirtual 127, 3) := by decide +kernel
theorem d_X8_trader_146 : dec m_X8_trader 146 = .ok (.ifCond .eq 18, 3) := by decide +kernel
theorem d_X8_trader_149 : dec m_X8_trader 149 = .ok (.aload_n 0, 1) := by decide +kernel
theorem d_X8_trader_150 : dec m_X8_trader 150 = .ok (.getfield 12, 3) := by decide +kernel
theorem d_X8_trader_153 : dec m_X8_trader 153 = .ok (.iload_n 1, 1) := by decide +kernel
theorem d_X8_trader_154 : dec m_X8_trader 154 = .ok (.iload_n 2, 1) := by decide +kernel
theorem d_X8_trader_155 : dec m_X8_trader 155 = .ok (.bipush 10, 2) := by decide +kernel
theorem d_X8_trader_157 : dec m_X8_trader 157 = .ok (.isub, 1) := by decide +kernel
theorem d_X8_trader_158 : dec m_X8_trader 158 = .ok (.invokevirtual 131, 3) := by decide +kernel
theorem d_X8_trader_161 : dec m_X8_trader 161 = .ok (.goto 5, 3) := by decide +kernel
theorem d_X8_trader_164 : dec m_X8_trader 164 = .ok (.ldc 195, 2) := by decide +kernel
theorem d_X8_trader_166 : dec m_X8_trader 166 = .ok (.ireturn, 1) := by decide +kernel
theorem d_X8_audit_0 : dec m_X8_audit 0 = .ok (.iload_n 1, 1) := by decide +kernel
theorem d_X8_audit_1 : dec m_X8_audit 1 = .ok (.tableswitch 102 0 5 #[39, 47, 55, 63, 86, 94], 39) := by decide +kernel
theorem d_X8_audit_40 : dec m_X8_audit 40 = .ok (.aload_n 0, 1) := by decide +kernel
theorem d_X8_audit_41 : dec m_X8_audit 41 = .ok (.getfield 12, 3) := by decide +kernel
theorem d_X8_audit_44 : dec m_X8_audit 44 = .ok (.getfield 317, 3) := by decide +kernel
theorem d_X8_audit_47 : dec m_X8_audit 47 = .ok (.ireturn, 1) := by decide +kernel
theorem d_X8_audit_48 : dec m_X8_audit 48 = .ok (.aload_n 0, 1) := by decide +kernel
theorem d_X8_audit_49 : dec m_X8_audit 49 = .ok (.getfield 12, 3) := by decide +kernel
theorem d_X8_audit_52 : dec m_X8_audit 52 = .ok (.invokevirtual 320, 3) := by decide +kernel
theorem d_X8_audit_55 : dec m_X8_audit 55 = .ok (.ireturn, 1) := by decide +kernel
theorem d_X8_audit_56 : dec m_X8_audit 56 = .ok (.aload_n 0, 1) := by decide +kernel
theorem d_X8_audit_57 : dec m_X8_audit 57 = .ok (.getfield 12, 3) := by decide +kernel
theorem d_X8_audit_60 : dec m_X8_audit 60 = .ok (.getfield 323, 3) := by decide +kernel
theorem d_X8_audit_63 : dec m_X8_audit 63 = .ok (.ireturn, 1) := by decide +kernel
theorem d_X8_audit_64 : dec m_X8_audit 64 = .ok (.aload_n 0, 1) := by decide +kernel
theorem d_X8_audit_65 : dec m_X8_audit 65 = .ok (.getfield 12, 3) := by decide +kernel
theorem d_X8_audit_68 : dec m_X8_audit 68 = .ok (.getfield 98, 3) := by decide +kernel
theorem d_X8_audit_71 : dec m_X8_audit 71 = .ok (.ifCond .le 13, 3) := by decide +kernel
theorem d_X8_audit_74 : dec m_X8_audit 74 = .ok (.aload_n 0, 1) := by decide +kernel
theorem d_X8_audit_75 : dec m_X8_audit 75 = .ok (.getfield 12, 3) := by decide +kernel
theorem d_X8_audit_78 : dec m_X8_audit 78 = .ok (.invokevirtual 326, 3) := by decide +kernel
theorem d_X8_audit_81 : dec m_X8_audit 81 = .ok (.goto 5, 3) := by decide +kernel
theorem d_X8_audit_84 : dec m_X8_audit 84 = .ok (.bipush (-2), 2) := by decide +kernel
theorem d_X8_audit_86 : dec m_X8_audit 86 = .ok (.ireturn, 1) := by decide +kernel
theorem d_X8_audit_87 : dec m_X8_audit 87 = .ok (.aload_n 0, 1) := by decide +kernel
theorem d_X8_audit_88 : dec m_X8_audit 88 = .ok (.getfield 12, 3) := by decide +kernel
theorem d_X8_audit_91 : dec m_X8_audit 91 = .ok (.getfield 329, 3) := by decide +kernel
theorem d_X8_audit_94 : dec m_X8_audit 94 = .ok (.ireturn, 1) := by decide +kernel
theorem d_X8_audit_95 : dec m_X8_audit 95 = .ok (.aload_n 0, 1) := by decide +kernel
theorem d_X8_audit_96 : dec m_X8_audit 96 = .ok (.getfield 12, 3) := by decide +kernel
theorem d_X8_audit_99 : dec m_X8_audit 99 = .ok (.getfield 332, 3) := by decide +kernel
theorem d_X8_audit_102 : dec m_X8_audit 102 = .ok (.ireturn, 1) := by decide +kernel
theorem d_X8_audit_103 : dec m_X8_audit 103 = .ok (.ldc 195, 2) := by decide +kernel
theorem d_X8_audit_105 : dec m_X8_audit 105 = .ok (.ireturn, 1) := by decide +kernel
theorem d_X8_letter_0 : dec m_X8_letter 0 = .ok (.iload_n 1, 1) := by decide +kernel
theorem d_X8_letter_1 : dec m_X8_letter 1 = .ok (.iconst (-1), 1) := by decide +kernel
theorem d_X8_letter_2 : dec m_X8_letter 2 = .ok (.if_icmp .ge 5, 3) := by decide +kernel
theorem d_X8_letter_5 : dec m_X8_letter 5 = .ok (.iconst (-1), 1) := by decide +kernel
theorem d_X8_letter_6 : dec m_X8_letter 6 = .ok (.ireturn, 1) := by decide +kernel
theorem d_X8_letter_7 : dec m_X8_letter 7 = .ok (.aload_n 0, 1) := by decide +kernel
theorem d_X8_letter_8 : dec m_X8_letter 8 = .ok (.getfield 40, 3) := by decide +kernel
theorem d_X8_letter_11 : dec m_X8_letter 11 = .ok (.aload_n 0, 1) := by decide +kernel
theorem d_X8_letter_12 : dec m_X8_letter 12 = .ok (.getfield 12, 3) := by decide +kernel
theorem d_X8_letter_15 : dec m_X8_letter 15 = .ok (.invokevirtual 341, 3) := by decide +kernel
theorem d_X8_letter_18 : dec m_X8_letter 18 = .ok (.iload_n 1, 1) := by decide +kernel
theorem d_X8_letter_19 : dec m_X8_letter 19 = .ok (.iconst (-1), 1) := by decide +kernel
theorem d_X8_letter_20 : dec m_X8_letter 20 = .ok (.if_icmp .ne 11, 3) := by decide +kernel
theorem d_X8_letter_23 : dec m_X8_letter 23 = .ok (.aload_n 0, 1) := by decide +kernel
theorem d_X8_letter_24 : dec m_X8_letter 24 = .ok (.getfield 40, 3) := by decide +kernel
theorem d_X8_letter_27 : dec m_X8_letter 27 = .ok (.getfield 344, 3) := by decide +kernel
theorem d_X8_letter_30 : dec m_X8_letter 30 = .ok (.ireturn, 1) := by decide +kernel
theorem d_X8_letter_31 : dec m_X8_letter 31 = .ok (.iload_n 1, 1) := by decide +kernel
theorem d_X8_letter_32 : dec m_X8_letter 32 = .ok (.aload_n 0, 1) := by decide +kernel
theorem d_X8_letter_33 : dec m_X8_letter 33 = .ok (.getfield 40, 3) := by decide +kernel
theorem d_X8_letter_36 : dec m_X8_letter 36 = .ok (.getfield 344, 3) := by decide +kernel
theorem d_X8_letter_39 : dec m_X8_letter 39 = .ok (.if_icmp .ge 14, 3) := by decide +kernel
theorem d_X8_letter_42 : dec m_X8_letter 42 = .ok (.aload_n 0, 1) := by decide +kernel
theorem d_X8_letter_43 : dec m_X8_letter 43 = .ok (.getfield 40, 3) := by decide +kernel
theorem d_X8_letter_46 : dec m_X8_letter 46 = .ok (.iload_n 1, 1) := by decide +kernel
theorem d_X8_letter_47 : dec m_X8_letter 47 = .ok (.invokevirtual 345, 3) := by decide +kernel
theorem d_X8_letter_50 : dec m_X8_letter 50 = .ok (.goto 5, 3) := by decide +kernel
theorem d_X8_letter_53 : dec m_X8_letter 53 = .ok (.bipush (-2), 2) := by decide +kernel
theorem d_X8_letter_55 : dec m_X8_letter 55 = .ok (.ireturn, 1) := by decide +kernel
theorem d_X8_count_0 : dec m_X8_count 0 = .ok (.iload_n 1, 1) := by decide +kernel
theorem d_X8_count_1 : dec m_X8_count 1 = .ok (.tableswitch 117 0 8 #[51, 59, 67, 75, 83, 91, 99, 107, 112], 51) := by decide +kernel
theorem d_X8_count_52 : dec m_X8_count 52 = .ok (.aload_n 0, 1) := by decide +kernel
theorem d_X8_count_53 : dec m_X8_count 53 = .ok (.getfield 12, 3) := by decide +kernel
theorem d_X8_count_56 : dec m_X8_count 56 = .ok (.getfield 98, 3) := by decide +kernel
theorem d_X8_count_59 : dec m_X8_count 59 = .ok (.ireturn, 1) := by decide +kernel
theorem d_X8_count_60 : dec m_X8_count 60 = .ok (.aload_n 0, 1) := by decide +kernel
theorem d_X8_count_61 : dec m_X8_count 61 = .ok (.getfield 12, 3) := by decide +kernel
theorem d_X8_count_64 : dec m_X8_count 64 = .ok (.invokevirtual 393, 3) := by decide +kernel
theorem d_X8_count_67 : dec m_X8_count 67 = .ok (.ireturn, 1) := by decide +kernel
theorem d_X8_count_68 : dec m_X8_count 68 = .ok (.aload_n 0, 1) := by decide +kernel
theorem d_X8_count_69 : dec m_X8_count 69 = .ok (.getfield 12, 3) := by decide +kernel
theorem d_X8_count_72 : dec m_X8_count 72 = .ok (.getfield 145, 3) := by decide +kernel
theorem d_X8_count_75 : dec m_X8_count 75 = .ok (.ireturn, 1) := by decide +kernel
theorem d_X8_count_76 : dec m_X8_count 76 = .ok (.aload_n 0, 1) := by decide +kernel
theorem d_X8_count_77 : dec m_X8_count 77 = .ok (.getfield 12, 3) := by decide +kernel
theorem d_X8_count_80 : dec m_X8_count 80 = .ok (.getfield 151, 3) := by decide +kernel
theorem d_X8_count_83 : dec m_X8_count 83 = .ok (.ireturn, 1) := by decide +kernel
theorem d_X8_count_84 : dec m_X8_count 84 = .ok (.aload_n 0, 1) := by decide +kernel
theorem d_X8_count_85 : dec m_X8_count 85 = .ok (.getfield 26, 3) := by decide +kernel
theorem d_X8_count_88 : dec m_X8_count 88 = .ok (.getfield 396, 3) := by decide +kernel
theorem d_X8_count_91 : dec m_X8_count 91 = .ok (.ireturn, 1) := by decide +kernel
theorem d_X8_count_92 : dec m_X8_count 92 = .ok (.aload_n 0, 1) := by decide +kernel
theorem d_X8_count_93 : dec m_X8_count 93 = .ok (.getfield 19, 3) := by decide +kernel
theorem d_X8_count_96 : dec m_X8_count 96 = .ok (.getfield 76, 3) := by decide +kernel
theorem d_X8_count_99 : dec m_X8_count 99 = .ok (.ireturn, 1) := by decide +kernel
theorem d_X8_count_100 : dec m_X8_count 100 = .ok (.aload_n 0, 1) := by decide +kernel
theorem d_X8_count_101 : dec m_X8_count 101 = .ok (.getfield 33, 3) := by decide +kernel
theorem d_X8_count_104 : dec m_X8_count 104 = .ok (.getfield 397, 3) := by decide +kernel
theorem d_X8_count_107 : dec m_X8_count 107 = .ok (.ireturn, 1) := by decide +kernel
theorem d_X8_count_108 : dec m_X8_count 108 = .ok (.aload_n 0, 1) := by decide +kernel
theorem d_X8_count_109 : dec m_X8_count 109 = .ok (.invokevirtual 400, 3) := by decide +kernel
theorem d_X8_count_112 : dec m_X8_count 112 = .ok (.ireturn, 1) := by decide +kernel
theorem d_X8_count_113 : dec m_X8_count 113 = .ok (.aload_n 0, 1) := by decide +kernel
theorem d_X8_count_114 : dec m_X8_count 114 = .ok (.invokevirtual 308, 3) := by decide +kernel
theorem d_X8_count_117 : dec m_X8_count 117 = .ok (.ireturn, 1) := by decide +kernel
theorem d_X8_count_118 : dec m_X8_count 118 = .ok (.iconst (-1), 1) := by decide +kernel
theorem d_X8_count_119 : dec m_X8_count 119 = .ok (.ireturn, 1) := by decide +kernel
theorem d_X8_isGrade_0 : dec m_X8_isGrade 0 = .ok (.iload_n 0, 1) := by decide +kernel
theorem d_X8_isGrade_1 : dec m_X8_isGrade 1 = .ok (.ifCond .lt 12, 3) := by decide +kernel
theorem d_X8_isGrade_4 : dec m_X8_isGrade 4 = .ok (.iload_n 0, 1) := by decide +kernel
theorem d_X8_isGrade_5 : dec m_X8_isGrade 5 = .ok (.iconst 4, 1) := by decide +kernel
theorem d_X8_isGrade_6 : dec m_X8_isGrade 6 = .ok (.if_icmp .ge 7, 3) := by decide +kernel
theorem d_X8_isGrade_9 : dec m_X8_isGrade 9 = .ok (.iconst 1, 1) := by decide +kernel
theorem d_X8_isGrade_10 : dec m_X8_isGrade 10 = .ok (.goto 4, 3) := by decide +kernel
theorem d_X8_isGrade_13 : dec m_X8_isGrade 13 = .ok (.iconst 0, 1) := by decide +kernel
theorem d_X8_isGrade_14 : dec m_X8_isGrade 14 = .ok (.ireturn, 1) := by decide +kernel
theorem d_X8_isValue_0 : dec m_X8_isValue 0 = .ok (.iload_n 0, 1) := by decide +kernel
theorem d_X8_isValue_1 : dec m_X8_isValue 1 = .ok (.ifCond .lt 14, 3) := by decide +kernel
theorem d_X8_isValue_4 : dec m_X8_isValue 4 = .ok (.iload_n 0, 1) := by decide +kernel
theorem d_X8_isValue_5 : dec m_X8_isValue 5 = .ok (.sipush 9999, 3) := by decide +kernel
theorem d_X8_isValue_8 : dec m_X8_isValue 8 = .ok (.if_icmp .gt 7, 3) := by decide +kernel
theorem d_X8_isValue_11 : dec m_X8_isValue 11 = .ok (.iconst 1, 1) := by decide +kernel
theorem d_X8_isValue_12 : dec m_X8_isValue 12 = .ok (.goto 4, 3) := by decide +kernel
theorem d_X8_isValue_15 : dec m_X8_isValue 15 = .ok (.iconst 0, 1) := by decide +kernel
theorem d_X8_isValue_16 : dec m_X8_isValue 16 = .ok (.ireturn, 1) := by decide +kernel
theorem d_X8_isFee_0 : dec m_X8_isFee 0 = .ok (.iload_n 0, 1) := by decide +kernel
theorem d_X8_isFee_1 : dec m_X8_isFee 1 = .ok (.ifCond .lt 14, 3) := by decide +kernel
theorem d_X8_isFee_4 : dec m_X8_isFee 4 = .ok (.iload_n 0, 1) := by decide +kernel
theorem d_X8_isFee_5 : dec m_X8_isFee 5 = .ok (.sipush 500, 3) := by decide +kernel
theorem d_X8_isFee_8 : dec m_X8_isFee 8 = .ok (.if_icmp .gt 7, 3) := by decide +kernel
theorem d_X8_isFee_11 : dec m_X8_isFee 11 = .ok (.iconst 1, 1) := by decide +kernel
theorem d_X8_isFee_12 : dec m_X8_isFee 12 = .ok (.goto 4, 3) := by decide +kernel
theorem d_X8_isFee_15 : dec m_X8_isFee 15 = .ok (.iconst 0, 1) := by decide +kernel
theorem d_X8_isFee_16 : dec m_X8_isFee 16 = .ok (.ireturn, 1) := by decide +kernel
theorem d_X8_isLaw_0 : dec m_X8_isLaw 0 = .ok (.iload_n 0, 1) := by decide +kernel
theorem d_X8_isLaw_1 : dec m_X8_isLaw 1 = .ok (.ifCond .lt 12, 3) := by decide +kernel
theorem d_X8_isLaw_4 : dec m_X8_isLaw 4 = .ok (.iload_n 0, 1) := by decide +kernel
theorem d_X8_isLaw_5 : dec m_X8_isLaw 5 = .ok (.iconst 3, 1) := by decide +kernel
theorem d_X8_isLaw_6 : dec m_X8_isLaw 6 = .ok (.if_icmp .gt 7, 3) := by decide +kernel
theorem d_X8_isLaw_9 : dec m_X8_isLaw 9 = .ok (.iconst 1, 1) := by decide +kernel
theorem d_X8_isLaw_10 : dec m_X8_isLaw 10 = .ok (.goto 4, 3) := by decide +kernel
theorem d_X8_isLaw_13 : dec m_X8_isLaw 13 = .ok (.iconst 0, 1) := by decide +kernel
theorem d_X8_isLaw_14 : dec m_X8_isLaw 14 = .ok (.ireturn, 1) := by decide +kernel
theorem d_X8_isShelf_0 : dec m_X8_isShelf 0 = .ok (.iload_n 0, 1) := by decide +kernel
theorem d_X8_isShelf_1 : dec m_X8_isShelf 1 = .ok (.ifCond .lt 12, 3) := by decide +kernel
theorem d_X8_isShelf_4 : dec m_X8_isShelf 4 = .ok (.iload_n 0, 1) := by decide +kernel
theorem d_X8_isShelf_5 : dec m_X8_isShelf 5 = .ok (.iconst 2, 1) := by decide +kernel
theorem d_X8_isShelf_6 : dec m_X8_isShelf 6 = .ok (.if_icmp .ge 7, 3) := by decide +kernel
theorem d_X8_isShelf_9 : dec m_X8_isShelf 9 = .ok (.iconst 1, 1) := by decide +kernel
theorem d_X8_isShelf_10 : dec m_X8_isShelf 10 = .ok (.goto 4, 3) := by decide +kernel
theorem d_X8_isShelf_13 : dec m_X8_isShelf 13 = .ok (.iconst 0, 1) := by decide +kernel
theorem d_X8_isShelf_14 : dec m_X8_isShelf 14 = .ok (.ireturn, 1) := by decide +kernel
theorem d_X8_bit_0 : dec m_X8_bit 0 = .ok (.iconst 1, 1) := by decide +kernel
theorem d_X8_bit_1 : dec m_X8_bit 1 = .ok (.iload_n 0, 1) := by decide +kernel
theorem d_X8_bit_2 : dec m_X8_bit 2 = .ok (.ishl, 1) := by decide +kernel
theorem d_X8_bit_3 : dec m_X8_bit 3 = .ok (.ireturn, 1) := by decide +kernel
theorem d_X8_lawWord_0 : dec m_X8_lawWord 0 = .ok (.iload_n 0, 1) := by decide +kernel
theorem d_X8_lawWord_1 : dec m_X8_lawWord 1 = .ok (.tableswitch 39 1 3 #[27, 31, 35], 27) := by decide +kernel
theorem d_X8_lawWord_28 : dec m_X8_lawWord 28 = .ok (.ldc_w 403, 3) := by decide +kernel
theorem d_X8_lawWord_31 : dec m_X8_lawWord 31 = .ok (.areturn, 1) := by decide +kernel
theorem d_X8_lawWord_32 : dec m_X8_lawWord 32 = .ok (.ldc_w 405, 3) := by decide +kernel
theorem d_X8_lawWord_35 : dec m_X8_lawWord 35 = .ok (.areturn, 1) := by decide +kernel
theorem d_X8_lawWord_36 : dec m_X8_lawWord 36 = .ok (.ldc_w 407, 3) := by decide +kernel
theorem d_X8_lawWord_39 : dec m_X8_lawWord 39 = .ok (.areturn, 1) := by decide +kernel
theorem d_X8_lawWord_40 : dec m_X8_lawWord 40 = .ok (.ldc_w 409, 3) := by decide +kernel
theorem d_X8_lawWord_43 : dec m_X8_lawWord 43 = .ok (.areturn, 1) := by decide +kernel
theorem d_X8_settleGrade_0 : dec m_X8_settleGrade 0 = .ok (.aload_n 0, 1) := by decide +kernel
theorem d_X8_settleGrade_1 : dec m_X8_settleGrade 1 = .ok (.getfield 47, 3) := by decide +kernel
theorem d_X8_settleGrade_4 : dec m_X8_settleGrade 4 = .ok (.aload_n 0, 1) := by decide +kernel
theorem d_X8_settleGrade_5 : dec m_X8_settleGrade 5 = .ok (.getfield 12, 3) := by decide +kernel
theorem d_X8_settleGrade_8 : dec m_X8_settleGrade 8 = .ok (.iload_n 1, 1) := by decide +kernel
theorem d_X8_settleGrade_9 : dec m_X8_settleGrade 9 = .ok (.invokestatic 255, 3) := by decide +kernel
theorem d_X8_settleGrade_12 : dec m_X8_settleGrade 12 = .ok (.iconst 0, 1) := by decide +kernel
theorem d_X8_settleGrade_13 : dec m_X8_settleGrade 13 = .ok (.invokevirtual 289, 3) := by decide +kernel
theorem d_X8_settleGrade_16 : dec m_X8_settleGrade 16 = .ok (.aload_n 0, 1) := by decide +kernel
theorem d_X8_settleGrade_17 : dec m_X8_settleGrade 17 = .ok (.getfield 47, 3) := by decide +kernel
theorem d_X8_settleGrade_20 : dec m_X8_settleGrade 20 = .ok (.aload_n 0, 1) := by decide +kernel
theorem d_X8_settleGrade_21 : dec m_X8_settleGrade 21 = .ok (.getfield 12, 3) := by decide +kernel
theorem d_X8_settleGrade_24 : dec m_X8_settleGrade 24 = .ok (.getfield 145, 3) := by decide +kernel
theorem d_X8_settleGrade_27 : dec m_X8_settleGrade 27 = .ok (.aload_n 0, 1) := by decide +kernel
theorem d_X8_settleGrade_28 : dec m_X8_settleGrade 28 = .ok (.getfield 12, 3) := by decide +kernel
theorem d_X8_settleGrade_31 : dec m_X8_settleGrade 31 = .ok (.getfield 151, 3) := by decide +kernel
theorem d_X8_settleGrade_34 : dec m_X8_settleGrade 34 = .ok (.invokevirtual 293, 3) := by decide +kernel
theorem d_X8_settleGrade_37 : dec m_X8_settleGrade 37 = .ok (.return_, 1) := by decide +kernel
theorem d_X8_worthOf_0 : dec m_X8_worthOf 0 = .ok (.aload_n 0, 1) := by decide +kernel
theorem d_X8_worthOf_1 : dec m_X8_worthOf 1 = .ok (.getfield 47, 3) := by decide +kernel
theorem d_X8_worthOf_4 : dec m_X8_worthOf 4 = .ok (.aload_n 0, 1) := by decide +kernel
theorem d_X8_worthOf_5 : dec m_X8_worthOf 5 = .ok (.getfield 12, 3) := by decide +kernel
theorem d_X8_worthOf_8 : dec m_X8_worthOf 8 = .ok (.iload_n 1, 1) := by decide +kernel
theorem d_X8_worthOf_9 : dec m_X8_worthOf 9 = .ok (.iload_n 2, 1) := by decide +kernel
theorem d_X8_worthOf_10 : dec m_X8_worthOf 10 = .ok (.invokevirtual 289, 3) := by decide +kernel
theorem d_X8_worthOf_13 : dec m_X8_worthOf 13 = .ok (.aload_n 0, 1) := by decide +kernel
theorem d_X8_worthOf_14 : dec m_X8_worthOf 14 = .ok (.getfield 47, 3) := by decide +kernel
theorem d_X8_worthOf_17 : dec m_X8_worthOf 17 = .ok (.aload_n 0, 1) := by decide +kernel
theorem d_X8_worthOf_18 : dec m_X8_worthOf 18 = .ok (.getfield 12, 3) := by decide +kernel
theorem d_X8_worthOf_21 : dec m_X8_worthOf 21 = .ok (.getfield 145, 3) := by decide +kernel
theorem d_X8_worthOf_24 : dec m_X8_worthOf 24 = .ok (.aload_n 0, 1) := by decide +kernel
theorem d_X8_worthOf_25 : dec m_X8_worthOf 25 = .ok (.getfield 12, 3) := by decide +kernel
theorem d_X8_worthOf_28 : dec m_X8_worthOf 28 = .ok (.getfield 151, 3) := by decide +kernel
theorem d_X8_worthOf_31 : dec m_X8_worthOf 31 = .ok (.invokevirtual 293, 3) := by decide +kernel
theorem d_X8_worthOf_34 : dec m_X8_worthOf 34 = .ok (.aload_n 0, 1) := by decide +kernel
theorem d_X8_worthOf_35 : dec m_X8_worthOf 35 = .ok (.getfield 47, 3) := by decide +kernel
theorem d_X8_worthOf_38 : dec m_X8_worthOf 38 = .ok (.getfield 226, 3) := by decide +kernel
theorem d_X8_worthOf_41 : dec m_X8_worthOf 41 = .ok (.ireturn, 1) := by decide +kernel
theorem d_X8_worthOfAll_0 : dec m_X8_worthOfAll 0 = .ok (.iconst 0, 1) := by decide +kernel
theorem d_X8_worthOfAll_1 : dec m_X8_worthOfAll 1 = .ok (.istore_n 1, 1) := by decide +kernel
theorem d_X8_worthOfAll_2 : dec m_X8_worthOfAll 2 = .ok (.iconst 0, 1) := by decide +kernel
theorem d_X8_worthOfAll_3 : dec m_X8_worthOfAll 3 = .ok (.istore_n 2, 1) := by decide +kernel
theorem d_X8_worthOfAll_4 : dec m_X8_worthOfAll 4 = .ok (.iload_n 2, 1) := by decide +kernel
theorem d_X8_worthOfAll_5 : dec m_X8_worthOfAll 5 = .ok (.iconst 4, 1) := by decide +kernel
theorem d_X8_worthOfAll_6 : dec m_X8_worthOfAll 6 = .ok (.if_icmp .ge 21, 3) := by decide +kernel
theorem d_X8_worthOfAll_9 : dec m_X8_worthOfAll 9 = .ok (.iload_n 1, 1) := by decide +kernel
theorem d_X8_worthOfAll_10 : dec m_X8_worthOfAll 10 = .ok (.aload_n 0, 1) := by decide +kernel
theorem d_X8_worthOfAll_11 : dec m_X8_worthOfAll 11 = .ok (.iload_n 2, 1) := by decide +kernel
theorem d_X8_worthOfAll_12 : dec m_X8_worthOfAll 12 = .ok (.invokestatic 255, 3) := by decide +kernel
theorem d_X8_worthOfAll_15 : dec m_X8_worthOfAll 15 = .ok (.iconst 0, 1) := by decide +kernel
theorem d_X8_worthOfAll_16 : dec m_X8_worthOfAll 16 = .ok (.invokevirtual 348, 3) := by decide +kernel
theorem d_X8_worthOfAll_19 : dec m_X8_worthOfAll 19 = .ok (.iadd, 1) := by decide +kernel
theorem d_X8_worthOfAll_20 : dec m_X8_worthOfAll 20 = .ok (.istore_n 1, 1) := by decide +kernel
theorem d_X8_worthOfAll_21 : dec m_X8_worthOfAll 21 = .ok (.iinc 2 1, 3) := by decide +kernel
theorem d_X8_worthOfAll_24 : dec m_X8_worthOfAll 24 = .ok (.goto (-20), 3) := by decide +kernel
theorem d_X8_worthOfAll_27 : dec m_X8_worthOfAll 27 = .ok (.iload_n 1, 1) := by decide +kernel
theorem d_X8_worthOfAll_28 : dec m_X8_worthOfAll 28 = .ok (.ireturn, 1) := by decide +kernel
theorem d_X8_gradesWithTrades_0 : dec m_X8_gradesWithTrades 0 = .ok (.iconst 0, 1) := by decide +kernel
theorem d_X8_gradesWithTrades_1 : dec m_X8_gradesWithTrades 1 = .ok (.istore_n 1, 1) := by decide +kernel
theorem d_X8_gradesWithTrades_2 : dec m_X8_gradesWithTrades 2 = .ok (.iconst 0, 1) := by decide +kernel
theorem d_X8_gradesWithTrades_3 : dec m_X8_gradesWithTrades 3 = .ok (.istore_n 2, 1) := by decide +kernel
theorem d_X8_gradesWithTrades_4 : dec m_X8_gradesWithTrades 4 = .ok (.iload_n 2, 1) := by decide +kernel
theorem d_X8_gradesWithTrades_5 : dec m_X8_gradesWithTrades 5 = .ok (.iconst 4, 1) := by decide +kernel
theorem d_X8_gradesWithTrades_6 : dec m_X8_gradesWithTrades 6 = .ok (.if_icmp .ge 31, 3) := by decide +kernel
theorem d_X8_gradesWithTrades_9 : dec m_X8_gradesWithTrades 9 = .ok (.aload_n 0, 1) := by decide +kernel
theorem d_X8_gradesWithTrades_10 : dec m_X8_gradesWithTrades 10 = .ok (.iload_n 2, 1) := by decide +kernel
theorem d_X8_gradesWithTrades_11 : dec m_X8_gradesWithTrades 11 = .ok (.invokevirtual 154, 3) := by decide +kernel
theorem d_X8_gradesWithTrades_14 : dec m_X8_gradesWithTrades 14 = .ok (.aload_n 0, 1) := by decide +kernel
theorem d_X8_gradesWithTrades_15 : dec m_X8_gradesWithTrades 15 = .ok (.getfield 47, 3) := by decide +kernel
theorem d_X8_gradesWithTrades_18 : dec m_X8_gradesWithTrades 18 = .ok (.getfield 223, 3) := by decide +kernel
theorem d_X8_gradesWithTrades_21 : dec m_X8_gradesWithTrades 21 = .ok (.ifCond .le 10, 3) := by decide +kernel
theorem d_X8_gradesWithTrades_24 : dec m_X8_gradesWithTrades 24 = .ok (.iload_n 1, 1) := by decide +kernel
theorem d_X8_gradesWithTrades_25 : dec m_X8_gradesWithTrades 25 = .ok (.iload_n 2, 1) := by decide +kernel
theorem d_X8_gradesWithTrades_26 : dec m_X8_gradesWithTrades 26 = .ok (.invokestatic 255, 3) := by decide +kernel
theorem d_X8_gradesWithTrades_29 : dec m_X8_gradesWithTrades 29 = .ok (.ior, 1) := by decide +kernel
theorem d_X8_gradesWithTrades_30 : dec m_X8_gradesWithTrades 30 = .ok (.istore_n 1, 1) := by decide +kernel
theorem d_X8_gradesWithTrades_31 : dec m_X8_gradesWithTrades 31 = .ok (.iinc 2 1, 3) := by decide +kernel
theorem d_X8_gradesWithTrades_34 : dec m_X8_gradesWithTrades 34 = .ok (.goto (-30), 3) := by decide +kernel
theorem d_X8_gradesWithTrades_37 : dec m_X8_gradesWithTrades 37 = .ok (.iload_n 1, 1) := by decide +kernel
theorem d_X8_gradesWithTrades_38 : dec m_X8_gradesWithTrades 38 = .ok (.ireturn, 1) := by decide +kernel
theorem d_X9_init_0 : dec m_X9_init 0 = .ok (.aload_n 0, 1) := by decide +kernel
theorem d_X9_init_1 : dec m_X9_init 1 = .ok (.invokespecial 1, 3) := by decide +kernel
theorem d_X9_init_4 : dec m_X9_init 4 = .ok (.aload_n 0, 1) := by decide +kernel
theorem d_X9_init_5 : dec m_X9_init 5 = .ok (.bipush 21, 2) := by decide +kernel
theorem d_X9_init_7 : dec m_X9_init 7 = .ok (.newarray .boolean, 2) := by decide +kernel
theorem d_X9_init_9 : dec m_X9_init 9 = .ok (.putfield 7, 3) := by decide +kernel
theorem d_X9_init_12 : dec m_X9_init 12 = .ok (.aload_n 0, 1) := by decide +kernel
theorem d_X9_init_13 : dec m_X9_init 13 = .ok (.bipush 21, 2) := by decide +kernel
theorem d_X9_init_15 : dec m_X9_init 15 = .ok (.newarray .int, 2) := by decide +kernel
theorem d_X9_init_17 : dec m_X9_init 17 = .ok (.putfield 13, 3) := by decide +kernel
theorem d_X9_init_20 : dec m_X9_init 20 = .ok (.aload_n 0, 1) := by decide +kernel
theorem d_X9_init_21 : dec m_X9_init 21 = .ok (.bipush 21, 2) := by decide +kernel
theorem d_X9_init_23 : dec m_X9_init 23 = .ok (.newarray .int, 2) := by decide +kernel
theorem d_X9_init_25 : dec m_X9_init 25 = .ok (.putfield 17, 3) := by decide +kernel
theorem d_X9_init_28 : dec m_X9_init 28 = .ok (.aload_n 0, 1) := by decide +kernel
theorem d_X9_init_29 : dec m_X9_init 29 = .ok (.bipush 21, 2) := by decide +kernel
theorem d_X9_init_31 : dec m_X9_init 31 = .ok (.newarray .int, 2) := by decide +kernel
theorem d_X9_init_33 : dec m_X9_init 33 = .ok (.putfield 20, 3) := by decide +kernel
theorem d_X9_init_36 : dec m_X9_init 36 = .ok (.aload_n 0, 1) := by decide +kernel
theorem d_X9_init_37 : dec m_X9_init 37 = .ok (.bipush 21, 2) := by decide +kernel
theorem d_X9_init_39 : dec m_X9_init 39 = .ok (.anewarray 23, 3) := by decide +kernel
theorem d_X9_init_42 : dec m_X9_init 42 = .ok (.putfield 24, 3) := by decide +kernel
theorem d_X9_init_45 : dec m_X9_init 45 = .ok (.return_, 1) := by decide +kernel
theorem d_X9_copy_0 : dec m_X9_copy 0 = .ok (.new 8, 3) := by decide +kernel
theorem d_X9_copy_3 : dec m_X9_copy 3 = .ok (.dup, 1) := by decide +kernel
theorem d_X9_copy_4 : dec m_X9_copy 4 = .ok (.invokespecial 28, 3) := by decide +kernel
theorem d_X9_copy_7 : dec m_X9_copy 7 = .ok (.astore_n 1, 1) := by decide +kernel
theorem d_X9_copy_8 : dec m_X9_copy 8 = .ok (.aload_n 1, 1) := by decide +kernel
theorem d_X9_copy_9 : dec m_X9_copy 9 = .ok (.aload_n 0, 1) := by decide +kernel
theorem d_X9_copy_10 : dec m_X9_copy 10 = .ok (.getfield 29, 3) := by decide +kernel
theorem d_X9_copy_13 : dec m_X9_copy 13 = .ok (.putfield 29, 3) := by decide +kernel
theorem d_X9_copy_16 : dec m_X9_copy 16 = .ok (.aload_n 1, 1) := by decide +kernel
theorem d_X9_copy_17 : dec m_X9_copy 17 = .ok (.aload_n 0, 1) := by decide +kernel
theorem d_X9_copy_18 : dec m_X9_copy 18 = .ok (.getfield 33, 3) := by decide +kernel
theorem d_X9_copy_21 : dec m_X9_copy 21 = .ok (.putfield 33, 3) := by decide +kernel
theorem d_X9_copy_24 : dec m_X9_copy 24 = .ok (.aload_n 1, 1) := by decide +kernel
theorem d_X9_copy_25 : dec m_X9_copy 25 = .ok (.aload_n 0, 1) := by decide +kernel
theorem d_X9_copy_26 : dec m_X9_copy 26 = .ok (.getfield 36, 3) := by decide +kernel
theorem d_X9_copy_29 : dec m_X9_copy 29 = .ok (.putfield 36, 3) := by decide +kernel
theorem d_X9_copy_32 : dec m_X9_copy 32 = .ok (.aload_n 1, 1) := by decide +kernel
theorem d_X9_copy_33 : dec m_X9_copy 33 = .ok (.aload_n 0, 1) := by decide +kernel
theorem d_X9_copy_34 : dec m_X9_copy 34 = .ok (.getfield 39, 3) := by decide +kernel
theorem d_X9_copy_37 : dec m_X9_copy 37 = .ok (.putfield 39, 3) := by decide +kernel
theorem d_X9_copy_40 : dec m_X9_copy 40 = .ok (.aload_n 1, 1) := by decide +kernel
theorem d_X9_copy_41 : dec m_X9_copy 41 = .ok (.aload_n 0, 1) := by decide +kernel
theorem d_X9_copy_42 : dec m_X9_copy 42 = .ok (.getfield 42, 3) := by decide +kernel
theorem d_X9_copy_45 : dec m_X9_copy 45 = .ok (.putfield 42, 3) := by decide +kernel
theorem d_X9_copy_48 : dec m_X9_copy 48 = .ok (.aload_n 1, 1) := by decide +kernel
theorem d_X9_copy_49 : dec m_X9_copy 49 = .ok (.aload_n 0, 1) := by decide +kernel
theorem d_X9_copy_50 : dec m_X9_copy 50 = .ok (.getfield 45, 3) := by decide +kernel
theorem d_X9_copy_53 : dec m_X9_copy 53 = .ok (.putfield 45, 3) := by decide +kernel
theorem d_X9_copy_56 : dec m_X9_copy 56 = .ok (.aload_n 1, 1) := by decide +kernel
theorem d_X9_copy_57 : dec m_X9_copy 57 = .ok (.aload_n 0, 1) := by decide +kernel
theorem d_X9_copy_58 : dec m_X9_copy 58 = .ok (.getfield 48, 3) := by decide +kernel
theorem d_X9_copy_61 : dec m_X9_copy 61 = .ok (.putfield 48, 3) := by decide +kernel
theorem d_X9_copy_64 : dec m_X9_copy 64 = .ok (.aload_n 0, 1) := by decide +kernel
theorem d_X9_copy_65 : dec m_X9_copy 65 = .ok (.getfield 7, 3) := by decide +kernel
theorem d_X9_copy_68 : dec m_X9_copy 68 = .ok (.iconst 0, 1) := by decide +kernel
theorem d_X9_copy_69 : dec m_X9_copy 69 = .ok (.aload_n 1, 1) := by decide +kernel
theorem d_X9_copy_70 : dec m_X9_copy 70 = .ok (.getfield 7, 3) := by decide +kernel
theorem d_X9_copy_73 : dec m_X9_copy 73 = .ok (.iconst 0, 1) := by decide +kernel
theorem d_X9_copy_74 : dec m_X9_copy 74 = .ok (.bipush 21, 2) := by decide +kernel
theorem d_X9_copy_76 : dec m_X9_copy 76 = .ok (.invokestatic 51, 3) := by decide +kernel
theorem d_X9_copy_79 : dec m_X9_copy 79 = .ok (.aload_n 0, 1) := by decide +kernel
theorem d_X9_copy_80 : dec m_X9_copy 80 = .ok (.getfield 13, 3) := by decide +kernel
theorem d_X9_copy_83 : dec m_X9_copy 83 = .ok (.iconst 0, 1) := by decide +kernel
theorem d_X9_copy_84 : dec m_X9_copy 84 = .ok (.aload_n 1, 1) := by decide +kernel
theorem d_X9_copy_85 : dec m_X9_copy 85 = .ok (.getfield 13, 3) := by decide +kernel
theorem d_X9_copy_88 : dec m_X9_copy 88 = .ok (.iconst 0, 1) := by decide +kernel
theorem d_X9_copy_89 : dec m_X9_copy 89 = .ok (.bipush 21, 2) := by decide +kernel
theorem d_X9_copy_91 : dec m_X9_copy 91 = .ok (.invokestatic 51, 3) := by decide +kernel
theorem d_X9_copy_94 : dec m_X9_copy 94 = .ok (.aload_n 0, 1) := by decide +kernel
theorem d_X9_copy_95 : dec m_X9_copy 95 = .ok (.getfield 17, 3) := by decide +kernel
theorem d_X9_copy_98 : dec m_X9_copy 98 = .ok (.iconst 0, 1) := by decide +kernel
theorem d_X9_copy_99 : dec m_X9_copy 99 = .ok (.aload_n 1, 1) := by decide +kernel
theorem d_X9_copy_100 : dec m_X9_copy 100 = .ok (.getfield 17, 3) := by decide +kernel
theorem d_X9_copy_103 : dec m_X9_copy 103 = .ok (.iconst 0, 1) := by decide +kernel
theorem d_X9_copy_104 : dec m_X9_copy 104 = .ok (.bipush 21, 2) := by decide +kernel
theorem d_X9_copy_106 : dec m_X9_copy 106 = .ok (.invokestatic 51, 3) := by decide +kernel
theorem d_X9_copy_109 : dec m_X9_copy 109 = .ok (.aload_n 0, 1) := by decide +kernel
theorem d_X9_copy_110 : dec m_X9_copy 110 = .ok (.getfield 20, 3) := by decide +kernel
theorem d_X9_copy_113 : dec m_X9_copy 113 = .ok (.iconst 0, 1) := by decide +kernel
theorem d_X9_copy_114 : dec m_X9_copy 114 = .ok (.aload_n 1, 1) := by decide +kernel
theorem d_X9_copy_115 : dec m_X9_copy 115 = .ok (.getfield 20, 3) := by decide +kernel
theorem d_X9_copy_118 : dec m_X9_copy 118 = .ok (.iconst 0, 1) := by decide +kernel
theorem d_X9_copy_119 : dec m_X9_copy 119 = .ok (.bipush 21, 2) := by decide +kernel
theorem d_X9_copy_121 : dec m_X9_copy 121 = .ok (.invokestatic 51, 3) := by decide +kernel
theorem d_X9_copy_124 : dec m_X9_copy 124 = .ok (.aload_n 1, 1) := by decide +kernel
theorem d_X9_copy_125 : dec m_X9_copy 125 = .ok (.aload_n 0, 1) := by decide +kernel
theorem d_X9_copy_126 : dec m_X9_copy 126 = .ok (.getfield 24, 3) := by decide +kernel
theorem d_X9_copy_129 : dec m_X9_copy 129 = .ok (.invokevirtual 57, 3) := by decide +kernel
theorem d_X9_copy_132 : dec m_X9_copy 132 = .ok (.checkcast 58, 3) := by decide +kernel
theorem d_X9_copy_135 : dec m_X9_copy 135 = .ok (.putfield 24, 3) := by decide +kernel
theorem d_X9_copy_138 : dec m_X9_copy 138 = .ok (.aload_n 1, 1) := by decide +kernel
theorem d_X9_copy_139 : dec m_X9_copy 139 = .ok (.areturn, 1) := by decide +kernel
theorem d_X9_comes_0 : dec m_X9_comes 0 = .ok (.aload_n 0, 1) := by decide +kernel
theorem d_X9_comes_1 : dec m_X9_comes 1 = .ok (.getfield 7, 3) := by decide +kernel
theorem d_X9_comes_4 : dec m_X9_comes 4 = .ok (.aload_n 0, 1) := by decide +kernel
theorem d_X9_comes_5 : dec m_X9_comes 5 = .ok (.getfield 29, 3) := by decide +kernel
theorem d_X9_comes_8 : dec m_X9_comes 8 = .ok (.iload_n 1, 1) := by decide +kernel
theorem d_X9_comes_9 : dec m_X9_comes 9 = .ok (.bastore, 1) := by decide +kernel
theorem d_X9_comes_10 : dec m_X9_comes 10 = .ok (.aload_n 0, 1) := by decide +kernel
theorem d_X9_comes_11 : dec m_X9_comes 11 = .ok (.getfield 13, 3) := by decide +kernel
theorem d_X9_comes_14 : dec m_X9_comes 14 = .ok (.aload_n 0, 1) := by decide +kernel
theorem d_X9_comes_15 : dec m_X9_comes 15 = .ok (.getfield 29, 3) := by decide +kernel
theorem d_X9_comes_18 : dec m_X9_comes 18 = .ok (.iload_n 2, 1) := by decide +kernel
theorem d_X9_comes_19 : dec m_X9_comes 19 = .ok (.iastore, 1) := by decide +kernel
theorem d_X9_comes_20 : dec m_X9_comes 20 = .ok (.aload_n 0, 1) := by decide +kernel
theorem d_X9_comes_21 : dec m_X9_comes 21 = .ok (.getfield 24, 3) := by decide +kernel
theorem d_X9_comes_24 : dec m_X9_comes 24 = .ok (.aload_n 0, 1) := by decide +kernel
theorem d_X9_comes_25 : dec m_X9_comes 25 = .ok (.getfield 29, 3) := by decide +kernel
theorem d_X9_comes_28 : dec m_X9_comes 28 = .ok (.aload_n 3, 1) := by decide +kernel
theorem d_X9_comes_29 : dec m_X9_comes 29 = .ok (.aastore, 1) := by decide +kernel
theorem d_X9_comes_30 : dec m_X9_comes 30 = .ok (.aload_n 0, 1) := by decide +kernel
theorem d_X9_comes_31 : dec m_X9_comes 31 = .ok (.getfield 17, 3) := by decide +kernel
theorem d_X9_comes_34 : dec m_X9_comes 34 = .ok (.aload_n 0, 1) := by decide +kernel
theorem d_X9_comes_35 : dec m_X9_comes 35 = .ok (.getfield 29, 3) := by decide +kernel
theorem d_X9_comes_38 : dec m_X9_comes 38 = .ok (.iconst 0, 1) := by decide +kernel
theorem d_X9_comes_39 : dec m_X9_comes 39 = .ok (.iastore, 1) := by decide +kernel
theorem d_X9_comes_40 : dec m_X9_comes 40 = .ok (.aload_n 0, 1) := by decide +kernel
theorem d_X9_comes_41 : dec m_X9_comes 41 = .ok (.getfield 20, 3) := by decide +kernel
theorem d_X9_comes_44 : dec m_X9_comes 44 = .ok (.aload_n 0, 1) := by decide +kernel
theorem d_X9_comes_45 : dec m_X9_comes 45 = .ok (.getfield 29, 3) := by decide +kernel
theorem d_X9_comes_48 : dec m_X9_comes 48 = .ok (.iconst 0, 1) := by decide +kernel
theorem d_X9_comes_49 : dec m_X9_comes 49 = .ok (.iastore, 1) := by decide +kernel
theorem d_X9_comes_50 : dec m_X9_comes 50 = .ok (.aload_n 0, 1) := by decide +kernel
theorem d_X9_comes_51 : dec m_X9_comes 51 = .ok (.dup, 1) := by decide +kernel
theorem d_X9_comes_52 : dec m_X9_comes 52 = .ok (.getfield 29, 3) := by decide +kernel
theorem d_X9_comes_55 : dec m_X9_comes 55 = .ok (.iconst 1, 1) := by decide +kernel
theorem d_X9_comes_56 : dec m_X9_comes 56 = .ok (.iadd, 1) := by decide +kernel
theorem d_X9_comes_57 : dec m_X9_comes 57 = .ok (.putfield 29, 3) := by decide +kernel
theorem d_X9_comes_60 : dec m_X9_comes 60 = .ok (.return_, 1) := by decide +kernel
theorem d_X9_told_0 : dec m_X9_told 0 = .ok (.new 62, 3) := by decide +kernel
theorem d_X9_told_3 : dec m_X9_told 3 = .ok (.dup, 1) := by decide +kernel
theorem d_X9_told_4 : dec m_X9_told 4 = .ok (.sipush 400, 3) := by decide +kernel
theorem d_X9_told_7 : dec m_X9_told 7 = .ok (.invokespecial 64, 3) := by decide +kernel
theorem d_X9_told_10 : dec m_X9_told 10 = .ok (.astore_n 1, 1) := by decide +kernel
theorem d_X9_told_11 : dec m_X9_told 11 = .ok (.iconst 0, 1) := by decide +kernel
theorem d_X9_told_12 : dec m_X9_told 12 = .ok (.istore_n 2, 1) := by decide +kernel
theorem d_X9_told_13 : dec m_X9_told 13 = .ok (.iload_n 2, 1) := by decide +kernel
theorem d_X9_told_14 : dec m_X9_told 14 = .ok (.aload_n 0, 1) := by decide +kernel
theorem d_X9_told_15 : dec m_X9_told 15 = .ok (.getfield 29, 3) := by decide +kernel
theorem d_X9_told_18 : dec m_X9_told 18 = .ok (.if_icmp .ge 98, 3) := by decide +kernel
theorem d_X9_told_21 : dec m_X9_told 21 = .ok (.aload_n 1, 1) := by decide +kernel
theorem d_X9_told_22 : dec m_X9_told 22 = .ok (.iload_n 2, 1) := by decide +kernel
theorem d_X9_told_23 : dec m_X9_told 23 = .ok (.ifCond .le 8, 3) := by decide +kernel
theorem d_X9_told_26 : dec m_X9_told 26 = .ok (.ldc 67, 2) := by decide +kernel
theorem d_X9_told_28 : dec m_X9_told 28 = .ok (.goto 5, 3) := by decide +kernel
theorem d_X9_told_31 : dec m_X9_told 31 = .ok (.ldc 69, 2) := by decide +kernel
theorem d_X9_told_33 : dec m_X9_told 33 = .ok (.invokevirtual 71, 3) := by decide +kernel
theorem d_X9_told_36 : dec m_X9_told 36 = .ok (.aload_n 0, 1) := by decide +kernel
theorem d_X9_told_37 : dec m_X9_told 37 = .ok (.getfield 7, 3) := by decide +kernel
theorem d_X9_told_40 : dec m_X9_told 40 = .ok (.iload_n 2, 1) := by decide +kernel
theorem d_X9_told_41 : dec m_X9_told 41 = .ok (.baload, 1) := by decide +kernel
theorem d_X9_told_42 : dec m_X9_told 42 = .ok (.ifCond .eq 8, 3) := by decide +kernel
theorem d_X9_told_45 : dec m_X9_told 45 = .ok (.ldc 75, 2) := by decide +kernel
theorem d_X9_told_47 : dec m_X9_told 47 = .ok (.goto 5, 3) := by decide +kernel
theorem d_X9_told_50 : dec m_X9_told 50 = .ok (.ldc 77, 2) := by decide +kernel
theorem d_X9_told_52 : dec m_X9_told 52 = .ok (.invokevirtual 71, 3) := by decide +kernel
theorem d_X9_told_55 : dec m_X9_told 55 = .ok (.aload_n 0, 1) := by decide +kernel
theorem d_X9_told_56 : dec m_X9_told 56 = .ok (.getfield 13, 3) := by decide +kernel
theorem d_X9_told_59 : dec m_X9_told 59 = .ok (.iload_n 2, 1) := by decide +kernel
theorem d_X9_told_60 : dec m_X9_told 60 = .ok (.iaload, 1) := by decide +kernel
theorem d_X9_told_61 : dec m_X9_told 61 = .ok (.invokevirtual 79, 3) := by decide +kernel
theorem d_X9_told_64 : dec m_X9_told 64 = .ok (.pop, 1) := by decide +kernel
theorem d_X9_told_65 : dec m_X9_told 65 = .ok (.aload_n 0, 1) := by decide +kernel
theorem d_X9_told_66 : dec m_X9_told 66 = .ok (.getfield 24, 3) := by decide +kernel
theorem d_X9_told_69 : dec m_X9_told 69 = .ok (.iload_n 2, 1) := by decide +kernel
theorem d_X9_told_70 : dec m_X9_told 70 = .ok (.aaload, 1) := by decide +kernel
theorem d_X9_told_71 : dec m_X9_told 71 = .ok (.astore_n 3, 1) := by decide +kernel
theorem d_X9_told_72 : dec m_X9_told 72 = .ok (.aload_n 3, 1) := by decide +kernel
theorem d_X9_told_73 : dec m_X9_told 73 = .ok (.arraylength, 1) := by decide +kernel
theorem d_X9_told_74 : dec m_X9_told 74 = .ok (.istore 4, 2) := by decide +kernel
theorem d_X9_told_76 : dec m_X9_told 76 = .ok (.iconst 0, 1) := by decide +kernel
theorem d_X9_told_77 : dec m_X9_told 77 = .ok (.istore 5, 2) := by decide +kernel
theorem d_X9_told_79 : dec m_X9_told 79 = .ok (.iload 5, 2) := by decide +kernel
theorem d_X9_told_81 : dec m_X9_told 81 = .ok (.iload 4, 2) := by decide +kernel
theorem d_X9_told_83 : dec m_X9_told 83 = .ok (.if_icmp .ge 27, 3) := by decide +kernel
theorem d_X9_told_86 : dec m_X9_told 86 = .ok (.aload_n 3, 1) := by decide +kernel
theorem d_X9_told_87 : dec m_X9_told 87 = .ok (.iload 5, 2) := by decide +kernel
theorem d_X9_told_89 : dec m_X9_told 89 = .ok (.iaload, 1) := by decide +kernel
theorem d_X9_told_90 : dec m_X9_told 90 = .ok (.istore 6, 2) := by decide +kernel
theorem d_X9_told_92 : dec m_X9_told 92 = .ok (.aload_n 1, 1) := by decide +kernel
theorem d_X9_told_93 : dec m_X9_told 93 = .ok (.bipush 32, 2) := by decide +kernel
theorem d_X9_told_95 : dec m_X9_told 95 = .ok (.invokevirtual 82, 3) := by decide +kernel
theorem d_X9_told_98 : dec m_X9_told 98 = .ok (.iload 6, 2) := by decide +kernel
theorem d_X9_told_100 : dec m_X9_told 100 = .ok (.invokevirtual 79, 3) := by decide +kernel
theorem d_X9_told_103 : dec m_X9_told 103 = .ok (.pop, 1) := by decide +kernel
theorem d_X9_told_104 : dec m_X9_told 104 = .ok (.iinc 5 1, 3) := by decide +kernel
theorem d_X9_told_107 : dec m_X9_told 107 = .ok (.goto (-28), 3) := by decide +kernel
theorem d_X9_told_110 : dec m_X9_told 110 = .ok (.iinc 2 1, 3) := by decide +kernel
theorem d_X9_told_113 : dec m_X9_told 113 = .ok (.goto (-100), 3) := by decide +kernel
theorem d_X9_told_116 : dec m_X9_told 116 = .ok (.aload_n 0, 1) := by decide +kernel
theorem d_X9_told_117 : dec m_X9_told 117 = .ok (.getfield 33, 3) := by decide +kernel
theorem d_X9_told_120 : dec m_X9_told 120 = .ok (.ifCond .le 29, 3) := by decide +kernel
theorem d_X9_told_123 : dec m_X9_told 123 = .ok (.aload_n 1, 1) := by decide +kernel
theorem d_X9_told_124 : dec m_X9_told 124 = .ok (.aload_n 1, 1) := by decide +kernel
theorem d_X9_told_125 : dec m_X9_told 125 = .ok (.invokevirtual 85, 3) := by decide +kernel
theorem d_X9_told_128 : dec m_X9_told 128 = .ok (.ifCond .le 8, 3) := by decide +kernel
theorem d_X9_told_131 : dec m_X9_told 131 = .ok (.ldc 89, 2) := by decide +kernel
theorem d_X9_told_133 : dec m_X9_told 133 = .ok (.goto 5, 3) := by decide +kernel
theorem d_X9_told_136 : dec m_X9_told 136 = .ok (.ldc 91, 2) := by decide +kernel
theorem d_X9_told_138 : dec m_X9_told 138 = .ok (.invokevirtual 71, 3) := by decide +kernel
theorem d_X9_told_141 : dec m_X9_told 141 = .ok (.aload_n 0, 1) := by decide +kernel
theorem d_X9_told_142 : dec m_X9_told 142 = .ok (.getfield 33, 3) := by decide +kernel
theorem d_X9_told_145 : dec m_X9_told 145 = .ok (.invokevirtual 79, 3) := by decide +kernel
theorem d_X9_told_148 : dec m_X9_told 148 = .ok (.pop, 1) := by decide +kernel
theorem d_X9_told_149 : dec m_X9_told 149 = .ok (.aload_n 0, 1) := by decide +kernel
theorem d_X9_told_150 : dec m_X9_told 150 = .ok (.getfield 36, 3) := by decide +kernel
theorem d_X9_told_153 : dec m_X9_told 153 = .ok (.ifCond .le 53, 3) := by decide +kernel
theorem d_X9_told_156 : dec m_X9_told 156 = .ok (.aload_n 1, 1) := by decide +kernel
theorem d_X9_told_157 : dec m_X9_told 157 = .ok (.aload_n 1, 1) := by decide +kernel
theorem d_X9_told_158 : dec m_X9_told 158 = .ok (.invokevirtual 85, 3) := by decide +kernel
theorem d_X9_told_161 : dec m_X9_told 161 = .ok (.ifCond .le 8, 3) := by decide +kernel
theorem d_X9_told_164 : dec m_X9_told 164 = .ok (.ldc 93, 2) := by decide +kernel
theorem d_X9_told_166 : dec m_X9_told 166 = .ok (.goto 5, 3) := by decide +kernel
theorem d_X9_told_169 : dec m_X9_told 169 = .ok (.ldc 95, 2) := by decide +kernel
theorem d_X9_told_171 : dec m_X9_told 171 = .ok (.invokevirtual 71, 3) := by decide +kernel
theorem d_X9_told_174 : dec m_X9_told 174 = .ok (.aload_n 0, 1) := by decide +kernel
theorem d_X9_told_175 : dec m_X9_told 175 = .ok (.getfield 36, 3) := by decide +kernel
theorem d_X9_told_178 : dec m_X9_told 178 = .ok (.iconst 1, 1) := by decide +kernel
theorem d_X9_told_179 : dec m_X9_told 179 = .ok (.if_icmp .ne 8, 3) := by decide +kernel
theorem d_X9_told_182 : dec m_X9_told 182 = .ok (.ldc 97, 2) := by decide +kernel
theorem d_X9_told_184 : dec m_X9_told 184 = .ok (.goto 18, 3) := by decide +kernel
theorem d_X9_told_187 : dec m_X9_told 187 = .ok (.aload_n 0, 1) := by decide +kernel
theorem d_X9_told_188 : dec m_X9_told 188 = .ok (.getfield 36, 3) := by decide +kernel
theorem d_X9_told_191 : dec m_X9_told 191 = .ok (.iconst 2, 1) := by decide +kernel
theorem d_X9_told_192 : dec m_X9_told 192 = .ok (.if_icmp .ne 8, 3) := by decide +kernel
theorem d_X9_told_195 : dec m_X9_told 195 = .ok (.ldc 99, 2) := by decide +kernel
theorem d_X9_told_197 : dec m_X9_told 197 = .ok (.goto 5, 3) := by decide +kernel
theorem d_X9_told_200 : dec m_X9_told 200 = .ok (.ldc 101, 2) := by decide +kernel
theorem d_X9_told_202 : dec m_X9_told 202 = .ok (.invokevirtual 71, 3) := by decide +kernel
theorem d_X9_told_205 : dec m_X9_told 205 = .ok (.pop, 1) := by decide +kernel
theorem d_X9_told_206 : dec m_X9_told 206 = .ok (.aload_n 1, 1) := by decide +kernel
theorem d_X9_told_207 : dec m_X9_told 207 = .ok (.invokevirtual 103, 3) := by decide +kernel
theorem d_X9_told_210 : dec m_X9_told 210 = .ok (.areturn, 1) := by decide +kernel
theorem d_X9_some_0 : dec m_X9_some 0 = .ok (.new 8, 3) := by decide +kernel
theorem d_X9_some_3 : dec m_X9_some 3 = .ok (.dup, 1) := by decide +kernel
theorem d_X9_some_4 : dec m_X9_some 4 = .ok (.invokespecial 28, 3) := by decide +kernel
theorem d_X9_some_7 : dec m_X9_some 7 = .ok (.astore 4, 2) := by decide +kernel
theorem d_X9_some_9 : dec m_X9_some 9 = .ok (.iconst 2, 1) := by decide +kernel
theorem d_X9_some_10 : dec m_X9_some 10 = .ok (.aload_n 0, 1) := by decide +kernel
theorem d_X9_some_11 : dec m_X9_some 11 = .ok (.iload_n 1, 1) := by decide +kernel
theorem d_X9_some_12 : dec m_X9_some 12 = .ok (.invokestatic 107, 3) := by decide +kernel
theorem d_X9_some_15 : dec m_X9_some 15 = .ok (.iconst 1, 1) := by decide +kernel
theorem d_X9_some_16 : dec m_X9_some 16 = .ok (.iushr, 1) := by decide +kernel
theorem d_X9_some_17 : dec m_X9_some 17 = .ok (.iload_n 2, 1) := by decide +kernel
theorem d_X9_some_18 : dec m_X9_some 18 = .ok (.irem, 1) := by decide +kernel
theorem d_X9_some_19 : dec m_X9_some 19 = .ok (.iadd, 1) := by decide +kernel
theorem d_X9_some_20 : dec m_X9_some 20 = .ok (.istore 5, 2) := by decide +kernel
theorem d_X9_some_22 : dec m_X9_some 22 = .ok (.iconst 0, 1) := by decide +kernel
theorem d_X9_some_23 : dec m_X9_some 23 = .ok (.istore 6, 2) := by decide +kernel
theorem d_X9_some_25 : dec m_X9_some 25 = .ok (.iload 6, 2) := by decide +kernel
theorem d_X9_some_27 : dec m_X9_some 27 = .ok (.iload 5, 2) := by decide +kernel
theorem d_X9_some_29 : dec m_X9_some 29 = .ok (.if_icmp .ge 165, 3) := by decide +kernel
theorem d_X9_some_32 : dec m_X9_some 32 = .ok (.aload_n 0, 1) := by decide +kernel
theorem d_X9_some_33 : dec m_X9_some 33 = .ok (.iload_n 1, 1) := by decide +kernel
theorem d_X9_some_34 : dec m_X9_some 34 = .ok (.iconst 1, 1) := by decide +kernel
theorem d_X9_some_35 : dec m_X9_some 35 = .ok (.iadd, 1) := by decide +kernel
theorem d_X9_some_36 : dec m_X9_some 36 = .ok (.iload 6, 2) := by decide +kernel
theorem d_X9_some_38 : dec m_X9_some 38 = .ok (.iadd, 1) := by decide +kernel
theorem d_X9_some_39 : dec m_X9_some 39 = .ok (.invokestatic 107, 3) := by decide +kernel
theorem d_X9_some_42 : dec m_X9_some 42 = .ok (.iconst 1, 1) := by decide +kernel
theorem d_X9_some_43 : dec m_X9_some 43 = .ok (.iushr, 1) := by decide +kernel
theorem d_X9_some_44 : dec m_X9_some 44 = .ok (.istore 7, 2) := by decide +kernel
theorem d_X9_some_46 : dec m_X9_some 46 = .ok (.iload 7, 2) := by decide +kernel
theorem d_X9_some_48 : dec m_X9_some 48 = .ok (.iconst 3, 1) := by decide +kernel
theorem d_X9_some_49 : dec m_X9_some 49 = .ok (.iushr, 1) := by decide +kernel
theorem d_X9_some_50 : dec m_X9_some 50 = .ok (.iload_n 3, 1) := by decide +kernel
theorem d_X9_some_51 : dec m_X9_some 51 = .ok (.iconst 1, 1) := by decide +kernel
theorem d_X9_some_52 : dec m_X9_some 52 = .ok (.iadd, 1) := by decide +kernel
theorem d_X9_some_53 : dec m_X9_some 53 = .ok (.irem, 1) := by decide +kernel
theorem d_X9_some_54 : dec m_X9_some 54 = .ok (.istore 8, 2) := by decide +kernel
theorem d_X9_some_56 : dec m_X9_some 56 = .ok (.iload 8, 2) := by decide +kernel
theorem d_X9_some_58 : dec m_X9_some 58 = .ok (.newarray .int, 2) := by decide +kernel
theorem d_X9_some_60 : dec m_X9_some 60 = .ok (.astore 9, 2) := by decide +kernel
theorem d_X9_some_62 : dec m_X9_some 62 = .ok (.iload 7, 2) := by decide +kernel
theorem d_X9_some_64 : dec m_X9_some 64 = .ok (.iconst 2, 1) := by decide +kernel
theorem d_X9_some_65 : dec m_X9_some 65 = .ok (.irem, 1) := by decide +kernel
theorem d_X9_some_66 : dec m_X9_some 66 = .ok (.iconst 1, 1) := by decide +kernel
theorem d_X9_some_67 : dec m_X9_some 67 = .ok (.if_icmp .ne 7, 3) := by decide +kernel
theorem d_X9_some_70 : dec m_X9_some 70 = .ok (.iconst 1, 1) := by decide +kernel
theorem d_X9_some_71 : dec m_X9_some 71 = .ok (.goto 4, 3) := by decide +kernel
theorem d_X9_some_74 : dec m_X9_some 74 = .ok (.iconst 0, 1) := by decide +kernel
theorem d_X9_some_75 : dec m_X9_some 75 = .ok (.istore 10, 2) := by decide +kernel
theorem d_X9_some_77 : dec m_X9_some 77 = .ok (.iload 10, 2) := by decide +kernel
theorem d_X9_some_79 : dec m_X9_some 79 = .ok (.ifCond .eq 17, 3) := by decide +kernel
theorem d_X9_some_82 : dec m_X9_some 82 = .ok (.bipush 10, 2) := by decide +kernel
theorem d_X9_some_84 : dec m_X9_some 84 = .ok (.iload 7, 2) := by decide +kernel
theorem d_X9_some_86 : dec m_X9_some 86 = .ok (.bipush 6, 2) := by decide +kernel
theorem d_X9_some_88 : dec m_X9_some 88 = .ok (.iushr, 1) := by decide +kernel
theorem d_X9_some_89 : dec m_X9_some 89 = .ok (.bipush 20, 2) := by decide +kernel
theorem d_X9_some_91 : dec m_X9_some 91 = .ok (.irem, 1) := by decide +kernel
theorem d_X9_some_92 : dec m_X9_some 92 = .ok (.iadd, 1) := by decide +kernel
theorem d_X9_some_93 : dec m_X9_some 93 = .ok (.goto 14, 3) := by decide +kernel
theorem d_X9_some_96 : dec m_X9_some 96 = .ok (.bipush 20, 2) := by decide +kernel
theorem d_X9_some_98 : dec m_X9_some 98 = .ok (.iload 7, 2) := by decide +kernel
theorem d_X9_some_100 : dec m_X9_some 100 = .ok (.bipush 6, 2) := by decide +kernel
theorem d_X9_some_102 : dec m_X9_some 102 = .ok (.iushr, 1) := by decide +kernel
theorem d_X9_some_103 : dec m_X9_some 103 = .ok (.bipush 25, 2) := by decide +kernel
theorem d_X9_some_105 : dec m_X9_some 105 = .ok (.irem, 1) := by decide +kernel
theorem d_X9_some_106 : dec m_X9_some 106 = .ok (.iadd, 1) := by decide +kernel
theorem d_X9_some_107 : dec m_X9_some 107 = .ok (.istore 11, 2) := by decide +kernel
theorem d_X9_some_109 : dec m_X9_some 109 = .ok (.iconst 0, 1) := by decide +kernel
theorem d_X9_some_110 : dec m_X9_some 110 = .ok (.istore 12, 2) := by decide +kernel
theorem d_X9_some_112 : dec m_X9_some 112 = .ok (.iload 12, 2) := by decide +kernel
theorem d_X9_some_114 : dec m_X9_some 114 = .ok (.iload 8, 2) := by decide +kernel
theorem d_X9_some_116 : dec m_X9_some 116 = .ok (.if_icmp .ge 49, 3) := by decide +kernel
theorem d_X9_some_119 : dec m_X9_some 119 = .ok (.aload 9, 2) := by decide +kernel
theorem d_X9_some_121 : dec m_X9_some 121 = .ok (.iload 12, 2) := by decide +kernel
theorem d_X9_some_123 : dec m_X9_some 123 = .ok (.iload 11, 2) := by decide +kernel
theorem d_X9_some_125 : dec m_X9_some 125 = .ok (.iastore, 1) := by decide +kernel
theorem d_X9_some_126 : dec m_X9_some 126 = .ok (.iconst 0, 1) := by decide +kernel
theorem d_X9_some_127 : dec m_X9_some 127 = .ok (.iload 11, 2) := by decide +kernel
theorem d_X9_some_129 : dec m_X9_some 129 = .ok (.iload 10, 2) := by decide +kernel
theorem d_X9_some_131 : dec m_X9_some 131 = .ok (.ifCond .eq 7, 3) := by decide +kernel
theorem d_X9_some_134 : dec m_X9_some 134 = .ok (.iconst 1, 1) := by decide +kernel
theorem d_X9_some_135 : dec m_X9_some 135 = .ok (.goto 4, 3) := by decide +kernel
theorem d_X9_some_138 : dec m_X9_some 138 = .ok (.iconst (-1), 1) := by decide +kernel
theorem d_X9_some_139 : dec m_X9_some 139 = .ok (.iload 7, 2) := by decide +kernel
theorem d_X9_some_141 : dec m_X9_some 141 = .ok (.bipush 12, 2) := by decide +kernel
theorem d_X9_some_143 : dec m_X9_some 143 = .ok (.iconst 3, 1) := by decide +kernel
theorem d_X9_some_144 : dec m_X9_some 144 = .ok (.iload 12, 2) := by decide +kernel
theorem d_X9_some_146 : dec m_X9_some 146 = .ok (.imul, 1) := by decide +kernel
theorem d_X9_some_147 : dec m_X9_some 147 = .ok (.iadd, 1) := by decide +kernel
theorem d_X9_some_148 : dec m_X9_some 148 = .ok (.iushr, 1) := by decide +kernel
theorem d_X9_some_149 : dec m_X9_some 149 = .ok (.bipush 6, 2) := by decide +kernel
theorem d_X9_some_151 : dec m_X9_some 151 = .ok (.irem, 1) := by decide +kernel
theorem d_X9_some_152 : dec m_X9_some 152 = .ok (.imul, 1) := by decide +kernel
theorem d_X9_some_153 : dec m_X9_some 153 = .ok (.iadd, 1) := by decide +kernel
theorem d_X9_some_154 : dec m_X9_some 154 = .ok (.invokestatic 113, 3) := by decide +kernel
theorem d_X9_some_157 : dec m_X9_some 157 = .ok (.istore 11, 2) := by decide +kernel
theorem d_X9_some_159 : dec m_X9_some 159 = .ok (.iinc 12 1, 3) := by decide +kernel
theorem d_X9_some_162 : dec m_X9_some 162 = .ok (.goto (-50), 3) := by decide +kernel
theorem d_X9_some_165 : dec m_X9_some 165 = .ok (.aload 4, 2) := by decide +kernel
theorem d_X9_some_167 : dec m_X9_some 167 = .ok (.iload 10, 2) := by decide +kernel
theorem d_X9_some_169 : dec m_X9_some 169 = .ok (.iload 7, 2) := by decide +kernel
theorem d_X9_some_171 : dec m_X9_some 171 = .ok (.iconst 1, 1) := by decide +kernel
theorem d_X9_some_172 : dec m_X9_some 172 = .ok (.iushr, 1) := by decide +kernel
theorem d_X9_some_173 : dec m_X9_some 173 = .ok (.iconst 4, 1) := by decide +kernel
theorem d_X9_some_174 : dec m_X9_some 174 = .ok (.irem, 1) := by decide +kernel
theorem d_X9_some_175 : dec m_X9_some 175 = .ok (.ifCond .ne 7, 3) := by decide +kernel
theorem d_X9_some_178 : dec m_X9_some 178 = .ok (.iconst 1, 1) := by decide +kernel
theorem d_X9_some_179 : dec m_X9_some 179 = .ok (.goto 4, 3) := by decide +kernel
theorem d_X9_some_182 : dec m_X9_some 182 = .ok (.iconst 0, 1) := by decide +kernel
theorem d_X9_some_183 : dec m_X9_some 183 = .ok (.aload 9, 2) := by decide +kernel
theorem d_X9_some_185 : dec m_X9_some 185 = .ok (.invokevirtual 119, 3) := by decide +kernel
theorem d_X9_some_188 : dec m_X9_some 188 = .ok (.iinc 6 1, 3) := by decide +kernel
theorem d_X9_some_191 : dec m_X9_some 191 = .ok (.goto (-166), 3) := by decide +kernel
theorem d_X9_some_194 : dec m_X9_some 194 = .ok (.aload 4, 2) := by decide +kernel
theorem d_X9_some_196 : dec m_X9_some 196 = .ok (.aload_n 0, 1) := by decide +kernel
theorem d_X9_some_197 : dec m_X9_some 197 = .ok (.iload_n 1, 1) := by decide +kernel
theorem d_X9_some_198 : dec m_X9_some 198 = .ok (.bipush 20, 2) := by decide +kernel
theorem d_X9_some_200 : dec m_X9_some 200 = .ok (.iadd, 1) := by decide +kernel
theorem d_X9_some_201 : dec m_X9_some 201 = .ok (.invokestatic 107, 3) := by decide +kernel
theorem d_X9_some_204 : dec m_X9_some 204 = .ok (.iconst 1, 1) := by decide +kernel
theorem d_X9_some_205 : dec m_X9_some 205 = .ok (.iushr, 1) := by decide +kernel
theorem d_X9_some_206 : dec m_X9_some 206 = .ok (.iconst 3, 1) := by decide +kernel
theorem d_X9_some_207 : dec m_X9_some 207 = .ok (.irem, 1) := by decide +kernel
theorem d_X9_some_208 : dec m_X9_some 208 = .ok (.ifCond .ne 19, 3) := by decide +kernel
theorem d_X9_some_211 : dec m_X9_some 211 = .ok (.aload_n 0, 1) := by decide +kernel
theorem d_X9_some_212 : dec m_X9_some 212 = .ok (.iload_n 1, 1) := by decide +kernel
theorem d_X9_some_213 : dec m_X9_some 213 = .ok (.bipush 20, 2) := by decide +kernel
theorem d_X9_some_215 : dec m_X9_some 215 = .ok (.iadd, 1) := by decide +kernel
theorem d_X9_some_216 : dec m_X9_some 216 = .ok (.invokestatic 107, 3) := by decide +kernel
theorem d_X9_some_219 : dec m_X9_some 219 = .ok (.iconst 4, 1) := by decide +kernel
theorem d_X9_some_220 : dec m_X9_some 220 = .ok (.iushr, 1) := by decide +kernel
theorem d_X9_some_221 : dec m_X9_some 221 = .ok (.bipush 6, 2) := by decide +kernel
theorem d_X9_some_223 : dec m_X9_some 223 = .ok (.irem, 1) := by decide +kernel
theorem d_X9_some_224 : dec m_X9_some 224 = .ok (.goto 4, 3) := by decide +kernel
theorem d_X9_some_227 : dec m_X9_some 227 = .ok (.iconst 0, 1) := by decide +kernel
theorem d_X9_some_228 : dec m_X9_some 228 = .ok (.putfield 33, 3) := by decide +kernel
theorem d_X9_some_231 : dec m_X9_some 231 = .ok (.aload 4, 2) := by decide +kernel
theorem d_X9_some_233 : dec m_X9_some 233 = .ok (.aload_n 0, 1) := by decide +kernel
theorem d_X9_some_234 : dec m_X9_some 234 = .ok (.iload_n 1, 1) := by decide +kernel
theorem d_X9_some_235 : dec m_X9_some 235 = .ok (.bipush 21, 2) := by decide +kernel
theorem d_X9_some_237 : dec m_X9_some 237 = .ok (.iadd, 1) := by decide +kernel
theorem d_X9_some_238 : dec m_X9_some 238 = .ok (.invokestatic 107, 3) := by decide +kernel
theorem d_X9_some_241 : dec m_X9_some 241 = .ok (.iconst 1, 1) := by decide +kernel
theorem d_X9_some_242 : dec m_X9_some 242 = .ok (.iushr, 1) := by decide +kernel
theorem d_X9_some_243 : dec m_X9_some 243 = .ok (.iconst 4, 1) := by decide +kernel
theorem d_X9_some_244 : dec m_X9_some 244 = .ok (.irem, 1) := by decide +kernel
theorem d_X9_some_245 : dec m_X9_some 245 = .ok (.putfield 36, 3) := by decide +kernel
theorem d_X9_some_248 : dec m_X9_some 248 = .ok (.aload 4, 2) := by decide +kernel
theorem d_X9_some_250 : dec m_X9_some 250 = .ok (.areturn, 1) := by decide +kernel
theorem d_X10_init_0 : dec m_X10_init 0 = .ok (.aload_n 0, 1) := by decide +kernel
theorem d_X10_init_1 : dec m_X10_init 1 = .ok (.invokespecial 1, 3) := by decide +kernel
theorem d_X10_init_4 : dec m_X10_init 4 = .ok (.aload_n 0, 1) := by decide +kernel
theorem d_X10_init_5 : dec m_X10_init 5 = .ok (.bipush 81, 2) := by decide +kernel
theorem d_X10_init_7 : dec m_X10_init 7 = .ok (.anewarray 7, 3) := by decide +kernel
theorem d_X10_init_10 : dec m_X10_init 10 = .ok (.putfield 9, 3) := by decide +kernel
theorem d_X10_init_13 : dec m_X10_init 13 = .ok (.aload_n 0, 1) := by decide +kernel
theorem d_X10_init_14 : dec m_X10_init 14 = .ok (.bipush 81, 2) := by decide +kernel
theorem d_X10_init_16 : dec m_X10_init 16 = .ok (.anewarray 7, 3) := by decide +kernel
theorem d_X10_init_19 : dec m_X10_init 19 = .ok (.putfield 15, 3) := by decide +kernel
theorem d_X10_init_22 : dec m_X10_init 22 = .ok (.iconst 0, 1) := by decide +kernel
theorem d_X10_init_23 : dec m_X10_init 23 = .ok (.istore 4, 2) := by decide +kernel
theorem d_X10_init_25 : dec m_X10_init 25 = .ok (.iload 4, 2) := by decide +kernel
theorem d_X10_init_27 : dec m_X10_init 27 = .ok (.aload_n 1, 1) := by decide +kernel
theorem d_X10_init_28 : dec m_X10_init 28 = .ok (.getfield 18, 3) := by decide +kernel
theorem d_X10_init_31 : dec m_X10_init 31 = .ok (.if_icmp .ge 162, 3) := by decide +kernel
theorem d_X10_init_34 : dec m_X10_init 34 = .ok (.iload_n 2, 1) := by decide +kernel
theorem d_X10_init_35 : dec m_X10_init 35 = .ok (.aload_n 1, 1) := by decide +kernel
theorem d_X10_init_36 : dec m_X10_init 36 = .ok (.getfield 24, 3) := by decide +kernel
theorem d_X10_init_39 : dec m_X10_init 39 = .ok (.iload 4, 2) := by decide +kernel
theorem d_X10_init_41 : dec m_X10_init 41 = .ok (.iaload, 1) := by decide +kernel
theorem d_X10_init_42 : dec m_X10_init 42 = .ok (.ishr, 1) := by decide +kernel
theorem d_X10_init_43 : dec m_X10_init 43 = .ok (.iconst 1, 1) := by decide +kernel
theorem d_X10_init_44 : dec m_X10_init 44 = .ok (.iand, 1) := by decide +kernel
theorem d_X10_init_45 : dec m_X10_init 45 = .ok (.ifCond .eq 142, 3) := by decide +kernel
theorem d_X10_init_48 : dec m_X10_init 48 = .ok (.iload 4, 2) := by decide +kernel
theorem d_X10_init_50 : dec m_X10_init 50 = .ok (.iload_n 3, 1) := by decide +kernel
theorem d_X10_init_51 : dec m_X10_init 51 = .ok (.if_icmp .ne 6, 3) := by decide +kernel
theorem d_X10_init_54 : dec m_X10_init 54 = .ok (.goto 133, 3) := by decide +kernel
theorem d_X10_init_57 : dec m_X10_init 57 = .ok (.iconst 0, 1) := by decide +kernel
theorem d_X10_init_58 : dec m_X10_init 58 = .ok (.istore 5, 2) := by decide +kernel
theorem d_X10_init_60 : dec m_X10_init 60 = .ok (.iload 5, 2) := by decide +kernel
theorem d_X10_init_62 : dec m_X10_init 62 = .ok (.aload_n 1, 1) := by decide +kernel
theorem d_X10_init_63 : dec m_X10_init 63 = .ok (.getfield 27, 3) := by decide +kernel
theorem d_X10_init_66 : dec m_X10_init 66 = .ok (.iload 4, 2) := by decide +kernel
theorem d_X10_init_68 : dec m_X10_init 68 = .ok (.aaload, 1) := by decide +kernel
theorem d_X10_init_69 : dec m_X10_init 69 = .ok (.arraylength, 1) := by decide +kernel
theorem d_X10_init_70 : dec m_X10_init 70 = .ok (.if_icmp .ge 117, 3) := by decide +kernel
theorem d_X10_init_73 : dec m_X10_init 73 = .ok (.aload_n 1, 1) := by decide +kernel
theorem d_X10_init_74 : dec m_X10_init 74 = .ok (.getfield 30, 3) := by decide +kernel
theorem d_X10_init_77 : dec m_X10_init 77 = .ok (.iload 4, 2) := by decide +kernel
theorem d_X10_init_79 : dec m_X10_init 79 = .ok (.baload, 1) := by decide +kernel
theorem d_X10_init_80 : dec m_X10_init 80 = .ok (.ifCond .eq 56, 3) := by decide +kernel
theorem d_X10_init_83 : dec m_X10_init 83 = .ok (.aload_n 0, 1) := by decide +kernel
theorem d_X10_init_84 : dec m_X10_init 84 = .ok (.getfield 15, 3) := by decide +kernel
theorem d_X10_init_87 : dec m_X10_init 87 = .ok (.aload_n 0, 1) := by decide +kernel
theorem d_X10_init_88 : dec m_X10_init 88 = .ok (.getfield 34, 3) := by decide +kernel
theorem d_X10_init_91 : dec m_X10_init 91 = .ok (.iconst 3, 1) := by decide +kernel
theorem d_X10_init_92 : dec m_X10_init 92 = .ok (.newarray .int, 2) := by decide +kernel
theorem d_X10_init_94 : dec m_X10_init 94 = .ok (.dup, 1) := by decide +kernel
theorem d_X10_init_95 : dec m_X10_init 95 = .ok (.iconst 0, 1) := by decide +kernel
theorem d_X10_init_96 : dec m_X10_init 96 = .ok (.iload 4, 2) := by decide +kernel
theorem d_X10_init_98 : dec m_X10_init 98 = .ok (.iastore, 1) := by decide +kernel
theorem d_X10_init_99 : dec m_X10_init 99 = .ok (.dup, 1) := by decide +kernel
theorem d_X10_init_100 : dec m_X10_init 100 = .ok (.iconst 1, 1) := by decide +kernel
theorem d_X10_init_101 : dec m_X10_init 101 = .ok (.iload 5, 2) := by decide +kernel
theorem d_X10_init_103 : dec m_X10_init 103 = .ok (.iastore, 1) := by decide +kernel
theorem d_X10_init_104 : dec m_X10_init 104 = .ok (.dup, 1) := by decide +kernel
theorem d_X10_init_105 : dec m_X10_init 105 = .ok (.iconst 2, 1) := by decide +kernel
theorem d_X10_init_106 : dec m_X10_init 106 = .ok (.aload_n 1, 1) := by decide +kernel
theorem d_X10_init_107 : dec m_X10_init 107 = .ok (.getfield 27, 3) := by decide +kernel
theorem d_X10_init_110 : dec m_X10_init 110 = .ok (.iload 4, 2) := by decide +kernel
theorem d_X10_init_112 : dec m_X10_init 112 = .ok (.aaload, 1) := by decide +kernel
theorem d_X10_init_113 : dec m_X10_init 113 = .ok (.iload 5, 2) := by decide +kernel
theorem d_X10_init_115 : dec m_X10_init 115 = .ok (.iaload, 1) := by decide +kernel
theorem d_X10_init_116 : dec m_X10_init 116 = .ok (.aload_n 1, 1) := by decide +kernel
theorem d_X10_init_117 : dec m_X10_init 117 = .ok (.getfield 37, 3) := by decide +kernel
theorem d_X10_init_120 : dec m_X10_init 120 = .ok (.iadd, 1) := by decide +kernel
theorem d_X10_init_121 : dec m_X10_init 121 = .ok (.iastore, 1) := by decide +kernel
theorem d_X10_init_122 : dec m_X10_init 122 = .ok (.aastore, 1) := by decide +kernel
theorem d_X10_init_123 : dec m_X10_init 123 = .ok (.aload_n 0, 1) := by decide +kernel
theorem d_X10_init_124 : dec m_X10_init 124 = .ok (.dup, 1) := by decide +kernel
theorem d_X10_init_125 : dec m_X10_init 125 = .ok (.getfield 34, 3) := by decide +kernel
theorem d_X10_init_128 : dec m_X10_init 128 = .ok (.iconst 1, 1) := by decide +kernel
theorem d_X10_init_129 : dec m_X10_init 129 = .ok (.iadd, 1) := by decide +kernel
theorem d_X10_init_130 : dec m_X10_init 130 = .ok (.putfield 34, 3) := by decide +kernel
theorem d_X10_init_133 : dec m_X10_init 133 = .ok (.goto 48, 3) := by decide +kernel
theorem d_X10_init_136 : dec m_X10_init 136 = .ok (.aload_n 0, 1) := by decide +kernel
theorem d_X10_init_137 : dec m_X10_init 137 = .ok (.getfield 9, 3) := by decide +kernel
theorem d_X10_init_140 : dec m_X10_init 140 = .ok (.aload_n 0, 1) := by decide +kernel
theorem d_X10_init_141 : dec m_X10_init 141 = .ok (.getfield 40, 3) := by decide +kernel
theorem d_X10_init_144 : dec m_X10_init 144 = .ok (.iconst 3, 1) := by decide +kernel
theorem d_X10_init_145 : dec m_X10_init 145 = .ok (.newarray .int, 2) := by decide +kernel
theorem d_X10_init_147 : dec m_X10_init 147 = .ok (.dup, 1) := by decide +kernel
theorem d_X10_init_148 : dec m_X10_init 148 = .ok (.iconst 0, 1) := by decide +kernel
theorem d_X10_init_149 : dec m_X10_init 149 = .ok (.iload 4, 2) := by decide +kernel
theorem d_X10_init_151 : dec m_X10_init 151 = .ok (.iastore, 1) := by decide +kernel
theorem d_X10_init_152 : dec m_X10_init 152 = .ok (.dup, 1) := by decide +kernel
theorem d_X10_init_153 : dec m_X10_init 153 = .ok (.iconst 1, 1) := by decide +kernel
theorem d_X10_init_154 : dec m_X10_init 154 = .ok (.iload 5, 2) := by decide +kernel
theorem d_X10_init_156 : dec m_X10_init 156 = .ok (.iastore, 1) := by decide +kernel
theorem d_X10_init_157 : dec m_X10_init 157 = .ok (.dup, 1) := by decide +kernel
theorem d_X10_init_158 : dec m_X10_init 158 = .ok (.iconst 2, 1) := by decide +kernel
theorem d_X10_init_159 : dec m_X10_init 159 = .ok (.aload_n 1, 1) := by decide +kernel
theorem d_X10_init_160 : dec m_X10_init 160 = .ok (.getfield 27, 3) := by decide +kernel
theorem d_X10_init_163 : dec m_X10_init 163 = .ok (.iload 4, 2) := by decide +kernel
theorem d_X10_init_165 : dec m_X10_init 165 = .ok (.aaload, 1) := by decide +kernel
theorem d_X10_init_166 : dec m_X10_init 166 = .ok (.iload 5, 2) := by decide +kernel
theorem d_X10_init_168 : dec m_X10_init 168 = .ok (.iaload, 1) := by decide +kernel
theorem d_X10_init_169 : dec m_X10_init 169 = .ok (.iastore, 1) := by decide +kernel
theorem d_X10_init_170 : dec m_X10_init 170 = .ok (.aastore, 1) := by decide +kernel
theorem d_X10_init_171 : dec m_X10_init 171 = .ok (.aload_n 0, 1) := by decide +kernel
theorem d_X10_init_172 : dec m_X10_init 172 = .ok (.dup, 1) := by decide +kernel
theorem d_X10_init_173 : dec m_X10_init 173 = .ok (.getfield 40, 3) := by decide +kernel
theorem d_X10_init_176 : dec m_X10_init 176 = .ok (.iconst 1, 1) := by decide +kernel
theorem d_X10_init_177 : dec m_X10_init 177 = .ok (.iadd, 1) := by decide +kernel
theorem d_X10_init_178 : dec m_X10_init 178 = .ok (.putfield 40, 3) := by decide +kernel
theorem d_X10_init_181 : dec m_X10_init 181 = .ok (.iinc 5 1, 3) := by decide +kernel
theorem d_X10_init_184 : dec m_X10_init 184 = .ok (.goto (-124), 3) := by decide +kernel
theorem d_X10_init_187 : dec m_X10_init 187 = .ok (.iinc 4 1, 3) := by decide +kernel
theorem d_X10_init_190 : dec m_X10_init 190 = .ok (.goto (-165), 3) := by decide +kernel
theorem d_X10_init_193 : dec m_X10_init 193 = .ok (.aload_n 0, 1) := by decide +kernel
theorem d_X10_init_194 : dec m_X10_init 194 = .ok (.getfield 9, 3) := by decide +kernel
theorem d_X10_init_197 : dec m_X10_init 197 = .ok (.aload_n 0, 1) := by decide +kernel
theorem d_X10_init_198 : dec m_X10_init 198 = .ok (.getfield 40, 3) := by decide +kernel
theorem d_X10_init_201 : dec m_X10_init 201 = .ok (.iconst (-1), 1) := by decide +kernel
theorem d_X10_init_202 : dec m_X10_init 202 = .ok (.invokestatic 43, 3) := by decide +kernel
theorem d_X10_init_205 : dec m_X10_init 205 = .ok (.aload_n 0, 1) := by decide +kernel
theorem d_X10_init_206 : dec m_X10_init 206 = .ok (.getfield 15, 3) := by decide +kernel
theorem d_X10_init_209 : dec m_X10_init 209 = .ok (.aload_n 0, 1) := by decide +kernel
theorem d_X10_init_210 : dec m_X10_init 210 = .ok (.getfield 34, 3) := by decide +kernel
theorem d_X10_init_213 : dec m_X10_init 213 = .ok (.iconst 1, 1) := by decide +kernel
theorem d_X10_init_214 : dec m_X10_init 214 = .ok (.invokestatic 43, 3) := by decide +kernel
theorem d_X10_init_217 : dec m_X10_init 217 = .ok (.iconst 0, 1) := by decide +kernel
theorem d_X10_init_218 : dec m_X10_init 218 = .ok (.istore 4, 2) := by decide +kernel
theorem d_X10_init_220 : dec m_X10_init 220 = .ok (.iload 4, 2) := by decide +kernel
theorem d_X10_init_222 : dec m_X10_init 222 = .ok (.aload_n 0, 1) := by decide +kernel
theorem d_X10_init_223 : dec m_X10_init 223 = .ok (.getfield 40, 3) := by decide +kernel
theorem d_X10_init_226 : dec m_X10_init 226 = .ok (.if_icmp .ge 77, 3) := by decide +kernel
theorem d_X10_init_229 : dec m_X10_init 229 = .ok (.iload 4, 2) := by decide +kernel
theorem d_X10_init_231 : dec m_X10_init 231 = .ok (.aload_n 0, 1) := by decide +kernel
theorem d_X10_init_232 : dec m_X10_init 232 = .ok (.getfield 34, 3) := by decide +kernel
theorem d_X10_init_235 : dec m_X10_init 235 = .ok (.if_icmp .ge 68, 3) := by decide +kernel
theorem d_X10_init_238 : dec m_X10_init 238 = .ok (.aload_n 0, 1) := by decide +kernel
theorem d_X10_init_239 : dec m_X10_init 239 = .ok (.getfield 9, 3) := by decide +kernel
theorem d_X10_init_242 : dec m_X10_init 242 = .ok (.iload 4, 2) := by decide +kernel
theorem d_X10_init_244 : dec m_X10_init 244 = .ok (.aaload, 1) := by decide +kernel
theorem d_X10_init_245 : dec m_X10_init 245 = .ok (.iconst 2, 1) := by decide +kernel
theorem d_X10_init_246 : dec m_X10_init 246 = .ok (.iaload, 1) := by decide +kernel
theorem d_X10_init_247 : dec m_X10_init 247 = .ok (.aload_n 0, 1) := by decide +kernel
theorem d_X10_init_248 : dec m_X10_init 248 = .ok (.getfield 15, 3) := by decide +kernel
theorem d_X10_init_251 : dec m_X10_init 251 = .ok (.iload 4, 2) := by decide +kernel
theorem d_X10_init_253 : dec m_X10_init 253 = .ok (.aaload, 1) := by decide +kernel
theorem d_X10_init_254 : dec m_X10_init 254 = .ok (.iconst 2, 1) := by decide +kernel
theorem d_X10_init_255 : dec m_X10_init 255 = .ok (.iaload, 1) := by decide +kernel
theorem d_X10_init_256 : dec m_X10_init 256 = .ok (.if_icmp .lt 47, 3) := by decide +kernel
theorem d_X10_init_259 : dec m_X10_init 259 = .ok (.aload_n 0, 1) := by decide +kernel
theorem d_X10_init_260 : dec m_X10_init 260 = .ok (.dup, 1) := by decide +kernel
theorem d_X10_init_261 : dec m_X10_init 261 = .ok (.getfield 47, 3) := by decide +kernel
theorem d_X10_init_264 : dec m_X10_init 264 = .ok (.aload_n 0, 1) := by decide +kernel
theorem d_X10_init_265 : dec m_X10_init 265 = .ok (.getfield 9, 3) := by decide +kernel
theorem d_X10_init_268 : dec m_X10_init 268 = .ok (.iload 4, 2) := by decide +kernel
theorem d_X10_init_270 : dec m_X10_init 270 = .ok (.aaload, 1) := by decide +kernel
theorem d_X10_init_271 : dec m_X10_init 271 = .ok (.iconst 2, 1) := by decide +kernel
theorem d_X10_init_272 : dec m_X10_init 272 = .ok (.iaload, 1) := by decide +kernel
theorem d_X10_init_273 : dec m_X10_init 273 = .ok (.aload_n 0, 1) := by decide +kernel
theorem d_X10_init_274 : dec m_X10_init 274 = .ok (.getfield 15, 3) := by decide +kernel
theorem d_X10_init_277 : dec m_X10_init 277 = .ok (.iload 4, 2) := by decide +kernel
theorem d_X10_init_279 : dec m_X10_init 279 = .ok (.aaload, 1) := by decide +kernel
theorem d_X10_init_280 : dec m_X10_init 280 = .ok (.iconst 2, 1) := by decide +kernel
theorem d_X10_init_281 : dec m_X10_init 281 = .ok (.iaload, 1) := by decide +kernel
theorem d_X10_init_282 : dec m_X10_init 282 = .ok (.isub, 1) := by decide +kernel
theorem d_X10_init_283 : dec m_X10_init 283 = .ok (.iadd, 1) := by decide +kernel
theorem d_X10_init_284 : dec m_X10_init 284 = .ok (.putfield 47, 3) := by decide +kernel
theorem d_X10_init_287 : dec m_X10_init 287 = .ok (.aload_n 0, 1) := by decide +kernel
theorem d_X10_init_288 : dec m_X10_init 288 = .ok (.dup, 1) := by decide +kernel
theorem d_X10_init_289 : dec m_X10_init 289 = .ok (.getfield 50, 3) := by decide +kernel
theorem d_X10_init_292 : dec m_X10_init 292 = .ok (.iconst 1, 1) := by decide +kernel
theorem d_X10_init_293 : dec m_X10_init 293 = .ok (.iadd, 1) := by decide +kernel
theorem d_X10_init_294 : dec m_X10_init 294 = .ok (.putfield 50, 3) := by decide +kernel
theorem d_X10_init_297 : dec m_X10_init 297 = .ok (.iinc 4 1, 3) := by decide +kernel
theorem d_X10_init_300 : dec m_X10_init 300 = .ok (.goto (-80), 3) := by decide +kernel
theorem d_X10_init_303 : dec m_X10_init 303 = .ok (.return_, 1) := by decide +kernel
theorem d_X10_orders_0 : dec m_X10_orders 0 = .ok (.iconst 0, 1) := by decide +kernel
theorem d_X10_orders_1 : dec m_X10_orders 1 = .ok (.istore_n 3, 1) := by decide +kernel
theorem d_X10_orders_2 : dec m_X10_orders 2 = .ok (.iload_n 3, 1) := by decide +kernel
theorem d_X10_orders_3 : dec m_X10_orders 3 = .ok (.iload_n 1, 1) := by decide +kernel
theorem d_X10_orders_4 : dec m_X10_orders 4 = .ok (.if_icmp .ge 74, 3) := by decide +kernel
theorem d_X10_orders_7 : dec m_X10_orders 7 = .ok (.iconst 0, 1) := by decide +kernel
theorem d_X10_orders_8 : dec m_X10_orders 8 = .ok (.istore 4, 2) := by decide +kernel
theorem d_X10_orders_10 : dec m_X10_orders 10 = .ok (.iload 4, 2) := by decide +kernel
theorem d_X10_orders_12 : dec m_X10_orders 12 = .ok (.iconst 1, 1) := by decide +kernel
theorem d_X10_orders_13 : dec m_X10_orders 13 = .ok (.iadd, 1) := by decide +kernel
theorem d_X10_orders_14 : dec m_X10_orders 14 = .ok (.iload_n 1, 1) := by decide +kernel
theorem d_X10_orders_15 : dec m_X10_orders 15 = .ok (.if_icmp .ge 57, 3) := by decide +kernel
theorem d_X10_orders_18 : dec m_X10_orders 18 = .ok (.iload_n 2, 1) := by decide +kernel
theorem d_X10_orders_19 : dec m_X10_orders 19 = .ok (.aload_n 0, 1) := by decide +kernel
theorem d_X10_orders_20 : dec m_X10_orders 20 = .ok (.iload 4, 2) := by decide +kernel
theorem d_X10_orders_22 : dec m_X10_orders 22 = .ok (.aaload, 1) := by decide +kernel
theorem d_X10_orders_23 : dec m_X10_orders 23 = .ok (.iconst 2, 1) := by decide +kernel
theorem d_X10_orders_24 : dec m_X10_orders 24 = .ok (.iaload, 1) := by decide +kernel
theorem d_X10_orders_25 : dec m_X10_orders 25 = .ok (.imul, 1) := by decide +kernel
theorem d_X10_orders_26 : dec m_X10_orders 26 = .ok (.iload_n 2, 1) := by decide +kernel
theorem d_X10_orders_27 : dec m_X10_orders 27 = .ok (.aload_n 0, 1) := by decide +kernel
theorem d_X10_orders_28 : dec m_X10_orders 28 = .ok (.iload 4, 2) := by decide +kernel
theorem d_X10_orders_30 : dec m_X10_orders 30 = .ok (.iconst 1, 1) := by decide +kernel
theorem d_X10_orders_31 : dec m_X10_orders 31 = .ok (.iadd, 1) := by decide +kernel
theorem d_X10_orders_32 : dec m_X10_orders 32 = .ok (.aaload, 1) := by decide +kernel
theorem d_X10_orders_33 : dec m_X10_orders 33 = .ok (.iconst 2, 1) := by decide +kernel
theorem d_X10_orders_34 : dec m_X10_orders 34 = .ok (.iaload, 1) := by decide +kernel
theorem d_X10_orders_35 : dec m_X10_orders 35 = .ok (.imul, 1) := by decide +kernel
theorem d_X10_orders_36 : dec m_X10_orders 36 = .ok (.if_icmp .gt 6, 3) := by decide +kernel
theorem d_X10_orders_39 : dec m_X10_orders 39 = .ok (.goto 27, 3) := by decide +kernel
theorem d_X10_orders_42 : dec m_X10_orders 42 = .ok (.aload_n 0, 1) := by decide +kernel
theorem d_X10_orders_43 : dec m_X10_orders 43 = .ok (.iload 4, 2) := by decide +kernel
theorem d_X10_orders_45 : dec m_X10_orders 45 = .ok (.aaload, 1) := by decide +kernel
theorem d_X10_orders_46 : dec m_X10_orders 46 = .ok (.astore 5, 2) := by decide +kernel
theorem d_X10_orders_48 : dec m_X10_orders 48 = .ok (.aload_n 0, 1) := by decide +kernel
theorem d_X10_orders_49 : dec m_X10_orders 49 = .ok (.iload 4, 2) := by decide +kernel
theorem d_X10_orders_51 : dec m_X10_orders 51 = .ok (.aload_n 0, 1) := by decide +kernel
theorem d_X10_orders_52 : dec m_X10_orders 52 = .ok (.iload 4, 2) := by decide +kernel
theorem d_X10_orders_54 : dec m_X10_orders 54 = .ok (.iconst 1, 1) := by decide +kernel
theorem d_X10_orders_55 : dec m_X10_orders 55 = .ok (.iadd, 1) := by decide +kernel
theorem d_X10_orders_56 : dec m_X10_orders 56 = .ok (.aaload, 1) := by decide +kernel
theorem d_X10_orders_57 : dec m_X10_orders 57 = .ok (.aastore, 1) := by decide +kernel
theorem d_X10_orders_58 : dec m_X10_orders 58 = .ok (.aload_n 0, 1) := by decide +kernel
theorem d_X10_orders_59 : dec m_X10_orders 59 = .ok (.iload 4, 2) := by decide +kernel
theorem d_X10_orders_61 : dec m_X10_orders 61 = .ok (.iconst 1, 1) := by decide +kernel
theorem d_X10_orders_62 : dec m_X10_orders 62 = .ok (.iadd, 1) := by decide +kernel
theorem d_X10_orders_63 : dec m_X10_orders 63 = .ok (.aload 5, 2) := by decide +kernel
theorem d_X10_orders_65 : dec m_X10_orders 65 = .ok (.aastore, 1) := by decide +kernel
theorem d_X10_orders_66 : dec m_X10_orders 66 = .ok (.iinc 4 1, 3) := by decide +kernel
theorem d_X10_orders_69 : dec m_X10_orders 69 = .ok (.goto (-59), 3) := by decide +kernel
theorem d_X10_orders_72 : dec m_X10_orders 72 = .ok (.iinc 3 1, 3) := by decide +kernel
theorem d_X10_orders_75 : dec m_X10_orders 75 = .ok (.goto (-73), 3) := by decide +kernel
theorem d_X10_orders_78 : dec m_X10_orders 78 = .ok (.return_, 1) := by decide +kernel
theorem d_X10_by_0 : dec m_X10_by 0 = .ok (.aload_n 0, 1) := by decide +kernel
theorem d_X10_by_1 : dec m_X10_by 1 = .ok (.iconst 0, 1) := by decide +kernel
theorem d_X10_by_2 : dec m_X10_by 2 = .ok (.putfield 53, 3) := by decide +kernel
theorem d_X10_by_5 : dec m_X10_by 5 = .ok (.aload_n 0, 1) := by decide +kernel
theorem d_X10_by_6 : dec m_X10_by 6 = .ok (.getfield 50, 3) := by decide +kernel
theorem d_X10_by_9 : dec m_X10_by 9 = .ok (.ifCond .ne 5, 3) := by decide +kernel
theorem d_X10_by_12 : dec m_X10_by 12 = .ok (.aload_n 0, 1) := by decide +kernel
theorem d_X10_by_13 : dec m_X10_by 13 = .ok (.areturn, 1) := by decide +kernel
theorem d_X10_by_14 : dec m_X10_by 14 = .ok (.aload_n 0, 1) := by decide +kernel
theorem d_X10_by_15 : dec m_X10_by 15 = .ok (.getfield 9, 3) := by decide +kernel
theorem d_X10_by_18 : dec m_X10_by 18 = .ok (.aload_n 0, 1) := by decide +kernel
theorem d_X10_by_19 : dec m_X10_by 19 = .ok (.getfield 50, 3) := by decide +kernel
theorem d_X10_by_22 : dec m_X10_by 22 = .ok (.iconst 1, 1) := by decide +kernel
theorem d_X10_by_23 : dec m_X10_by 23 = .ok (.isub, 1) := by decide +kernel
theorem d_X10_by_24 : dec m_X10_by 24 = .ok (.aaload, 1) := by decide +kernel
theorem d_X10_by_25 : dec m_X10_by 25 = .ok (.iconst 2, 1) := by decide +kernel
theorem d_X10_by_26 : dec m_X10_by 26 = .ok (.iaload, 1) := by decide +kernel
theorem d_X10_by_27 : dec m_X10_by 27 = .ok (.istore_n 3, 1) := by decide +kernel
theorem d_X10_by_28 : dec m_X10_by 28 = .ok (.aload_n 0, 1) := by decide +kernel
theorem d_X10_by_29 : dec m_X10_by 29 = .ok (.getfield 15, 3) := by decide +kernel
theorem d_X10_by_32 : dec m_X10_by 32 = .ok (.aload_n 0, 1) := by decide +kernel
theorem d_X10_by_33 : dec m_X10_by 33 = .ok (.getfield 50, 3) := by decide +kernel
theorem d_X10_by_36 : dec m_X10_by 36 = .ok (.iconst 1, 1) := by decide +kernel
theorem d_X10_by_37 : dec m_X10_by 37 = .ok (.isub, 1) := by decide +kernel
theorem d_X10_by_38 : dec m_X10_by 38 = .ok (.aaload, 1) := by decide +kernel
theorem d_X10_by_39 : dec m_X10_by 39 = .ok (.iconst 2, 1) := by decide +kernel
theorem d_X10_by_40 : dec m_X10_by 40 = .ok (.iaload, 1) := by decide +kernel
theorem d_X10_by_41 : dec m_X10_by 41 = .ok (.istore 4, 2) := by decide +kernel
theorem d_X10_by_43 : dec m_X10_by 43 = .ok (.aload_n 0, 1) := by decide +kernel
theorem d_X10_by_44 : dec m_X10_by 44 = .ok (.getfield 40, 3) := by decide +kernel
theorem d_X10_by_47 : dec m_X10_by 47 = .ok (.aload_n 0, 1) := by decide +kernel
theorem d_X10_by_48 : dec m_X10_by 48 = .ok (.getfield 50, 3) := by decide +kernel
theorem d_X10_by_51 : dec m_X10_by 51 = .ok (.if_icmp .le 18, 3) := by decide +kernel
theorem d_X10_by_54 : dec m_X10_by 54 = .ok (.aload_n 0, 1) := by decide +kernel
theorem d_X10_by_55 : dec m_X10_by 55 = .ok (.getfield 34, 3) := by decide +kernel
theorem d_X10_by_58 : dec m_X10_by 58 = .ok (.aload_n 0, 1) := by decide +kernel
theorem d_X10_by_59 : dec m_X10_by 59 = .ok (.getfield 50, 3) := by decide +kernel
theorem d_X10_by_62 : dec m_X10_by 62 = .ok (.if_icmp .le 7, 3) := by decide +kernel
theorem d_X10_by_65 : dec m_X10_by 65 = .ok (.iconst 1, 1) := by decide +kernel
theorem d_X10_by_66 : dec m_X10_by 66 = .ok (.goto 4, 3) := by decide +kernel
theorem d_X10_by_69 : dec m_X10_by 69 = .ok (.iconst 0, 1) := by decide +kernel
theorem d_X10_by_70 : dec m_X10_by 70 = .ok (.istore 5, 2) := by decide +kernel
theorem d_X10_by_72 : dec m_X10_by 72 = .ok (.iload_n 1, 1) := by decide +kernel
theorem d_X10_by_73 : dec m_X10_by 73 = .ok (.ifCond .ne 36, 3) := by decide +kernel
theorem d_X10_by_76 : dec m_X10_by 76 = .ok (.iload 5, 2) := by decide +kernel
theorem d_X10_by_78 : dec m_X10_by 78 = .ok (.ifCond .eq 31, 3) := by decide +kernel
theorem d_X10_by_81 : dec m_X10_by 81 = .ok (.aload_n 0, 1) := by decide +kernel
theorem d_X10_by_82 : dec m_X10_by 82 = .ok (.getfield 9, 3) := by decide +kernel
theorem d_X10_by_85 : dec m_X10_by 85 = .ok (.aload_n 0, 1) := by decide +kernel
theorem d_X10_by_86 : dec m_X10_by 86 = .ok (.getfield 50, 3) := by decide +kernel
theorem d_X10_by_89 : dec m_X10_by 89 = .ok (.aaload, 1) := by decide +kernel
theorem d_X10_by_90 : dec m_X10_by 90 = .ok (.iconst 2, 1) := by decide +kernel
theorem d_X10_by_91 : dec m_X10_by 91 = .ok (.iaload, 1) := by decide +kernel
theorem d_X10_by_92 : dec m_X10_by 92 = .ok (.aload_n 0, 1) := by decide +kernel
theorem d_X10_by_93 : dec m_X10_by 93 = .ok (.getfield 15, 3) := by decide +kernel
theorem d_X10_by_96 : dec m_X10_by 96 = .ok (.aload_n 0, 1) := by decide +kernel
theorem d_X10_by_97 : dec m_X10_by 97 = .ok (.getfield 50, 3) := by decide +kernel
theorem d_X10_by_100 : dec m_X10_by 100 = .ok (.aaload, 1) := by decide +kernel
theorem d_X10_by_101 : dec m_X10_by 101 = .ok (.iconst 2, 1) := by decide +kernel
theorem d_X10_by_102 : dec m_X10_by 102 = .ok (.iaload, 1) := by decide +kernel
theorem d_X10_by_103 : dec m_X10_by 103 = .ok (.iadd, 1) := by decide +kernel
