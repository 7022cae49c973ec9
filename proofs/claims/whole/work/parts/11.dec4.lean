set_option maxRecDepth 100000
theorem d_X9_shelves_18 : dec m_X9_shelves 18 = .ok (.iconst 1, 1) := by decide +kernel
theorem d_X9_shelves_19 : dec m_X9_shelves 19 = .ok (.baload, 1) := by decide +kernel
theorem d_X9_shelves_20 : dec m_X9_shelves 20 = .ok (.ifCond .eq 7, 3) := by decide +kernel
theorem d_X9_shelves_23 : dec m_X9_shelves 23 = .ok (.iconst 2, 1) := by decide +kernel
theorem d_X9_shelves_24 : dec m_X9_shelves 24 = .ok (.goto 4, 3) := by decide +kernel
theorem d_X9_shelves_27 : dec m_X9_shelves 27 = .ok (.iconst 0, 1) := by decide +kernel
theorem d_X9_shelves_28 : dec m_X9_shelves 28 = .ok (.iadd, 1) := by decide +kernel
theorem d_X9_shelves_29 : dec m_X9_shelves 29 = .ok (.ireturn, 1) := by decide +kernel
theorem d_X9_units_0 : dec m_X9_units 0 = .ok (.iconst 0, 1) := by decide +kernel
theorem d_X9_units_1 : dec m_X9_units 1 = .ok (.istore_n 1, 1) := by decide +kernel
theorem d_X9_units_2 : dec m_X9_units 2 = .ok (.iconst 0, 1) := by decide +kernel
theorem d_X9_units_3 : dec m_X9_units 3 = .ok (.istore_n 2, 1) := by decide +kernel
theorem d_X9_units_4 : dec m_X9_units 4 = .ok (.iload_n 2, 1) := by decide +kernel
theorem d_X9_units_5 : dec m_X9_units 5 = .ok (.aload_n 0, 1) := by decide +kernel
theorem d_X9_units_6 : dec m_X9_units 6 = .ok (.invokevirtual 78, 3) := by decide +kernel
theorem d_X9_units_9 : dec m_X9_units 9 = .ok (.if_icmp .ge 18, 3) := by decide +kernel
theorem d_X9_units_12 : dec m_X9_units 12 = .ok (.iload_n 1, 1) := by decide +kernel
theorem d_X9_units_13 : dec m_X9_units 13 = .ok (.aload_n 0, 1) := by decide +kernel
theorem d_X9_units_14 : dec m_X9_units 14 = .ok (.iload_n 2, 1) := by decide +kernel
theorem d_X9_units_15 : dec m_X9_units 15 = .ok (.iconst 2, 1) := by decide +kernel
theorem d_X9_units_16 : dec m_X9_units 16 = .ok (.invokevirtual 88, 3) := by decide +kernel
theorem d_X9_units_19 : dec m_X9_units 19 = .ok (.iadd, 1) := by decide +kernel
theorem d_X9_units_20 : dec m_X9_units 20 = .ok (.istore_n 1, 1) := by decide +kernel
theorem d_X9_units_21 : dec m_X9_units 21 = .ok (.iinc 2 1, 3) := by decide +kernel
theorem d_X9_units_24 : dec m_X9_units 24 = .ok (.goto (-20), 3) := by decide +kernel
theorem d_X9_units_27 : dec m_X9_units 27 = .ok (.iload_n 1, 1) := by decide +kernel
theorem d_X9_units_28 : dec m_X9_units 28 = .ok (.ireturn, 1) := by decide +kernel
theorem d_X9_trading_0 : dec m_X9_trading 0 = .ok (.iconst 0, 1) := by decide +kernel
theorem d_X9_trading_1 : dec m_X9_trading 1 = .ok (.istore_n 1, 1) := by decide +kernel
theorem d_X9_trading_2 : dec m_X9_trading 2 = .ok (.iconst 0, 1) := by decide +kernel
theorem d_X9_trading_3 : dec m_X9_trading 3 = .ok (.istore_n 2, 1) := by decide +kernel
theorem d_X9_trading_4 : dec m_X9_trading 4 = .ok (.iload_n 2, 1) := by decide +kernel
theorem d_X9_trading_5 : dec m_X9_trading 5 = .ok (.iconst 4, 1) := by decide +kernel
theorem d_X9_trading_6 : dec m_X9_trading 6 = .ok (.if_icmp .ge 33, 3) := by decide +kernel
theorem d_X9_trading_9 : dec m_X9_trading 9 = .ok (.aload_n 0, 1) := by decide +kernel
theorem d_X9_trading_10 : dec m_X9_trading 10 = .ok (.iconst 1, 1) := by decide +kernel
theorem d_X9_trading_11 : dec m_X9_trading 11 = .ok (.iload_n 2, 1) := by decide +kernel
theorem d_X9_trading_12 : dec m_X9_trading 12 = .ok (.ishl, 1) := by decide +kernel
theorem d_X9_trading_13 : dec m_X9_trading 13 = .ok (.invokevirtual 139, 3) := by decide +kernel
theorem d_X9_trading_16 : dec m_X9_trading 16 = .ok (.iload_n 1, 1) := by decide +kernel
theorem d_X9_trading_17 : dec m_X9_trading 17 = .ok (.aload_n 0, 1) := by decide +kernel
theorem d_X9_trading_18 : dec m_X9_trading 18 = .ok (.getfield 133, 3) := by decide +kernel
theorem d_X9_trading_21 : dec m_X9_trading 21 = .ok (.ifCond .le 9, 3) := by decide +kernel
theorem d_X9_trading_24 : dec m_X9_trading 24 = .ok (.iconst 1, 1) := by decide +kernel
theorem d_X9_trading_25 : dec m_X9_trading 25 = .ok (.iload_n 2, 1) := by decide +kernel
theorem d_X9_trading_26 : dec m_X9_trading 26 = .ok (.ishl, 1) := by decide +kernel
theorem d_X9_trading_27 : dec m_X9_trading 27 = .ok (.goto 4, 3) := by decide +kernel
theorem d_X9_trading_30 : dec m_X9_trading 30 = .ok (.iconst 0, 1) := by decide +kernel
theorem d_X9_trading_31 : dec m_X9_trading 31 = .ok (.ior, 1) := by decide +kernel
theorem d_X9_trading_32 : dec m_X9_trading 32 = .ok (.istore_n 1, 1) := by decide +kernel
theorem d_X9_trading_33 : dec m_X9_trading 33 = .ok (.iinc 2 1, 3) := by decide +kernel
theorem d_X9_trading_36 : dec m_X9_trading 36 = .ok (.goto (-32), 3) := by decide +kernel
theorem d_X9_trading_39 : dec m_X9_trading 39 = .ok (.iload_n 1, 1) := by decide +kernel
theorem d_X9_trading_40 : dec m_X9_trading 40 = .ok (.ireturn, 1) := by decide +kernel
theorem d_X9_count_0 : dec m_X9_count 0 = .ok (.iload_n 1, 1) := by decide +kernel
theorem d_X9_count_1 : dec m_X9_count 1 = .ok (.tableswitch 104 0 8 #[51, 56, 61, 70, 79, 84, 89, 94, 99], 51) := by decide +kernel
theorem d_X9_count_52 : dec m_X9_count 52 = .ok (.aload_n 0, 1) := by decide +kernel
theorem d_X9_count_53 : dec m_X9_count 53 = .ok (.invokevirtual 78, 3) := by decide +kernel
theorem d_X9_count_56 : dec m_X9_count 56 = .ok (.ireturn, 1) := by decide +kernel
theorem d_X9_count_57 : dec m_X9_count 57 = .ok (.aload_n 0, 1) := by decide +kernel
theorem d_X9_count_58 : dec m_X9_count 58 = .ok (.invokevirtual 291, 3) := by decide +kernel
theorem d_X9_count_61 : dec m_X9_count 61 = .ok (.ireturn, 1) := by decide +kernel
theorem d_X9_count_62 : dec m_X9_count 62 = .ok (.aload_n 0, 1) := by decide +kernel
theorem d_X9_count_63 : dec m_X9_count 63 = .ok (.getfield 7, 3) := by decide +kernel
theorem d_X9_count_66 : dec m_X9_count 66 = .ok (.sipush 181, 3) := by decide +kernel
theorem d_X9_count_69 : dec m_X9_count 69 = .ok (.iaload, 1) := by decide +kernel
theorem d_X9_count_70 : dec m_X9_count 70 = .ok (.ireturn, 1) := by decide +kernel
theorem d_X9_count_71 : dec m_X9_count 71 = .ok (.aload_n 0, 1) := by decide +kernel
theorem d_X9_count_72 : dec m_X9_count 72 = .ok (.getfield 7, 3) := by decide +kernel
theorem d_X9_count_75 : dec m_X9_count 75 = .ok (.sipush 182, 3) := by decide +kernel
theorem d_X9_count_78 : dec m_X9_count 78 = .ok (.iaload, 1) := by decide +kernel
theorem d_X9_count_79 : dec m_X9_count 79 = .ok (.ireturn, 1) := by decide +kernel
theorem d_X9_count_80 : dec m_X9_count 80 = .ok (.aload_n 0, 1) := by decide +kernel
theorem d_X9_count_81 : dec m_X9_count 81 = .ok (.getfield 294, 3) := by decide +kernel
theorem d_X9_count_84 : dec m_X9_count 84 = .ok (.ireturn, 1) := by decide +kernel
theorem d_X9_count_85 : dec m_X9_count 85 = .ok (.aload_n 0, 1) := by decide +kernel
theorem d_X9_count_86 : dec m_X9_count 86 = .ok (.getfield 297, 3) := by decide +kernel
theorem d_X9_count_89 : dec m_X9_count 89 = .ok (.ireturn, 1) := by decide +kernel
theorem d_X9_count_90 : dec m_X9_count 90 = .ok (.aload_n 0, 1) := by decide +kernel
theorem d_X9_count_91 : dec m_X9_count 91 = .ok (.invokevirtual 300, 3) := by decide +kernel
theorem d_X9_count_94 : dec m_X9_count 94 = .ok (.ireturn, 1) := by decide +kernel
theorem d_X9_count_95 : dec m_X9_count 95 = .ok (.aload_n 0, 1) := by decide +kernel
theorem d_X9_count_96 : dec m_X9_count 96 = .ok (.invokevirtual 303, 3) := by decide +kernel
theorem d_X9_count_99 : dec m_X9_count 99 = .ok (.ireturn, 1) := by decide +kernel
theorem d_X9_count_100 : dec m_X9_count 100 = .ok (.aload_n 0, 1) := by decide +kernel
theorem d_X9_count_101 : dec m_X9_count 101 = .ok (.invokevirtual 279, 3) := by decide +kernel
theorem d_X9_count_104 : dec m_X9_count 104 = .ok (.ireturn, 1) := by decide +kernel
theorem d_X9_count_105 : dec m_X9_count 105 = .ok (.iconst (-1), 1) := by decide +kernel
theorem d_X9_count_106 : dec m_X9_count 106 = .ok (.ireturn, 1) := by decide +kernel
theorem d_X9_spell_0 : dec m_X9_spell 0 = .ok (.aload_n 0, 1) := by decide +kernel
theorem d_X9_spell_1 : dec m_X9_spell 1 = .ok (.getfield 306, 3) := by decide +kernel
theorem d_X9_spell_4 : dec m_X9_spell 4 = .ok (.aload_n 0, 1) := by decide +kernel
theorem d_X9_spell_5 : dec m_X9_spell 5 = .ok (.getfield 309, 3) := by decide +kernel
theorem d_X9_spell_8 : dec m_X9_spell 8 = .ok (.if_icmp .ne 8, 3) := by decide +kernel
theorem d_X9_spell_11 : dec m_X9_spell 11 = .ok (.aload_n 0, 1) := by decide +kernel
theorem d_X9_spell_12 : dec m_X9_spell 12 = .ok (.iload_n 1, 1) := by decide +kernel
theorem d_X9_spell_13 : dec m_X9_spell 13 = .ok (.putfield 312, 3) := by decide +kernel
theorem d_X9_spell_16 : dec m_X9_spell 16 = .ok (.aload_n 0, 1) := by decide +kernel
theorem d_X9_spell_17 : dec m_X9_spell 17 = .ok (.dup, 1) := by decide +kernel
theorem d_X9_spell_18 : dec m_X9_spell 18 = .ok (.getfield 306, 3) := by decide +kernel
theorem d_X9_spell_21 : dec m_X9_spell 21 = .ok (.iconst 1, 1) := by decide +kernel
theorem d_X9_spell_22 : dec m_X9_spell 22 = .ok (.iadd, 1) := by decide +kernel
theorem d_X9_spell_23 : dec m_X9_spell 23 = .ok (.putfield 306, 3) := by decide +kernel
theorem d_X9_spell_26 : dec m_X9_spell 26 = .ok (.return_, 1) := by decide +kernel
theorem d_X9_spellWord_0 : dec m_X9_spellWord 0 = .ok (.iconst 0, 1) := by decide +kernel
theorem d_X9_spellWord_1 : dec m_X9_spellWord 1 = .ok (.istore_n 2, 1) := by decide +kernel
theorem d_X9_spellWord_2 : dec m_X9_spellWord 2 = .ok (.iload_n 2, 1) := by decide +kernel
theorem d_X9_spellWord_3 : dec m_X9_spellWord 3 = .ok (.aload_n 1, 1) := by decide +kernel
theorem d_X9_spellWord_4 : dec m_X9_spellWord 4 = .ok (.invokevirtual 315, 3) := by decide +kernel
theorem d_X9_spellWord_7 : dec m_X9_spellWord 7 = .ok (.if_icmp .ge 18, 3) := by decide +kernel
theorem d_X9_spellWord_10 : dec m_X9_spellWord 10 = .ok (.aload_n 0, 1) := by decide +kernel
theorem d_X9_spellWord_11 : dec m_X9_spellWord 11 = .ok (.aload_n 1, 1) := by decide +kernel
theorem d_X9_spellWord_12 : dec m_X9_spellWord 12 = .ok (.iload_n 2, 1) := by decide +kernel
theorem d_X9_spellWord_13 : dec m_X9_spellWord 13 = .ok (.invokevirtual 320, 3) := by decide +kernel
theorem d_X9_spellWord_16 : dec m_X9_spellWord 16 = .ok (.invokevirtual 324, 3) := by decide +kernel
theorem d_X9_spellWord_19 : dec m_X9_spellWord 19 = .ok (.iinc 2 1, 3) := by decide +kernel
theorem d_X9_spellWord_22 : dec m_X9_spellWord 22 = .ok (.goto (-20), 3) := by decide +kernel
theorem d_X9_spellWord_25 : dec m_X9_spellWord 25 = .ok (.return_, 1) := by decide +kernel
theorem d_X9_spellNumber_0 : dec m_X9_spellNumber 0 = .ok (.iconst 1, 1) := by decide +kernel
theorem d_X9_spellNumber_1 : dec m_X9_spellNumber 1 = .ok (.istore_n 2, 1) := by decide +kernel
theorem d_X9_spellNumber_2 : dec m_X9_spellNumber 2 = .ok (.iload_n 1, 1) := by decide +kernel
theorem d_X9_spellNumber_3 : dec m_X9_spellNumber 3 = .ok (.iload_n 2, 1) := by decide +kernel
theorem d_X9_spellNumber_4 : dec m_X9_spellNumber 4 = .ok (.idiv, 1) := by decide +kernel
theorem d_X9_spellNumber_5 : dec m_X9_spellNumber 5 = .ok (.bipush 10, 2) := by decide +kernel
theorem d_X9_spellNumber_7 : dec m_X9_spellNumber 7 = .ok (.if_icmp .lt 11, 3) := by decide +kernel
theorem d_X9_spellNumber_10 : dec m_X9_spellNumber 10 = .ok (.iload_n 2, 1) := by decide +kernel
theorem d_X9_spellNumber_11 : dec m_X9_spellNumber 11 = .ok (.bipush 10, 2) := by decide +kernel
theorem d_X9_spellNumber_13 : dec m_X9_spellNumber 13 = .ok (.imul, 1) := by decide +kernel
theorem d_X9_spellNumber_14 : dec m_X9_spellNumber 14 = .ok (.istore_n 2, 1) := by decide +kernel
theorem d_X9_spellNumber_15 : dec m_X9_spellNumber 15 = .ok (.goto (-13), 3) := by decide +kernel
theorem d_X9_spellNumber_18 : dec m_X9_spellNumber 18 = .ok (.iload_n 2, 1) := by decide +kernel
theorem d_X9_spellNumber_19 : dec m_X9_spellNumber 19 = .ok (.ifCond .le 24, 3) := by decide +kernel
theorem d_X9_spellNumber_22 : dec m_X9_spellNumber 22 = .ok (.aload_n 0, 1) := by decide +kernel
theorem d_X9_spellNumber_23 : dec m_X9_spellNumber 23 = .ok (.bipush 48, 2) := by decide +kernel
theorem d_X9_spellNumber_25 : dec m_X9_spellNumber 25 = .ok (.iload_n 1, 1) := by decide +kernel
theorem d_X9_spellNumber_26 : dec m_X9_spellNumber 26 = .ok (.iload_n 2, 1) := by decide +kernel
theorem d_X9_spellNumber_27 : dec m_X9_spellNumber 27 = .ok (.idiv, 1) := by decide +kernel
theorem d_X9_spellNumber_28 : dec m_X9_spellNumber 28 = .ok (.bipush 10, 2) := by decide +kernel
theorem d_X9_spellNumber_30 : dec m_X9_spellNumber 30 = .ok (.irem, 1) := by decide +kernel
theorem d_X9_spellNumber_31 : dec m_X9_spellNumber 31 = .ok (.iadd, 1) := by decide +kernel
theorem d_X9_spellNumber_32 : dec m_X9_spellNumber 32 = .ok (.invokevirtual 324, 3) := by decide +kernel
theorem d_X9_spellNumber_35 : dec m_X9_spellNumber 35 = .ok (.iload_n 2, 1) := by decide +kernel
theorem d_X9_spellNumber_36 : dec m_X9_spellNumber 36 = .ok (.bipush 10, 2) := by decide +kernel
theorem d_X9_spellNumber_38 : dec m_X9_spellNumber 38 = .ok (.idiv, 1) := by decide +kernel
theorem d_X9_spellNumber_39 : dec m_X9_spellNumber 39 = .ok (.istore_n 2, 1) := by decide +kernel
theorem d_X9_spellNumber_40 : dec m_X9_spellNumber 40 = .ok (.goto (-22), 3) := by decide +kernel
theorem d_X9_spellNumber_43 : dec m_X9_spellNumber 43 = .ok (.return_, 1) := by decide +kernel
theorem d_X9_parts_0 : dec m_X9_parts 0 = .ok (.aload_n 0, 1) := by decide +kernel
theorem d_X9_parts_1 : dec m_X9_parts 1 = .ok (.getfield 306, 3) := by decide +kernel
theorem d_X9_parts_4 : dec m_X9_parts 4 = .ok (.ifCond .le 9, 3) := by decide +kernel
theorem d_X9_parts_7 : dec m_X9_parts 7 = .ok (.aload_n 0, 1) := by decide +kernel
theorem d_X9_parts_8 : dec m_X9_parts 8 = .ok (.bipush 59, 2) := by decide +kernel
theorem d_X9_parts_10 : dec m_X9_parts 10 = .ok (.invokevirtual 324, 3) := by decide +kernel
theorem d_X9_parts_13 : dec m_X9_parts 13 = .ok (.return_, 1) := by decide +kernel
theorem d_X9_lawWord_0 : dec m_X9_lawWord 0 = .ok (.iload_n 0, 1) := by decide +kernel
theorem d_X9_lawWord_1 : dec m_X9_lawWord 1 = .ok (.tableswitch 39 0 2 #[27, 31, 35], 27) := by decide +kernel
theorem d_X9_lawWord_28 : dec m_X9_lawWord 28 = .ok (.ldc_w 327, 3) := by decide +kernel
theorem d_X9_lawWord_31 : dec m_X9_lawWord 31 = .ok (.areturn, 1) := by decide +kernel
theorem d_X9_lawWord_32 : dec m_X9_lawWord 32 = .ok (.ldc_w 329, 3) := by decide +kernel
theorem d_X9_lawWord_35 : dec m_X9_lawWord 35 = .ok (.areturn, 1) := by decide +kernel
theorem d_X9_lawWord_36 : dec m_X9_lawWord 36 = .ok (.ldc_w 331, 3) := by decide +kernel
theorem d_X9_lawWord_39 : dec m_X9_lawWord 39 = .ok (.areturn, 1) := by decide +kernel
theorem d_X9_lawWord_40 : dec m_X9_lawWord 40 = .ok (.ldc_w 333, 3) := by decide +kernel
theorem d_X9_lawWord_43 : dec m_X9_lawWord 43 = .ok (.areturn, 1) := by decide +kernel
theorem d_X9_spellTrader_0 : dec m_X9_spellTrader 0 = .ok (.aload_n 0, 1) := by decide +kernel
theorem d_X9_spellTrader_1 : dec m_X9_spellTrader 1 = .ok (.invokevirtual 335, 3) := by decide +kernel
theorem d_X9_spellTrader_4 : dec m_X9_spellTrader 4 = .ok (.aload_n 0, 1) := by decide +kernel
theorem d_X9_spellTrader_5 : dec m_X9_spellTrader 5 = .ok (.aload_n 0, 1) := by decide +kernel
theorem d_X9_spellTrader_6 : dec m_X9_spellTrader 6 = .ok (.iload_n 1, 1) := by decide +kernel
theorem d_X9_spellTrader_7 : dec m_X9_spellTrader 7 = .ok (.invokevirtual 122, 3) := by decide +kernel
theorem d_X9_spellTrader_10 : dec m_X9_spellTrader 10 = .ok (.ifCond .eq 9, 3) := by decide +kernel
theorem d_X9_spellTrader_13 : dec m_X9_spellTrader 13 = .ok (.ldc_w 338, 3) := by decide +kernel
theorem d_X9_spellTrader_16 : dec m_X9_spellTrader 16 = .ok (.goto 6, 3) := by decide +kernel
theorem d_X9_spellTrader_19 : dec m_X9_spellTrader 19 = .ok (.ldc_w 340, 3) := by decide +kernel
theorem d_X9_spellTrader_22 : dec m_X9_spellTrader 22 = .ok (.invokevirtual 342, 3) := by decide +kernel
theorem d_X9_spellTrader_25 : dec m_X9_spellTrader 25 = .ok (.aload_n 0, 1) := by decide +kernel
theorem d_X9_spellTrader_26 : dec m_X9_spellTrader 26 = .ok (.aload_n 0, 1) := by decide +kernel
theorem d_X9_spellTrader_27 : dec m_X9_spellTrader 27 = .ok (.iload_n 1, 1) := by decide +kernel
theorem d_X9_spellTrader_28 : dec m_X9_spellTrader 28 = .ok (.iconst 1, 1) := by decide +kernel
theorem d_X9_spellTrader_29 : dec m_X9_spellTrader 29 = .ok (.invokevirtual 88, 3) := by decide +kernel
theorem d_X9_spellTrader_32 : dec m_X9_spellTrader 32 = .ok (.invokevirtual 346, 3) := by decide +kernel
theorem d_X9_spellTrader_35 : dec m_X9_spellTrader 35 = .ok (.iconst 0, 1) := by decide +kernel
theorem d_X9_spellTrader_36 : dec m_X9_spellTrader 36 = .ok (.istore_n 2, 1) := by decide +kernel
theorem d_X9_spellTrader_37 : dec m_X9_spellTrader 37 = .ok (.iload_n 2, 1) := by decide +kernel
theorem d_X9_spellTrader_38 : dec m_X9_spellTrader 38 = .ok (.aload_n 0, 1) := by decide +kernel
theorem d_X9_spellTrader_39 : dec m_X9_spellTrader 39 = .ok (.iload_n 1, 1) := by decide +kernel
theorem d_X9_spellTrader_40 : dec m_X9_spellTrader 40 = .ok (.iconst 2, 1) := by decide +kernel
theorem d_X9_spellTrader_41 : dec m_X9_spellTrader 41 = .ok (.invokevirtual 88, 3) := by decide +kernel
theorem d_X9_spellTrader_44 : dec m_X9_spellTrader 44 = .ok (.if_icmp .ge 27, 3) := by decide +kernel
theorem d_X9_spellTrader_47 : dec m_X9_spellTrader 47 = .ok (.aload_n 0, 1) := by decide +kernel
theorem d_X9_spellTrader_48 : dec m_X9_spellTrader 48 = .ok (.bipush 32, 2) := by decide +kernel
theorem d_X9_spellTrader_50 : dec m_X9_spellTrader 50 = .ok (.invokevirtual 324, 3) := by decide +kernel
theorem d_X9_spellTrader_53 : dec m_X9_spellTrader 53 = .ok (.aload_n 0, 1) := by decide +kernel
theorem d_X9_spellTrader_54 : dec m_X9_spellTrader 54 = .ok (.aload_n 0, 1) := by decide +kernel
theorem d_X9_spellTrader_55 : dec m_X9_spellTrader 55 = .ok (.iload_n 1, 1) := by decide +kernel
theorem d_X9_spellTrader_56 : dec m_X9_spellTrader 56 = .ok (.iconst 3, 1) := by decide +kernel
theorem d_X9_spellTrader_57 : dec m_X9_spellTrader 57 = .ok (.iload_n 2, 1) := by decide +kernel
theorem d_X9_spellTrader_58 : dec m_X9_spellTrader 58 = .ok (.iadd, 1) := by decide +kernel
theorem d_X9_spellTrader_59 : dec m_X9_spellTrader 59 = .ok (.invokevirtual 88, 3) := by decide +kernel
theorem d_X9_spellTrader_62 : dec m_X9_spellTrader 62 = .ok (.invokevirtual 346, 3) := by decide +kernel
theorem d_X9_spellTrader_65 : dec m_X9_spellTrader 65 = .ok (.iinc 2 1, 3) := by decide +kernel
theorem d_X9_spellTrader_68 : dec m_X9_spellTrader 68 = .ok (.goto (-31), 3) := by decide +kernel
theorem d_X9_spellTrader_71 : dec m_X9_spellTrader 71 = .ok (.return_, 1) := by decide +kernel
theorem d_X9_spellAll_0 : dec m_X9_spellAll 0 = .ok (.aload_n 0, 1) := by decide +kernel
theorem d_X9_spellAll_1 : dec m_X9_spellAll 1 = .ok (.iconst 0, 1) := by decide +kernel
theorem d_X9_spellAll_2 : dec m_X9_spellAll 2 = .ok (.putfield 306, 3) := by decide +kernel
theorem d_X9_spellAll_5 : dec m_X9_spellAll 5 = .ok (.aload_n 0, 1) := by decide +kernel
theorem d_X9_spellAll_6 : dec m_X9_spellAll 6 = .ok (.bipush (-2), 2) := by decide +kernel
theorem d_X9_spellAll_8 : dec m_X9_spellAll 8 = .ok (.putfield 312, 3) := by decide +kernel
theorem d_X9_spellAll_11 : dec m_X9_spellAll 11 = .ok (.iconst 0, 1) := by decide +kernel
theorem d_X9_spellAll_12 : dec m_X9_spellAll 12 = .ok (.istore_n 1, 1) := by decide +kernel
theorem d_X9_spellAll_13 : dec m_X9_spellAll 13 = .ok (.iload_n 1, 1) := by decide +kernel
theorem d_X9_spellAll_14 : dec m_X9_spellAll 14 = .ok (.aload_n 0, 1) := by decide +kernel
theorem d_X9_spellAll_15 : dec m_X9_spellAll 15 = .ok (.invokevirtual 78, 3) := by decide +kernel
theorem d_X9_spellAll_18 : dec m_X9_spellAll 18 = .ok (.if_icmp .ge 14, 3) := by decide +kernel
theorem d_X9_spellAll_21 : dec m_X9_spellAll 21 = .ok (.aload_n 0, 1) := by decide +kernel
theorem d_X9_spellAll_22 : dec m_X9_spellAll 22 = .ok (.iload_n 1, 1) := by decide +kernel
theorem d_X9_spellAll_23 : dec m_X9_spellAll 23 = .ok (.invokevirtual 349, 3) := by decide +kernel
theorem d_X9_spellAll_26 : dec m_X9_spellAll 26 = .ok (.iinc 1 1, 3) := by decide +kernel
theorem d_X9_spellAll_29 : dec m_X9_spellAll 29 = .ok (.goto (-16), 3) := by decide +kernel
theorem d_X9_spellAll_32 : dec m_X9_spellAll 32 = .ok (.aload_n 0, 1) := by decide +kernel
theorem d_X9_spellAll_33 : dec m_X9_spellAll 33 = .ok (.getfield 7, 3) := by decide +kernel
theorem d_X9_spellAll_36 : dec m_X9_spellAll 36 = .ok (.sipush 181, 3) := by decide +kernel
theorem d_X9_spellAll_39 : dec m_X9_spellAll 39 = .ok (.iaload, 1) := by decide +kernel
theorem d_X9_spellAll_40 : dec m_X9_spellAll 40 = .ok (.ifCond .le 26, 3) := by decide +kernel
theorem d_X9_spellAll_43 : dec m_X9_spellAll 43 = .ok (.aload_n 0, 1) := by decide +kernel
theorem d_X9_spellAll_44 : dec m_X9_spellAll 44 = .ok (.invokevirtual 335, 3) := by decide +kernel
theorem d_X9_spellAll_47 : dec m_X9_spellAll 47 = .ok (.aload_n 0, 1) := by decide +kernel
theorem d_X9_spellAll_48 : dec m_X9_spellAll 48 = .ok (.ldc_w 352, 3) := by decide +kernel
theorem d_X9_spellAll_51 : dec m_X9_spellAll 51 = .ok (.invokevirtual 342, 3) := by decide +kernel
theorem d_X9_spellAll_54 : dec m_X9_spellAll 54 = .ok (.aload_n 0, 1) := by decide +kernel
theorem d_X9_spellAll_55 : dec m_X9_spellAll 55 = .ok (.aload_n 0, 1) := by decide +kernel
theorem d_X9_spellAll_56 : dec m_X9_spellAll 56 = .ok (.getfield 7, 3) := by decide +kernel
theorem d_X9_spellAll_59 : dec m_X9_spellAll 59 = .ok (.sipush 181, 3) := by decide +kernel
theorem d_X9_spellAll_62 : dec m_X9_spellAll 62 = .ok (.iaload, 1) := by decide +kernel
theorem d_X9_spellAll_63 : dec m_X9_spellAll 63 = .ok (.invokevirtual 346, 3) := by decide +kernel
theorem d_X9_spellAll_66 : dec m_X9_spellAll 66 = .ok (.aload_n 0, 1) := by decide +kernel
theorem d_X9_spellAll_67 : dec m_X9_spellAll 67 = .ok (.getfield 7, 3) := by decide +kernel
theorem d_X9_spellAll_70 : dec m_X9_spellAll 70 = .ok (.sipush 182, 3) := by decide +kernel
theorem d_X9_spellAll_73 : dec m_X9_spellAll 73 = .ok (.iaload, 1) := by decide +kernel
theorem d_X9_spellAll_74 : dec m_X9_spellAll 74 = .ok (.ifCond .ne 4, 3) := by decide +kernel
theorem d_X9_spellAll_77 : dec m_X9_spellAll 77 = .ok (.return_, 1) := by decide +kernel
theorem d_X9_spellAll_78 : dec m_X9_spellAll 78 = .ok (.aload_n 0, 1) := by decide +kernel
theorem d_X9_spellAll_79 : dec m_X9_spellAll 79 = .ok (.invokevirtual 335, 3) := by decide +kernel
theorem d_X9_spellAll_82 : dec m_X9_spellAll 82 = .ok (.aload_n 0, 1) := by decide +kernel
theorem d_X9_spellAll_83 : dec m_X9_spellAll 83 = .ok (.ldc_w 354, 3) := by decide +kernel
theorem d_X9_spellAll_86 : dec m_X9_spellAll 86 = .ok (.invokevirtual 342, 3) := by decide +kernel
theorem d_X9_spellAll_89 : dec m_X9_spellAll 89 = .ok (.aload_n 0, 1) := by decide +kernel
theorem d_X9_spellAll_90 : dec m_X9_spellAll 90 = .ok (.aload_n 0, 1) := by decide +kernel
theorem d_X9_spellAll_91 : dec m_X9_spellAll 91 = .ok (.getfield 7, 3) := by decide +kernel
theorem d_X9_spellAll_94 : dec m_X9_spellAll 94 = .ok (.sipush 182, 3) := by decide +kernel
theorem d_X9_spellAll_97 : dec m_X9_spellAll 97 = .ok (.iaload, 1) := by decide +kernel
theorem d_X9_spellAll_98 : dec m_X9_spellAll 98 = .ok (.invokestatic 356, 3) := by decide +kernel
theorem d_X9_spellAll_101 : dec m_X9_spellAll 101 = .ok (.invokevirtual 342, 3) := by decide +kernel
theorem d_X9_spellAll_104 : dec m_X9_spellAll 104 = .ok (.return_, 1) := by decide +kernel
theorem d_X9_letter_0 : dec m_X9_letter 0 = .ok (.iload_n 1, 1) := by decide +kernel
theorem d_X9_letter_1 : dec m_X9_letter 1 = .ok (.iconst (-1), 1) := by decide +kernel
theorem d_X9_letter_2 : dec m_X9_letter 2 = .ok (.if_icmp .ge 5, 3) := by decide +kernel
theorem d_X9_letter_5 : dec m_X9_letter 5 = .ok (.iconst (-1), 1) := by decide +kernel
theorem d_X9_letter_6 : dec m_X9_letter 6 = .ok (.ireturn, 1) := by decide +kernel
theorem d_X9_letter_7 : dec m_X9_letter 7 = .ok (.aload_n 0, 1) := by decide +kernel
theorem d_X9_letter_8 : dec m_X9_letter 8 = .ok (.iload_n 1, 1) := by decide +kernel
theorem d_X9_letter_9 : dec m_X9_letter 9 = .ok (.putfield 309, 3) := by decide +kernel
theorem d_X9_letter_12 : dec m_X9_letter 12 = .ok (.aload_n 0, 1) := by decide +kernel
theorem d_X9_letter_13 : dec m_X9_letter 13 = .ok (.invokevirtual 360, 3) := by decide +kernel
theorem d_X9_letter_16 : dec m_X9_letter 16 = .ok (.iload_n 1, 1) := by decide +kernel
theorem d_X9_letter_17 : dec m_X9_letter 17 = .ok (.iconst (-1), 1) := by decide +kernel
theorem d_X9_letter_18 : dec m_X9_letter 18 = .ok (.if_icmp .ne 10, 3) := by decide +kernel
theorem d_X9_letter_21 : dec m_X9_letter 21 = .ok (.aload_n 0, 1) := by decide +kernel
theorem d_X9_letter_22 : dec m_X9_letter 22 = .ok (.getfield 306, 3) := by decide +kernel
theorem d_X9_letter_25 : dec m_X9_letter 25 = .ok (.goto 7, 3) := by decide +kernel
theorem d_X9_letter_28 : dec m_X9_letter 28 = .ok (.aload_n 0, 1) := by decide +kernel
theorem d_X9_letter_29 : dec m_X9_letter 29 = .ok (.getfield 312, 3) := by decide +kernel
theorem d_X9_letter_32 : dec m_X9_letter 32 = .ok (.ireturn, 1) := by decide +kernel
theorem d_X9_keepsAct_0 : dec m_X9_keepsAct 0 = .ok (.aload_n 0, 1) := by decide +kernel
theorem d_X9_keepsAct_1 : dec m_X9_keepsAct 1 = .ok (.getfield 294, 3) := by decide +kernel
theorem d_X9_keepsAct_4 : dec m_X9_keepsAct 4 = .ok (.bipush 10, 2) := by decide +kernel
theorem d_X9_keepsAct_6 : dec m_X9_keepsAct 6 = .ok (.if_icmp .ne 46, 3) := by decide +kernel
theorem d_X9_keepsAct_9 : dec m_X9_keepsAct 9 = .ok (.sipush 187, 3) := by decide +kernel
theorem d_X9_keepsAct_12 : dec m_X9_keepsAct 12 = .ok (.istore_n 1, 1) := by decide +kernel
theorem d_X9_keepsAct_13 : dec m_X9_keepsAct 13 = .ok (.iload_n 1, 1) := by decide +kernel
theorem d_X9_keepsAct_14 : dec m_X9_keepsAct 14 = .ok (.sipush 1870, 3) := by decide +kernel
theorem d_X9_keepsAct_17 : dec m_X9_keepsAct 17 = .ok (.if_icmp .ge 25, 3) := by decide +kernel
theorem d_X9_keepsAct_20 : dec m_X9_keepsAct 20 = .ok (.aload_n 0, 1) := by decide +kernel
theorem d_X9_keepsAct_21 : dec m_X9_keepsAct 21 = .ok (.getfield 13, 3) := by decide +kernel
theorem d_X9_keepsAct_24 : dec m_X9_keepsAct 24 = .ok (.iload_n 1, 1) := by decide +kernel
theorem d_X9_keepsAct_25 : dec m_X9_keepsAct 25 = .ok (.sipush 187, 3) := by decide +kernel
theorem d_X9_keepsAct_28 : dec m_X9_keepsAct 28 = .ok (.isub, 1) := by decide +kernel
theorem d_X9_keepsAct_29 : dec m_X9_keepsAct 29 = .ok (.aload_n 0, 1) := by decide +kernel
theorem d_X9_keepsAct_30 : dec m_X9_keepsAct 30 = .ok (.getfield 13, 3) := by decide +kernel
theorem d_X9_keepsAct_33 : dec m_X9_keepsAct 33 = .ok (.iload_n 1, 1) := by decide +kernel
theorem d_X9_keepsAct_34 : dec m_X9_keepsAct 34 = .ok (.iaload, 1) := by decide +kernel
theorem d_X9_keepsAct_35 : dec m_X9_keepsAct 35 = .ok (.iastore, 1) := by decide +kernel
theorem d_X9_keepsAct_36 : dec m_X9_keepsAct 36 = .ok (.iinc 1 1, 3) := by decide +kernel
theorem d_X9_keepsAct_39 : dec m_X9_keepsAct 39 = .ok (.goto (-26), 3) := by decide +kernel
theorem d_X9_keepsAct_42 : dec m_X9_keepsAct 42 = .ok (.aload_n 0, 1) := by decide +kernel
theorem d_X9_keepsAct_43 : dec m_X9_keepsAct 43 = .ok (.dup, 1) := by decide +kernel
theorem d_X9_keepsAct_44 : dec m_X9_keepsAct 44 = .ok (.getfield 294, 3) := by decide +kernel
theorem d_X9_keepsAct_47 : dec m_X9_keepsAct 47 = .ok (.iconst 1, 1) := by decide +kernel
theorem d_X9_keepsAct_48 : dec m_X9_keepsAct 48 = .ok (.isub, 1) := by decide +kernel
theorem d_X9_keepsAct_49 : dec m_X9_keepsAct 49 = .ok (.putfield 294, 3) := by decide +kernel
theorem d_X9_keepsAct_52 : dec m_X9_keepsAct 52 = .ok (.iconst 0, 1) := by decide +kernel
theorem d_X9_keepsAct_53 : dec m_X9_keepsAct 53 = .ok (.istore_n 1, 1) := by decide +kernel
theorem d_X9_keepsAct_54 : dec m_X9_keepsAct 54 = .ok (.iload_n 1, 1) := by decide +kernel
theorem d_X9_keepsAct_55 : dec m_X9_keepsAct 55 = .ok (.sipush 187, 3) := by decide +kernel
theorem d_X9_keepsAct_58 : dec m_X9_keepsAct 58 = .ok (.if_icmp .ge 30, 3) := by decide +kernel
theorem d_X9_keepsAct_61 : dec m_X9_keepsAct 61 = .ok (.aload_n 0, 1) := by decide +kernel
theorem d_X9_keepsAct_62 : dec m_X9_keepsAct 62 = .ok (.getfield 13, 3) := by decide +kernel
theorem d_X9_keepsAct_65 : dec m_X9_keepsAct 65 = .ok (.sipush 187, 3) := by decide +kernel
theorem d_X9_keepsAct_68 : dec m_X9_keepsAct 68 = .ok (.aload_n 0, 1) := by decide +kernel
theorem d_X9_keepsAct_69 : dec m_X9_keepsAct 69 = .ok (.getfield 294, 3) := by decide +kernel
theorem d_X9_keepsAct_72 : dec m_X9_keepsAct 72 = .ok (.imul, 1) := by decide +kernel
theorem d_X9_keepsAct_73 : dec m_X9_keepsAct 73 = .ok (.iload_n 1, 1) := by decide +kernel
theorem d_X9_keepsAct_74 : dec m_X9_keepsAct 74 = .ok (.iadd, 1) := by decide +kernel
theorem d_X9_keepsAct_75 : dec m_X9_keepsAct 75 = .ok (.aload_n 0, 1) := by decide +kernel
theorem d_X9_keepsAct_76 : dec m_X9_keepsAct 76 = .ok (.getfield 7, 3) := by decide +kernel
theorem d_X9_keepsAct_79 : dec m_X9_keepsAct 79 = .ok (.iload_n 1, 1) := by decide +kernel
theorem d_X9_keepsAct_80 : dec m_X9_keepsAct 80 = .ok (.iaload, 1) := by decide +kernel
theorem d_X9_keepsAct_81 : dec m_X9_keepsAct 81 = .ok (.iastore, 1) := by decide +kernel
theorem d_X9_keepsAct_82 : dec m_X9_keepsAct 82 = .ok (.iinc 1 1, 3) := by decide +kernel
theorem d_X9_keepsAct_85 : dec m_X9_keepsAct 85 = .ok (.goto (-31), 3) := by decide +kernel
theorem d_X9_keepsAct_88 : dec m_X9_keepsAct 88 = .ok (.aload_n 0, 1) := by decide +kernel
theorem d_X9_keepsAct_89 : dec m_X9_keepsAct 89 = .ok (.dup, 1) := by decide +kernel
theorem d_X9_keepsAct_90 : dec m_X9_keepsAct 90 = .ok (.getfield 294, 3) := by decide +kernel
theorem d_X9_keepsAct_93 : dec m_X9_keepsAct 93 = .ok (.iconst 1, 1) := by decide +kernel
theorem d_X9_keepsAct_94 : dec m_X9_keepsAct 94 = .ok (.iadd, 1) := by decide +kernel
theorem d_X9_keepsAct_95 : dec m_X9_keepsAct 95 = .ok (.putfield 294, 3) := by decide +kernel
theorem d_X9_keepsAct_98 : dec m_X9_keepsAct 98 = .ok (.return_, 1) := by decide +kernel
theorem d_X9_come_0 : dec m_X9_come 0 = .ok (.iload_n 2, 1) := by decide +kernel
theorem d_X9_come_1 : dec m_X9_come 1 = .ok (.invokestatic 195, 3) := by decide +kernel
theorem d_X9_come_4 : dec m_X9_come 4 = .ok (.ifCond .ne 5, 3) := by decide +kernel
theorem d_X9_come_7 : dec m_X9_come 7 = .ok (.iconst (-1), 1) := by decide +kernel
theorem d_X9_come_8 : dec m_X9_come 8 = .ok (.ireturn, 1) := by decide +kernel
theorem d_X9_come_9 : dec m_X9_come 9 = .ok (.aload_n 0, 1) := by decide +kernel
theorem d_X9_come_10 : dec m_X9_come 10 = .ok (.invokevirtual 78, 3) := by decide +kernel
theorem d_X9_come_13 : dec m_X9_come 13 = .ok (.bipush 20, 2) := by decide +kernel
theorem d_X9_come_15 : dec m_X9_come 15 = .ok (.if_icmp .ne 6, 3) := by decide +kernel
theorem d_X9_come_18 : dec m_X9_come 18 = .ok (.bipush (-2), 2) := by decide +kernel
theorem d_X9_come_20 : dec m_X9_come 20 = .ok (.ireturn, 1) := by decide +kernel
theorem d_X9_come_21 : dec m_X9_come 21 = .ok (.aload_n 0, 1) := by decide +kernel
theorem d_X9_come_22 : dec m_X9_come 22 = .ok (.invokevirtual 363, 3) := by decide +kernel
theorem d_X9_come_25 : dec m_X9_come 25 = .ok (.aload_n 0, 1) := by decide +kernel
theorem d_X9_come_26 : dec m_X9_come 26 = .ok (.invokevirtual 78, 3) := by decide +kernel
theorem d_X9_come_29 : dec m_X9_come 29 = .ok (.istore_n 3, 1) := by decide +kernel
theorem d_X9_come_30 : dec m_X9_come 30 = .ok (.iconst 0, 1) := by decide +kernel
theorem d_X9_come_31 : dec m_X9_come 31 = .ok (.istore 4, 2) := by decide +kernel
theorem d_X9_come_33 : dec m_X9_come 33 = .ok (.iload 4, 2) := by decide +kernel
theorem d_X9_come_35 : dec m_X9_come 35 = .ok (.bipush 9, 2) := by decide +kernel
theorem d_X9_come_37 : dec m_X9_come 37 = .ok (.if_icmp .ge 22, 3) := by decide +kernel
theorem d_X9_come_40 : dec m_X9_come 40 = .ok (.aload_n 0, 1) := by decide +kernel
theorem d_X9_come_41 : dec m_X9_come 41 = .ok (.getfield 7, 3) := by decide +kernel
theorem d_X9_come_44 : dec m_X9_come 44 = .ok (.bipush 9, 2) := by decide +kernel
theorem d_X9_come_46 : dec m_X9_come 46 = .ok (.iload_n 3, 1) := by decide +kernel
theorem d_X9_come_47 : dec m_X9_come 47 = .ok (.imul, 1) := by decide +kernel
theorem d_X9_come_48 : dec m_X9_come 48 = .ok (.iload 4, 2) := by decide +kernel
theorem d_X9_come_50 : dec m_X9_come 50 = .ok (.iadd, 1) := by decide +kernel
theorem d_X9_come_51 : dec m_X9_come 51 = .ok (.iconst 0, 1) := by decide +kernel
theorem d_X9_come_52 : dec m_X9_come 52 = .ok (.iastore, 1) := by decide +kernel
theorem d_X9_come_53 : dec m_X9_come 53 = .ok (.iinc 4 1, 3) := by decide +kernel
theorem d_X9_come_56 : dec m_X9_come 56 = .ok (.goto (-23), 3) := by decide +kernel
theorem d_X9_come_59 : dec m_X9_come 59 = .ok (.aload_n 0, 1) := by decide +kernel
theorem d_X9_come_60 : dec m_X9_come 60 = .ok (.getfield 7, 3) := by decide +kernel
theorem d_X9_come_63 : dec m_X9_come 63 = .ok (.bipush 9, 2) := by decide +kernel
theorem d_X9_come_65 : dec m_X9_come 65 = .ok (.iload_n 3, 1) := by decide +kernel
theorem d_X9_come_66 : dec m_X9_come 66 = .ok (.imul, 1) := by decide +kernel
theorem d_X9_come_67 : dec m_X9_come 67 = .ok (.iconst 0, 1) := by decide +kernel
theorem d_X9_come_68 : dec m_X9_come 68 = .ok (.iadd, 1) := by decide +kernel
theorem d_X9_come_69 : dec m_X9_come 69 = .ok (.iload_n 1, 1) := by decide +kernel
theorem d_X9_come_70 : dec m_X9_come 70 = .ok (.ifCond .eq 7, 3) := by decide +kernel
theorem d_X9_come_73 : dec m_X9_come 73 = .ok (.iconst 1, 1) := by decide +kernel
theorem d_X9_come_74 : dec m_X9_come 74 = .ok (.goto 4, 3) := by decide +kernel
theorem d_X9_come_77 : dec m_X9_come 77 = .ok (.iconst 0, 1) := by decide +kernel
theorem d_X9_come_78 : dec m_X9_come 78 = .ok (.iastore, 1) := by decide +kernel
theorem d_X9_come_79 : dec m_X9_come 79 = .ok (.aload_n 0, 1) := by decide +kernel
theorem d_X9_come_80 : dec m_X9_come 80 = .ok (.getfield 7, 3) := by decide +kernel
theorem d_X9_come_83 : dec m_X9_come 83 = .ok (.bipush 9, 2) := by decide +kernel
theorem d_X9_come_85 : dec m_X9_come 85 = .ok (.iload_n 3, 1) := by decide +kernel
theorem d_X9_come_86 : dec m_X9_come 86 = .ok (.imul, 1) := by decide +kernel
theorem d_X9_come_87 : dec m_X9_come 87 = .ok (.iconst 1, 1) := by decide +kernel
theorem d_X9_come_88 : dec m_X9_come 88 = .ok (.iadd, 1) := by decide +kernel
theorem d_X9_come_89 : dec m_X9_come 89 = .ok (.iload_n 2, 1) := by decide +kernel
theorem d_X9_come_90 : dec m_X9_come 90 = .ok (.iastore, 1) := by decide +kernel
theorem d_X9_come_91 : dec m_X9_come 91 = .ok (.aload_n 0, 1) := by decide +kernel
theorem d_X9_come_92 : dec m_X9_come 92 = .ok (.getfield 7, 3) := by decide +kernel
theorem d_X9_come_95 : dec m_X9_come 95 = .ok (.sipush 180, 3) := by decide +kernel
theorem d_X9_come_98 : dec m_X9_come 98 = .ok (.dup2, 1) := by decide +kernel
theorem d_X9_come_99 : dec m_X9_come 99 = .ok (.iaload, 1) := by decide +kernel
theorem d_X9_come_100 : dec m_X9_come 100 = .ok (.iconst 1, 1) := by decide +kernel
theorem d_X9_come_101 : dec m_X9_come 101 = .ok (.iadd, 1) := by decide +kernel
theorem d_X9_come_102 : dec m_X9_come 102 = .ok (.iastore, 1) := by decide +kernel
theorem d_X9_come_103 : dec m_X9_come 103 = .ok (.iload_n 3, 1) := by decide +kernel
theorem d_X9_come_104 : dec m_X9_come 104 = .ok (.ireturn, 1) := by decide +kernel
theorem d_X9_mayFollow_0 : dec m_X9_mayFollow 0 = .ok (.iload_n 0, 1) := by decide +kernel
theorem d_X9_mayFollow_1 : dec m_X9_mayFollow 1 = .ok (.ifCond .eq 16, 3) := by decide +kernel
theorem d_X9_mayFollow_4 : dec m_X9_mayFollow 4 = .ok (.iload_n 2, 1) := by decide +kernel
theorem d_X9_mayFollow_5 : dec m_X9_mayFollow 5 = .ok (.iload_n 1, 1) := by decide +kernel
theorem d_X9_mayFollow_6 : dec m_X9_mayFollow 6 = .ok (.if_icmp .lt 7, 3) := by decide +kernel
theorem d_X9_mayFollow_9 : dec m_X9_mayFollow 9 = .ok (.iconst 1, 1) := by decide +kernel
theorem d_X9_mayFollow_10 : dec m_X9_mayFollow 10 = .ok (.goto 17, 3) := by decide +kernel
theorem d_X9_mayFollow_13 : dec m_X9_mayFollow 13 = .ok (.iconst 0, 1) := by decide +kernel
theorem d_X9_mayFollow_14 : dec m_X9_mayFollow 14 = .ok (.goto 13, 3) := by decide +kernel
theorem d_X9_mayFollow_17 : dec m_X9_mayFollow 17 = .ok (.iload_n 2, 1) := by decide +kernel
theorem d_X9_mayFollow_18 : dec m_X9_mayFollow 18 = .ok (.iload_n 1, 1) := by decide +kernel
theorem d_X9_mayFollow_19 : dec m_X9_mayFollow 19 = .ok (.if_icmp .gt 7, 3) := by decide +kernel
theorem d_X9_mayFollow_22 : dec m_X9_mayFollow 22 = .ok (.iconst 1, 1) := by decide +kernel
theorem d_X9_mayFollow_23 : dec m_X9_mayFollow 23 = .ok (.goto 4, 3) := by decide +kernel
theorem d_X9_mayFollow_26 : dec m_X9_mayFollow 26 = .ok (.iconst 0, 1) := by decide +kernel
theorem d_X9_mayFollow_27 : dec m_X9_mayFollow 27 = .ok (.ireturn, 1) := by decide +kernel
theorem d_X9_add_0 : dec m_X9_add 0 = .ok (.aload_n 0, 1) := by decide +kernel
theorem d_X9_add_1 : dec m_X9_add 1 = .ok (.iload_n 1, 1) := by decide +kernel
theorem d_X9_add_2 : dec m_X9_add 2 = .ok (.invokevirtual 189, 3) := by decide +kernel
theorem d_X9_add_5 : dec m_X9_add 5 = .ok (.ifCond .eq 15, 3) := by decide +kernel
theorem d_X9_add_8 : dec m_X9_add 8 = .ok (.iload_n 2, 1) := by decide +kernel
theorem d_X9_add_9 : dec m_X9_add 9 = .ok (.i2l, 1) := by decide +kernel
theorem d_X9_add_10 : dec m_X9_add 10 = .ok (.lconst 0, 1) := by decide +kernel
theorem d_X9_add_11 : dec m_X9_add 11 = .ok (.ldc2_w 366, 3) := by decide +kernel
theorem d_X9_add_14 : dec m_X9_add 14 = .ok (.invokestatic 82, 3) := by decide +kernel
theorem d_X9_add_17 : dec m_X9_add 17 = .ok (.ifCond .ne 5, 3) := by decide +kernel
theorem d_X9_add_20 : dec m_X9_add 20 = .ok (.iconst (-1), 1) := by decide +kernel
theorem d_X9_add_21 : dec m_X9_add 21 = .ok (.ireturn, 1) := by decide +kernel
theorem d_X9_add_22 : dec m_X9_add 22 = .ok (.aload_n 0, 1) := by decide +kernel
theorem d_X9_add_23 : dec m_X9_add 23 = .ok (.iload_n 1, 1) := by decide +kernel
theorem d_X9_add_24 : dec m_X9_add 24 = .ok (.iconst 2, 1) := by decide +kernel
theorem d_X9_add_25 : dec m_X9_add 25 = .ok (.invokevirtual 88, 3) := by decide +kernel
theorem d_X9_add_28 : dec m_X9_add 28 = .ok (.istore_n 3, 1) := by decide +kernel
theorem d_X9_add_29 : dec m_X9_add 29 = .ok (.iload_n 3, 1) := by decide +kernel
theorem d_X9_add_30 : dec m_X9_add 30 = .ok (.iconst 4, 1) := by decide +kernel
theorem d_X9_add_31 : dec m_X9_add 31 = .ok (.if_icmp .ne 6, 3) := by decide +kernel
theorem d_X9_add_34 : dec m_X9_add 34 = .ok (.bipush (-2), 2) := by decide +kernel
theorem d_X9_add_36 : dec m_X9_add 36 = .ok (.ireturn, 1) := by decide +kernel
theorem d_X9_add_37 : dec m_X9_add 37 = .ok (.iload_n 3, 1) := by decide +kernel
theorem d_X9_add_38 : dec m_X9_add 38 = .ok (.ifCond .le 28, 3) := by decide +kernel
theorem d_X9_add_41 : dec m_X9_add 41 = .ok (.aload_n 0, 1) := by decide +kernel
theorem d_X9_add_42 : dec m_X9_add 42 = .ok (.iload_n 1, 1) := by decide +kernel
theorem d_X9_add_43 : dec m_X9_add 43 = .ok (.invokevirtual 122, 3) := by decide +kernel
theorem d_X9_add_46 : dec m_X9_add 46 = .ok (.aload_n 0, 1) := by decide +kernel
theorem d_X9_add_47 : dec m_X9_add 47 = .ok (.iload_n 1, 1) := by decide +kernel
theorem d_X9_add_48 : dec m_X9_add 48 = .ok (.iconst 3, 1) := by decide +kernel
theorem d_X9_add_49 : dec m_X9_add 49 = .ok (.iload_n 3, 1) := by decide +kernel
theorem d_X9_add_50 : dec m_X9_add 50 = .ok (.iadd, 1) := by decide +kernel
theorem d_X9_add_51 : dec m_X9_add 51 = .ok (.iconst 1, 1) := by decide +kernel
theorem d_X9_add_52 : dec m_X9_add 52 = .ok (.isub, 1) := by decide +kernel
theorem d_X9_add_53 : dec m_X9_add 53 = .ok (.invokevirtual 88, 3) := by decide +kernel
theorem d_X9_add_56 : dec m_X9_add 56 = .ok (.iload_n 2, 1) := by decide +kernel
theorem d_X9_add_57 : dec m_X9_add 57 = .ok (.invokestatic 368, 3) := by decide +kernel
theorem d_X9_add_60 : dec m_X9_add 60 = .ok (.ifCond .ne 6, 3) := by decide +kernel
theorem d_X9_add_63 : dec m_X9_add 63 = .ok (.bipush (-3), 2) := by decide +kernel
theorem d_X9_add_65 : dec m_X9_add 65 = .ok (.ireturn, 1) := by decide +kernel
theorem d_X9_add_66 : dec m_X9_add 66 = .ok (.aload_n 0, 1) := by decide +kernel
theorem d_X9_add_67 : dec m_X9_add 67 = .ok (.invokevirtual 363, 3) := by decide +kernel
theorem d_X9_add_70 : dec m_X9_add 70 = .ok (.aload_n 0, 1) := by decide +kernel
theorem d_X9_add_71 : dec m_X9_add 71 = .ok (.getfield 7, 3) := by decide +kernel
theorem d_X9_add_74 : dec m_X9_add 74 = .ok (.bipush 9, 2) := by decide +kernel
theorem d_X9_add_76 : dec m_X9_add 76 = .ok (.iload_n 1, 1) := by decide +kernel
theorem d_X9_add_77 : dec m_X9_add 77 = .ok (.imul, 1) := by decide +kernel
theorem d_X9_add_78 : dec m_X9_add 78 = .ok (.iconst 3, 1) := by decide +kernel
theorem d_X9_add_79 : dec m_X9_add 79 = .ok (.iadd, 1) := by decide +kernel
theorem d_X9_add_80 : dec m_X9_add 80 = .ok (.iload_n 3, 1) := by decide +kernel
theorem d_X9_add_81 : dec m_X9_add 81 = .ok (.iadd, 1) := by decide +kernel
theorem d_X9_add_82 : dec m_X9_add 82 = .ok (.iload_n 2, 1) := by decide +kernel
theorem d_X9_add_83 : dec m_X9_add 83 = .ok (.iastore, 1) := by decide +kernel
theorem d_X9_add_84 : dec m_X9_add 84 = .ok (.aload_n 0, 1) := by decide +kernel
theorem d_X9_add_85 : dec m_X9_add 85 = .ok (.getfield 7, 3) := by decide +kernel
theorem d_X9_add_88 : dec m_X9_add 88 = .ok (.bipush 9, 2) := by decide +kernel
theorem d_X9_add_90 : dec m_X9_add 90 = .ok (.iload_n 1, 1) := by decide +kernel
theorem d_X9_add_91 : dec m_X9_add 91 = .ok (.imul, 1) := by decide +kernel
theorem d_X9_add_92 : dec m_X9_add 92 = .ok (.iconst 2, 1) := by decide +kernel
theorem d_X9_add_93 : dec m_X9_add 93 = .ok (.iadd, 1) := by decide +kernel
theorem d_X9_add_94 : dec m_X9_add 94 = .ok (.dup2, 1) := by decide +kernel
theorem d_X9_add_95 : dec m_X9_add 95 = .ok (.iaload, 1) := by decide +kernel
theorem d_X9_add_96 : dec m_X9_add 96 = .ok (.iconst 1, 1) := by decide +kernel
theorem d_X9_add_97 : dec m_X9_add 97 = .ok (.iadd, 1) := by decide +kernel
theorem d_X9_add_98 : dec m_X9_add 98 = .ok (.iastore, 1) := by decide +kernel
theorem d_X9_add_99 : dec m_X9_add 99 = .ok (.iload_n 3, 1) := by decide +kernel
theorem d_X9_add_100 : dec m_X9_add 100 = .ok (.iconst 1, 1) := by decide +kernel
theorem d_X9_add_101 : dec m_X9_add 101 = .ok (.iadd, 1) := by decide +kernel
theorem d_X9_add_102 : dec m_X9_add 102 = .ok (.ireturn, 1) := by decide +kernel
theorem d_X9_say_0 : dec m_X9_say 0 = .ok (.aload_n 0, 1) := by decide +kernel
theorem d_X9_say_1 : dec m_X9_say 1 = .ok (.iload_n 1, 1) := by decide +kernel
theorem d_X9_say_2 : dec m_X9_say 2 = .ok (.invokevirtual 189, 3) := by decide +kernel
theorem d_X9_say_5 : dec m_X9_say 5 = .ok (.ifCond .eq 33, 3) := by decide +kernel
theorem d_X9_say_8 : dec m_X9_say 8 = .ok (.iload_n 2, 1) := by decide +kernel
theorem d_X9_say_9 : dec m_X9_say 9 = .ok (.i2l, 1) := by decide +kernel
theorem d_X9_say_10 : dec m_X9_say 10 = .ok (.lconst 0, 1) := by decide +kernel
theorem d_X9_say_11 : dec m_X9_say 11 = .ok (.aload_n 0, 1) := by decide +kernel
theorem d_X9_say_12 : dec m_X9_say 12 = .ok (.iload_n 1, 1) := by decide +kernel
theorem d_X9_say_13 : dec m_X9_say 13 = .ok (.iconst 2, 1) := by decide +kernel
theorem d_X9_say_14 : dec m_X9_say 14 = .ok (.invokevirtual 88, 3) := by decide +kernel
theorem d_X9_say_17 : dec m_X9_say 17 = .ok (.iconst 1, 1) := by decide +kernel
theorem d_X9_say_18 : dec m_X9_say 18 = .ok (.isub, 1) := by decide +kernel
theorem d_X9_say_19 : dec m_X9_say 19 = .ok (.i2l, 1) := by decide +kernel
theorem d_X9_say_20 : dec m_X9_say 20 = .ok (.invokestatic 82, 3) := by decide +kernel
theorem d_X9_say_23 : dec m_X9_say 23 = .ok (.ifCond .eq 15, 3) := by decide +kernel
theorem d_X9_say_26 : dec m_X9_say 26 = .ok (.iload_n 3, 1) := by decide +kernel
theorem d_X9_say_27 : dec m_X9_say 27 = .ok (.i2l, 1) := by decide +kernel
theorem d_X9_say_28 : dec m_X9_say 28 = .ok (.lconst 0, 1) := by decide +kernel
theorem d_X9_say_29 : dec m_X9_say 29 = .ok (.ldc2_w 366, 3) := by decide +kernel
theorem d_X9_say_32 : dec m_X9_say 32 = .ok (.invokestatic 82, 3) := by decide +kernel
theorem d_X9_say_35 : dec m_X9_say 35 = .ok (.ifCond .ne 5, 3) := by decide +kernel
theorem d_X9_say_38 : dec m_X9_say 38 = .ok (.iconst (-1), 1) := by decide +kernel
theorem d_X9_say_39 : dec m_X9_say 39 = .ok (.ireturn, 1) := by decide +kernel
theorem d_X9_say_40 : dec m_X9_say 40 = .ok (.aload_n 0, 1) := by decide +kernel
theorem d_X9_say_41 : dec m_X9_say 41 = .ok (.iload_n 1, 1) := by decide +kernel
theorem d_X9_say_42 : dec m_X9_say 42 = .ok (.iconst 3, 1) := by decide +kernel
theorem d_X9_say_43 : dec m_X9_say 43 = .ok (.iload_n 2, 1) := by decide +kernel
theorem d_X9_say_44 : dec m_X9_say 44 = .ok (.iadd, 1) := by decide +kernel
theorem d_X9_say_45 : dec m_X9_say 45 = .ok (.invokevirtual 88, 3) := by decide +kernel
theorem d_X9_say_48 : dec m_X9_say 48 = .ok (.istore 4, 2) := by decide +kernel
theorem d_X9_say_50 : dec m_X9_say 50 = .ok (.iload 4, 2) := by decide +kernel
theorem d_X9_say_52 : dec m_X9_say 52 = .ok (.iload_n 3, 1) := by decide +kernel
theorem d_X9_say_53 : dec m_X9_say 53 = .ok (.if_icmp .ne 6, 3) := by decide +kernel
theorem d_X9_say_56 : dec m_X9_say 56 = .ok (.bipush (-2), 2) := by decide +kernel
theorem d_X9_say_58 : dec m_X9_say 58 = .ok (.ireturn, 1) := by decide +kernel
theorem d_X9_say_59 : dec m_X9_say 59 = .ok (.iload_n 2, 1) := by decide +kernel
theorem d_X9_say_60 : dec m_X9_say 60 = .ok (.ifCond .le 28, 3) := by decide +kernel
theorem d_X9_say_63 : dec m_X9_say 63 = .ok (.aload_n 0, 1) := by decide +kernel
theorem d_X9_say_64 : dec m_X9_say 64 = .ok (.iload_n 1, 1) := by decide +kernel
theorem d_X9_say_65 : dec m_X9_say 65 = .ok (.invokevirtual 122, 3) := by decide +kernel
theorem d_X9_say_68 : dec m_X9_say 68 = .ok (.aload_n 0, 1) := by decide +kernel
theorem d_X9_say_69 : dec m_X9_say 69 = .ok (.iload_n 1, 1) := by decide +kernel
theorem d_X9_say_70 : dec m_X9_say 70 = .ok (.iconst 3, 1) := by decide +kernel
theorem d_X9_say_71 : dec m_X9_say 71 = .ok (.iload_n 2, 1) := by decide +kernel
theorem d_X9_say_72 : dec m_X9_say 72 = .ok (.iadd, 1) := by decide +kernel
theorem d_X9_say_73 : dec m_X9_say 73 = .ok (.iconst 1, 1) := by decide +kernel
theorem d_X9_say_74 : dec m_X9_say 74 = .ok (.isub, 1) := by decide +kernel
theorem d_X9_say_75 : dec m_X9_say 75 = .ok (.invokevirtual 88, 3) := by decide +kernel
theorem d_X9_say_78 : dec m_X9_say 78 = .ok (.iload_n 3, 1) := by decide +kernel
theorem d_X9_say_79 : dec m_X9_say 79 = .ok (.invokestatic 368, 3) := by decide +kernel
theorem d_X9_say_82 : dec m_X9_say 82 = .ok (.ifCond .ne 6, 3) := by decide +kernel
theorem d_X9_say_85 : dec m_X9_say 85 = .ok (.bipush (-3), 2) := by decide +kernel
theorem d_X9_say_87 : dec m_X9_say 87 = .ok (.ireturn, 1) := by decide +kernel
theorem d_X9_say_88 : dec m_X9_say 88 = .ok (.iload_n 2, 1) := by decide +kernel
theorem d_X9_say_89 : dec m_X9_say 89 = .ok (.iconst 1, 1) := by decide +kernel
theorem d_X9_say_90 : dec m_X9_say 90 = .ok (.iadd, 1) := by decide +kernel
theorem d_X9_say_91 : dec m_X9_say 91 = .ok (.aload_n 0, 1) := by decide +kernel
theorem d_X9_say_92 : dec m_X9_say 92 = .ok (.iload_n 1, 1) := by decide +kernel
theorem d_X9_say_93 : dec m_X9_say 93 = .ok (.iconst 2, 1) := by decide +kernel
theorem d_X9_say_94 : dec m_X9_say 94 = .ok (.invokevirtual 88, 3) := by decide +kernel
theorem d_X9_say_97 : dec m_X9_say 97 = .ok (.if_icmp .ge 28, 3) := by decide +kernel
theorem d_X9_say_100 : dec m_X9_say 100 = .ok (.aload_n 0, 1) := by decide +kernel
theorem d_X9_say_101 : dec m_X9_say 101 = .ok (.iload_n 1, 1) := by decide +kernel
theorem d_X9_say_102 : dec m_X9_say 102 = .ok (.invokevirtual 122, 3) := by decide +kernel
theorem d_X9_say_105 : dec m_X9_say 105 = .ok (.iload_n 3, 1) := by decide +kernel
theorem d_X9_say_106 : dec m_X9_say 106 = .ok (.aload_n 0, 1) := by decide +kernel
theorem d_X9_say_107 : dec m_X9_say 107 = .ok (.iload_n 1, 1) := by decide +kernel
theorem d_X9_say_108 : dec m_X9_say 108 = .ok (.iconst 3, 1) := by decide +kernel
theorem d_X9_say_109 : dec m_X9_say 109 = .ok (.iload_n 2, 1) := by decide +kernel
theorem d_X9_say_110 : dec m_X9_say 110 = .ok (.iadd, 1) := by decide +kernel
theorem d_X9_say_111 : dec m_X9_say 111 = .ok (.iconst 1, 1) := by decide +kernel
theorem d_X9_say_112 : dec m_X9_say 112 = .ok (.iadd, 1) := by decide +kernel
theorem d_X9_say_113 : dec m_X9_say 113 = .ok (.invokevirtual 88, 3) := by decide +kernel
theorem d_X9_say_116 : dec m_X9_say 116 = .ok (.invokestatic 368, 3) := by decide +kernel
theorem d_X9_say_119 : dec m_X9_say 119 = .ok (.ifCond .ne 6, 3) := by decide +kernel
theorem d_X9_say_122 : dec m_X9_say 122 = .ok (.bipush (-3), 2) := by decide +kernel
theorem d_X9_say_124 : dec m_X9_say 124 = .ok (.ireturn, 1) := by decide +kernel
theorem d_X9_say_125 : dec m_X9_say 125 = .ok (.aload_n 0, 1) := by decide +kernel
theorem d_X9_say_126 : dec m_X9_say 126 = .ok (.invokevirtual 363, 3) := by decide +kernel
theorem d_X9_say_129 : dec m_X9_say 129 = .ok (.aload_n 0, 1) := by decide +kernel
theorem d_X9_say_130 : dec m_X9_say 130 = .ok (.getfield 7, 3) := by decide +kernel
theorem d_X9_say_133 : dec m_X9_say 133 = .ok (.bipush 9, 2) := by decide +kernel
theorem d_X9_say_135 : dec m_X9_say 135 = .ok (.iload_n 1, 1) := by decide +kernel
theorem d_X9_say_136 : dec m_X9_say 136 = .ok (.imul, 1) := by decide +kernel
theorem d_X9_say_137 : dec m_X9_say 137 = .ok (.iconst 3, 1) := by decide +kernel
theorem d_X9_say_138 : dec m_X9_say 138 = .ok (.iadd, 1) := by decide +kernel
theorem d_X9_say_139 : dec m_X9_say 139 = .ok (.iload_n 2, 1) := by decide +kernel
theorem d_X9_say_140 : dec m_X9_say 140 = .ok (.iadd, 1) := by decide +kernel
theorem d_X9_say_141 : dec m_X9_say 141 = .ok (.iload_n 3, 1) := by decide +kernel
theorem d_X9_say_142 : dec m_X9_say 142 = .ok (.iastore, 1) := by decide +kernel
theorem d_X9_say_143 : dec m_X9_say 143 = .ok (.iload 4, 2) := by decide +kernel
theorem d_X9_say_145 : dec m_X9_say 145 = .ok (.ireturn, 1) := by decide +kernel
theorem d_X9_leave_0 : dec m_X9_leave 0 = .ok (.aload_n 0, 1) := by decide +kernel
theorem d_X9_leave_1 : dec m_X9_leave 1 = .ok (.iload_n 1, 1) := by decide +kernel
theorem d_X9_leave_2 : dec m_X9_leave 2 = .ok (.invokevirtual 189, 3) := by decide +kernel
theorem d_X9_leave_5 : dec m_X9_leave 5 = .ok (.ifCond .eq 12, 3) := by decide +kernel
theorem d_X9_leave_8 : dec m_X9_leave 8 = .ok (.aload_n 0, 1) := by decide +kernel
theorem d_X9_leave_9 : dec m_X9_leave 9 = .ok (.iload_n 1, 1) := by decide +kernel
theorem d_X9_leave_10 : dec m_X9_leave 10 = .ok (.iconst 2, 1) := by decide +kernel
theorem d_X9_leave_11 : dec m_X9_leave 11 = .ok (.invokevirtual 88, 3) := by decide +kernel
theorem d_X9_leave_14 : dec m_X9_leave 14 = .ok (.ifCond .ne 5, 3) := by decide +kernel
theorem d_X9_leave_17 : dec m_X9_leave 17 = .ok (.iconst (-1), 1) := by decide +kernel
theorem d_X9_leave_18 : dec m_X9_leave 18 = .ok (.ireturn, 1) := by decide +kernel
theorem d_X9_leave_19 : dec m_X9_leave 19 = .ok (.aload_n 0, 1) := by decide +kernel
theorem d_X9_leave_20 : dec m_X9_leave 20 = .ok (.invokevirtual 363, 3) := by decide +kernel
theorem d_X9_leave_23 : dec m_X9_leave 23 = .ok (.aload_n 0, 1) := by decide +kernel
theorem d_X9_leave_24 : dec m_X9_leave 24 = .ok (.iload_n 1, 1) := by decide +kernel
theorem d_X9_leave_25 : dec m_X9_leave 25 = .ok (.iconst 2, 1) := by decide +kernel
theorem d_X9_leave_26 : dec m_X9_leave 26 = .ok (.invokevirtual 88, 3) := by decide +kernel
theorem d_X9_leave_29 : dec m_X9_leave 29 = .ok (.istore_n 2, 1) := by decide +kernel
theorem d_X9_leave_30 : dec m_X9_leave 30 = .ok (.iconst 0, 1) := by decide +kernel
theorem d_X9_leave_31 : dec m_X9_leave 31 = .ok (.istore_n 3, 1) := by decide +kernel
theorem d_X9_leave_32 : dec m_X9_leave 32 = .ok (.iload_n 3, 1) := by decide +kernel
theorem d_X9_leave_33 : dec m_X9_leave 33 = .ok (.iconst 4, 1) := by decide +kernel
theorem d_X9_leave_34 : dec m_X9_leave 34 = .ok (.if_icmp .ge 23, 3) := by decide +kernel
theorem d_X9_leave_37 : dec m_X9_leave 37 = .ok (.aload_n 0, 1) := by decide +kernel
theorem d_X9_leave_38 : dec m_X9_leave 38 = .ok (.getfield 7, 3) := by decide +kernel
theorem d_X9_leave_41 : dec m_X9_leave 41 = .ok (.bipush 9, 2) := by decide +kernel
theorem d_X9_leave_43 : dec m_X9_leave 43 = .ok (.iload_n 1, 1) := by decide +kernel
theorem d_X9_leave_44 : dec m_X9_leave 44 = .ok (.imul, 1) := by decide +kernel
theorem d_X9_leave_45 : dec m_X9_leave 45 = .ok (.iconst 3, 1) := by decide +kernel
theorem d_X9_leave_46 : dec m_X9_leave 46 = .ok (.iadd, 1) := by decide +kernel
theorem d_X9_leave_47 : dec m_X9_leave 47 = .ok (.iload_n 3, 1) := by decide +kernel
theorem d_X9_leave_48 : dec m_X9_leave 48 = .ok (.iadd, 1) := by decide +kernel
theorem d_X9_leave_49 : dec m_X9_leave 49 = .ok (.iconst 0, 1) := by decide +kernel
theorem d_X9_leave_50 : dec m_X9_leave 50 = .ok (.iastore, 1) := by decide +kernel
theorem d_X9_leave_51 : dec m_X9_leave 51 = .ok (.iinc 3 1, 3) := by decide +kernel
theorem d_X9_leave_54 : dec m_X9_leave 54 = .ok (.goto (-22), 3) := by decide +kernel
theorem d_X9_leave_57 : dec m_X9_leave 57 = .ok (.aload_n 0, 1) := by decide +kernel
theorem d_X9_leave_58 : dec m_X9_leave 58 = .ok (.getfield 7, 3) := by decide +kernel
theorem d_X9_leave_61 : dec m_X9_leave 61 = .ok (.bipush 9, 2) := by decide +kernel
theorem d_X9_leave_63 : dec m_X9_leave 63 = .ok (.iload_n 1, 1) := by decide +kernel
theorem d_X9_leave_64 : dec m_X9_leave 64 = .ok (.imul, 1) := by decide +kernel
theorem d_X9_leave_65 : dec m_X9_leave 65 = .ok (.iconst 2, 1) := by decide +kernel
theorem d_X9_leave_66 : dec m_X9_leave 66 = .ok (.iadd, 1) := by decide +kernel
theorem d_X9_leave_67 : dec m_X9_leave 67 = .ok (.iconst 0, 1) := by decide +kernel
theorem d_X9_leave_68 : dec m_X9_leave 68 = .ok (.iastore, 1) := by decide +kernel
theorem d_X9_leave_69 : dec m_X9_leave 69 = .ok (.iload_n 2, 1) := by decide +kernel
theorem d_X9_leave_70 : dec m_X9_leave 70 = .ok (.ireturn, 1) := by decide +kernel
theorem d_X9_becomes_0 : dec m_X9_becomes 0 = .ok (.aload_n 0, 1) := by decide +kernel
theorem d_X9_becomes_1 : dec m_X9_becomes 1 = .ok (.getfield 7, 3) := by decide +kernel
theorem d_X9_becomes_4 : dec m_X9_becomes 4 = .ok (.iload_n 1, 1) := by decide +kernel
theorem d_X9_becomes_5 : dec m_X9_becomes 5 = .ok (.iaload, 1) := by decide +kernel
theorem d_X9_becomes_6 : dec m_X9_becomes 6 = .ok (.istore_n 3, 1) := by decide +kernel
theorem d_X9_becomes_7 : dec m_X9_becomes 7 = .ok (.iload_n 3, 1) := by decide +kernel
theorem d_X9_becomes_8 : dec m_X9_becomes 8 = .ok (.iload_n 2, 1) := by decide +kernel
theorem d_X9_becomes_9 : dec m_X9_becomes 9 = .ok (.if_icmp .ne 6, 3) := by decide +kernel
theorem d_X9_becomes_12 : dec m_X9_becomes 12 = .ok (.bipush (-2), 2) := by decide +kernel
theorem d_X9_becomes_14 : dec m_X9_becomes 14 = .ok (.ireturn, 1) := by decide +kernel
theorem d_X9_becomes_15 : dec m_X9_becomes 15 = .ok (.aload_n 0, 1) := by decide +kernel
theorem d_X9_becomes_16 : dec m_X9_becomes 16 = .ok (.invokevirtual 363, 3) := by decide +kernel
theorem d_X9_becomes_19 : dec m_X9_becomes 19 = .ok (.aload_n 0, 1) := by decide +kernel
theorem d_X9_becomes_20 : dec m_X9_becomes 20 = .ok (.getfield 7, 3) := by decide +kernel
theorem d_X9_becomes_23 : dec m_X9_becomes 23 = .ok (.iload_n 1, 1) := by decide +kernel
theorem d_X9_becomes_24 : dec m_X9_becomes 24 = .ok (.iload_n 2, 1) := by decide +kernel
theorem d_X9_becomes_25 : dec m_X9_becomes 25 = .ok (.iastore, 1) := by decide +kernel
theorem d_X9_becomes_26 : dec m_X9_becomes 26 = .ok (.iload_n 3, 1) := by decide +kernel
theorem d_X9_becomes_27 : dec m_X9_becomes 27 = .ok (.ireturn, 1) := by decide +kernel
theorem d_X9_fee_0 : dec m_X9_fee 0 = .ok (.iload_n 1, 1) := by decide +kernel
theorem d_X9_fee_1 : dec m_X9_fee 1 = .ok (.i2l, 1) := by decide +kernel
theorem d_X9_fee_2 : dec m_X9_fee 2 = .ok (.lconst 0, 1) := by decide +kernel
theorem d_X9_fee_3 : dec m_X9_fee 3 = .ok (.ldc2_w 209, 3) := by decide +kernel
theorem d_X9_fee_6 : dec m_X9_fee 6 = .ok (.invokestatic 82, 3) := by decide +kernel
theorem d_X9_fee_9 : dec m_X9_fee 9 = .ok (.ifCond .eq 14, 3) := by decide +kernel
theorem d_X9_fee_12 : dec m_X9_fee 12 = .ok (.aload_n 0, 1) := by decide +kernel
theorem d_X9_fee_13 : dec m_X9_fee 13 = .ok (.sipush 181, 3) := by decide +kernel
theorem d_X9_fee_16 : dec m_X9_fee 16 = .ok (.iload_n 1, 1) := by decide +kernel
theorem d_X9_fee_17 : dec m_X9_fee 17 = .ok (.invokevirtual 372, 3) := by decide +kernel
theorem d_X9_fee_20 : dec m_X9_fee 20 = .ok (.goto 4, 3) := by decide +kernel
theorem d_X9_fee_23 : dec m_X9_fee 23 = .ok (.iconst (-1), 1) := by decide +kernel
theorem d_X9_fee_24 : dec m_X9_fee 24 = .ok (.ireturn, 1) := by decide +kernel
theorem d_X9_law_0 : dec m_X9_law 0 = .ok (.iload_n 1, 1) := by decide +kernel
theorem d_X9_law_1 : dec m_X9_law 1 = .ok (.i2l, 1) := by decide +kernel
theorem d_X9_law_2 : dec m_X9_law 2 = .ok (.lconst 0, 1) := by decide +kernel
theorem d_X9_law_3 : dec m_X9_law 3 = .ok (.ldc2_w 86, 3) := by decide +kernel
theorem d_X9_law_6 : dec m_X9_law 6 = .ok (.invokestatic 82, 3) := by decide +kernel
theorem d_X9_law_9 : dec m_X9_law 9 = .ok (.ifCond .eq 14, 3) := by decide +kernel
theorem d_X9_law_12 : dec m_X9_law 12 = .ok (.aload_n 0, 1) := by decide +kernel
theorem d_X9_law_13 : dec m_X9_law 13 = .ok (.sipush 182, 3) := by decide +kernel
theorem d_X9_law_16 : dec m_X9_law 16 = .ok (.iload_n 1, 1) := by decide +kernel
theorem d_X9_law_17 : dec m_X9_law 17 = .ok (.invokevirtual 372, 3) := by decide +kernel
theorem d_X9_law_20 : dec m_X9_law 20 = .ok (.goto 4, 3) := by decide +kernel
theorem d_X9_law_23 : dec m_X9_law 23 = .ok (.iconst (-1), 1) := by decide +kernel
theorem d_X9_law_24 : dec m_X9_law 24 = .ok (.ireturn, 1) := by decide +kernel
theorem d_X9_goes_0 : dec m_X9_goes 0 = .ok (.bipush 9, 2) := by decide +kernel
theorem d_X9_goes_2 : dec m_X9_goes 2 = .ok (.iload_n 1, 1) := by decide +kernel
theorem d_X9_goes_3 : dec m_X9_goes 3 = .ok (.imul, 1) := by decide +kernel
theorem d_X9_goes_4 : dec m_X9_goes 4 = .ok (.istore_n 3, 1) := by decide +kernel
theorem d_X9_goes_5 : dec m_X9_goes 5 = .ok (.iconst 0, 1) := by decide +kernel
theorem d_X9_goes_6 : dec m_X9_goes 6 = .ok (.istore 4, 2) := by decide +kernel
theorem d_X9_goes_8 : dec m_X9_goes 8 = .ok (.iload 4, 2) := by decide +kernel
theorem d_X9_goes_10 : dec m_X9_goes 10 = .ok (.iconst 4, 1) := by decide +kernel
theorem d_X9_goes_11 : dec m_X9_goes 11 = .ok (.if_icmp .ge 48, 3) := by decide +kernel
theorem d_X9_goes_14 : dec m_X9_goes 14 = .ok (.aload_n 0, 1) := by decide +kernel
theorem d_X9_goes_15 : dec m_X9_goes 15 = .ok (.getfield 7, 3) := by decide +kernel
theorem d_X9_goes_18 : dec m_X9_goes 18 = .ok (.iload_n 3, 1) := by decide +kernel
theorem d_X9_goes_19 : dec m_X9_goes 19 = .ok (.iconst 3, 1) := by decide +kernel
theorem d_X9_goes_20 : dec m_X9_goes 20 = .ok (.iadd, 1) := by decide +kernel
theorem d_X9_goes_21 : dec m_X9_goes 21 = .ok (.iload 4, 2) := by decide +kernel
theorem d_X9_goes_23 : dec m_X9_goes 23 = .ok (.iadd, 1) := by decide +kernel
theorem d_X9_goes_24 : dec m_X9_goes 24 = .ok (.iload 4, 2) := by decide +kernel
theorem d_X9_goes_26 : dec m_X9_goes 26 = .ok (.iload_n 2, 1) := by decide +kernel
theorem d_X9_goes_27 : dec m_X9_goes 27 = .ok (.iadd, 1) := by decide +kernel
theorem d_X9_goes_28 : dec m_X9_goes 28 = .ok (.aload_n 0, 1) := by decide +kernel
theorem d_X9_goes_29 : dec m_X9_goes 29 = .ok (.iload_n 1, 1) := by decide +kernel
theorem d_X9_goes_30 : dec m_X9_goes 30 = .ok (.iconst 2, 1) := by decide +kernel
theorem d_X9_goes_31 : dec m_X9_goes 31 = .ok (.invokevirtual 88, 3) := by decide +kernel
theorem d_X9_goes_34 : dec m_X9_goes 34 = .ok (.if_icmp .ge 17, 3) := by decide +kernel
theorem d_X9_goes_37 : dec m_X9_goes 37 = .ok (.aload_n 0, 1) := by decide +kernel
theorem d_X9_goes_38 : dec m_X9_goes 38 = .ok (.iload_n 1, 1) := by decide +kernel
theorem d_X9_goes_39 : dec m_X9_goes 39 = .ok (.iconst 3, 1) := by decide +kernel
theorem d_X9_goes_40 : dec m_X9_goes 40 = .ok (.iload 4, 2) := by decide +kernel
theorem d_X9_goes_42 : dec m_X9_goes 42 = .ok (.iadd, 1) := by decide +kernel
theorem d_X9_goes_43 : dec m_X9_goes 43 = .ok (.iload_n 2, 1) := by decide +kernel
theorem d_X9_goes_44 : dec m_X9_goes 44 = .ok (.iadd, 1) := by decide +kernel
theorem d_X9_goes_45 : dec m_X9_goes 45 = .ok (.invokevirtual 88, 3) := by decide +kernel
theorem d_X9_goes_48 : dec m_X9_goes 48 = .ok (.goto 4, 3) := by decide +kernel
theorem d_X9_goes_51 : dec m_X9_goes 51 = .ok (.iconst 0, 1) := by decide +kernel
theorem d_X9_goes_52 : dec m_X9_goes 52 = .ok (.iastore, 1) := by decide +kernel
theorem d_X9_goes_53 : dec m_X9_goes 53 = .ok (.iinc 4 1, 3) := by decide +kernel
theorem d_X9_goes_56 : dec m_X9_goes 56 = .ok (.goto (-48), 3) := by decide +kernel
theorem d_X9_goes_59 : dec m_X9_goes 59 = .ok (.aload_n 0, 1) := by decide +kernel
theorem d_X9_goes_60 : dec m_X9_goes 60 = .ok (.getfield 7, 3) := by decide +kernel
theorem d_X9_goes_63 : dec m_X9_goes 63 = .ok (.iload_n 3, 1) := by decide +kernel
theorem d_X9_goes_64 : dec m_X9_goes 64 = .ok (.iconst 2, 1) := by decide +kernel
theorem d_X9_goes_65 : dec m_X9_goes 65 = .ok (.iadd, 1) := by decide +kernel
theorem d_X9_goes_66 : dec m_X9_goes 66 = .ok (.dup2, 1) := by decide +kernel
theorem d_X9_goes_67 : dec m_X9_goes 67 = .ok (.iaload, 1) := by decide +kernel
theorem d_X9_goes_68 : dec m_X9_goes 68 = .ok (.iload_n 2, 1) := by decide +kernel
theorem d_X9_goes_69 : dec m_X9_goes 69 = .ok (.isub, 1) := by decide +kernel
theorem d_X9_goes_70 : dec m_X9_goes 70 = .ok (.iastore, 1) := by decide +kernel
theorem d_X9_goes_71 : dec m_X9_goes 71 = .ok (.aload_n 0, 1) := by decide +kernel
theorem d_X9_goes_72 : dec m_X9_goes 72 = .ok (.getfield 7, 3) := by decide +kernel
theorem d_X9_goes_75 : dec m_X9_goes 75 = .ok (.iload_n 3, 1) := by decide +kernel
theorem d_X9_goes_76 : dec m_X9_goes 76 = .ok (.bipush 8, 2) := by decide +kernel
theorem d_X9_goes_78 : dec m_X9_goes 78 = .ok (.iadd, 1) := by decide +kernel
theorem d_X9_goes_79 : dec m_X9_goes 79 = .ok (.dup2, 1) := by decide +kernel
theorem d_X9_goes_80 : dec m_X9_goes 80 = .ok (.iaload, 1) := by decide +kernel
theorem d_X9_goes_81 : dec m_X9_goes 81 = .ok (.iload_n 2, 1) := by decide +kernel
theorem d_X9_goes_82 : dec m_X9_goes 82 = .ok (.iadd, 1) := by decide +kernel
theorem d_X9_goes_83 : dec m_X9_goes 83 = .ok (.iastore, 1) := by decide +kernel
theorem d_X9_goes_84 : dec m_X9_goes 84 = .ok (.return_, 1) := by decide +kernel
theorem d_X9_close_0 : dec m_X9_close 0 = .ok (.iload_n 1, 1) := by decide +kernel
theorem d_X9_close_1 : dec m_X9_close 1 = .ok (.invokestatic 195, 3) := by decide +kernel
theorem d_X9_close_4 : dec m_X9_close 4 = .ok (.ifCond .ne 5, 3) := by decide +kernel
theorem d_X9_close_7 : dec m_X9_close 7 = .ok (.iconst (-1), 1) := by decide +kernel
theorem d_X9_close_8 : dec m_X9_close 8 = .ok (.ireturn, 1) := by decide +kernel
theorem d_X9_close_9 : dec m_X9_close 9 = .ok (.aload_n 0, 1) := by decide +kernel
theorem d_X9_close_10 : dec m_X9_close 10 = .ok (.iload_n 1, 1) := by decide +kernel
theorem d_X9_close_11 : dec m_X9_close 11 = .ok (.invokevirtual 180, 3) := by decide +kernel
theorem d_X9_close_14 : dec m_X9_close 14 = .ok (.aload_n 0, 1) := by decide +kernel
theorem d_X9_close_15 : dec m_X9_close 15 = .ok (.getfield 146, 3) := by decide +kernel
theorem d_X9_close_18 : dec m_X9_close 18 = .ok (.ifCond .ne 6, 3) := by decide +kernel
theorem d_X9_close_21 : dec m_X9_close 21 = .ok (.bipush (-2), 2) := by decide +kernel
theorem d_X9_close_23 : dec m_X9_close 23 = .ok (.ireturn, 1) := by decide +kernel
theorem d_X9_close_24 : dec m_X9_close 24 = .ok (.aload_n 0, 1) := by decide +kernel
theorem d_X9_close_25 : dec m_X9_close 25 = .ok (.invokevirtual 363, 3) := by decide +kernel
theorem d_X9_close_28 : dec m_X9_close 28 = .ok (.aload_n 0, 1) := by decide +kernel
theorem d_X9_close_29 : dec m_X9_close 29 = .ok (.iload_n 1, 1) := by decide +kernel
theorem d_X9_close_30 : dec m_X9_close 30 = .ok (.aload_n 0, 1) := by decide +kernel
theorem d_X9_close_31 : dec m_X9_close 31 = .ok (.getfield 7, 3) := by decide +kernel
theorem d_X9_close_34 : dec m_X9_close 34 = .ok (.sipush 182, 3) := by decide +kernel
theorem d_X9_close_37 : dec m_X9_close 37 = .ok (.iaload, 1) := by decide +kernel
theorem d_X9_close_38 : dec m_X9_close 38 = .ok (.invokevirtual 186, 3) := by decide +kernel
theorem d_X9_close_41 : dec m_X9_close 41 = .ok (.istore_n 2, 1) := by decide +kernel
theorem d_X9_close_42 : dec m_X9_close 42 = .ok (.iconst 0, 1) := by decide +kernel
theorem d_X9_close_43 : dec m_X9_close 43 = .ok (.istore_n 3, 1) := by decide +kernel
theorem d_X9_close_44 : dec m_X9_close 44 = .ok (.iload_n 3, 1) := by decide +kernel
theorem d_X9_close_45 : dec m_X9_close 45 = .ok (.aload_n 0, 1) := by decide +kernel
theorem d_X9_close_46 : dec m_X9_close 46 = .ok (.invokevirtual 78, 3) := by decide +kernel
theorem d_X9_close_49 : dec m_X9_close 49 = .ok (.if_icmp .ge 74, 3) := by decide +kernel
theorem d_X9_close_52 : dec m_X9_close 52 = .ok (.aload_n 0, 1) := by decide +kernel
theorem d_X9_close_53 : dec m_X9_close 53 = .ok (.iload_n 3, 1) := by decide +kernel
theorem d_X9_close_54 : dec m_X9_close 54 = .ok (.iconst 1, 1) := by decide +kernel
theorem d_X9_close_55 : dec m_X9_close 55 = .ok (.invokevirtual 88, 3) := by decide +kernel
theorem d_X9_close_58 : dec m_X9_close 58 = .ok (.iload_n 1, 1) := by decide +kernel
theorem d_X9_close_59 : dec m_X9_close 59 = .ok (.if_icmp .ne 7, 3) := by decide +kernel
theorem d_X9_close_62 : dec m_X9_close 62 = .ok (.iconst 1, 1) := by decide +kernel
theorem d_X9_close_63 : dec m_X9_close 63 = .ok (.goto 4, 3) := by decide +kernel
theorem d_X9_close_66 : dec m_X9_close 66 = .ok (.iconst 0, 1) := by decide +kernel
theorem d_X9_close_67 : dec m_X9_close 67 = .ok (.istore 4, 2) := by decide +kernel
theorem d_X9_close_69 : dec m_X9_close 69 = .ok (.aload_n 0, 1) := by decide +kernel
theorem d_X9_close_70 : dec m_X9_close 70 = .ok (.getfield 68, 3) := by decide +kernel
theorem d_X9_close_73 : dec m_X9_close 73 = .ok (.iload_n 3, 1) := by decide +kernel
theorem d_X9_close_74 : dec m_X9_close 74 = .ok (.iload 4, 2) := by decide +kernel
theorem d_X9_close_76 : dec m_X9_close 76 = .ok (.ifCond .eq 11, 3) := by decide +kernel
theorem d_X9_close_79 : dec m_X9_close 79 = .ok (.aload_n 0, 1) := by decide +kernel
theorem d_X9_close_80 : dec m_X9_close 80 = .ok (.iload_n 3, 1) := by decide +kernel
theorem d_X9_close_81 : dec m_X9_close 81 = .ok (.invokevirtual 170, 3) := by decide +kernel
theorem d_X9_close_84 : dec m_X9_close 84 = .ok (.goto 4, 3) := by decide +kernel
theorem d_X9_close_87 : dec m_X9_close 87 = .ok (.iconst 0, 1) := by decide +kernel
theorem d_X9_close_88 : dec m_X9_close 88 = .ok (.iastore, 1) := by decide +kernel
theorem d_X9_close_89 : dec m_X9_close 89 = .ok (.aload_n 0, 1) := by decide +kernel
theorem d_X9_close_90 : dec m_X9_close 90 = .ok (.getfield 65, 3) := by decide +kernel
theorem d_X9_close_93 : dec m_X9_close 93 = .ok (.iload_n 3, 1) := by decide +kernel
theorem d_X9_close_94 : dec m_X9_close 94 = .ok (.iload 4, 2) := by decide +kernel
theorem d_X9_close_96 : dec m_X9_close 96 = .ok (.ifCond .eq 19, 3) := by decide +kernel
theorem d_X9_close_99 : dec m_X9_close 99 = .ok (.aload_n 0, 1) := by decide +kernel
theorem d_X9_close_100 : dec m_X9_close 100 = .ok (.iload_n 3, 1) := by decide +kernel
theorem d_X9_close_101 : dec m_X9_close 101 = .ok (.aload_n 0, 1) := by decide +kernel
theorem d_X9_close_102 : dec m_X9_close 102 = .ok (.getfield 7, 3) := by decide +kernel
theorem d_X9_close_105 : dec m_X9_close 105 = .ok (.sipush 182, 3) := by decide +kernel
theorem d_X9_close_108 : dec m_X9_close 108 = .ok (.iaload, 1) := by decide +kernel
theorem d_X9_close_109 : dec m_X9_close 109 = .ok (.invokevirtual 183, 3) := by decide +kernel
theorem d_X9_close_112 : dec m_X9_close 112 = .ok (.goto 4, 3) := by decide +kernel
theorem d_X9_close_115 : dec m_X9_close 115 = .ok (.iconst 0, 1) := by decide +kernel
theorem d_X9_close_116 : dec m_X9_close 116 = .ok (.iastore, 1) := by decide +kernel
theorem d_X9_close_117 : dec m_X9_close 117 = .ok (.iinc 3 1, 3) := by decide +kernel
theorem d_X9_close_120 : dec m_X9_close 120 = .ok (.goto (-76), 3) := by decide +kernel
theorem d_X9_close_123 : dec m_X9_close 123 = .ok (.iconst 0, 1) := by decide +kernel
theorem d_X9_close_124 : dec m_X9_close 124 = .ok (.istore_n 3, 1) := by decide +kernel
theorem d_X9_close_125 : dec m_X9_close 125 = .ok (.iload_n 3, 1) := by decide +kernel
theorem d_X9_close_126 : dec m_X9_close 126 = .ok (.aload_n 0, 1) := by decide +kernel
theorem d_X9_close_127 : dec m_X9_close 127 = .ok (.invokevirtual 78, 3) := by decide +kernel
theorem d_X9_close_130 : dec m_X9_close 130 = .ok (.if_icmp .ge 59, 3) := by decide +kernel
theorem d_X9_close_133 : dec m_X9_close 133 = .ok (.aload_n 0, 1) := by decide +kernel
theorem d_X9_close_134 : dec m_X9_close 134 = .ok (.getfield 7, 3) := by decide +kernel
theorem d_X9_close_137 : dec m_X9_close 137 = .ok (.bipush 9, 2) := by decide +kernel
theorem d_X9_close_139 : dec m_X9_close 139 = .ok (.iload_n 3, 1) := by decide +kernel
theorem d_X9_close_140 : dec m_X9_close 140 = .ok (.imul, 1) := by decide +kernel
theorem d_X9_close_141 : dec m_X9_close 141 = .ok (.bipush 7, 2) := by decide +kernel
theorem d_X9_close_143 : dec m_X9_close 143 = .ok (.iadd, 1) := by decide +kernel
theorem d_X9_close_144 : dec m_X9_close 144 = .ok (.dup2, 1) := by decide +kernel
theorem d_X9_close_145 : dec m_X9_close 145 = .ok (.iaload, 1) := by decide +kernel
theorem d_X9_close_146 : dec m_X9_close 146 = .ok (.aload_n 0, 1) := by decide +kernel
theorem d_X9_close_147 : dec m_X9_close 147 = .ok (.iload_n 3, 1) := by decide +kernel
theorem d_X9_close_148 : dec m_X9_close 148 = .ok (.invokevirtual 122, 3) := by decide +kernel
theorem d_X9_close_151 : dec m_X9_close 151 = .ok (.ifCond .eq 12, 3) := by decide +kernel
theorem d_X9_close_154 : dec m_X9_close 154 = .ok (.aload_n 0, 1) := by decide +kernel
theorem d_X9_close_155 : dec m_X9_close 155 = .ok (.getfield 65, 3) := by decide +kernel
theorem d_X9_close_158 : dec m_X9_close 158 = .ok (.iload_n 3, 1) := by decide +kernel
theorem d_X9_close_159 : dec m_X9_close 159 = .ok (.iaload, 1) := by decide +kernel
theorem d_X9_close_160 : dec m_X9_close 160 = .ok (.goto 10, 3) := by decide +kernel
theorem d_X9_close_163 : dec m_X9_close 163 = .ok (.aload_n 0, 1) := by decide +kernel
theorem d_X9_close_164 : dec m_X9_close 164 = .ok (.getfield 65, 3) := by decide +kernel
theorem d_X9_close_167 : dec m_X9_close 167 = .ok (.iload_n 3, 1) := by decide +kernel
theorem d_X9_close_168 : dec m_X9_close 168 = .ok (.iaload, 1) := by decide +kernel
theorem d_X9_close_169 : dec m_X9_close 169 = .ok (.ineg, 1) := by decide +kernel
theorem d_X9_close_170 : dec m_X9_close 170 = .ok (.iadd, 1) := by decide +kernel
theorem d_X9_close_171 : dec m_X9_close 171 = .ok (.iastore, 1) := by decide +kernel
theorem d_X9_close_172 : dec m_X9_close 172 = .ok (.aload_n 0, 1) := by decide +kernel
theorem d_X9_close_173 : dec m_X9_close 173 = .ok (.iload_n 3, 1) := by decide +kernel
theorem d_X9_close_174 : dec m_X9_close 174 = .ok (.aload_n 0, 1) := by decide +kernel
theorem d_X9_close_175 : dec m_X9_close 175 = .ok (.getfield 68, 3) := by decide +kernel
theorem d_X9_close_178 : dec m_X9_close 178 = .ok (.iload_n 3, 1) := by decide +kernel
theorem d_X9_close_179 : dec m_X9_close 179 = .ok (.iaload, 1) := by decide +kernel
theorem d_X9_close_180 : dec m_X9_close 180 = .ok (.invokevirtual 375, 3) := by decide +kernel
theorem d_X9_close_183 : dec m_X9_close 183 = .ok (.iinc 3 1, 3) := by decide +kernel
theorem d_X9_close_186 : dec m_X9_close 186 = .ok (.goto (-61), 3) := by decide +kernel
theorem d_X9_close_189 : dec m_X9_close 189 = .ok (.aload_n 0, 1) := by decide +kernel
theorem d_X9_close_190 : dec m_X9_close 190 = .ok (.getfield 7, 3) := by decide +kernel
theorem d_X9_close_193 : dec m_X9_close 193 = .ok (.sipush 183, 3) := by decide +kernel
theorem d_X9_close_196 : dec m_X9_close 196 = .ok (.dup2, 1) := by decide +kernel
theorem d_X9_close_197 : dec m_X9_close 197 = .ok (.iaload, 1) := by decide +kernel
theorem d_X9_close_198 : dec m_X9_close 198 = .ok (.iload_n 2, 1) := by decide +kernel
theorem d_X9_close_199 : dec m_X9_close 199 = .ok (.iadd, 1) := by decide +kernel
theorem d_X9_close_200 : dec m_X9_close 200 = .ok (.iastore, 1) := by decide +kernel
theorem d_X9_close_201 : dec m_X9_close 201 = .ok (.aload_n 0, 1) := by decide +kernel
theorem d_X9_close_202 : dec m_X9_close 202 = .ok (.getfield 7, 3) := by decide +kernel
theorem d_X9_close_205 : dec m_X9_close 205 = .ok (.sipush 186, 3) := by decide +kernel
theorem d_X9_close_208 : dec m_X9_close 208 = .ok (.aload_n 0, 1) := by decide +kernel
theorem d_X9_close_209 : dec m_X9_close 209 = .ok (.getfield 7, 3) := by decide +kernel
theorem d_X9_close_212 : dec m_X9_close 212 = .ok (.sipush 185, 3) := by decide +kernel
theorem d_X9_close_215 : dec m_X9_close 215 = .ok (.iaload, 1) := by decide +kernel
theorem d_X9_close_216 : dec m_X9_close 216 = .ok (.ifCond .eq 15, 3) := by decide +kernel
theorem d_X9_close_219 : dec m_X9_close 219 = .ok (.iload_n 2, 1) := by decide +kernel
theorem d_X9_close_220 : dec m_X9_close 220 = .ok (.aload_n 0, 1) := by decide +kernel
theorem d_X9_close_221 : dec m_X9_close 221 = .ok (.getfield 7, 3) := by decide +kernel
theorem d_X9_close_224 : dec m_X9_close 224 = .ok (.sipush 186, 3) := by decide +kernel
theorem d_X9_close_227 : dec m_X9_close 227 = .ok (.iaload, 1) := by decide +kernel
theorem d_X9_close_228 : dec m_X9_close 228 = .ok (.if_icmp .le 7, 3) := by decide +kernel
theorem d_X9_close_231 : dec m_X9_close 231 = .ok (.iload_n 2, 1) := by decide +kernel
theorem d_X9_close_232 : dec m_X9_close 232 = .ok (.goto 11, 3) := by decide +kernel
theorem d_X9_close_235 : dec m_X9_close 235 = .ok (.aload_n 0, 1) := by decide +kernel
theorem d_X9_close_236 : dec m_X9_close 236 = .ok (.getfield 7, 3) := by decide +kernel
theorem d_X9_close_239 : dec m_X9_close 239 = .ok (.sipush 186, 3) := by decide +kernel
theorem d_X9_close_242 : dec m_X9_close 242 = .ok (.iaload, 1) := by decide +kernel
theorem d_X9_close_243 : dec m_X9_close 243 = .ok (.iastore, 1) := by decide +kernel
theorem d_X9_close_244 : dec m_X9_close 244 = .ok (.aload_n 0, 1) := by decide +kernel
theorem d_X9_close_245 : dec m_X9_close 245 = .ok (.getfield 7, 3) := by decide +kernel
theorem d_X9_close_248 : dec m_X9_close 248 = .ok (.sipush 184, 3) := by decide +kernel
theorem d_X9_close_251 : dec m_X9_close 251 = .ok (.dup2, 1) := by decide +kernel
theorem d_X9_close_252 : dec m_X9_close 252 = .ok (.iaload, 1) := by decide +kernel
theorem d_X9_close_253 : dec m_X9_close 253 = .ok (.aload_n 0, 1) := by decide +kernel
theorem d_X9_close_254 : dec m_X9_close 254 = .ok (.getfield 146, 3) := by decide +kernel
theorem d_X9_close_257 : dec m_X9_close 257 = .ok (.iadd, 1) := by decide +kernel
theorem d_X9_close_258 : dec m_X9_close 258 = .ok (.iastore, 1) := by decide +kernel
theorem d_X9_close_259 : dec m_X9_close 259 = .ok (.aload_n 0, 1) := by decide +kernel
theorem d_X9_close_260 : dec m_X9_close 260 = .ok (.getfield 7, 3) := by decide +kernel
theorem d_X9_close_263 : dec m_X9_close 263 = .ok (.sipush 185, 3) := by decide +kernel
theorem d_X9_close_266 : dec m_X9_close 266 = .ok (.dup2, 1) := by decide +kernel
theorem d_X9_close_267 : dec m_X9_close 267 = .ok (.iaload, 1) := by decide +kernel
theorem d_X9_close_268 : dec m_X9_close 268 = .ok (.iconst 1, 1) := by decide +kernel
theorem d_X9_close_269 : dec m_X9_close 269 = .ok (.iadd, 1) := by decide +kernel
theorem d_X9_close_270 : dec m_X9_close 270 = .ok (.iastore, 1) := by decide +kernel
theorem d_X9_close_271 : dec m_X9_close 271 = .ok (.aload_n 0, 1) := by decide +kernel
theorem d_X9_close_272 : dec m_X9_close 272 = .ok (.getfield 146, 3) := by decide +kernel
theorem d_X9_close_275 : dec m_X9_close 275 = .ok (.ireturn, 1) := by decide +kernel
theorem d_X9_undo_0 : dec m_X9_undo 0 = .ok (.aload_n 0, 1) := by decide +kernel
theorem d_X9_undo_1 : dec m_X9_undo 1 = .ok (.getfield 294, 3) := by decide +kernel
theorem d_X9_undo_4 : dec m_X9_undo 4 = .ok (.ifCond .ne 5, 3) := by decide +kernel
theorem d_X9_undo_7 : dec m_X9_undo 7 = .ok (.iconst (-1), 1) := by decide +kernel
theorem d_X9_undo_8 : dec m_X9_undo 8 = .ok (.ireturn, 1) := by decide +kernel
theorem d_X9_undo_9 : dec m_X9_undo 9 = .ok (.aload_n 0, 1) := by decide +kernel
theorem d_X9_undo_10 : dec m_X9_undo 10 = .ok (.dup, 1) := by decide +kernel
theorem d_X9_undo_11 : dec m_X9_undo 11 = .ok (.getfield 294, 3) := by decide +kernel
theorem d_X9_undo_14 : dec m_X9_undo 14 = .ok (.iconst 1, 1) := by decide +kernel
theorem d_X9_undo_15 : dec m_X9_undo 15 = .ok (.isub, 1) := by decide +kernel
theorem d_X9_undo_16 : dec m_X9_undo 16 = .ok (.putfield 294, 3) := by decide +kernel
theorem d_X9_undo_19 : dec m_X9_undo 19 = .ok (.iconst 0, 1) := by decide +kernel
theorem d_X9_undo_20 : dec m_X9_undo 20 = .ok (.istore_n 1, 1) := by decide +kernel
theorem d_X9_undo_21 : dec m_X9_undo 21 = .ok (.iload_n 1, 1) := by decide +kernel
theorem d_X9_undo_22 : dec m_X9_undo 22 = .ok (.sipush 187, 3) := by decide +kernel
theorem d_X9_undo_25 : dec m_X9_undo 25 = .ok (.if_icmp .ge 30, 3) := by decide +kernel
theorem d_X9_undo_28 : dec m_X9_undo 28 = .ok (.aload_n 0, 1) := by decide +kernel
theorem d_X9_undo_29 : dec m_X9_undo 29 = .ok (.getfield 7, 3) := by decide +kernel
theorem d_X9_undo_32 : dec m_X9_undo 32 = .ok (.iload_n 1, 1) := by decide +kernel
theorem d_X9_undo_33 : dec m_X9_undo 33 = .ok (.aload_n 0, 1) := by decide +kernel
theorem d_X9_undo_34 : dec m_X9_undo 34 = .ok (.getfield 13, 3) := by decide +kernel
theorem d_X9_undo_37 : dec m_X9_undo 37 = .ok (.sipush 187, 3) := by decide +kernel
theorem d_X9_undo_40 : dec m_X9_undo 40 = .ok (.aload_n 0, 1) := by decide +kernel
theorem d_X9_undo_41 : dec m_X9_undo 41 = .ok (.getfield 294, 3) := by decide +kernel
theorem d_X9_undo_44 : dec m_X9_undo 44 = .ok (.imul, 1) := by decide +kernel
theorem d_X9_undo_45 : dec m_X9_undo 45 = .ok (.iload_n 1, 1) := by decide +kernel
theorem d_X9_undo_46 : dec m_X9_undo 46 = .ok (.iadd, 1) := by decide +kernel
theorem d_X9_undo_47 : dec m_X9_undo 47 = .ok (.iaload, 1) := by decide +kernel
theorem d_X9_undo_48 : dec m_X9_undo 48 = .ok (.iastore, 1) := by decide +kernel
theorem d_X9_undo_49 : dec m_X9_undo 49 = .ok (.iinc 1 1, 3) := by decide +kernel
theorem d_X9_undo_52 : dec m_X9_undo 52 = .ok (.goto (-31), 3) := by decide +kernel
theorem d_X9_undo_55 : dec m_X9_undo 55 = .ok (.aload_n 0, 1) := by decide +kernel
theorem d_X9_undo_56 : dec m_X9_undo 56 = .ok (.getfield 294, 3) := by decide +kernel
theorem d_X9_undo_59 : dec m_X9_undo 59 = .ok (.ireturn, 1) := by decide +kernel
theorem d_X9_keep_0 : dec m_X9_keep 0 = .ok (.iload_n 1, 1) := by decide +kernel
theorem d_X9_keep_1 : dec m_X9_keep 1 = .ok (.i2l, 1) := by decide +kernel
theorem d_X9_keep_2 : dec m_X9_keep 2 = .ok (.lconst 0, 1) := by decide +kernel
theorem d_X9_keep_3 : dec m_X9_keep 3 = .ok (.lconst 1, 1) := by decide +kernel
theorem d_X9_keep_4 : dec m_X9_keep 4 = .ok (.invokestatic 82, 3) := by decide +kernel
theorem d_X9_keep_7 : dec m_X9_keep 7 = .ok (.ifCond .ne 5, 3) := by decide +kernel
theorem d_X9_keep_10 : dec m_X9_keep 10 = .ok (.iconst (-1), 1) := by decide +kernel
theorem d_X9_keep_11 : dec m_X9_keep 11 = .ok (.ireturn, 1) := by decide +kernel
theorem d_X9_keep_12 : dec m_X9_keep 12 = .ok (.iconst 0, 1) := by decide +kernel
theorem d_X9_keep_13 : dec m_X9_keep 13 = .ok (.istore_n 2, 1) := by decide +kernel
theorem d_X9_keep_14 : dec m_X9_keep 14 = .ok (.iload_n 2, 1) := by decide +kernel
theorem d_X9_keep_15 : dec m_X9_keep 15 = .ok (.sipush 187, 3) := by decide +kernel
theorem d_X9_keep_18 : dec m_X9_keep 18 = .ok (.if_icmp .ge 27, 3) := by decide +kernel
theorem d_X9_keep_21 : dec m_X9_keep 21 = .ok (.aload_n 0, 1) := by decide +kernel
theorem d_X9_keep_22 : dec m_X9_keep 22 = .ok (.getfield 16, 3) := by decide +kernel
theorem d_X9_keep_25 : dec m_X9_keep 25 = .ok (.sipush 187, 3) := by decide +kernel
theorem d_X9_keep_28 : dec m_X9_keep 28 = .ok (.iload_n 1, 1) := by decide +kernel
theorem d_X9_keep_29 : dec m_X9_keep 29 = .ok (.imul, 1) := by decide +kernel
theorem d_X9_keep_30 : dec m_X9_keep 30 = .ok (.iload_n 2, 1) := by decide +kernel
theorem d_X9_keep_31 : dec m_X9_keep 31 = .ok (.iadd, 1) := by decide +kernel
theorem d_X9_keep_32 : dec m_X9_keep 32 = .ok (.aload_n 0, 1) := by decide +kernel
theorem d_X9_keep_33 : dec m_X9_keep 33 = .ok (.getfield 7, 3) := by decide +kernel
theorem d_X9_keep_36 : dec m_X9_keep 36 = .ok (.iload_n 2, 1) := by decide +kernel
theorem d_X9_keep_37 : dec m_X9_keep 37 = .ok (.iaload, 1) := by decide +kernel
theorem d_X9_keep_38 : dec m_X9_keep 38 = .ok (.iastore, 1) := by decide +kernel
theorem d_X9_keep_39 : dec m_X9_keep 39 = .ok (.iinc 2 1, 3) := by decide +kernel
theorem d_X9_keep_42 : dec m_X9_keep 42 = .ok (.goto (-28), 3) := by decide +kernel
theorem d_X9_keep_45 : dec m_X9_keep 45 = .ok (.aload_n 0, 1) := by decide +kernel
theorem d_X9_keep_46 : dec m_X9_keep 46 = .ok (.getfield 19, 3) := by decide +kernel
theorem d_X9_keep_49 : dec m_X9_keep 49 = .ok (.iload_n 1, 1) := by decide +kernel
theorem d_X9_keep_50 : dec m_X9_keep 50 = .ok (.iconst 1, 1) := by decide +kernel
theorem d_X9_keep_51 : dec m_X9_keep 51 = .ok (.bastore, 1) := by decide +kernel
theorem d_X9_keep_52 : dec m_X9_keep 52 = .ok (.aload_n 0, 1) := by decide +kernel
theorem d_X9_keep_53 : dec m_X9_keep 53 = .ok (.invokevirtual 78, 3) := by decide +kernel
theorem d_X9_keep_56 : dec m_X9_keep 56 = .ok (.ireturn, 1) := by decide +kernel
theorem d_X9_back_0 : dec m_X9_back 0 = .ok (.iload_n 1, 1) := by decide +kernel
theorem d_X9_back_1 : dec m_X9_back 1 = .ok (.i2l, 1) := by decide +kernel
theorem d_X9_back_2 : dec m_X9_back 2 = .ok (.lconst 0, 1) := by decide +kernel
theorem d_X9_back_3 : dec m_X9_back 3 = .ok (.lconst 1, 1) := by decide +kernel
theorem d_X9_back_4 : dec m_X9_back 4 = .ok (.invokestatic 82, 3) := by decide +kernel
theorem d_X9_back_7 : dec m_X9_back 7 = .ok (.ifCond .ne 5, 3) := by decide +kernel
theorem d_X9_back_10 : dec m_X9_back 10 = .ok (.iconst (-1), 1) := by decide +kernel
theorem d_X9_back_11 : dec m_X9_back 11 = .ok (.ireturn, 1) := by decide +kernel
theorem d_X9_back_12 : dec m_X9_back 12 = .ok (.aload_n 0, 1) := by decide +kernel
theorem d_X9_back_13 : dec m_X9_back 13 = .ok (.getfield 19, 3) := by decide +kernel
theorem d_X9_back_16 : dec m_X9_back 16 = .ok (.iload_n 1, 1) := by decide +kernel
theorem d_X9_back_17 : dec m_X9_back 17 = .ok (.baload, 1) := by decide +kernel
theorem d_X9_back_18 : dec m_X9_back 18 = .ok (.ifCond .ne 6, 3) := by decide +kernel
theorem d_X9_back_21 : dec m_X9_back 21 = .ok (.bipush (-2), 2) := by decide +kernel
theorem d_X9_back_23 : dec m_X9_back 23 = .ok (.ireturn, 1) := by decide +kernel
theorem d_X9_back_24 : dec m_X9_back 24 = .ok (.iconst 0, 1) := by decide +kernel
theorem d_X9_back_25 : dec m_X9_back 25 = .ok (.istore_n 2, 1) := by decide +kernel
theorem d_X9_back_26 : dec m_X9_back 26 = .ok (.iload_n 2, 1) := by decide +kernel
theorem d_X9_back_27 : dec m_X9_back 27 = .ok (.sipush 187, 3) := by decide +kernel
theorem d_X9_back_30 : dec m_X9_back 30 = .ok (.if_icmp .ge 27, 3) := by decide +kernel
theorem d_X9_back_33 : dec m_X9_back 33 = .ok (.aload_n 0, 1) := by decide +kernel
theorem d_X9_back_34 : dec m_X9_back 34 = .ok (.getfield 7, 3) := by decide +kernel
theorem d_X9_back_37 : dec m_X9_back 37 = .ok (.iload_n 2, 1) := by decide +kernel
theorem d_X9_back_38 : dec m_X9_back 38 = .ok (.aload_n 0, 1) := by decide +kernel
theorem d_X9_back_39 : dec m_X9_back 39 = .ok (.getfield 16, 3) := by decide +kernel
theorem d_X9_back_42 : dec m_X9_back 42 = .ok (.sipush 187, 3) := by decide +kernel
theorem d_X9_back_45 : dec m_X9_back 45 = .ok (.iload_n 1, 1) := by decide +kernel
theorem d_X9_back_46 : dec m_X9_back 46 = .ok (.imul, 1) := by decide +kernel
theorem d_X9_back_47 : dec m_X9_back 47 = .ok (.iload_n 2, 1) := by decide +kernel
theorem d_X9_back_48 : dec m_X9_back 48 = .ok (.iadd, 1) := by decide +kernel
theorem d_X9_back_49 : dec m_X9_back 49 = .ok (.iaload, 1) := by decide +kernel
theorem d_X9_back_50 : dec m_X9_back 50 = .ok (.iastore, 1) := by decide +kernel
theorem d_X9_back_51 : dec m_X9_back 51 = .ok (.iinc 2 1, 3) := by decide +kernel
theorem d_X9_back_54 : dec m_X9_back 54 = .ok (.goto (-28), 3) := by decide +kernel
theorem d_X9_back_57 : dec m_X9_back 57 = .ok (.aload_n 0, 1) := by decide +kernel
theorem d_X9_back_58 : dec m_X9_back 58 = .ok (.iconst 0, 1) := by decide +kernel
theorem d_X9_back_59 : dec m_X9_back 59 = .ok (.putfield 294, 3) := by decide +kernel
theorem d_X9_back_62 : dec m_X9_back 62 = .ok (.aload_n 0, 1) := by decide +kernel
theorem d_X9_back_63 : dec m_X9_back 63 = .ok (.invokevirtual 78, 3) := by decide +kernel
theorem d_X9_back_66 : dec m_X9_back 66 = .ok (.ireturn, 1) := by decide +kernel
theorem d_X9_puts_0 : dec m_X9_puts 0 = .ok (.bipush 24, 2) := by decide +kernel
theorem d_X9_puts_2 : dec m_X9_puts 2 = .ok (.istore_n 2, 1) := by decide +kernel
theorem d_X9_puts_3 : dec m_X9_puts 3 = .ok (.iload_n 2, 1) := by decide +kernel
theorem d_X9_puts_4 : dec m_X9_puts 4 = .ok (.ifCond .lt 32, 3) := by decide +kernel
theorem d_X9_puts_7 : dec m_X9_puts 7 = .ok (.aload_n 0, 1) := by decide +kernel
theorem d_X9_puts_8 : dec m_X9_puts 8 = .ok (.getfield 71, 3) := by decide +kernel
theorem d_X9_puts_11 : dec m_X9_puts 11 = .ok (.aload_n 0, 1) := by decide +kernel
theorem d_X9_puts_12 : dec m_X9_puts 12 = .ok (.getfield 297, 3) := by decide +kernel
theorem d_X9_puts_15 : dec m_X9_puts 15 = .ok (.iload_n 1, 1) := by decide +kernel
theorem d_X9_puts_16 : dec m_X9_puts 16 = .ok (.iload_n 2, 1) := by decide +kernel
theorem d_X9_puts_17 : dec m_X9_puts 17 = .ok (.ishr, 1) := by decide +kernel
theorem d_X9_puts_18 : dec m_X9_puts 18 = .ok (.i2b, 1) := by decide +kernel
theorem d_X9_puts_19 : dec m_X9_puts 19 = .ok (.bastore, 1) := by decide +kernel
theorem d_X9_puts_20 : dec m_X9_puts 20 = .ok (.aload_n 0, 1) := by decide +kernel
theorem d_X9_puts_21 : dec m_X9_puts 21 = .ok (.dup, 1) := by decide +kernel
theorem d_X9_puts_22 : dec m_X9_puts 22 = .ok (.getfield 297, 3) := by decide +kernel
theorem d_X9_puts_25 : dec m_X9_puts 25 = .ok (.iconst 1, 1) := by decide +kernel
theorem d_X9_puts_26 : dec m_X9_puts 26 = .ok (.iadd, 1) := by decide +kernel
theorem d_X9_puts_27 : dec m_X9_puts 27 = .ok (.putfield 297, 3) := by decide +kernel
theorem d_X9_puts_30 : dec m_X9_puts 30 = .ok (.iinc 2 (-8), 3) := by decide +kernel
theorem d_X9_puts_33 : dec m_X9_puts 33 = .ok (.goto (-30), 3) := by decide +kernel
theorem d_X9_puts_36 : dec m_X9_puts 36 = .ok (.return_, 1) := by decide +kernel
theorem d_X9_feed_0 : dec m_X9_feed 0 = .ok (.aload_n 0, 1) := by decide +kernel
theorem d_X9_feed_1 : dec m_X9_feed 1 = .ok (.getfield 297, 3) := by decide +kernel
theorem d_X9_feed_4 : dec m_X9_feed 4 = .ok (.sipush 380, 3) := by decide +kernel
theorem d_X9_feed_7 : dec m_X9_feed 7 = .ok (.if_icmp .le 5, 3) := by decide +kernel
theorem d_X9_feed_10 : dec m_X9_feed 10 = .ok (.iconst (-1), 1) := by decide +kernel
theorem d_X9_feed_11 : dec m_X9_feed 11 = .ok (.ireturn, 1) := by decide +kernel
theorem d_X9_feed_12 : dec m_X9_feed 12 = .ok (.aload_n 0, 1) := by decide +kernel
theorem d_X9_feed_13 : dec m_X9_feed 13 = .ok (.iload_n 1, 1) := by decide +kernel
theorem d_X9_feed_14 : dec m_X9_feed 14 = .ok (.invokevirtual 378, 3) := by decide +kernel
theorem d_X9_feed_17 : dec m_X9_feed 17 = .ok (.aload_n 0, 1) := by decide +kernel
theorem d_X9_feed_18 : dec m_X9_feed 18 = .ok (.iload_n 2, 1) := by decide +kernel
theorem d_X9_feed_19 : dec m_X9_feed 19 = .ok (.invokevirtual 378, 3) := by decide +kernel
theorem d_X9_feed_22 : dec m_X9_feed 22 = .ok (.aload_n 0, 1) := by decide +kernel
theorem d_X9_feed_23 : dec m_X9_feed 23 = .ok (.iload_n 3, 1) := by decide +kernel
theorem d_X9_feed_24 : dec m_X9_feed 24 = .ok (.invokevirtual 378, 3) := by decide +kernel
theorem d_X9_feed_27 : dec m_X9_feed 27 = .ok (.aload_n 0, 1) := by decide +kernel
theorem d_X9_feed_28 : dec m_X9_feed 28 = .ok (.iload 4, 2) := by decide +kernel
theorem d_X9_feed_30 : dec m_X9_feed 30 = .ok (.invokevirtual 378, 3) := by decide +kernel
theorem d_X9_feed_33 : dec m_X9_feed 33 = .ok (.aload_n 0, 1) := by decide +kernel
theorem d_X9_feed_34 : dec m_X9_feed 34 = .ok (.iload 5, 2) := by decide +kernel
theorem d_X9_feed_36 : dec m_X9_feed 36 = .ok (.invokevirtual 378, 3) := by decide +kernel
theorem d_X9_feed_39 : dec m_X9_feed 39 = .ok (.aload_n 0, 1) := by decide +kernel
theorem d_X9_feed_40 : dec m_X9_feed 40 = .ok (.getfield 297, 3) := by decide +kernel
theorem d_X9_feed_43 : dec m_X9_feed 43 = .ok (.ireturn, 1) := by decide +kernel
theorem d_X9_end_0 : dec m_X9_end 0 = .ok (.iload_n 1, 1) := by decide +kernel
theorem d_X9_end_1 : dec m_X9_end 1 = .ok (.i2l, 1) := by decide +kernel
theorem d_X9_end_2 : dec m_X9_end 2 = .ok (.lconst 0, 1) := by decide +kernel
theorem d_X9_end_3 : dec m_X9_end 3 = .ok (.aload_n 0, 1) := by decide +kernel
theorem d_X9_end_4 : dec m_X9_end 4 = .ok (.getfield 297, 3) := by decide +kernel
theorem d_X9_end_7 : dec m_X9_end 7 = .ok (.i2l, 1) := by decide +kernel
theorem d_X9_end_8 : dec m_X9_end 8 = .ok (.invokestatic 82, 3) := by decide +kernel
theorem d_X9_end_11 : dec m_X9_end 11 = .ok (.ifCond .ne 5, 3) := by decide +kernel
theorem d_X9_end_14 : dec m_X9_end 14 = .ok (.iconst (-1), 1) := by decide +kernel
theorem d_X9_end_15 : dec m_X9_end 15 = .ok (.ireturn, 1) := by decide +kernel
theorem d_X9_end_16 : dec m_X9_end 16 = .ok (.aload_n 0, 1) := by decide +kernel
theorem d_X9_end_17 : dec m_X9_end 17 = .ok (.iload_n 1, 1) := by decide +kernel
theorem d_X9_end_18 : dec m_X9_end 18 = .ok (.putfield 297, 3) := by decide +kernel
theorem d_X9_end_21 : dec m_X9_end 21 = .ok (.iload_n 1, 1) := by decide +kernel
theorem d_X9_end_22 : dec m_X9_end 22 = .ok (.ireturn, 1) := by decide +kernel
theorem d_X9_byteAt_0 : dec m_X9_byteAt 0 = .ok (.iload_n 1, 1) := by decide +kernel
theorem d_X9_byteAt_1 : dec m_X9_byteAt 1 = .ok (.aload_n 0, 1) := by decide +kernel
theorem d_X9_byteAt_2 : dec m_X9_byteAt 2 = .ok (.getfield 297, 3) := by decide +kernel
theorem d_X9_byteAt_5 : dec m_X9_byteAt 5 = .ok (.if_icmp .ge 16, 3) := by decide +kernel
theorem d_X9_byteAt_8 : dec m_X9_byteAt 8 = .ok (.aload_n 0, 1) := by decide +kernel
theorem d_X9_byteAt_9 : dec m_X9_byteAt 9 = .ok (.getfield 71, 3) := by decide +kernel
theorem d_X9_byteAt_12 : dec m_X9_byteAt 12 = .ok (.iload_n 1, 1) := by decide +kernel
theorem d_X9_byteAt_13 : dec m_X9_byteAt 13 = .ok (.baload, 1) := by decide +kernel
theorem d_X9_byteAt_14 : dec m_X9_byteAt 14 = .ok (.sipush 255, 3) := by decide +kernel
theorem d_X9_byteAt_17 : dec m_X9_byteAt 17 = .ok (.iand, 1) := by decide +kernel
theorem d_X9_byteAt_18 : dec m_X9_byteAt 18 = .ok (.goto 4, 3) := by decide +kernel
theorem d_X9_byteAt_21 : dec m_X9_byteAt 21 = .ok (.iconst (-1), 1) := by decide +kernel
theorem d_X9_byteAt_22 : dec m_X9_byteAt 22 = .ok (.ireturn, 1) := by decide +kernel
theorem d_X9_nextByte_0 : dec m_X9_nextByte 0 = .ok (.aload_n 0, 1) := by decide +kernel
theorem d_X9_nextByte_1 : dec m_X9_nextByte 1 = .ok (.aload_n 0, 1) := by decide +kernel
theorem d_X9_nextByte_2 : dec m_X9_nextByte 2 = .ok (.getfield 381, 3) := by decide +kernel
theorem d_X9_nextByte_5 : dec m_X9_nextByte 5 = .ok (.invokevirtual 384, 3) := by decide +kernel
theorem d_X9_nextByte_8 : dec m_X9_nextByte 8 = .ok (.bipush 32, 2) := by decide +kernel
theorem d_X9_nextByte_10 : dec m_X9_nextByte 10 = .ok (.if_icmp .ne 16, 3) := by decide +kernel
theorem d_X9_nextByte_13 : dec m_X9_nextByte 13 = .ok (.aload_n 0, 1) := by decide +kernel
theorem d_X9_nextByte_14 : dec m_X9_nextByte 14 = .ok (.dup, 1) := by decide +kernel
theorem d_X9_nextByte_15 : dec m_X9_nextByte 15 = .ok (.getfield 381, 3) := by decide +kernel
theorem d_X9_nextByte_18 : dec m_X9_nextByte 18 = .ok (.iconst 1, 1) := by decide +kernel
theorem d_X9_nextByte_19 : dec m_X9_nextByte 19 = .ok (.iadd, 1) := by decide +kernel
theorem d_X9_nextByte_20 : dec m_X9_nextByte 20 = .ok (.putfield 381, 3) := by decide +kernel
theorem d_X9_nextByte_23 : dec m_X9_nextByte 23 = .ok (.goto (-23), 3) := by decide +kernel
theorem d_X9_nextByte_26 : dec m_X9_nextByte 26 = .ok (.aload_n 0, 1) := by decide +kernel
theorem d_X9_nextByte_27 : dec m_X9_nextByte 27 = .ok (.aload_n 0, 1) := by decide +kernel
theorem d_X9_nextByte_28 : dec m_X9_nextByte 28 = .ok (.getfield 381, 3) := by decide +kernel
theorem d_X9_nextByte_31 : dec m_X9_nextByte 31 = .ok (.invokevirtual 384, 3) := by decide +kernel
theorem d_X9_nextByte_34 : dec m_X9_nextByte 34 = .ok (.ireturn, 1) := by decide +kernel
theorem d_X9_fails_0 : dec m_X9_fails 0 = .ok (.aload_n 0, 1) := by decide +kernel
theorem d_X9_fails_1 : dec m_X9_fails 1 = .ok (.bipush 8, 2) := by decide +kernel
theorem d_X9_fails_3 : dec m_X9_fails 3 = .ok (.iload_n 2, 1) := by decide +kernel
theorem d_X9_fails_4 : dec m_X9_fails 4 = .ok (.imul, 1) := by decide +kernel
theorem d_X9_fails_5 : dec m_X9_fails 5 = .ok (.iload_n 1, 1) := by decide +kernel
theorem d_X9_fails_6 : dec m_X9_fails 6 = .ok (.iadd, 1) := by decide +kernel
theorem d_X9_fails_7 : dec m_X9_fails 7 = .ok (.putfield 387, 3) := by decide +kernel
theorem d_X9_fails_10 : dec m_X9_fails 10 = .ok (.iconst 0, 1) := by decide +kernel
theorem d_X9_fails_11 : dec m_X9_fails 11 = .ok (.ireturn, 1) := by decide +kernel
theorem d_X9_isWord_0 : dec m_X9_isWord 0 = .ok (.aload_n 0, 1) := by decide +kernel
theorem d_X9_isWord_1 : dec m_X9_isWord 1 = .ok (.invokevirtual 390, 3) := by decide +kernel
theorem d_X9_isWord_4 : dec m_X9_isWord 4 = .ok (.iconst (-1), 1) := by decide +kernel
theorem d_X9_isWord_5 : dec m_X9_isWord 5 = .ok (.if_icmp .ne 10, 3) := by decide +kernel
theorem d_X9_isWord_8 : dec m_X9_isWord 8 = .ok (.aload_n 0, 1) := by decide +kernel
theorem d_X9_isWord_9 : dec m_X9_isWord 9 = .ok (.getfield 297, 3) := by decide +kernel
theorem d_X9_isWord_12 : dec m_X9_isWord 12 = .ok (.goto 7, 3) := by decide +kernel
theorem d_X9_isWord_15 : dec m_X9_isWord 15 = .ok (.aload_n 0, 1) := by decide +kernel
theorem d_X9_isWord_16 : dec m_X9_isWord 16 = .ok (.getfield 381, 3) := by decide +kernel
theorem d_X9_isWord_19 : dec m_X9_isWord 19 = .ok (.istore_n 2, 1) := by decide +kernel
theorem d_X9_isWord_20 : dec m_X9_isWord 20 = .ok (.iconst 0, 1) := by decide +kernel
theorem d_X9_isWord_21 : dec m_X9_isWord 21 = .ok (.istore_n 3, 1) := by decide +kernel
theorem d_X9_isWord_22 : dec m_X9_isWord 22 = .ok (.iload_n 3, 1) := by decide +kernel
theorem d_X9_isWord_23 : dec m_X9_isWord 23 = .ok (.aload_n 1, 1) := by decide +kernel
theorem d_X9_isWord_24 : dec m_X9_isWord 24 = .ok (.invokevirtual 315, 3) := by decide +kernel
theorem d_X9_isWord_27 : dec m_X9_isWord 27 = .ok (.if_icmp .ge 24, 3) := by decide +kernel
theorem d_X9_isWord_30 : dec m_X9_isWord 30 = .ok (.aload_n 0, 1) := by decide +kernel
theorem d_X9_isWord_31 : dec m_X9_isWord 31 = .ok (.iload_n 2, 1) := by decide +kernel
theorem d_X9_isWord_32 : dec m_X9_isWord 32 = .ok (.iload_n 3, 1) := by decide +kernel
theorem d_X9_isWord_33 : dec m_X9_isWord 33 = .ok (.iadd, 1) := by decide +kernel
theorem d_X9_isWord_34 : dec m_X9_isWord 34 = .ok (.invokevirtual 384, 3) := by decide +kernel
theorem d_X9_isWord_37 : dec m_X9_isWord 37 = .ok (.aload_n 1, 1) := by decide +kernel
theorem d_X9_isWord_38 : dec m_X9_isWord 38 = .ok (.iload_n 3, 1) := by decide +kernel
theorem d_X9_isWord_39 : dec m_X9_isWord 39 = .ok (.invokevirtual 320, 3) := by decide +kernel
theorem d_X9_isWord_42 : dec m_X9_isWord 42 = .ok (.if_icmp .ne 9, 3) := by decide +kernel
theorem d_X9_isWord_45 : dec m_X9_isWord 45 = .ok (.iinc 3 1, 3) := by decide +kernel
theorem d_X9_isWord_48 : dec m_X9_isWord 48 = .ok (.goto (-26), 3) := by decide +kernel
theorem d_X9_isWord_51 : dec m_X9_isWord 51 = .ok (.iload_n 3, 1) := by decide +kernel
theorem d_X9_isWord_52 : dec m_X9_isWord 52 = .ok (.aload_n 1, 1) := by decide +kernel
theorem d_X9_isWord_53 : dec m_X9_isWord 53 = .ok (.invokevirtual 315, 3) := by decide +kernel
theorem d_X9_isWord_56 : dec m_X9_isWord 56 = .ok (.if_icmp .ne 27, 3) := by decide +kernel
theorem d_X9_isWord_59 : dec m_X9_isWord 59 = .ok (.aload_n 0, 1) := by decide +kernel
theorem d_X9_isWord_60 : dec m_X9_isWord 60 = .ok (.iload_n 2, 1) := by decide +kernel
theorem d_X9_isWord_61 : dec m_X9_isWord 61 = .ok (.iload_n 3, 1) := by decide +kernel
theorem d_X9_isWord_62 : dec m_X9_isWord 62 = .ok (.iadd, 1) := by decide +kernel
theorem d_X9_isWord_63 : dec m_X9_isWord 63 = .ok (.invokevirtual 384, 3) := by decide +kernel
theorem d_X9_isWord_66 : dec m_X9_isWord 66 = .ok (.i2l, 1) := by decide +kernel
theorem d_X9_isWord_67 : dec m_X9_isWord 67 = .ok (.ldc2_w 393, 3) := by decide +kernel
theorem d_X9_isWord_70 : dec m_X9_isWord 70 = .ok (.ldc2_w 395, 3) := by decide +kernel
theorem d_X9_isWord_73 : dec m_X9_isWord 73 = .ok (.invokestatic 82, 3) := by decide +kernel
theorem d_X9_isWord_76 : dec m_X9_isWord 76 = .ok (.ifCond .ne 7, 3) := by decide +kernel
theorem d_X9_isWord_79 : dec m_X9_isWord 79 = .ok (.iconst 1, 1) := by decide +kernel
theorem d_X9_isWord_80 : dec m_X9_isWord 80 = .ok (.goto 4, 3) := by decide +kernel
theorem d_X9_isWord_83 : dec m_X9_isWord 83 = .ok (.iconst 0, 1) := by decide +kernel
theorem d_X9_isWord_84 : dec m_X9_isWord 84 = .ok (.ireturn, 1) := by decide +kernel
theorem d_X9_isDigit_0 : dec m_X9_isDigit 0 = .ok (.aload_n 0, 1) := by decide +kernel
theorem d_X9_isDigit_1 : dec m_X9_isDigit 1 = .ok (.invokevirtual 390, 3) := by decide +kernel
theorem d_X9_isDigit_4 : dec m_X9_isDigit 4 = .ok (.i2l, 1) := by decide +kernel
theorem d_X9_isDigit_5 : dec m_X9_isDigit 5 = .ok (.ldc2_w 397, 3) := by decide +kernel
theorem d_X9_isDigit_8 : dec m_X9_isDigit 8 = .ok (.ldc2_w 399, 3) := by decide +kernel
theorem d_X9_isDigit_11 : dec m_X9_isDigit 11 = .ok (.invokestatic 82, 3) := by decide +kernel
theorem d_X9_isDigit_14 : dec m_X9_isDigit 14 = .ok (.ireturn, 1) := by decide +kernel
theorem d_X9_readsNumber_0 : dec m_X9_readsNumber 0 = .ok (.aload_n 0, 1) := by decide +kernel
theorem d_X9_readsNumber_1 : dec m_X9_readsNumber 1 = .ok (.invokevirtual 401, 3) := by decide +kernel
theorem d_X9_readsNumber_4 : dec m_X9_readsNumber 4 = .ok (.ifCond .ne 13, 3) := by decide +kernel
theorem d_X9_readsNumber_7 : dec m_X9_readsNumber 7 = .ok (.aload_n 0, 1) := by decide +kernel
theorem d_X9_readsNumber_8 : dec m_X9_readsNumber 8 = .ok (.iconst 1, 1) := by decide +kernel
theorem d_X9_readsNumber_9 : dec m_X9_readsNumber 9 = .ok (.aload_n 0, 1) := by decide +kernel
theorem d_X9_readsNumber_10 : dec m_X9_readsNumber 10 = .ok (.getfield 381, 3) := by decide +kernel
theorem d_X9_readsNumber_13 : dec m_X9_readsNumber 13 = .ok (.invokevirtual 405, 3) := by decide +kernel
theorem d_X9_readsNumber_16 : dec m_X9_readsNumber 16 = .ok (.ireturn, 1) := by decide +kernel
theorem d_X9_readsNumber_17 : dec m_X9_readsNumber 17 = .ok (.aload_n 0, 1) := by decide +kernel
theorem d_X9_readsNumber_18 : dec m_X9_readsNumber 18 = .ok (.aload_n 0, 1) := by decide +kernel
theorem d_X9_readsNumber_19 : dec m_X9_readsNumber 19 = .ok (.getfield 381, 3) := by decide +kernel
theorem d_X9_readsNumber_22 : dec m_X9_readsNumber 22 = .ok (.putfield 408, 3) := by decide +kernel
theorem d_X9_readsNumber_25 : dec m_X9_readsNumber 25 = .ok (.aload_n 0, 1) := by decide +kernel
theorem d_X9_readsNumber_26 : dec m_X9_readsNumber 26 = .ok (.iconst 0, 1) := by decide +kernel
theorem d_X9_readsNumber_27 : dec m_X9_readsNumber 27 = .ok (.putfield 411, 3) := by decide +kernel
theorem d_X9_readsNumber_30 : dec m_X9_readsNumber 30 = .ok (.aload_n 0, 1) := by decide +kernel
theorem d_X9_readsNumber_31 : dec m_X9_readsNumber 31 = .ok (.aload_n 0, 1) := by decide +kernel
theorem d_X9_readsNumber_32 : dec m_X9_readsNumber 32 = .ok (.getfield 381, 3) := by decide +kernel
theorem d_X9_readsNumber_35 : dec m_X9_readsNumber 35 = .ok (.invokevirtual 384, 3) := by decide +kernel
theorem d_X9_readsNumber_38 : dec m_X9_readsNumber 38 = .ok (.i2l, 1) := by decide +kernel
theorem d_X9_readsNumber_39 : dec m_X9_readsNumber 39 = .ok (.ldc2_w 397, 3) := by decide +kernel
theorem d_X9_readsNumber_42 : dec m_X9_readsNumber 42 = .ok (.ldc2_w 399, 3) := by decide +kernel
theorem d_X9_readsNumber_45 : dec m_X9_readsNumber 45 = .ok (.invokestatic 82, 3) := by decide +kernel
theorem d_X9_readsNumber_48 : dec m_X9_readsNumber 48 = .ok (.ifCond .eq 49, 3) := by decide +kernel
theorem d_X9_readsNumber_51 : dec m_X9_readsNumber 51 = .ok (.aload_n 0, 1) := by decide +kernel
theorem d_X9_readsNumber_52 : dec m_X9_readsNumber 52 = .ok (.getfield 411, 3) := by decide +kernel
theorem d_X9_readsNumber_55 : dec m_X9_readsNumber 55 = .ok (.ldc_w 414, 3) := by decide +kernel
theorem d_X9_readsNumber_58 : dec m_X9_readsNumber 58 = .ok (.if_icmp .ge 26, 3) := by decide +kernel
theorem d_X9_readsNumber_61 : dec m_X9_readsNumber 61 = .ok (.aload_n 0, 1) := by decide +kernel
theorem d_X9_readsNumber_62 : dec m_X9_readsNumber 62 = .ok (.bipush 10, 2) := by decide +kernel
theorem d_X9_readsNumber_64 : dec m_X9_readsNumber 64 = .ok (.aload_n 0, 1) := by decide +kernel
theorem d_X9_readsNumber_65 : dec m_X9_readsNumber 65 = .ok (.getfield 411, 3) := by decide +kernel
theorem d_X9_readsNumber_68 : dec m_X9_readsNumber 68 = .ok (.imul, 1) := by decide +kernel
theorem d_X9_readsNumber_69 : dec m_X9_readsNumber 69 = .ok (.aload_n 0, 1) := by decide +kernel
theorem d_X9_readsNumber_70 : dec m_X9_readsNumber 70 = .ok (.aload_n 0, 1) := by decide +kernel
theorem d_X9_readsNumber_71 : dec m_X9_readsNumber 71 = .ok (.getfield 381, 3) := by decide +kernel
theorem d_X9_readsNumber_74 : dec m_X9_readsNumber 74 = .ok (.invokevirtual 384, 3) := by decide +kernel
theorem d_X9_readsNumber_77 : dec m_X9_readsNumber 77 = .ok (.iadd, 1) := by decide +kernel
theorem d_X9_readsNumber_78 : dec m_X9_readsNumber 78 = .ok (.bipush 48, 2) := by decide +kernel
theorem d_X9_readsNumber_80 : dec m_X9_readsNumber 80 = .ok (.isub, 1) := by decide +kernel
theorem d_X9_readsNumber_81 : dec m_X9_readsNumber 81 = .ok (.putfield 411, 3) := by decide +kernel
theorem d_X9_readsNumber_84 : dec m_X9_readsNumber 84 = .ok (.aload_n 0, 1) := by decide +kernel
theorem d_X9_readsNumber_85 : dec m_X9_readsNumber 85 = .ok (.dup, 1) := by decide +kernel
theorem d_X9_readsNumber_86 : dec m_X9_readsNumber 86 = .ok (.getfield 381, 3) := by decide +kernel
theorem d_X9_readsNumber_89 : dec m_X9_readsNumber 89 = .ok (.iconst 1, 1) := by decide +kernel
theorem d_X9_readsNumber_90 : dec m_X9_readsNumber 90 = .ok (.iadd, 1) := by decide +kernel
theorem d_X9_readsNumber_91 : dec m_X9_readsNumber 91 = .ok (.putfield 381, 3) := by decide +kernel
theorem d_X9_readsNumber_94 : dec m_X9_readsNumber 94 = .ok (.goto (-64), 3) := by decide +kernel
theorem d_X9_readsNumber_97 : dec m_X9_readsNumber 97 = .ok (.aload_n 0, 1) := by decide +kernel
theorem d_X9_readsNumber_98 : dec m_X9_readsNumber 98 = .ok (.getfield 411, 3) := by decide +kernel
theorem d_X9_readsNumber_101 : dec m_X9_readsNumber 101 = .ok (.i2l, 1) := by decide +kernel
theorem d_X9_readsNumber_102 : dec m_X9_readsNumber 102 = .ok (.iload_n 1, 1) := by decide +kernel
theorem d_X9_readsNumber_103 : dec m_X9_readsNumber 103 = .ok (.i2l, 1) := by decide +kernel
theorem d_X9_readsNumber_104 : dec m_X9_readsNumber 104 = .ok (.iload_n 2, 1) := by decide +kernel
theorem d_X9_readsNumber_105 : dec m_X9_readsNumber 105 = .ok (.i2l, 1) := by decide +kernel
theorem d_X9_readsNumber_106 : dec m_X9_readsNumber 106 = .ok (.invokestatic 82, 3) := by decide +kernel
theorem d_X9_readsNumber_109 : dec m_X9_readsNumber 109 = .ok (.ifCond .ne 15, 3) := by decide +kernel
theorem d_X9_readsNumber_112 : dec m_X9_readsNumber 112 = .ok (.aload_n 0, 1) := by decide +kernel
theorem d_X9_readsNumber_113 : dec m_X9_readsNumber 113 = .ok (.iconst 2, 1) := by decide +kernel
theorem d_X9_readsNumber_114 : dec m_X9_readsNumber 114 = .ok (.aload_n 0, 1) := by decide +kernel
theorem d_X9_readsNumber_115 : dec m_X9_readsNumber 115 = .ok (.getfield 408, 3) := by decide +kernel
theorem d_X9_readsNumber_118 : dec m_X9_readsNumber 118 = .ok (.invokevirtual 405, 3) := by decide +kernel
theorem d_X9_readsNumber_121 : dec m_X9_readsNumber 121 = .ok (.ifCond .eq 7, 3) := by decide +kernel
theorem d_X9_readsNumber_124 : dec m_X9_readsNumber 124 = .ok (.iconst 1, 1) := by decide +kernel
theorem d_X9_readsNumber_125 : dec m_X9_readsNumber 125 = .ok (.goto 4, 3) := by decide +kernel
theorem d_X9_readsNumber_128 : dec m_X9_readsNumber 128 = .ok (.iconst 0, 1) := by decide +kernel
theorem d_X9_readsNumber_129 : dec m_X9_readsNumber 129 = .ok (.ireturn, 1) := by decide +kernel
theorem d_X9_readsUnits_0 : dec m_X9_readsUnits 0 = .ok (.aload_n 0, 1) := by decide +kernel
theorem d_X9_readsUnits_1 : dec m_X9_readsUnits 1 = .ok (.invokevirtual 401, 3) := by decide +kernel
theorem d_X9_readsUnits_4 : dec m_X9_readsUnits 4 = .ok (.ifCond .eq 106, 3) := by decide +kernel
theorem d_X9_readsUnits_7 : dec m_X9_readsUnits 7 = .ok (.aload_n 0, 1) := by decide +kernel
theorem d_X9_readsUnits_8 : dec m_X9_readsUnits 8 = .ok (.getfield 75, 3) := by decide +kernel
theorem d_X9_readsUnits_11 : dec m_X9_readsUnits 11 = .ok (.iload_n 1, 1) := by decide +kernel
theorem d_X9_readsUnits_12 : dec m_X9_readsUnits 12 = .ok (.iconst 2, 1) := by decide +kernel
theorem d_X9_readsUnits_13 : dec m_X9_readsUnits 13 = .ok (.iadd, 1) := by decide +kernel
theorem d_X9_readsUnits_14 : dec m_X9_readsUnits 14 = .ok (.iaload, 1) := by decide +kernel
theorem d_X9_readsUnits_15 : dec m_X9_readsUnits 15 = .ok (.istore_n 3, 1) := by decide +kernel
theorem d_X9_readsUnits_16 : dec m_X9_readsUnits 16 = .ok (.aload_n 0, 1) := by decide +kernel
theorem d_X9_readsUnits_17 : dec m_X9_readsUnits 17 = .ok (.iconst 0, 1) := by decide +kernel
theorem d_X9_readsUnits_18 : dec m_X9_readsUnits 18 = .ok (.sipush 9999, 3) := by decide +kernel
theorem d_X9_readsUnits_21 : dec m_X9_readsUnits 21 = .ok (.invokevirtual 415, 3) := by decide +kernel
theorem d_X9_readsUnits_24 : dec m_X9_readsUnits 24 = .ok (.ifCond .ne 5, 3) := by decide +kernel
theorem d_X9_readsUnits_27 : dec m_X9_readsUnits 27 = .ok (.iconst 0, 1) := by decide +kernel
theorem d_X9_readsUnits_28 : dec m_X9_readsUnits 28 = .ok (.ireturn, 1) := by decide +kernel
theorem d_X9_readsUnits_29 : dec m_X9_readsUnits 29 = .ok (.iload_n 3, 1) := by decide +kernel
theorem d_X9_readsUnits_30 : dec m_X9_readsUnits 30 = .ok (.ifCond .le 36, 3) := by decide +kernel
theorem d_X9_readsUnits_33 : dec m_X9_readsUnits 33 = .ok (.iload_n 2, 1) := by decide +kernel
theorem d_X9_readsUnits_34 : dec m_X9_readsUnits 34 = .ok (.aload_n 0, 1) := by decide +kernel
theorem d_X9_readsUnits_35 : dec m_X9_readsUnits 35 = .ok (.getfield 75, 3) := by decide +kernel
theorem d_X9_readsUnits_38 : dec m_X9_readsUnits 38 = .ok (.iload_n 1, 1) := by decide +kernel
theorem d_X9_readsUnits_39 : dec m_X9_readsUnits 39 = .ok (.iconst 3, 1) := by decide +kernel
theorem d_X9_readsUnits_40 : dec m_X9_readsUnits 40 = .ok (.iadd, 1) := by decide +kernel
theorem d_X9_readsUnits_41 : dec m_X9_readsUnits 41 = .ok (.iload_n 3, 1) := by decide +kernel
theorem d_X9_readsUnits_42 : dec m_X9_readsUnits 42 = .ok (.iadd, 1) := by decide +kernel
theorem d_X9_readsUnits_43 : dec m_X9_readsUnits 43 = .ok (.iconst 1, 1) := by decide +kernel
theorem d_X9_readsUnits_44 : dec m_X9_readsUnits 44 = .ok (.isub, 1) := by decide +kernel
theorem d_X9_readsUnits_45 : dec m_X9_readsUnits 45 = .ok (.iaload, 1) := by decide +kernel
theorem d_X9_readsUnits_46 : dec m_X9_readsUnits 46 = .ok (.aload_n 0, 1) := by decide +kernel
theorem d_X9_readsUnits_47 : dec m_X9_readsUnits 47 = .ok (.getfield 411, 3) := by decide +kernel
theorem d_X9_readsUnits_50 : dec m_X9_readsUnits 50 = .ok (.invokestatic 368, 3) := by decide +kernel
theorem d_X9_readsUnits_53 : dec m_X9_readsUnits 53 = .ok (.ifCond .ne 13, 3) := by decide +kernel
theorem d_X9_readsUnits_56 : dec m_X9_readsUnits 56 = .ok (.aload_n 0, 1) := by decide +kernel
theorem d_X9_readsUnits_57 : dec m_X9_readsUnits 57 = .ok (.iconst 2, 1) := by decide +kernel
theorem d_X9_readsUnits_58 : dec m_X9_readsUnits 58 = .ok (.aload_n 0, 1) := by decide +kernel
theorem d_X9_readsUnits_59 : dec m_X9_readsUnits 59 = .ok (.getfield 408, 3) := by decide +kernel
theorem d_X9_readsUnits_62 : dec m_X9_readsUnits 62 = .ok (.invokevirtual 405, 3) := by decide +kernel
theorem d_X9_readsUnits_65 : dec m_X9_readsUnits 65 = .ok (.ireturn, 1) := by decide +kernel
theorem d_X9_readsUnits_66 : dec m_X9_readsUnits 66 = .ok (.iload_n 3, 1) := by decide +kernel
theorem d_X9_readsUnits_67 : dec m_X9_readsUnits 67 = .ok (.iconst 4, 1) := by decide +kernel
theorem d_X9_readsUnits_68 : dec m_X9_readsUnits 68 = .ok (.if_icmp .ne 13, 3) := by decide +kernel
theorem d_X9_readsUnits_71 : dec m_X9_readsUnits 71 = .ok (.aload_n 0, 1) := by decide +kernel
theorem d_X9_readsUnits_72 : dec m_X9_readsUnits 72 = .ok (.iconst 3, 1) := by decide +kernel
theorem d_X9_readsUnits_73 : dec m_X9_readsUnits 73 = .ok (.aload_n 0, 1) := by decide +kernel
theorem d_X9_readsUnits_74 : dec m_X9_readsUnits 74 = .ok (.getfield 408, 3) := by decide +kernel
theorem d_X9_readsUnits_77 : dec m_X9_readsUnits 77 = .ok (.invokevirtual 405, 3) := by decide +kernel
theorem d_X9_readsUnits_80 : dec m_X9_readsUnits 80 = .ok (.ireturn, 1) := by decide +kernel
theorem d_X9_readsUnits_81 : dec m_X9_readsUnits 81 = .ok (.aload_n 0, 1) := by decide +kernel
theorem d_X9_readsUnits_82 : dec m_X9_readsUnits 82 = .ok (.getfield 75, 3) := by decide +kernel
theorem d_X9_readsUnits_85 : dec m_X9_readsUnits 85 = .ok (.iload_n 1, 1) := by decide +kernel
theorem d_X9_readsUnits_86 : dec m_X9_readsUnits 86 = .ok (.iconst 3, 1) := by decide +kernel
theorem d_X9_readsUnits_87 : dec m_X9_readsUnits 87 = .ok (.iadd, 1) := by decide +kernel
theorem d_X9_readsUnits_88 : dec m_X9_readsUnits 88 = .ok (.iload_n 3, 1) := by decide +kernel
theorem d_X9_readsUnits_89 : dec m_X9_readsUnits 89 = .ok (.iadd, 1) := by decide +kernel
theorem d_X9_readsUnits_90 : dec m_X9_readsUnits 90 = .ok (.aload_n 0, 1) := by decide +kernel
theorem d_X9_readsUnits_91 : dec m_X9_readsUnits 91 = .ok (.getfield 411, 3) := by decide +kernel
theorem d_X9_readsUnits_94 : dec m_X9_readsUnits 94 = .ok (.iastore, 1) := by decide +kernel
theorem d_X9_readsUnits_95 : dec m_X9_readsUnits 95 = .ok (.aload_n 0, 1) := by decide +kernel
theorem d_X9_readsUnits_96 : dec m_X9_readsUnits 96 = .ok (.getfield 75, 3) := by decide +kernel
theorem d_X9_readsUnits_99 : dec m_X9_readsUnits 99 = .ok (.iload_n 1, 1) := by decide +kernel
theorem d_X9_readsUnits_100 : dec m_X9_readsUnits 100 = .ok (.iconst 2, 1) := by decide +kernel
theorem d_X9_readsUnits_101 : dec m_X9_readsUnits 101 = .ok (.iadd, 1) := by decide +kernel
theorem d_X9_readsUnits_102 : dec m_X9_readsUnits 102 = .ok (.dup2, 1) := by decide +kernel
theorem d_X9_readsUnits_103 : dec m_X9_readsUnits 103 = .ok (.iaload, 1) := by decide +kernel
theorem d_X9_readsUnits_104 : dec m_X9_readsUnits 104 = .ok (.iconst 1, 1) := by decide +kernel
theorem d_X9_readsUnits_105 : dec m_X9_readsUnits 105 = .ok (.iadd, 1) := by decide +kernel
theorem d_X9_readsUnits_106 : dec m_X9_readsUnits 106 = .ok (.iastore, 1) := by decide +kernel
theorem d_X9_readsUnits_107 : dec m_X9_readsUnits 107 = .ok (.goto (-107), 3) := by decide +kernel
theorem d_X9_readsUnits_110 : dec m_X9_readsUnits 110 = .ok (.iconst 1, 1) := by decide +kernel
theorem d_X9_readsUnits_111 : dec m_X9_readsUnits 111 = .ok (.ireturn, 1) := by decide +kernel
theorem d_X9_readsTrader_0 : dec m_X9_readsTrader 0 = .ok (.aload_n 0, 1) := by decide +kernel
theorem d_X9_readsTrader_1 : dec m_X9_readsTrader 1 = .ok (.getfield 75, 3) := by decide +kernel
theorem d_X9_readsTrader_4 : dec m_X9_readsTrader 4 = .ok (.sipush 180, 3) := by decide +kernel
theorem d_X9_readsTrader_7 : dec m_X9_readsTrader 7 = .ok (.iaload, 1) := by decide +kernel
theorem d_X9_readsTrader_8 : dec m_X9_readsTrader 8 = .ok (.istore_n 2, 1) := by decide +kernel
theorem d_X9_readsTrader_9 : dec m_X9_readsTrader 9 = .ok (.iload_n 2, 1) := by decide +kernel
theorem d_X9_readsTrader_10 : dec m_X9_readsTrader 10 = .ok (.bipush 20, 2) := by decide +kernel
theorem d_X9_readsTrader_12 : dec m_X9_readsTrader 12 = .ok (.if_icmp .ne 13, 3) := by decide +kernel
theorem d_X9_readsTrader_15 : dec m_X9_readsTrader 15 = .ok (.aload_n 0, 1) := by decide +kernel
theorem d_X9_readsTrader_16 : dec m_X9_readsTrader 16 = .ok (.iconst 3, 1) := by decide +kernel
theorem d_X9_readsTrader_17 : dec m_X9_readsTrader 17 = .ok (.aload_n 0, 1) := by decide +kernel
theorem d_X9_readsTrader_18 : dec m_X9_readsTrader 18 = .ok (.getfield 381, 3) := by decide +kernel
theorem d_X9_readsTrader_21 : dec m_X9_readsTrader 21 = .ok (.invokevirtual 405, 3) := by decide +kernel
theorem d_X9_readsTrader_24 : dec m_X9_readsTrader 24 = .ok (.ireturn, 1) := by decide +kernel
theorem d_X9_readsTrader_25 : dec m_X9_readsTrader 25 = .ok (.aload_n 0, 1) := by decide +kernel
theorem d_X9_readsTrader_26 : dec m_X9_readsTrader 26 = .ok (.dup, 1) := by decide +kernel
theorem d_X9_readsTrader_27 : dec m_X9_readsTrader 27 = .ok (.getfield 381, 3) := by decide +kernel
theorem d_X9_readsTrader_30 : dec m_X9_readsTrader 30 = .ok (.iload_n 1, 1) := by decide +kernel
theorem d_X9_readsTrader_31 : dec m_X9_readsTrader 31 = .ok (.ifCond .eq 8, 3) := by decide +kernel
theorem d_X9_readsTrader_34 : dec m_X9_readsTrader 34 = .ok (.bipush 6, 2) := by decide +kernel
theorem d_X9_readsTrader_36 : dec m_X9_readsTrader 36 = .ok (.goto 4, 3) := by decide +kernel
theorem d_X9_readsTrader_39 : dec m_X9_readsTrader 39 = .ok (.iconst 5, 1) := by decide +kernel
theorem d_X9_readsTrader_40 : dec m_X9_readsTrader 40 = .ok (.iadd, 1) := by decide +kernel
theorem d_X9_readsTrader_41 : dec m_X9_readsTrader 41 = .ok (.putfield 381, 3) := by decide +kernel
theorem d_X9_readsTrader_44 : dec m_X9_readsTrader 44 = .ok (.bipush 9, 2) := by decide +kernel
theorem d_X9_readsTrader_46 : dec m_X9_readsTrader 46 = .ok (.iload_n 2, 1) := by decide +kernel
theorem d_X9_readsTrader_47 : dec m_X9_readsTrader 47 = .ok (.imul, 1) := by decide +kernel
theorem d_X9_readsTrader_48 : dec m_X9_readsTrader 48 = .ok (.istore_n 3, 1) := by decide +kernel
theorem d_X9_readsTrader_49 : dec m_X9_readsTrader 49 = .ok (.aload_n 0, 1) := by decide +kernel
theorem d_X9_readsTrader_50 : dec m_X9_readsTrader 50 = .ok (.getfield 75, 3) := by decide +kernel
theorem d_X9_readsTrader_53 : dec m_X9_readsTrader 53 = .ok (.iload_n 3, 1) := by decide +kernel
theorem d_X9_readsTrader_54 : dec m_X9_readsTrader 54 = .ok (.iconst 0, 1) := by decide +kernel
theorem d_X9_readsTrader_55 : dec m_X9_readsTrader 55 = .ok (.iadd, 1) := by decide +kernel
theorem d_X9_readsTrader_56 : dec m_X9_readsTrader 56 = .ok (.iload_n 1, 1) := by decide +kernel
theorem d_X9_readsTrader_57 : dec m_X9_readsTrader 57 = .ok (.ifCond .eq 7, 3) := by decide +kernel
theorem d_X9_readsTrader_60 : dec m_X9_readsTrader 60 = .ok (.iconst 1, 1) := by decide +kernel
theorem d_X9_readsTrader_61 : dec m_X9_readsTrader 61 = .ok (.goto 4, 3) := by decide +kernel
theorem d_X9_readsTrader_64 : dec m_X9_readsTrader 64 = .ok (.iconst 0, 1) := by decide +kernel
theorem d_X9_readsTrader_65 : dec m_X9_readsTrader 65 = .ok (.iastore, 1) := by decide +kernel
theorem d_X9_readsTrader_66 : dec m_X9_readsTrader 66 = .ok (.aload_n 0, 1) := by decide +kernel
theorem d_X9_readsTrader_67 : dec m_X9_readsTrader 67 = .ok (.iconst 0, 1) := by decide +kernel
theorem d_X9_readsTrader_68 : dec m_X9_readsTrader 68 = .ok (.iconst 3, 1) := by decide +kernel
theorem d_X9_readsTrader_69 : dec m_X9_readsTrader 69 = .ok (.invokevirtual 415, 3) := by decide +kernel
theorem d_X9_readsTrader_72 : dec m_X9_readsTrader 72 = .ok (.ifCond .ne 5, 3) := by decide +kernel
theorem d_X9_readsTrader_75 : dec m_X9_readsTrader 75 = .ok (.iconst 0, 1) := by decide +kernel
theorem d_X9_readsTrader_76 : dec m_X9_readsTrader 76 = .ok (.ireturn, 1) := by decide +kernel
theorem d_X9_readsTrader_77 : dec m_X9_readsTrader 77 = .ok (.aload_n 0, 1) := by decide +kernel
theorem d_X9_readsTrader_78 : dec m_X9_readsTrader 78 = .ok (.getfield 75, 3) := by decide +kernel
theorem d_X9_readsTrader_81 : dec m_X9_readsTrader 81 = .ok (.iload_n 3, 1) := by decide +kernel
theorem d_X9_readsTrader_82 : dec m_X9_readsTrader 82 = .ok (.iconst 1, 1) := by decide +kernel
theorem d_X9_readsTrader_83 : dec m_X9_readsTrader 83 = .ok (.iadd, 1) := by decide +kernel
theorem d_X9_readsTrader_84 : dec m_X9_readsTrader 84 = .ok (.aload_n 0, 1) := by decide +kernel
theorem d_X9_readsTrader_85 : dec m_X9_readsTrader 85 = .ok (.getfield 411, 3) := by decide +kernel
theorem d_X9_readsTrader_88 : dec m_X9_readsTrader 88 = .ok (.iastore, 1) := by decide +kernel
theorem d_X9_readsTrader_89 : dec m_X9_readsTrader 89 = .ok (.aload_n 0, 1) := by decide +kernel
theorem d_X9_readsTrader_90 : dec m_X9_readsTrader 90 = .ok (.getfield 75, 3) := by decide +kernel
theorem d_X9_readsTrader_93 : dec m_X9_readsTrader 93 = .ok (.sipush 180, 3) := by decide +kernel
theorem d_X9_readsTrader_96 : dec m_X9_readsTrader 96 = .ok (.dup2, 1) := by decide +kernel
theorem d_X9_readsTrader_97 : dec m_X9_readsTrader 97 = .ok (.iaload, 1) := by decide +kernel
theorem d_X9_readsTrader_98 : dec m_X9_readsTrader 98 = .ok (.iconst 1, 1) := by decide +kernel
theorem d_X9_readsTrader_99 : dec m_X9_readsTrader 99 = .ok (.iadd, 1) := by decide +kernel
theorem d_X9_readsTrader_100 : dec m_X9_readsTrader 100 = .ok (.iastore, 1) := by decide +kernel
theorem d_X9_readsTrader_101 : dec m_X9_readsTrader 101 = .ok (.aload_n 0, 1) := by decide +kernel
theorem d_X9_readsTrader_102 : dec m_X9_readsTrader 102 = .ok (.iload_n 3, 1) := by decide +kernel
theorem d_X9_readsTrader_103 : dec m_X9_readsTrader 103 = .ok (.iload_n 1, 1) := by decide +kernel
theorem d_X9_readsTrader_104 : dec m_X9_readsTrader 104 = .ok (.invokevirtual 418, 3) := by decide +kernel
theorem d_X9_readsTrader_107 : dec m_X9_readsTrader 107 = .ok (.ireturn, 1) := by decide +kernel
theorem d_X9_readsFee_0 : dec m_X9_readsFee 0 = .ok (.aload_n 0, 1) := by decide +kernel
theorem d_X9_readsFee_1 : dec m_X9_readsFee 1 = .ok (.getfield 422, 3) := by decide +kernel
theorem d_X9_readsFee_4 : dec m_X9_readsFee 4 = .ok (.ifCond .eq 13, 3) := by decide +kernel
theorem d_X9_readsFee_7 : dec m_X9_readsFee 7 = .ok (.aload_n 0, 1) := by decide +kernel
theorem d_X9_readsFee_8 : dec m_X9_readsFee 8 = .ok (.iconst 3, 1) := by decide +kernel
theorem d_X9_readsFee_9 : dec m_X9_readsFee 9 = .ok (.aload_n 0, 1) := by decide +kernel
theorem d_X9_readsFee_10 : dec m_X9_readsFee 10 = .ok (.getfield 381, 3) := by decide +kernel
theorem d_X9_readsFee_13 : dec m_X9_readsFee 13 = .ok (.invokevirtual 405, 3) := by decide +kernel
theorem d_X9_readsFee_16 : dec m_X9_readsFee 16 = .ok (.ireturn, 1) := by decide +kernel
theorem d_X9_readsFee_17 : dec m_X9_readsFee 17 = .ok (.aload_n 0, 1) := by decide +kernel
theorem d_X9_readsFee_18 : dec m_X9_readsFee 18 = .ok (.iconst 1, 1) := by decide +kernel
theorem d_X9_readsFee_19 : dec m_X9_readsFee 19 = .ok (.putfield 422, 3) := by decide +kernel
theorem d_X9_readsFee_22 : dec m_X9_readsFee 22 = .ok (.aload_n 0, 1) := by decide +kernel
theorem d_X9_readsFee_23 : dec m_X9_readsFee 23 = .ok (.dup, 1) := by decide +kernel
theorem d_X9_readsFee_24 : dec m_X9_readsFee 24 = .ok (.getfield 381, 3) := by decide +kernel
theorem d_X9_readsFee_27 : dec m_X9_readsFee 27 = .ok (.iconst 3, 1) := by decide +kernel
theorem d_X9_readsFee_28 : dec m_X9_readsFee 28 = .ok (.iadd, 1) := by decide +kernel
theorem d_X9_readsFee_29 : dec m_X9_readsFee 29 = .ok (.putfield 381, 3) := by decide +kernel
theorem d_X9_readsFee_32 : dec m_X9_readsFee 32 = .ok (.aload_n 0, 1) := by decide +kernel
theorem d_X9_readsFee_33 : dec m_X9_readsFee 33 = .ok (.iconst 0, 1) := by decide +kernel
theorem d_X9_readsFee_34 : dec m_X9_readsFee 34 = .ok (.sipush 500, 3) := by decide +kernel
theorem d_X9_readsFee_37 : dec m_X9_readsFee 37 = .ok (.invokevirtual 415, 3) := by decide +kernel
theorem d_X9_readsFee_40 : dec m_X9_readsFee 40 = .ok (.ifCond .ne 5, 3) := by decide +kernel
theorem d_X9_readsFee_43 : dec m_X9_readsFee 43 = .ok (.iconst 0, 1) := by decide +kernel
theorem d_X9_readsFee_44 : dec m_X9_readsFee 44 = .ok (.ireturn, 1) := by decide +kernel
theorem d_X9_readsFee_45 : dec m_X9_readsFee 45 = .ok (.aload_n 0, 1) := by decide +kernel
theorem d_X9_readsFee_46 : dec m_X9_readsFee 46 = .ok (.getfield 75, 3) := by decide +kernel
theorem d_X9_readsFee_49 : dec m_X9_readsFee 49 = .ok (.sipush 181, 3) := by decide +kernel
theorem d_X9_readsFee_52 : dec m_X9_readsFee 52 = .ok (.aload_n 0, 1) := by decide +kernel
theorem d_X9_readsFee_53 : dec m_X9_readsFee 53 = .ok (.getfield 411, 3) := by decide +kernel
theorem d_X9_readsFee_56 : dec m_X9_readsFee 56 = .ok (.iastore, 1) := by decide +kernel
theorem d_X9_readsFee_57 : dec m_X9_readsFee 57 = .ok (.iconst 1, 1) := by decide +kernel
theorem d_X9_readsFee_58 : dec m_X9_readsFee 58 = .ok (.ireturn, 1) := by decide +kernel
theorem d_X9_readsLaw_0 : dec m_X9_readsLaw 0 = .ok (.aload_n 0, 1) := by decide +kernel
theorem d_X9_readsLaw_1 : dec m_X9_readsLaw 1 = .ok (.getfield 426, 3) := by decide +kernel
theorem d_X9_readsLaw_4 : dec m_X9_readsLaw 4 = .ok (.ifCond .eq 13, 3) := by decide +kernel
theorem d_X9_readsLaw_7 : dec m_X9_readsLaw 7 = .ok (.aload_n 0, 1) := by decide +kernel
theorem d_X9_readsLaw_8 : dec m_X9_readsLaw 8 = .ok (.iconst 3, 1) := by decide +kernel
theorem d_X9_readsLaw_9 : dec m_X9_readsLaw 9 = .ok (.aload_n 0, 1) := by decide +kernel
theorem d_X9_readsLaw_10 : dec m_X9_readsLaw 10 = .ok (.getfield 381, 3) := by decide +kernel
theorem d_X9_readsLaw_13 : dec m_X9_readsLaw 13 = .ok (.invokevirtual 405, 3) := by decide +kernel
theorem d_X9_readsLaw_16 : dec m_X9_readsLaw 16 = .ok (.ireturn, 1) := by decide +kernel
theorem d_X9_readsLaw_17 : dec m_X9_readsLaw 17 = .ok (.aload_n 0, 1) := by decide +kernel
theorem d_X9_readsLaw_18 : dec m_X9_readsLaw 18 = .ok (.iconst 1, 1) := by decide +kernel
theorem d_X9_readsLaw_19 : dec m_X9_readsLaw 19 = .ok (.putfield 426, 3) := by decide +kernel
theorem d_X9_readsLaw_22 : dec m_X9_readsLaw 22 = .ok (.aload_n 0, 1) := by decide +kernel
theorem d_X9_readsLaw_23 : dec m_X9_readsLaw 23 = .ok (.dup, 1) := by decide +kernel
theorem d_X9_readsLaw_24 : dec m_X9_readsLaw 24 = .ok (.getfield 381, 3) := by decide +kernel
theorem d_X9_readsLaw_27 : dec m_X9_readsLaw 27 = .ok (.iconst 3, 1) := by decide +kernel
theorem d_X9_readsLaw_28 : dec m_X9_readsLaw 28 = .ok (.iadd, 1) := by decide +kernel
theorem d_X9_readsLaw_29 : dec m_X9_readsLaw 29 = .ok (.putfield 381, 3) := by decide +kernel
theorem d_X9_readsLaw_32 : dec m_X9_readsLaw 32 = .ok (.iconst 0, 1) := by decide +kernel
theorem d_X9_readsLaw_33 : dec m_X9_readsLaw 33 = .ok (.istore_n 1, 1) := by decide +kernel
theorem d_X9_readsLaw_34 : dec m_X9_readsLaw 34 = .ok (.iload_n 1, 1) := by decide +kernel
theorem d_X9_readsLaw_35 : dec m_X9_readsLaw 35 = .ok (.iconst 4, 1) := by decide +kernel
theorem d_X9_readsLaw_36 : dec m_X9_readsLaw 36 = .ok (.if_icmp .ge 50, 3) := by decide +kernel
theorem d_X9_readsLaw_39 : dec m_X9_readsLaw 39 = .ok (.aload_n 0, 1) := by decide +kernel
theorem d_X9_readsLaw_40 : dec m_X9_readsLaw 40 = .ok (.iload_n 1, 1) := by decide +kernel
theorem d_X9_readsLaw_41 : dec m_X9_readsLaw 41 = .ok (.invokestatic 356, 3) := by decide +kernel
theorem d_X9_readsLaw_44 : dec m_X9_readsLaw 44 = .ok (.invokevirtual 429, 3) := by decide +kernel
theorem d_X9_readsLaw_47 : dec m_X9_readsLaw 47 = .ok (.ifCond .ne 6, 3) := by decide +kernel
theorem d_X9_readsLaw_50 : dec m_X9_readsLaw 50 = .ok (.goto 30, 3) := by decide +kernel
theorem d_X9_readsLaw_53 : dec m_X9_readsLaw 53 = .ok (.aload_n 0, 1) := by decide +kernel
theorem d_X9_readsLaw_54 : dec m_X9_readsLaw 54 = .ok (.getfield 75, 3) := by decide +kernel
theorem d_X9_readsLaw_57 : dec m_X9_readsLaw 57 = .ok (.sipush 182, 3) := by decide +kernel
theorem d_X9_readsLaw_60 : dec m_X9_readsLaw 60 = .ok (.iload_n 1, 1) := by decide +kernel
theorem d_X9_readsLaw_61 : dec m_X9_readsLaw 61 = .ok (.iastore, 1) := by decide +kernel
theorem d_X9_readsLaw_62 : dec m_X9_readsLaw 62 = .ok (.aload_n 0, 1) := by decide +kernel
theorem d_X9_readsLaw_63 : dec m_X9_readsLaw 63 = .ok (.dup, 1) := by decide +kernel
theorem d_X9_readsLaw_64 : dec m_X9_readsLaw 64 = .ok (.getfield 381, 3) := by decide +kernel
theorem d_X9_readsLaw_67 : dec m_X9_readsLaw 67 = .ok (.iload_n 1, 1) := by decide +kernel
theorem d_X9_readsLaw_68 : dec m_X9_readsLaw 68 = .ok (.invokestatic 356, 3) := by decide +kernel
theorem d_X9_readsLaw_71 : dec m_X9_readsLaw 71 = .ok (.invokevirtual 315, 3) := by decide +kernel
theorem d_X9_readsLaw_74 : dec m_X9_readsLaw 74 = .ok (.iadd, 1) := by decide +kernel
theorem d_X9_readsLaw_75 : dec m_X9_readsLaw 75 = .ok (.putfield 381, 3) := by decide +kernel
theorem d_X9_readsLaw_78 : dec m_X9_readsLaw 78 = .ok (.iconst 1, 1) := by decide +kernel
theorem d_X9_readsLaw_79 : dec m_X9_readsLaw 79 = .ok (.ireturn, 1) := by decide +kernel
theorem d_X9_readsLaw_80 : dec m_X9_readsLaw 80 = .ok (.iinc 1 1, 3) := by decide +kernel
theorem d_X9_readsLaw_83 : dec m_X9_readsLaw 83 = .ok (.goto (-49), 3) := by decide +kernel
theorem d_X9_readsLaw_86 : dec m_X9_readsLaw 86 = .ok (.aload_n 0, 1) := by decide +kernel
theorem d_X9_readsLaw_87 : dec m_X9_readsLaw 87 = .ok (.iconst 1, 1) := by decide +kernel
theorem d_X9_readsLaw_88 : dec m_X9_readsLaw 88 = .ok (.aload_n 0, 1) := by decide +kernel
theorem d_X9_readsLaw_89 : dec m_X9_readsLaw 89 = .ok (.getfield 381, 3) := by decide +kernel
theorem d_X9_readsLaw_92 : dec m_X9_readsLaw 92 = .ok (.invokevirtual 405, 3) := by decide +kernel
theorem d_X9_readsLaw_95 : dec m_X9_readsLaw 95 = .ok (.ireturn, 1) := by decide +kernel
theorem d_X9_readsPart_0 : dec m_X9_readsPart 0 = .ok (.aload_n 0, 1) := by decide +kernel
theorem d_X9_readsPart_1 : dec m_X9_readsPart 1 = .ok (.ldc_w 433, 3) := by decide +kernel
theorem d_X9_readsPart_4 : dec m_X9_readsPart 4 = .ok (.invokevirtual 429, 3) := by decide +kernel
theorem d_X9_readsPart_7 : dec m_X9_readsPart 7 = .ok (.ifCond .eq 9, 3) := by decide +kernel
theorem d_X9_readsPart_10 : dec m_X9_readsPart 10 = .ok (.aload_n 0, 1) := by decide +kernel
theorem d_X9_readsPart_11 : dec m_X9_readsPart 11 = .ok (.iconst 0, 1) := by decide +kernel
theorem d_X9_readsPart_12 : dec m_X9_readsPart 12 = .ok (.invokevirtual 435, 3) := by decide +kernel
theorem d_X9_readsPart_15 : dec m_X9_readsPart 15 = .ok (.ireturn, 1) := by decide +kernel
theorem d_X9_readsPart_16 : dec m_X9_readsPart 16 = .ok (.aload_n 0, 1) := by decide +kernel
theorem d_X9_readsPart_17 : dec m_X9_readsPart 17 = .ok (.ldc_w 439, 3) := by decide +kernel
theorem d_X9_readsPart_20 : dec m_X9_readsPart 20 = .ok (.invokevirtual 429, 3) := by decide +kernel
theorem d_X9_readsPart_23 : dec m_X9_readsPart 23 = .ok (.ifCond .eq 9, 3) := by decide +kernel
theorem d_X9_readsPart_26 : dec m_X9_readsPart 26 = .ok (.aload_n 0, 1) := by decide +kernel
theorem d_X9_readsPart_27 : dec m_X9_readsPart 27 = .ok (.iconst 1, 1) := by decide +kernel
theorem d_X9_readsPart_28 : dec m_X9_readsPart 28 = .ok (.invokevirtual 435, 3) := by decide +kernel
theorem d_X9_readsPart_31 : dec m_X9_readsPart 31 = .ok (.ireturn, 1) := by decide +kernel
theorem d_X9_readsPart_32 : dec m_X9_readsPart 32 = .ok (.aload_n 0, 1) := by decide +kernel
theorem d_X9_readsPart_33 : dec m_X9_readsPart 33 = .ok (.ldc_w 441, 3) := by decide +kernel
theorem d_X9_readsPart_36 : dec m_X9_readsPart 36 = .ok (.invokevirtual 429, 3) := by decide +kernel
theorem d_X9_readsPart_39 : dec m_X9_readsPart 39 = .ok (.ifCond .eq 8, 3) := by decide +kernel
theorem d_X9_readsPart_42 : dec m_X9_readsPart 42 = .ok (.aload_n 0, 1) := by decide +kernel
theorem d_X9_readsPart_43 : dec m_X9_readsPart 43 = .ok (.invokevirtual 443, 3) := by decide +kernel
theorem d_X9_readsPart_46 : dec m_X9_readsPart 46 = .ok (.ireturn, 1) := by decide +kernel
theorem d_X9_readsPart_47 : dec m_X9_readsPart 47 = .ok (.aload_n 0, 1) := by decide +kernel
theorem d_X9_readsPart_48 : dec m_X9_readsPart 48 = .ok (.ldc_w 446, 3) := by decide +kernel
theorem d_X9_readsPart_51 : dec m_X9_readsPart 51 = .ok (.invokevirtual 429, 3) := by decide +kernel
theorem d_X9_readsPart_54 : dec m_X9_readsPart 54 = .ok (.ifCond .eq 10, 3) := by decide +kernel
theorem d_X9_readsPart_57 : dec m_X9_readsPart 57 = .ok (.aload_n 0, 1) := by decide +kernel
theorem d_X9_readsPart_58 : dec m_X9_readsPart 58 = .ok (.invokevirtual 448, 3) := by decide +kernel
theorem d_X9_readsPart_61 : dec m_X9_readsPart 61 = .ok (.goto 12, 3) := by decide +kernel
theorem d_X9_readsPart_64 : dec m_X9_readsPart 64 = .ok (.aload_n 0, 1) := by decide +kernel
theorem d_X9_readsPart_65 : dec m_X9_readsPart 65 = .ok (.iconst 1, 1) := by decide +kernel
theorem d_X9_readsPart_66 : dec m_X9_readsPart 66 = .ok (.aload_n 0, 1) := by decide +kernel
theorem d_X9_readsPart_67 : dec m_X9_readsPart 67 = .ok (.getfield 381, 3) := by decide +kernel
theorem d_X9_readsPart_70 : dec m_X9_readsPart 70 = .ok (.invokevirtual 405, 3) := by decide +kernel
theorem d_X9_readsPart_73 : dec m_X9_readsPart 73 = .ok (.ireturn, 1) := by decide +kernel
theorem d_X9_readsAll_0 : dec m_X9_readsAll 0 = .ok (.iconst 0, 1) := by decide +kernel
theorem d_X9_readsAll_1 : dec m_X9_readsAll 1 = .ok (.istore_n 1, 1) := by decide +kernel
theorem d_X9_readsAll_2 : dec m_X9_readsAll 2 = .ok (.iload_n 1, 1) := by decide +kernel
theorem d_X9_readsAll_3 : dec m_X9_readsAll 3 = .ok (.sipush 187, 3) := by decide +kernel
theorem d_X9_readsAll_6 : dec m_X9_readsAll 6 = .ok (.if_icmp .ge 16, 3) := by decide +kernel
theorem d_X9_readsAll_9 : dec m_X9_readsAll 9 = .ok (.aload_n 0, 1) := by decide +kernel
theorem d_X9_readsAll_10 : dec m_X9_readsAll 10 = .ok (.getfield 75, 3) := by decide +kernel
theorem d_X9_readsAll_13 : dec m_X9_readsAll 13 = .ok (.iload_n 1, 1) := by decide +kernel
theorem d_X9_readsAll_14 : dec m_X9_readsAll 14 = .ok (.iconst 0, 1) := by decide +kernel
theorem d_X9_readsAll_15 : dec m_X9_readsAll 15 = .ok (.iastore, 1) := by decide +kernel
theorem d_X9_readsAll_16 : dec m_X9_readsAll 16 = .ok (.iinc 1 1, 3) := by decide +kernel
theorem d_X9_readsAll_19 : dec m_X9_readsAll 19 = .ok (.goto (-17), 3) := by decide +kernel
theorem d_X9_readsAll_22 : dec m_X9_readsAll 22 = .ok (.aload_n 0, 1) := by decide +kernel
theorem d_X9_readsAll_23 : dec m_X9_readsAll 23 = .ok (.iconst 0, 1) := by decide +kernel
theorem d_X9_readsAll_24 : dec m_X9_readsAll 24 = .ok (.putfield 381, 3) := by decide +kernel
theorem d_X9_readsAll_27 : dec m_X9_readsAll 27 = .ok (.aload_n 0, 1) := by decide +kernel
theorem d_X9_readsAll_28 : dec m_X9_readsAll 28 = .ok (.iconst 0, 1) := by decide +kernel
theorem d_X9_readsAll_29 : dec m_X9_readsAll 29 = .ok (.putfield 422, 3) := by decide +kernel
theorem d_X9_readsAll_32 : dec m_X9_readsAll 32 = .ok (.aload_n 0, 1) := by decide +kernel
theorem d_X9_readsAll_33 : dec m_X9_readsAll 33 = .ok (.iconst 0, 1) := by decide +kernel
theorem d_X9_readsAll_34 : dec m_X9_readsAll 34 = .ok (.putfield 426, 3) := by decide +kernel
theorem d_X9_readsAll_37 : dec m_X9_readsAll 37 = .ok (.aload_n 0, 1) := by decide +kernel
theorem d_X9_readsAll_38 : dec m_X9_readsAll 38 = .ok (.invokevirtual 390, 3) := by decide +kernel
theorem d_X9_readsAll_41 : dec m_X9_readsAll 41 = .ok (.iconst (-1), 1) := by decide +kernel
theorem d_X9_readsAll_42 : dec m_X9_readsAll 42 = .ok (.if_icmp .ne 5, 3) := by decide +kernel
theorem d_X9_readsAll_45 : dec m_X9_readsAll 45 = .ok (.iconst 1, 1) := by decide +kernel
theorem d_X9_readsAll_46 : dec m_X9_readsAll 46 = .ok (.ireturn, 1) := by decide +kernel
theorem d_X9_readsAll_47 : dec m_X9_readsAll 47 = .ok (.aload_n 0, 1) := by decide +kernel
theorem d_X9_readsAll_48 : dec m_X9_readsAll 48 = .ok (.invokevirtual 451, 3) := by decide +kernel
theorem d_X9_readsAll_51 : dec m_X9_readsAll 51 = .ok (.istore_n 1, 1) := by decide +kernel
theorem d_X9_readsAll_52 : dec m_X9_readsAll 52 = .ok (.iload_n 1, 1) := by decide +kernel
theorem d_X9_readsAll_53 : dec m_X9_readsAll 53 = .ok (.ifCond .eq 30, 3) := by decide +kernel
theorem d_X9_readsAll_56 : dec m_X9_readsAll 56 = .ok (.aload_n 0, 1) := by decide +kernel
theorem d_X9_readsAll_57 : dec m_X9_readsAll 57 = .ok (.invokevirtual 390, 3) := by decide +kernel
theorem d_X9_readsAll_60 : dec m_X9_readsAll 60 = .ok (.bipush 59, 2) := by decide +kernel
theorem d_X9_readsAll_62 : dec m_X9_readsAll 62 = .ok (.if_icmp .ne 21, 3) := by decide +kernel
theorem d_X9_readsAll_65 : dec m_X9_readsAll 65 = .ok (.aload_n 0, 1) := by decide +kernel
theorem d_X9_readsAll_66 : dec m_X9_readsAll 66 = .ok (.dup, 1) := by decide +kernel
theorem d_X9_readsAll_67 : dec m_X9_readsAll 67 = .ok (.getfield 381, 3) := by decide +kernel
theorem d_X9_readsAll_70 : dec m_X9_readsAll 70 = .ok (.iconst 1, 1) := by decide +kernel
theorem d_X9_readsAll_71 : dec m_X9_readsAll 71 = .ok (.iadd, 1) := by decide +kernel
theorem d_X9_readsAll_72 : dec m_X9_readsAll 72 = .ok (.putfield 381, 3) := by decide +kernel
theorem d_X9_readsAll_75 : dec m_X9_readsAll 75 = .ok (.aload_n 0, 1) := by decide +kernel
theorem d_X9_readsAll_76 : dec m_X9_readsAll 76 = .ok (.invokevirtual 451, 3) := by decide +kernel
theorem d_X9_readsAll_79 : dec m_X9_readsAll 79 = .ok (.istore_n 1, 1) := by decide +kernel
theorem d_X9_readsAll_80 : dec m_X9_readsAll 80 = .ok (.goto (-28), 3) := by decide +kernel
theorem d_X9_readsAll_83 : dec m_X9_readsAll 83 = .ok (.iload_n 1, 1) := by decide +kernel
theorem d_X9_readsAll_84 : dec m_X9_readsAll 84 = .ok (.ifCond .eq 27, 3) := by decide +kernel
theorem d_X9_readsAll_87 : dec m_X9_readsAll 87 = .ok (.aload_n 0, 1) := by decide +kernel
theorem d_X9_readsAll_88 : dec m_X9_readsAll 88 = .ok (.invokevirtual 390, 3) := by decide +kernel
theorem d_X9_readsAll_91 : dec m_X9_readsAll 91 = .ok (.iconst (-1), 1) := by decide +kernel
theorem d_X9_readsAll_92 : dec m_X9_readsAll 92 = .ok (.if_icmp .eq 15, 3) := by decide +kernel
theorem d_X9_readsAll_95 : dec m_X9_readsAll 95 = .ok (.aload_n 0, 1) := by decide +kernel
theorem d_X9_readsAll_96 : dec m_X9_readsAll 96 = .ok (.iconst 1, 1) := by decide +kernel
theorem d_X9_readsAll_97 : dec m_X9_readsAll 97 = .ok (.aload_n 0, 1) := by decide +kernel
theorem d_X9_readsAll_98 : dec m_X9_readsAll 98 = .ok (.getfield 381, 3) := by decide +kernel
theorem d_X9_readsAll_101 : dec m_X9_readsAll 101 = .ok (.invokevirtual 405, 3) := by decide +kernel
theorem d_X9_readsAll_104 : dec m_X9_readsAll 104 = .ok (.ifCond .eq 7, 3) := by decide +kernel
theorem d_X9_readsAll_107 : dec m_X9_readsAll 107 = .ok (.iconst 1, 1) := by decide +kernel
theorem d_X9_readsAll_108 : dec m_X9_readsAll 108 = .ok (.goto 4, 3) := by decide +kernel
theorem d_X9_readsAll_111 : dec m_X9_readsAll 111 = .ok (.iconst 0, 1) := by decide +kernel
theorem d_X9_readsAll_112 : dec m_X9_readsAll 112 = .ok (.ireturn, 1) := by decide +kernel
theorem d_X9_tell_0 : dec m_X9_tell 0 = .ok (.aload_n 0, 1) := by decide +kernel
theorem d_X9_tell_1 : dec m_X9_tell 1 = .ok (.invokevirtual 454, 3) := by decide +kernel
theorem d_X9_tell_4 : dec m_X9_tell 4 = .ok (.istore_n 1, 1) := by decide +kernel
theorem d_X9_tell_5 : dec m_X9_tell 5 = .ok (.aload_n 0, 1) := by decide +kernel
theorem d_X9_tell_6 : dec m_X9_tell 6 = .ok (.iconst 0, 1) := by decide +kernel
theorem d_X9_tell_7 : dec m_X9_tell 7 = .ok (.putfield 297, 3) := by decide +kernel
theorem d_X9_tell_10 : dec m_X9_tell 10 = .ok (.iload_n 1, 1) := by decide +kernel
theorem d_X9_tell_11 : dec m_X9_tell 11 = .ok (.ifCond .ne 11, 3) := by decide +kernel
theorem d_X9_tell_14 : dec m_X9_tell 14 = .ok (.bipush (-2), 2) := by decide +kernel
theorem d_X9_tell_16 : dec m_X9_tell 16 = .ok (.aload_n 0, 1) := by decide +kernel
theorem d_X9_tell_17 : dec m_X9_tell 17 = .ok (.getfield 387, 3) := by decide +kernel
theorem d_X9_tell_20 : dec m_X9_tell 20 = .ok (.isub, 1) := by decide +kernel
theorem d_X9_tell_21 : dec m_X9_tell 21 = .ok (.ireturn, 1) := by decide +kernel
theorem d_X9_tell_22 : dec m_X9_tell 22 = .ok (.iconst 0, 1) := by decide +kernel
theorem d_X9_tell_23 : dec m_X9_tell 23 = .ok (.istore_n 2, 1) := by decide +kernel
theorem d_X9_tell_24 : dec m_X9_tell 24 = .ok (.iload_n 2, 1) := by decide +kernel
theorem d_X9_tell_25 : dec m_X9_tell 25 = .ok (.sipush 187, 3) := by decide +kernel
theorem d_X9_tell_28 : dec m_X9_tell 28 = .ok (.if_icmp .ge 21, 3) := by decide +kernel
theorem d_X9_tell_31 : dec m_X9_tell 31 = .ok (.aload_n 0, 1) := by decide +kernel
theorem d_X9_tell_32 : dec m_X9_tell 32 = .ok (.getfield 7, 3) := by decide +kernel
theorem d_X9_tell_35 : dec m_X9_tell 35 = .ok (.iload_n 2, 1) := by decide +kernel
theorem d_X9_tell_36 : dec m_X9_tell 36 = .ok (.aload_n 0, 1) := by decide +kernel
theorem d_X9_tell_37 : dec m_X9_tell 37 = .ok (.getfield 75, 3) := by decide +kernel
theorem d_X9_tell_40 : dec m_X9_tell 40 = .ok (.iload_n 2, 1) := by decide +kernel
theorem d_X9_tell_41 : dec m_X9_tell 41 = .ok (.iaload, 1) := by decide +kernel
theorem d_X9_tell_42 : dec m_X9_tell 42 = .ok (.iastore, 1) := by decide +kernel
theorem d_X9_tell_43 : dec m_X9_tell 43 = .ok (.iinc 2 1, 3) := by decide +kernel
theorem d_X9_tell_46 : dec m_X9_tell 46 = .ok (.goto (-22), 3) := by decide +kernel
theorem d_X9_tell_49 : dec m_X9_tell 49 = .ok (.aload_n 0, 1) := by decide +kernel
theorem d_X9_tell_50 : dec m_X9_tell 50 = .ok (.iconst 0, 1) := by decide +kernel
theorem d_X9_tell_51 : dec m_X9_tell 51 = .ok (.putfield 294, 3) := by decide +kernel
theorem d_X9_tell_54 : dec m_X9_tell 54 = .ok (.aload_n 0, 1) := by decide +kernel
theorem d_X9_tell_55 : dec m_X9_tell 55 = .ok (.invokevirtual 78, 3) := by decide +kernel
theorem d_X9_tell_58 : dec m_X9_tell 58 = .ok (.ireturn, 1) := by decide +kernel
theorem d_J0_length_8abf5_0 : dec m_J0_length_8abf5 0 = .ok (.aload_n 0, 1) := by decide +kernel
theorem d_J0_length_8abf5_1 : dec m_J0_length_8abf5 1 = .ok (.getfield 9, 3) := by decide +kernel
theorem d_J0_length_8abf5_4 : dec m_J0_length_8abf5 4 = .ok (.arraylength, 1) := by decide +kernel
theorem d_J0_length_8abf5_5 : dec m_J0_length_8abf5 5 = .ok (.aload_n 0, 1) := by decide +kernel
theorem d_J0_length_8abf5_6 : dec m_J0_length_8abf5 6 = .ok (.invokevirtual 335, 3) := by decide +kernel
theorem d_J0_length_8abf5_9 : dec m_J0_length_8abf5 9 = .ok (.ishr, 1) := by decide +kernel
theorem d_J0_length_8abf5_10 : dec m_J0_length_8abf5 10 = .ok (.ireturn, 1) := by decide +kernel
theorem d_J0_charAt_5068e_0 : dec m_J0_charAt_5068e 0 = .ok (.aload_n 0, 1) := by decide +kernel
theorem d_J0_charAt_5068e_1 : dec m_J0_charAt_5068e 1 = .ok (.invokevirtual 492, 3) := by decide +kernel
theorem d_J0_charAt_5068e_4 : dec m_J0_charAt_5068e 4 = .ok (.ifCond .eq 12, 3) := by decide +kernel
theorem d_J0_charAt_5068e_7 : dec m_J0_charAt_5068e 7 = .ok (.aload_n 0, 1) := by decide +kernel
theorem d_J0_charAt_5068e_8 : dec m_J0_charAt_5068e 8 = .ok (.getfield 9, 3) := by decide +kernel
theorem d_J0_charAt_5068e_11 : dec m_J0_charAt_5068e 11 = .ok (.iload_n 1, 1) := by decide +kernel
theorem d_J0_charAt_5068e_12 : dec m_J0_charAt_5068e 12 = .ok (.invokestatic 495, 3) := by decide +kernel
theorem d_J0_charAt_5068e_15 : dec m_J0_charAt_5068e 15 = .ok (.ireturn, 1) := by decide +kernel
theorem d_J0_charAt_5068e_16 : dec m_J0_charAt_5068e 16 = .ok (.aload_n 0, 1) := by decide +kernel
theorem d_J0_charAt_5068e_17 : dec m_J0_charAt_5068e 17 = .ok (.getfield 9, 3) := by decide +kernel
theorem d_J0_charAt_5068e_20 : dec m_J0_charAt_5068e 20 = .ok (.iload_n 1, 1) := by decide +kernel
theorem d_J0_charAt_5068e_21 : dec m_J0_charAt_5068e 21 = .ok (.invokestatic 498, 3) := by decide +kernel
theorem d_J0_charAt_5068e_24 : dec m_J0_charAt_5068e 24 = .ok (.ireturn, 1) := by decide +kernel
theorem d_J1_charAt_3b067_0 : dec m_J1_charAt_3b067 0 = .ok (.iload_n 1, 1) := by decide +kernel
theorem d_J1_charAt_3b067_1 : dec m_J1_charAt_3b067 1 = .ok (.aload_n 0, 1) := by decide +kernel
theorem d_J1_charAt_3b067_2 : dec m_J1_charAt_3b067 2 = .ok (.arraylength, 1) := by decide +kernel
theorem d_J1_charAt_3b067_3 : dec m_J1_charAt_3b067 3 = .ok (.invokestatic 9, 3) := by decide +kernel
theorem d_J1_charAt_3b067_6 : dec m_J1_charAt_3b067 6 = .ok (.aload_n 0, 1) := by decide +kernel
theorem d_J1_charAt_3b067_7 : dec m_J1_charAt_3b067 7 = .ok (.iload_n 1, 1) := by decide +kernel
theorem d_J1_charAt_3b067_8 : dec m_J1_charAt_3b067 8 = .ok (.baload, 1) := by decide +kernel
theorem d_J1_charAt_3b067_9 : dec m_J1_charAt_3b067 9 = .ok (.sipush 255, 3) := by decide +kernel
theorem d_J1_charAt_3b067_12 : dec m_J1_charAt_3b067 12 = .ok (.iand, 1) := by decide +kernel
theorem d_J1_charAt_3b067_13 : dec m_J1_charAt_3b067 13 = .ok (.i2c, 1) := by decide +kernel
theorem d_J1_charAt_3b067_14 : dec m_J1_charAt_3b067 14 = .ok (.ireturn, 1) := by decide +kernel
theorem d_J0_checkIndex_df160_0 : dec m_J0_checkIndex_df160 0 = .ok (.iload_n 0, 1) := by decide +kernel
theorem d_J0_checkIndex_df160_1 : dec m_J0_checkIndex_df160 1 = .ok (.iload_n 1, 1) := by decide +kernel
theorem d_J0_checkIndex_df160_2 : dec m_J0_checkIndex_df160 2 = .ok (.getstatic 1053, 3) := by decide +kernel
theorem d_J0_checkIndex_df160_5 : dec m_J0_checkIndex_df160 5 = .ok (.invokestatic 1059, 3) := by decide +kernel
theorem d_J0_checkIndex_df160_8 : dec m_J0_checkIndex_df160 8 = .ok (.pop, 1) := by decide +kernel
theorem d_J0_checkIndex_df160_9 : dec m_J0_checkIndex_df160 9 = .ok (.return_, 1) := by decide +kernel
theorem d_J0_coder_7d493_0 : dec m_J0_coder_7d493 0 = .ok (.getstatic 38, 3) := by decide +kernel
theorem d_J0_coder_7d493_3 : dec m_J0_coder_7d493 3 = .ok (.ifCond .eq 10, 3) := by decide +kernel
theorem d_J0_coder_7d493_6 : dec m_J0_coder_7d493 6 = .ok (.aload_n 0, 1) := by decide +kernel
theorem d_J0_coder_7d493_7 : dec m_J0_coder_7d493 7 = .ok (.getfield 15, 3) := by decide +kernel
theorem d_J0_coder_7d493_10 : dec m_J0_coder_7d493 10 = .ok (.goto 4, 3) := by decide +kernel
theorem d_J0_coder_7d493_13 : dec m_J0_coder_7d493 13 = .ok (.iconst 1, 1) := by decide +kernel
theorem d_J0_coder_7d493_14 : dec m_J0_coder_7d493 14 = .ok (.ireturn, 1) := by decide +kernel
theorem d_J0_isLatin1_aae02_0 : dec m_J0_isLatin1_aae02 0 = .ok (.getstatic 38, 3) := by decide +kernel
theorem d_J0_isLatin1_aae02_3 : dec m_J0_isLatin1_aae02 3 = .ok (.ifCond .eq 14, 3) := by decide +kernel
theorem d_J0_isLatin1_aae02_6 : dec m_J0_isLatin1_aae02 6 = .ok (.aload_n 0, 1) := by decide +kernel
theorem d_J0_isLatin1_aae02_7 : dec m_J0_isLatin1_aae02 7 = .ok (.getfield 15, 3) := by decide +kernel
theorem d_J0_isLatin1_aae02_10 : dec m_J0_isLatin1_aae02 10 = .ok (.ifCond .ne 7, 3) := by decide +kernel
theorem d_J0_isLatin1_aae02_13 : dec m_J0_isLatin1_aae02 13 = .ok (.iconst 1, 1) := by decide +kernel
theorem d_J0_isLatin1_aae02_14 : dec m_J0_isLatin1_aae02 14 = .ok (.goto 4, 3) := by decide +kernel
theorem d_J0_isLatin1_aae02_17 : dec m_J0_isLatin1_aae02 17 = .ok (.iconst 0, 1) := by decide +kernel
theorem d_J0_isLatin1_aae02_18 : dec m_J0_isLatin1_aae02 18 = .ok (.ireturn, 1) := by decide +kernel
theorem d_J3_checkIndex_8e157_0 : dec m_J3_checkIndex_8e157 0 = .ok (.iload_n 0, 1) := by decide +kernel
theorem d_J3_checkIndex_8e157_1 : dec m_J3_checkIndex_8e157 1 = .ok (.ifCond .lt 8, 3) := by decide +kernel
theorem d_J3_checkIndex_8e157_4 : dec m_J3_checkIndex_8e157 4 = .ok (.iload_n 0, 1) := by decide +kernel
theorem d_J3_checkIndex_8e157_5 : dec m_J3_checkIndex_8e157 5 = .ok (.iload_n 1, 1) := by decide +kernel
theorem d_J3_checkIndex_8e157_6 : dec m_J3_checkIndex_8e157 6 = .ok (.if_icmp .lt 10, 3) := by decide +kernel
theorem d_J3_checkIndex_8e157_9 : dec m_J3_checkIndex_8e157 9 = .ok (.aload_n 2, 1) := by decide +kernel
theorem d_J3_checkIndex_8e157_10 : dec m_J3_checkIndex_8e157 10 = .ok (.iload_n 0, 1) := by decide +kernel
theorem d_J3_checkIndex_8e157_11 : dec m_J3_checkIndex_8e157 11 = .ok (.iload_n 1, 1) := by decide +kernel
theorem d_J3_checkIndex_8e157_12 : dec m_J3_checkIndex_8e157 12 = .ok (.invokestatic 95, 3) := by decide +kernel
theorem d_J3_checkIndex_8e157_15 : dec m_J3_checkIndex_8e157 15 = .ok (.athrow, 1) := by decide +kernel
theorem d_J3_checkIndex_8e157_16 : dec m_J3_checkIndex_8e157 16 = .ok (.iload_n 0, 1) := by decide +kernel
theorem d_J3_checkIndex_8e157_17 : dec m_J3_checkIndex_8e157 17 = .ok (.ireturn, 1) := by decide +kernel
