set_option maxRecDepth 100000
theorem d_X0_take_0 : dec m_X0_take 0 = .ok (.aload_n 0, 1) := by decide +kernel
theorem d_X0_take_1 : dec m_X0_take 1 = .ok (.iconst 0, 1) := by decide +kernel
theorem d_X0_take_2 : dec m_X0_take 2 = .ok (.putfield 18, 3) := by decide +kernel
theorem d_X0_take_5 : dec m_X0_take 5 = .ok (.aload_n 0, 1) := by decide +kernel
theorem d_X0_take_6 : dec m_X0_take 6 = .ok (.iconst 0, 1) := by decide +kernel
theorem d_X0_take_7 : dec m_X0_take 7 = .ok (.putfield 22, 3) := by decide +kernel
theorem d_X0_take_10 : dec m_X0_take 10 = .ok (.iconst 0, 1) := by decide +kernel
theorem d_X0_take_11 : dec m_X0_take 11 = .ok (.istore 4, 2) := by decide +kernel
theorem d_X0_take_13 : dec m_X0_take 13 = .ok (.iload 4, 2) := by decide +kernel
theorem d_X0_take_15 : dec m_X0_take 15 = .ok (.aload_n 1, 1) := by decide +kernel
theorem d_X0_take_16 : dec m_X0_take 16 = .ok (.getfield 25, 3) := by decide +kernel
theorem d_X0_take_19 : dec m_X0_take 19 = .ok (.if_icmp .ge 53, 3) := by decide +kernel
theorem d_X0_take_22 : dec m_X0_take 22 = .ok (.iload_n 2, 1) := by decide +kernel
theorem d_X0_take_23 : dec m_X0_take 23 = .ok (.aload_n 1, 1) := by decide +kernel
theorem d_X0_take_24 : dec m_X0_take 24 = .ok (.iload 4, 2) := by decide +kernel
theorem d_X0_take_26 : dec m_X0_take 26 = .ok (.invokevirtual 30, 3) := by decide +kernel
theorem d_X0_take_29 : dec m_X0_take 29 = .ok (.invokestatic 34, 3) := by decide +kernel
theorem d_X0_take_32 : dec m_X0_take 32 = .ok (.iand, 1) := by decide +kernel
theorem d_X0_take_33 : dec m_X0_take 33 = .ok (.ifCond .eq 7, 3) := by decide +kernel
theorem d_X0_take_36 : dec m_X0_take 36 = .ok (.iconst 1, 1) := by decide +kernel
theorem d_X0_take_37 : dec m_X0_take 37 = .ok (.goto 4, 3) := by decide +kernel
theorem d_X0_take_40 : dec m_X0_take 40 = .ok (.iconst 0, 1) := by decide +kernel
theorem d_X0_take_41 : dec m_X0_take 41 = .ok (.istore 5, 2) := by decide +kernel
theorem d_X0_take_43 : dec m_X0_take 43 = .ok (.iload 5, 2) := by decide +kernel
theorem d_X0_take_45 : dec m_X0_take 45 = .ok (.ifCond .eq 21, 3) := by decide +kernel
theorem d_X0_take_48 : dec m_X0_take 48 = .ok (.iload_n 3, 1) := by decide +kernel
theorem d_X0_take_49 : dec m_X0_take 49 = .ok (.iload 4, 2) := by decide +kernel
theorem d_X0_take_51 : dec m_X0_take 51 = .ok (.invokestatic 34, 3) := by decide +kernel
theorem d_X0_take_54 : dec m_X0_take 54 = .ok (.iand, 1) := by decide +kernel
theorem d_X0_take_55 : dec m_X0_take 55 = .ok (.ifCond .ne 11, 3) := by decide +kernel
theorem d_X0_take_58 : dec m_X0_take 58 = .ok (.aload_n 0, 1) := by decide +kernel
theorem d_X0_take_59 : dec m_X0_take 59 = .ok (.aload_n 1, 1) := by decide +kernel
theorem d_X0_take_60 : dec m_X0_take 60 = .ok (.iload 4, 2) := by decide +kernel
theorem d_X0_take_62 : dec m_X0_take 62 = .ok (.iconst 0, 1) := by decide +kernel
theorem d_X0_take_63 : dec m_X0_take 63 = .ok (.invokevirtual 37, 3) := by decide +kernel
theorem d_X0_take_66 : dec m_X0_take 66 = .ok (.iinc 4 1, 3) := by decide +kernel
theorem d_X0_take_69 : dec m_X0_take 69 = .ok (.goto (-56), 3) := by decide +kernel
theorem d_X0_take_72 : dec m_X0_take 72 = .ok (.return_, 1) := by decide +kernel
theorem d_X0_takeTrader_0 : dec m_X0_takeTrader 0 = .ok (.aload_n 1, 1) := by decide +kernel
theorem d_X0_takeTrader_1 : dec m_X0_takeTrader 1 = .ok (.iload_n 2, 1) := by decide +kernel
theorem d_X0_takeTrader_2 : dec m_X0_takeTrader 2 = .ok (.invokevirtual 41, 3) := by decide +kernel
theorem d_X0_takeTrader_5 : dec m_X0_takeTrader 5 = .ok (.istore 4, 2) := by decide +kernel
theorem d_X0_takeTrader_7 : dec m_X0_takeTrader 7 = .ok (.aload_n 1, 1) := by decide +kernel
theorem d_X0_takeTrader_8 : dec m_X0_takeTrader 8 = .ok (.iload_n 2, 1) := by decide +kernel
theorem d_X0_takeTrader_9 : dec m_X0_takeTrader 9 = .ok (.invokevirtual 45, 3) := by decide +kernel
theorem d_X0_takeTrader_12 : dec m_X0_takeTrader 12 = .ok (.istore 5, 2) := by decide +kernel
theorem d_X0_takeTrader_14 : dec m_X0_takeTrader 14 = .ok (.iconst 0, 1) := by decide +kernel
theorem d_X0_takeTrader_15 : dec m_X0_takeTrader 15 = .ok (.istore 6, 2) := by decide +kernel
theorem d_X0_takeTrader_17 : dec m_X0_takeTrader 17 = .ok (.iload 6, 2) := by decide +kernel
theorem d_X0_takeTrader_19 : dec m_X0_takeTrader 19 = .ok (.iload 5, 2) := by decide +kernel
theorem d_X0_takeTrader_21 : dec m_X0_takeTrader 21 = .ok (.if_icmp .ge 100, 3) := by decide +kernel
theorem d_X0_takeTrader_24 : dec m_X0_takeTrader 24 = .ok (.aload_n 1, 1) := by decide +kernel
theorem d_X0_takeTrader_25 : dec m_X0_takeTrader 25 = .ok (.iload_n 2, 1) := by decide +kernel
theorem d_X0_takeTrader_26 : dec m_X0_takeTrader 26 = .ok (.iload 6, 2) := by decide +kernel
theorem d_X0_takeTrader_28 : dec m_X0_takeTrader 28 = .ok (.invokevirtual 48, 3) := by decide +kernel
theorem d_X0_takeTrader_31 : dec m_X0_takeTrader 31 = .ok (.iload_n 3, 1) := by decide +kernel
theorem d_X0_takeTrader_32 : dec m_X0_takeTrader 32 = .ok (.iadd, 1) := by decide +kernel
theorem d_X0_takeTrader_33 : dec m_X0_takeTrader 33 = .ok (.istore 7, 2) := by decide +kernel
theorem d_X0_takeTrader_35 : dec m_X0_takeTrader 35 = .ok (.iconst 0, 1) := by decide +kernel
theorem d_X0_takeTrader_36 : dec m_X0_takeTrader 36 = .ok (.iload 7, 2) := by decide +kernel
theorem d_X0_takeTrader_38 : dec m_X0_takeTrader 38 = .ok (.sipush 9999, 3) := by decide +kernel
theorem d_X0_takeTrader_41 : dec m_X0_takeTrader 41 = .ok (.invokestatic 52, 3) := by decide +kernel
theorem d_X0_takeTrader_44 : dec m_X0_takeTrader 44 = .ok (.invokestatic 57, 3) := by decide +kernel
theorem d_X0_takeTrader_47 : dec m_X0_takeTrader 47 = .ok (.istore 7, 2) := by decide +kernel
theorem d_X0_takeTrader_49 : dec m_X0_takeTrader 49 = .ok (.iload_n 2, 1) := by decide +kernel
theorem d_X0_takeTrader_50 : dec m_X0_takeTrader 50 = .ok (.iconst 4, 1) := by decide +kernel
theorem d_X0_takeTrader_51 : dec m_X0_takeTrader 51 = .ok (.imul, 1) := by decide +kernel
theorem d_X0_takeTrader_52 : dec m_X0_takeTrader 52 = .ok (.iload 6, 2) := by decide +kernel
theorem d_X0_takeTrader_54 : dec m_X0_takeTrader 54 = .ok (.iadd, 1) := by decide +kernel
theorem d_X0_takeTrader_55 : dec m_X0_takeTrader 55 = .ok (.istore 8, 2) := by decide +kernel
theorem d_X0_takeTrader_57 : dec m_X0_takeTrader 57 = .ok (.iload 4, 2) := by decide +kernel
theorem d_X0_takeTrader_59 : dec m_X0_takeTrader 59 = .ok (.ifCond .eq 29, 3) := by decide +kernel
theorem d_X0_takeTrader_62 : dec m_X0_takeTrader 62 = .ok (.aload_n 0, 1) := by decide +kernel
theorem d_X0_takeTrader_63 : dec m_X0_takeTrader 63 = .ok (.aload_n 0, 1) := by decide +kernel
theorem d_X0_takeTrader_64 : dec m_X0_takeTrader 64 = .ok (.getfield 15, 3) := by decide +kernel
theorem d_X0_takeTrader_67 : dec m_X0_takeTrader 67 = .ok (.aload_n 0, 1) := by decide +kernel
theorem d_X0_takeTrader_68 : dec m_X0_takeTrader 68 = .ok (.getfield 22, 3) := by decide +kernel
theorem d_X0_takeTrader_71 : dec m_X0_takeTrader 71 = .ok (.iload 7, 2) := by decide +kernel
theorem d_X0_takeTrader_73 : dec m_X0_takeTrader 73 = .ok (.bipush 80, 2) := by decide +kernel
theorem d_X0_takeTrader_75 : dec m_X0_takeTrader 75 = .ok (.imul, 1) := by decide +kernel
theorem d_X0_takeTrader_76 : dec m_X0_takeTrader 76 = .ok (.iload 8, 2) := by decide +kernel
theorem d_X0_takeTrader_78 : dec m_X0_takeTrader 78 = .ok (.iadd, 1) := by decide +kernel
theorem d_X0_takeTrader_79 : dec m_X0_takeTrader 79 = .ok (.invokestatic 60, 3) := by decide +kernel
theorem d_X0_takeTrader_82 : dec m_X0_takeTrader 82 = .ok (.putfield 22, 3) := by decide +kernel
theorem d_X0_takeTrader_85 : dec m_X0_takeTrader 85 = .ok (.goto 30, 3) := by decide +kernel
theorem d_X0_takeTrader_88 : dec m_X0_takeTrader 88 = .ok (.aload_n 0, 1) := by decide +kernel
theorem d_X0_takeTrader_89 : dec m_X0_takeTrader 89 = .ok (.aload_n 0, 1) := by decide +kernel
theorem d_X0_takeTrader_90 : dec m_X0_takeTrader 90 = .ok (.getfield 9, 3) := by decide +kernel
theorem d_X0_takeTrader_93 : dec m_X0_takeTrader 93 = .ok (.aload_n 0, 1) := by decide +kernel
theorem d_X0_takeTrader_94 : dec m_X0_takeTrader 94 = .ok (.getfield 18, 3) := by decide +kernel
theorem d_X0_takeTrader_97 : dec m_X0_takeTrader 97 = .ok (.sipush 9999, 3) := by decide +kernel
theorem d_X0_takeTrader_100 : dec m_X0_takeTrader 100 = .ok (.iload 7, 2) := by decide +kernel
theorem d_X0_takeTrader_102 : dec m_X0_takeTrader 102 = .ok (.isub, 1) := by decide +kernel
theorem d_X0_takeTrader_103 : dec m_X0_takeTrader 103 = .ok (.bipush 80, 2) := by decide +kernel
theorem d_X0_takeTrader_105 : dec m_X0_takeTrader 105 = .ok (.imul, 1) := by decide +kernel
theorem d_X0_takeTrader_106 : dec m_X0_takeTrader 106 = .ok (.iload 8, 2) := by decide +kernel
theorem d_X0_takeTrader_108 : dec m_X0_takeTrader 108 = .ok (.iadd, 1) := by decide +kernel
theorem d_X0_takeTrader_109 : dec m_X0_takeTrader 109 = .ok (.invokestatic 60, 3) := by decide +kernel
theorem d_X0_takeTrader_112 : dec m_X0_takeTrader 112 = .ok (.putfield 18, 3) := by decide +kernel
theorem d_X0_takeTrader_115 : dec m_X0_takeTrader 115 = .ok (.iinc 6 1, 3) := by decide +kernel
theorem d_X0_takeTrader_118 : dec m_X0_takeTrader 118 = .ok (.goto (-101), 3) := by decide +kernel
theorem d_X0_takeTrader_121 : dec m_X0_takeTrader 121 = .ok (.return_, 1) := by decide +kernel
theorem d_X0_insert_0 : dec m_X0_insert 0 = .ok (.iload_n 1, 1) := by decide +kernel
theorem d_X0_insert_1 : dec m_X0_insert 1 = .ok (.ifCond .lt 9, 3) := by decide +kernel
theorem d_X0_insert_4 : dec m_X0_insert 4 = .ok (.iload_n 1, 1) := by decide +kernel
theorem d_X0_insert_5 : dec m_X0_insert 5 = .ok (.aload_n 0, 1) := by decide +kernel
theorem d_X0_insert_6 : dec m_X0_insert 6 = .ok (.arraylength, 1) := by decide +kernel
theorem d_X0_insert_7 : dec m_X0_insert 7 = .ok (.if_icmp .lt 5, 3) := by decide +kernel
theorem d_X0_insert_10 : dec m_X0_insert 10 = .ok (.iload_n 1, 1) := by decide +kernel
theorem d_X0_insert_11 : dec m_X0_insert 11 = .ok (.ireturn, 1) := by decide +kernel
theorem d_X0_insert_12 : dec m_X0_insert 12 = .ok (.iload_n 1, 1) := by decide +kernel
theorem d_X0_insert_13 : dec m_X0_insert 13 = .ok (.istore_n 3, 1) := by decide +kernel
theorem d_X0_insert_14 : dec m_X0_insert 14 = .ok (.iload_n 3, 1) := by decide +kernel
theorem d_X0_insert_15 : dec m_X0_insert 15 = .ok (.ifCond .le 26, 3) := by decide +kernel
theorem d_X0_insert_18 : dec m_X0_insert 18 = .ok (.aload_n 0, 1) := by decide +kernel
theorem d_X0_insert_19 : dec m_X0_insert 19 = .ok (.iload_n 3, 1) := by decide +kernel
theorem d_X0_insert_20 : dec m_X0_insert 20 = .ok (.iconst 1, 1) := by decide +kernel
theorem d_X0_insert_21 : dec m_X0_insert 21 = .ok (.isub, 1) := by decide +kernel
theorem d_X0_insert_22 : dec m_X0_insert 22 = .ok (.iaload, 1) := by decide +kernel
theorem d_X0_insert_23 : dec m_X0_insert 23 = .ok (.iload_n 2, 1) := by decide +kernel
theorem d_X0_insert_24 : dec m_X0_insert 24 = .ok (.if_icmp .le 17, 3) := by decide +kernel
theorem d_X0_insert_27 : dec m_X0_insert 27 = .ok (.aload_n 0, 1) := by decide +kernel
theorem d_X0_insert_28 : dec m_X0_insert 28 = .ok (.iload_n 3, 1) := by decide +kernel
theorem d_X0_insert_29 : dec m_X0_insert 29 = .ok (.aload_n 0, 1) := by decide +kernel
theorem d_X0_insert_30 : dec m_X0_insert 30 = .ok (.iload_n 3, 1) := by decide +kernel
theorem d_X0_insert_31 : dec m_X0_insert 31 = .ok (.iconst 1, 1) := by decide +kernel
theorem d_X0_insert_32 : dec m_X0_insert 32 = .ok (.isub, 1) := by decide +kernel
theorem d_X0_insert_33 : dec m_X0_insert 33 = .ok (.iaload, 1) := by decide +kernel
theorem d_X0_insert_34 : dec m_X0_insert 34 = .ok (.iastore, 1) := by decide +kernel
theorem d_X0_insert_35 : dec m_X0_insert 35 = .ok (.iinc 3 (-1), 3) := by decide +kernel
theorem d_X0_insert_38 : dec m_X0_insert 38 = .ok (.goto (-24), 3) := by decide +kernel
theorem d_X0_insert_41 : dec m_X0_insert 41 = .ok (.aload_n 0, 1) := by decide +kernel
theorem d_X0_insert_42 : dec m_X0_insert 42 = .ok (.iload_n 3, 1) := by decide +kernel
theorem d_X0_insert_43 : dec m_X0_insert 43 = .ok (.iload_n 2, 1) := by decide +kernel
theorem d_X0_insert_44 : dec m_X0_insert 44 = .ok (.iastore, 1) := by decide +kernel
theorem d_X0_insert_45 : dec m_X0_insert 45 = .ok (.iload_n 1, 1) := by decide +kernel
theorem d_X0_insert_46 : dec m_X0_insert 46 = .ok (.iconst 1, 1) := by decide +kernel
theorem d_X0_insert_47 : dec m_X0_insert 47 = .ok (.iadd, 1) := by decide +kernel
theorem d_X0_insert_48 : dec m_X0_insert 48 = .ok (.ireturn, 1) := by decide +kernel
theorem d_X0_traderAt_0 : dec m_X0_traderAt 0 = .ok (.aload_n 0, 1) := by decide +kernel
theorem d_X0_traderAt_1 : dec m_X0_traderAt 1 = .ok (.iload_n 1, 1) := by decide +kernel
theorem d_X0_traderAt_2 : dec m_X0_traderAt 2 = .ok (.iload_n 2, 1) := by decide +kernel
theorem d_X0_traderAt_3 : dec m_X0_traderAt 3 = .ok (.invokevirtual 70, 3) := by decide +kernel
theorem d_X0_traderAt_6 : dec m_X0_traderAt 6 = .ok (.iconst 4, 1) := by decide +kernel
theorem d_X0_traderAt_7 : dec m_X0_traderAt 7 = .ok (.idiv, 1) := by decide +kernel
theorem d_X0_traderAt_8 : dec m_X0_traderAt 8 = .ok (.ireturn, 1) := by decide +kernel
theorem d_X0_slotAt_0 : dec m_X0_slotAt 0 = .ok (.iload_n 2, 1) := by decide +kernel
theorem d_X0_slotAt_1 : dec m_X0_slotAt 1 = .ok (.ifCond .lt 28, 3) := by decide +kernel
theorem d_X0_slotAt_4 : dec m_X0_slotAt 4 = .ok (.iload_n 2, 1) := by decide +kernel
theorem d_X0_slotAt_5 : dec m_X0_slotAt 5 = .ok (.bipush 80, 2) := by decide +kernel
theorem d_X0_slotAt_7 : dec m_X0_slotAt 7 = .ok (.if_icmp .ge 22, 3) := by decide +kernel
theorem d_X0_slotAt_10 : dec m_X0_slotAt 10 = .ok (.iload_n 2, 1) := by decide +kernel
theorem d_X0_slotAt_11 : dec m_X0_slotAt 11 = .ok (.iload_n 1, 1) := by decide +kernel
theorem d_X0_slotAt_12 : dec m_X0_slotAt 12 = .ok (.ifCond .eq 10, 3) := by decide +kernel
theorem d_X0_slotAt_15 : dec m_X0_slotAt 15 = .ok (.aload_n 0, 1) := by decide +kernel
theorem d_X0_slotAt_16 : dec m_X0_slotAt 16 = .ok (.getfield 22, 3) := by decide +kernel
theorem d_X0_slotAt_19 : dec m_X0_slotAt 19 = .ok (.goto 7, 3) := by decide +kernel
theorem d_X0_slotAt_22 : dec m_X0_slotAt 22 = .ok (.aload_n 0, 1) := by decide +kernel
theorem d_X0_slotAt_23 : dec m_X0_slotAt 23 = .ok (.getfield 18, 3) := by decide +kernel
theorem d_X0_slotAt_26 : dec m_X0_slotAt 26 = .ok (.if_icmp .lt 6, 3) := by decide +kernel
theorem d_X0_slotAt_29 : dec m_X0_slotAt 29 = .ok (.bipush 80, 2) := by decide +kernel
theorem d_X0_slotAt_31 : dec m_X0_slotAt 31 = .ok (.ireturn, 1) := by decide +kernel
theorem d_X0_slotAt_32 : dec m_X0_slotAt 32 = .ok (.iload_n 1, 1) := by decide +kernel
theorem d_X0_slotAt_33 : dec m_X0_slotAt 33 = .ok (.ifCond .eq 12, 3) := by decide +kernel
theorem d_X0_slotAt_36 : dec m_X0_slotAt 36 = .ok (.aload_n 0, 1) := by decide +kernel
theorem d_X0_slotAt_37 : dec m_X0_slotAt 37 = .ok (.getfield 15, 3) := by decide +kernel
theorem d_X0_slotAt_40 : dec m_X0_slotAt 40 = .ok (.iload_n 2, 1) := by decide +kernel
theorem d_X0_slotAt_41 : dec m_X0_slotAt 41 = .ok (.iaload, 1) := by decide +kernel
theorem d_X0_slotAt_42 : dec m_X0_slotAt 42 = .ok (.goto 9, 3) := by decide +kernel
theorem d_X0_slotAt_45 : dec m_X0_slotAt 45 = .ok (.aload_n 0, 1) := by decide +kernel
theorem d_X0_slotAt_46 : dec m_X0_slotAt 46 = .ok (.getfield 9, 3) := by decide +kernel
theorem d_X0_slotAt_49 : dec m_X0_slotAt 49 = .ok (.iload_n 2, 1) := by decide +kernel
theorem d_X0_slotAt_50 : dec m_X0_slotAt 50 = .ok (.iaload, 1) := by decide +kernel
theorem d_X0_slotAt_51 : dec m_X0_slotAt 51 = .ok (.bipush 80, 2) := by decide +kernel
theorem d_X0_slotAt_53 : dec m_X0_slotAt 53 = .ok (.irem, 1) := by decide +kernel
theorem d_X0_slotAt_54 : dec m_X0_slotAt 54 = .ok (.ireturn, 1) := by decide +kernel
theorem d_X0_bid_0 : dec m_X0_bid 0 = .ok (.iload_n 1, 1) := by decide +kernel
theorem d_X0_bid_1 : dec m_X0_bid 1 = .ok (.ifCond .lt 33, 3) := by decide +kernel
theorem d_X0_bid_4 : dec m_X0_bid 4 = .ok (.iload_n 1, 1) := by decide +kernel
theorem d_X0_bid_5 : dec m_X0_bid 5 = .ok (.aload_n 0, 1) := by decide +kernel
theorem d_X0_bid_6 : dec m_X0_bid 6 = .ok (.getfield 18, 3) := by decide +kernel
theorem d_X0_bid_9 : dec m_X0_bid 9 = .ok (.if_icmp .ge 25, 3) := by decide +kernel
theorem d_X0_bid_12 : dec m_X0_bid 12 = .ok (.iload_n 1, 1) := by decide +kernel
theorem d_X0_bid_13 : dec m_X0_bid 13 = .ok (.bipush 80, 2) := by decide +kernel
theorem d_X0_bid_15 : dec m_X0_bid 15 = .ok (.if_icmp .ge 19, 3) := by decide +kernel
theorem d_X0_bid_18 : dec m_X0_bid 18 = .ok (.sipush 9999, 3) := by decide +kernel
theorem d_X0_bid_21 : dec m_X0_bid 21 = .ok (.aload_n 0, 1) := by decide +kernel
theorem d_X0_bid_22 : dec m_X0_bid 22 = .ok (.getfield 9, 3) := by decide +kernel
theorem d_X0_bid_25 : dec m_X0_bid 25 = .ok (.iload_n 1, 1) := by decide +kernel
theorem d_X0_bid_26 : dec m_X0_bid 26 = .ok (.iaload, 1) := by decide +kernel
theorem d_X0_bid_27 : dec m_X0_bid 27 = .ok (.bipush 80, 2) := by decide +kernel
theorem d_X0_bid_29 : dec m_X0_bid 29 = .ok (.idiv, 1) := by decide +kernel
theorem d_X0_bid_30 : dec m_X0_bid 30 = .ok (.isub, 1) := by decide +kernel
theorem d_X0_bid_31 : dec m_X0_bid 31 = .ok (.goto 4, 3) := by decide +kernel
theorem d_X0_bid_34 : dec m_X0_bid 34 = .ok (.iconst (-1), 1) := by decide +kernel
theorem d_X0_bid_35 : dec m_X0_bid 35 = .ok (.ireturn, 1) := by decide +kernel
theorem d_X0_ask_0 : dec m_X0_ask 0 = .ok (.iload_n 1, 1) := by decide +kernel
theorem d_X0_ask_1 : dec m_X0_ask 1 = .ok (.ifCond .lt 34, 3) := by decide +kernel
theorem d_X0_ask_4 : dec m_X0_ask 4 = .ok (.iload_n 1, 1) := by decide +kernel
theorem d_X0_ask_5 : dec m_X0_ask 5 = .ok (.aload_n 0, 1) := by decide +kernel
theorem d_X0_ask_6 : dec m_X0_ask 6 = .ok (.getfield 22, 3) := by decide +kernel
theorem d_X0_ask_9 : dec m_X0_ask 9 = .ok (.if_icmp .ge 26, 3) := by decide +kernel
theorem d_X0_ask_12 : dec m_X0_ask 12 = .ok (.iload_n 1, 1) := by decide +kernel
theorem d_X0_ask_13 : dec m_X0_ask 13 = .ok (.bipush 80, 2) := by decide +kernel
theorem d_X0_ask_15 : dec m_X0_ask 15 = .ok (.if_icmp .ge 20, 3) := by decide +kernel
theorem d_X0_ask_18 : dec m_X0_ask 18 = .ok (.aload_n 0, 1) := by decide +kernel
theorem d_X0_ask_19 : dec m_X0_ask 19 = .ok (.getfield 15, 3) := by decide +kernel
theorem d_X0_ask_22 : dec m_X0_ask 22 = .ok (.iload_n 1, 1) := by decide +kernel
theorem d_X0_ask_23 : dec m_X0_ask 23 = .ok (.iaload, 1) := by decide +kernel
theorem d_X0_ask_24 : dec m_X0_ask 24 = .ok (.bipush 80, 2) := by decide +kernel
theorem d_X0_ask_26 : dec m_X0_ask 26 = .ok (.idiv, 1) := by decide +kernel
theorem d_X0_ask_27 : dec m_X0_ask 27 = .ok (.aload_n 0, 1) := by decide +kernel
theorem d_X0_ask_28 : dec m_X0_ask 28 = .ok (.getfield 74, 3) := by decide +kernel
theorem d_X0_ask_31 : dec m_X0_ask 31 = .ok (.iadd, 1) := by decide +kernel
theorem d_X0_ask_32 : dec m_X0_ask 32 = .ok (.goto 4, 3) := by decide +kernel
theorem d_X0_ask_35 : dec m_X0_ask 35 = .ok (.iconst (-1), 1) := by decide +kernel
theorem d_X0_ask_36 : dec m_X0_ask 36 = .ok (.ireturn, 1) := by decide +kernel
theorem d_X0_amount_0 : dec m_X0_amount 0 = .ok (.iload_n 1, 1) := by decide +kernel
theorem d_X0_amount_1 : dec m_X0_amount 1 = .ok (.ifCond .eq 11, 3) := by decide +kernel
theorem d_X0_amount_4 : dec m_X0_amount 4 = .ok (.aload_n 0, 1) := by decide +kernel
theorem d_X0_amount_5 : dec m_X0_amount 5 = .ok (.iload_n 2, 1) := by decide +kernel
theorem d_X0_amount_6 : dec m_X0_amount 6 = .ok (.invokevirtual 77, 3) := by decide +kernel
theorem d_X0_amount_9 : dec m_X0_amount 9 = .ok (.goto 8, 3) := by decide +kernel
theorem d_X0_amount_12 : dec m_X0_amount 12 = .ok (.aload_n 0, 1) := by decide +kernel
theorem d_X0_amount_13 : dec m_X0_amount 13 = .ok (.iload_n 2, 1) := by decide +kernel
theorem d_X0_amount_14 : dec m_X0_amount 14 = .ok (.invokevirtual 80, 3) := by decide +kernel
theorem d_X0_amount_17 : dec m_X0_amount 17 = .ok (.ireturn, 1) := by decide +kernel
theorem d_X0_lastBid_0 : dec m_X0_lastBid 0 = .ok (.aload_n 0, 1) := by decide +kernel
theorem d_X0_lastBid_1 : dec m_X0_lastBid 1 = .ok (.aload_n 0, 1) := by decide +kernel
theorem d_X0_lastBid_2 : dec m_X0_lastBid 2 = .ok (.getfield 83, 3) := by decide +kernel
theorem d_X0_lastBid_5 : dec m_X0_lastBid 5 = .ok (.iconst 1, 1) := by decide +kernel
theorem d_X0_lastBid_6 : dec m_X0_lastBid 6 = .ok (.isub, 1) := by decide +kernel
theorem d_X0_lastBid_7 : dec m_X0_lastBid 7 = .ok (.invokevirtual 80, 3) := by decide +kernel
theorem d_X0_lastBid_10 : dec m_X0_lastBid 10 = .ok (.ireturn, 1) := by decide +kernel
theorem d_X0_lastAsk_0 : dec m_X0_lastAsk 0 = .ok (.aload_n 0, 1) := by decide +kernel
theorem d_X0_lastAsk_1 : dec m_X0_lastAsk 1 = .ok (.aload_n 0, 1) := by decide +kernel
theorem d_X0_lastAsk_2 : dec m_X0_lastAsk 2 = .ok (.getfield 83, 3) := by decide +kernel
theorem d_X0_lastAsk_5 : dec m_X0_lastAsk 5 = .ok (.iconst 1, 1) := by decide +kernel
theorem d_X0_lastAsk_6 : dec m_X0_lastAsk 6 = .ok (.isub, 1) := by decide +kernel
theorem d_X0_lastAsk_7 : dec m_X0_lastAsk 7 = .ok (.invokevirtual 77, 3) := by decide +kernel
theorem d_X0_lastAsk_10 : dec m_X0_lastAsk 10 = .ok (.ireturn, 1) := by decide +kernel
theorem d_X0_settle_0 : dec m_X0_settle 0 = .ok (.aload_n 0, 1) := by decide +kernel
theorem d_X0_settle_1 : dec m_X0_settle 1 = .ok (.iload_n 1, 1) := by decide +kernel
theorem d_X0_settle_2 : dec m_X0_settle 2 = .ok (.putfield 74, 3) := by decide +kernel
theorem d_X0_settle_5 : dec m_X0_settle 5 = .ok (.aload_n 0, 1) := by decide +kernel
theorem d_X0_settle_6 : dec m_X0_settle 6 = .ok (.iload_n 2, 1) := by decide +kernel
theorem d_X0_settle_7 : dec m_X0_settle 7 = .ok (.putfield 86, 3) := by decide +kernel
theorem d_X0_settle_10 : dec m_X0_settle 10 = .ok (.aload_n 0, 1) := by decide +kernel
theorem d_X0_settle_11 : dec m_X0_settle 11 = .ok (.iconst 0, 1) := by decide +kernel
theorem d_X0_settle_12 : dec m_X0_settle 12 = .ok (.putfield 83, 3) := by decide +kernel
theorem d_X0_settle_15 : dec m_X0_settle 15 = .ok (.aload_n 0, 1) := by decide +kernel
theorem d_X0_settle_16 : dec m_X0_settle 16 = .ok (.iconst 0, 1) := by decide +kernel
theorem d_X0_settle_17 : dec m_X0_settle 17 = .ok (.putfield 89, 3) := by decide +kernel
theorem d_X0_settle_20 : dec m_X0_settle 20 = .ok (.aload_n 0, 1) := by decide +kernel
theorem d_X0_settle_21 : dec m_X0_settle 21 = .ok (.getfield 83, 3) := by decide +kernel
theorem d_X0_settle_24 : dec m_X0_settle 24 = .ok (.aload_n 0, 1) := by decide +kernel
theorem d_X0_settle_25 : dec m_X0_settle 25 = .ok (.getfield 18, 3) := by decide +kernel
theorem d_X0_settle_28 : dec m_X0_settle 28 = .ok (.if_icmp .ge 72, 3) := by decide +kernel
theorem d_X0_settle_31 : dec m_X0_settle 31 = .ok (.aload_n 0, 1) := by decide +kernel
theorem d_X0_settle_32 : dec m_X0_settle 32 = .ok (.getfield 83, 3) := by decide +kernel
theorem d_X0_settle_35 : dec m_X0_settle 35 = .ok (.aload_n 0, 1) := by decide +kernel
theorem d_X0_settle_36 : dec m_X0_settle 36 = .ok (.getfield 22, 3) := by decide +kernel
theorem d_X0_settle_39 : dec m_X0_settle 39 = .ok (.if_icmp .ge 61, 3) := by decide +kernel
theorem d_X0_settle_42 : dec m_X0_settle 42 = .ok (.aload_n 0, 1) := by decide +kernel
theorem d_X0_settle_43 : dec m_X0_settle 43 = .ok (.aload_n 0, 1) := by decide +kernel
theorem d_X0_settle_44 : dec m_X0_settle 44 = .ok (.getfield 83, 3) := by decide +kernel
theorem d_X0_settle_47 : dec m_X0_settle 47 = .ok (.invokevirtual 80, 3) := by decide +kernel
theorem d_X0_settle_50 : dec m_X0_settle 50 = .ok (.aload_n 0, 1) := by decide +kernel
theorem d_X0_settle_51 : dec m_X0_settle 51 = .ok (.aload_n 0, 1) := by decide +kernel
theorem d_X0_settle_52 : dec m_X0_settle 52 = .ok (.getfield 83, 3) := by decide +kernel
theorem d_X0_settle_55 : dec m_X0_settle 55 = .ok (.invokevirtual 77, 3) := by decide +kernel
theorem d_X0_settle_58 : dec m_X0_settle 58 = .ok (.if_icmp .lt 42, 3) := by decide +kernel
theorem d_X0_settle_61 : dec m_X0_settle 61 = .ok (.aload_n 0, 1) := by decide +kernel
theorem d_X0_settle_62 : dec m_X0_settle 62 = .ok (.dup, 1) := by decide +kernel
theorem d_X0_settle_63 : dec m_X0_settle 63 = .ok (.getfield 89, 3) := by decide +kernel
theorem d_X0_settle_66 : dec m_X0_settle 66 = .ok (.aload_n 0, 1) := by decide +kernel
theorem d_X0_settle_67 : dec m_X0_settle 67 = .ok (.aload_n 0, 1) := by decide +kernel
theorem d_X0_settle_68 : dec m_X0_settle 68 = .ok (.getfield 83, 3) := by decide +kernel
theorem d_X0_settle_71 : dec m_X0_settle 71 = .ok (.invokevirtual 80, 3) := by decide +kernel
theorem d_X0_settle_74 : dec m_X0_settle 74 = .ok (.aload_n 0, 1) := by decide +kernel
theorem d_X0_settle_75 : dec m_X0_settle 75 = .ok (.aload_n 0, 1) := by decide +kernel
theorem d_X0_settle_76 : dec m_X0_settle 76 = .ok (.getfield 83, 3) := by decide +kernel
theorem d_X0_settle_79 : dec m_X0_settle 79 = .ok (.invokevirtual 77, 3) := by decide +kernel
theorem d_X0_settle_82 : dec m_X0_settle 82 = .ok (.isub, 1) := by decide +kernel
theorem d_X0_settle_83 : dec m_X0_settle 83 = .ok (.iadd, 1) := by decide +kernel
theorem d_X0_settle_84 : dec m_X0_settle 84 = .ok (.putfield 89, 3) := by decide +kernel
theorem d_X0_settle_87 : dec m_X0_settle 87 = .ok (.aload_n 0, 1) := by decide +kernel
theorem d_X0_settle_88 : dec m_X0_settle 88 = .ok (.dup, 1) := by decide +kernel
theorem d_X0_settle_89 : dec m_X0_settle 89 = .ok (.getfield 83, 3) := by decide +kernel
theorem d_X0_settle_92 : dec m_X0_settle 92 = .ok (.iconst 1, 1) := by decide +kernel
theorem d_X0_settle_93 : dec m_X0_settle 93 = .ok (.iadd, 1) := by decide +kernel
theorem d_X0_settle_94 : dec m_X0_settle 94 = .ok (.putfield 83, 3) := by decide +kernel
theorem d_X0_settle_97 : dec m_X0_settle 97 = .ok (.goto (-77), 3) := by decide +kernel
theorem d_X0_settle_100 : dec m_X0_settle 100 = .ok (.aload_n 0, 1) := by decide +kernel
theorem d_X0_settle_101 : dec m_X0_settle 101 = .ok (.aload_n 0, 1) := by decide +kernel
theorem d_X0_settle_102 : dec m_X0_settle 102 = .ok (.getfield 83, 3) := by decide +kernel
theorem d_X0_settle_105 : dec m_X0_settle 105 = .ok (.putfield 92, 3) := by decide +kernel
theorem d_X0_settle_108 : dec m_X0_settle 108 = .ok (.aload_n 0, 1) := by decide +kernel
theorem d_X0_settle_109 : dec m_X0_settle 109 = .ok (.getfield 83, 3) := by decide +kernel
theorem d_X0_settle_112 : dec m_X0_settle 112 = .ok (.ifCond .eq 11, 3) := by decide +kernel
theorem d_X0_settle_115 : dec m_X0_settle 115 = .ok (.aload_n 0, 1) := by decide +kernel
theorem d_X0_settle_116 : dec m_X0_settle 116 = .ok (.getfield 86, 3) := by decide +kernel
theorem d_X0_settle_119 : dec m_X0_settle 119 = .ok (.iconst 3, 1) := by decide +kernel
theorem d_X0_settle_120 : dec m_X0_settle 120 = .ok (.if_icmp .ne 4, 3) := by decide +kernel
theorem d_X0_settle_123 : dec m_X0_settle 123 = .ok (.return_, 1) := by decide +kernel
theorem d_X0_settle_124 : dec m_X0_settle 124 = .ok (.aload_n 0, 1) := by decide +kernel
theorem d_X0_settle_125 : dec m_X0_settle 125 = .ok (.invokevirtual 95, 3) := by decide +kernel
theorem d_X0_settle_128 : dec m_X0_settle 128 = .ok (.istore_n 3, 1) := by decide +kernel
theorem d_X0_settle_129 : dec m_X0_settle 129 = .ok (.iload_n 3, 1) := by decide +kernel
theorem d_X0_settle_130 : dec m_X0_settle 130 = .ok (.iconst (-1), 1) := by decide +kernel
theorem d_X0_settle_131 : dec m_X0_settle 131 = .ok (.if_icmp .ne 37, 3) := by decide +kernel
theorem d_X0_settle_134 : dec m_X0_settle 134 = .ok (.aload_n 0, 1) := by decide +kernel
theorem d_X0_settle_135 : dec m_X0_settle 135 = .ok (.aload_n 0, 1) := by decide +kernel
theorem d_X0_settle_136 : dec m_X0_settle 136 = .ok (.getfield 83, 3) := by decide +kernel
theorem d_X0_settle_139 : dec m_X0_settle 139 = .ok (.iconst 1, 1) := by decide +kernel
theorem d_X0_settle_140 : dec m_X0_settle 140 = .ok (.isub, 1) := by decide +kernel
theorem d_X0_settle_141 : dec m_X0_settle 141 = .ok (.putfield 92, 3) := by decide +kernel
theorem d_X0_settle_144 : dec m_X0_settle 144 = .ok (.aload_n 0, 1) := by decide +kernel
theorem d_X0_settle_145 : dec m_X0_settle 145 = .ok (.aload_n 0, 1) := by decide +kernel
theorem d_X0_settle_146 : dec m_X0_settle 146 = .ok (.invokevirtual 99, 3) := by decide +kernel
theorem d_X0_settle_149 : dec m_X0_settle 149 = .ok (.putfield 102, 3) := by decide +kernel
theorem d_X0_settle_152 : dec m_X0_settle 152 = .ok (.aload_n 0, 1) := by decide +kernel
theorem d_X0_settle_153 : dec m_X0_settle 153 = .ok (.aload_n 0, 1) := by decide +kernel
theorem d_X0_settle_154 : dec m_X0_settle 154 = .ok (.invokevirtual 105, 3) := by decide +kernel
theorem d_X0_settle_157 : dec m_X0_settle 157 = .ok (.aload_n 0, 1) := by decide +kernel
theorem d_X0_settle_158 : dec m_X0_settle 158 = .ok (.getfield 74, 3) := by decide +kernel
theorem d_X0_settle_161 : dec m_X0_settle 161 = .ok (.isub, 1) := by decide +kernel
theorem d_X0_settle_162 : dec m_X0_settle 162 = .ok (.putfield 108, 3) := by decide +kernel
theorem d_X0_settle_165 : dec m_X0_settle 165 = .ok (.goto 18, 3) := by decide +kernel
theorem d_X0_settle_168 : dec m_X0_settle 168 = .ok (.aload_n 0, 1) := by decide +kernel
theorem d_X0_settle_169 : dec m_X0_settle 169 = .ok (.iload_n 3, 1) := by decide +kernel
theorem d_X0_settle_170 : dec m_X0_settle 170 = .ok (.putfield 102, 3) := by decide +kernel
theorem d_X0_settle_173 : dec m_X0_settle 173 = .ok (.aload_n 0, 1) := by decide +kernel
theorem d_X0_settle_174 : dec m_X0_settle 174 = .ok (.iload_n 3, 1) := by decide +kernel
theorem d_X0_settle_175 : dec m_X0_settle 175 = .ok (.aload_n 0, 1) := by decide +kernel
theorem d_X0_settle_176 : dec m_X0_settle 176 = .ok (.getfield 74, 3) := by decide +kernel
theorem d_X0_settle_179 : dec m_X0_settle 179 = .ok (.isub, 1) := by decide +kernel
theorem d_X0_settle_180 : dec m_X0_settle 180 = .ok (.putfield 108, 3) := by decide +kernel
theorem d_X0_settle_183 : dec m_X0_settle 183 = .ok (.return_, 1) := by decide +kernel
theorem d_X0_priceForAll_0 : dec m_X0_priceForAll 0 = .ok (.aload_n 0, 1) := by decide +kernel
theorem d_X0_priceForAll_1 : dec m_X0_priceForAll 1 = .ok (.getfield 86, 3) := by decide +kernel
theorem d_X0_priceForAll_4 : dec m_X0_priceForAll 4 = .ok (.iconst 1, 1) := by decide +kernel
theorem d_X0_priceForAll_5 : dec m_X0_priceForAll 5 = .ok (.if_icmp .ne 15, 3) := by decide +kernel
theorem d_X0_priceForAll_8 : dec m_X0_priceForAll 8 = .ok (.aload_n 0, 1) := by decide +kernel
theorem d_X0_priceForAll_9 : dec m_X0_priceForAll 9 = .ok (.invokevirtual 99, 3) := by decide +kernel
theorem d_X0_priceForAll_12 : dec m_X0_priceForAll 12 = .ok (.aload_n 0, 1) := by decide +kernel
theorem d_X0_priceForAll_13 : dec m_X0_priceForAll 13 = .ok (.invokevirtual 105, 3) := by decide +kernel
theorem d_X0_priceForAll_16 : dec m_X0_priceForAll 16 = .ok (.iadd, 1) := by decide +kernel
theorem d_X0_priceForAll_17 : dec m_X0_priceForAll 17 = .ok (.iconst 2, 1) := by decide +kernel
theorem d_X0_priceForAll_18 : dec m_X0_priceForAll 18 = .ok (.idiv, 1) := by decide +kernel
theorem d_X0_priceForAll_19 : dec m_X0_priceForAll 19 = .ok (.ireturn, 1) := by decide +kernel
theorem d_X0_priceForAll_20 : dec m_X0_priceForAll 20 = .ok (.aload_n 0, 1) := by decide +kernel
theorem d_X0_priceForAll_21 : dec m_X0_priceForAll 21 = .ok (.getfield 86, 3) := by decide +kernel
theorem d_X0_priceForAll_24 : dec m_X0_priceForAll 24 = .ok (.ifCond .ne 25, 3) := by decide +kernel
theorem d_X0_priceForAll_27 : dec m_X0_priceForAll 27 = .ok (.aload_n 0, 1) := by decide +kernel
theorem d_X0_priceForAll_28 : dec m_X0_priceForAll 28 = .ok (.getfield 83, 3) := by decide +kernel
theorem d_X0_priceForAll_31 : dec m_X0_priceForAll 31 = .ok (.aload_n 0, 1) := by decide +kernel
theorem d_X0_priceForAll_32 : dec m_X0_priceForAll 32 = .ok (.getfield 18, 3) := by decide +kernel
theorem d_X0_priceForAll_35 : dec m_X0_priceForAll 35 = .ok (.if_icmp .ge 14, 3) := by decide +kernel
theorem d_X0_priceForAll_38 : dec m_X0_priceForAll 38 = .ok (.aload_n 0, 1) := by decide +kernel
theorem d_X0_priceForAll_39 : dec m_X0_priceForAll 39 = .ok (.getfield 83, 3) := by decide +kernel
theorem d_X0_priceForAll_42 : dec m_X0_priceForAll 42 = .ok (.aload_n 0, 1) := by decide +kernel
theorem d_X0_priceForAll_43 : dec m_X0_priceForAll 43 = .ok (.getfield 22, 3) := by decide +kernel
theorem d_X0_priceForAll_46 : dec m_X0_priceForAll 46 = .ok (.if_icmp .lt 5, 3) := by decide +kernel
theorem d_X0_priceForAll_49 : dec m_X0_priceForAll 49 = .ok (.iconst (-1), 1) := by decide +kernel
theorem d_X0_priceForAll_50 : dec m_X0_priceForAll 50 = .ok (.ireturn, 1) := by decide +kernel
theorem d_X0_priceForAll_51 : dec m_X0_priceForAll 51 = .ok (.aload_n 0, 1) := by decide +kernel
theorem d_X0_priceForAll_52 : dec m_X0_priceForAll 52 = .ok (.aload_n 0, 1) := by decide +kernel
theorem d_X0_priceForAll_53 : dec m_X0_priceForAll 53 = .ok (.getfield 83, 3) := by decide +kernel
theorem d_X0_priceForAll_56 : dec m_X0_priceForAll 56 = .ok (.invokevirtual 80, 3) := by decide +kernel
theorem d_X0_priceForAll_59 : dec m_X0_priceForAll 59 = .ok (.aload_n 0, 1) := by decide +kernel
theorem d_X0_priceForAll_60 : dec m_X0_priceForAll 60 = .ok (.aload_n 0, 1) := by decide +kernel
theorem d_X0_priceForAll_61 : dec m_X0_priceForAll 61 = .ok (.getfield 83, 3) := by decide +kernel
theorem d_X0_priceForAll_64 : dec m_X0_priceForAll 64 = .ok (.invokevirtual 77, 3) := by decide +kernel
theorem d_X0_priceForAll_67 : dec m_X0_priceForAll 67 = .ok (.iadd, 1) := by decide +kernel
theorem d_X0_priceForAll_68 : dec m_X0_priceForAll 68 = .ok (.iconst 2, 1) := by decide +kernel
theorem d_X0_priceForAll_69 : dec m_X0_priceForAll 69 = .ok (.idiv, 1) := by decide +kernel
theorem d_X0_priceForAll_70 : dec m_X0_priceForAll 70 = .ok (.istore_n 1, 1) := by decide +kernel
theorem d_X0_priceForAll_71 : dec m_X0_priceForAll 71 = .ok (.iload_n 1, 1) := by decide +kernel
theorem d_X0_priceForAll_72 : dec m_X0_priceForAll 72 = .ok (.aload_n 0, 1) := by decide +kernel
theorem d_X0_priceForAll_73 : dec m_X0_priceForAll 73 = .ok (.invokevirtual 99, 3) := by decide +kernel
theorem d_X0_priceForAll_76 : dec m_X0_priceForAll 76 = .ok (.if_icmp .gt 15, 3) := by decide +kernel
theorem d_X0_priceForAll_79 : dec m_X0_priceForAll 79 = .ok (.iload_n 1, 1) := by decide +kernel
theorem d_X0_priceForAll_80 : dec m_X0_priceForAll 80 = .ok (.aload_n 0, 1) := by decide +kernel
theorem d_X0_priceForAll_81 : dec m_X0_priceForAll 81 = .ok (.invokevirtual 105, 3) := by decide +kernel
theorem d_X0_priceForAll_84 : dec m_X0_priceForAll 84 = .ok (.if_icmp .lt 7, 3) := by decide +kernel
theorem d_X0_priceForAll_87 : dec m_X0_priceForAll 87 = .ok (.iload_n 1, 1) := by decide +kernel
theorem d_X0_priceForAll_88 : dec m_X0_priceForAll 88 = .ok (.goto 4, 3) := by decide +kernel
theorem d_X0_priceForAll_91 : dec m_X0_priceForAll 91 = .ok (.iconst (-1), 1) := by decide +kernel
theorem d_X0_priceForAll_92 : dec m_X0_priceForAll 92 = .ok (.ireturn, 1) := by decide +kernel
theorem d_X0_worthWithout_0 : dec m_X0_worthWithout 0 = .ok (.iconst 0, 1) := by decide +kernel
theorem d_X0_worthWithout_1 : dec m_X0_worthWithout 1 = .ok (.istore_n 2, 1) := by decide +kernel
theorem d_X0_worthWithout_2 : dec m_X0_worthWithout 2 = .ok (.iconst 0, 1) := by decide +kernel
theorem d_X0_worthWithout_3 : dec m_X0_worthWithout 3 = .ok (.istore_n 3, 1) := by decide +kernel
theorem d_X0_worthWithout_4 : dec m_X0_worthWithout 4 = .ok (.iconst 0, 1) := by decide +kernel
theorem d_X0_worthWithout_5 : dec m_X0_worthWithout 5 = .ok (.istore 4, 2) := by decide +kernel
theorem d_X0_worthWithout_7 : dec m_X0_worthWithout 7 = .ok (.iload 4, 2) := by decide +kernel
theorem d_X0_worthWithout_9 : dec m_X0_worthWithout 9 = .ok (.aload_n 0, 1) := by decide +kernel
theorem d_X0_worthWithout_10 : dec m_X0_worthWithout 10 = .ok (.getfield 18, 3) := by decide +kernel
theorem d_X0_worthWithout_13 : dec m_X0_worthWithout 13 = .ok (.if_icmp .ge 90, 3) := by decide +kernel
theorem d_X0_worthWithout_16 : dec m_X0_worthWithout 16 = .ok (.aload_n 0, 1) := by decide +kernel
theorem d_X0_worthWithout_17 : dec m_X0_worthWithout 17 = .ok (.iconst 0, 1) := by decide +kernel
theorem d_X0_worthWithout_18 : dec m_X0_worthWithout 18 = .ok (.iload 4, 2) := by decide +kernel
theorem d_X0_worthWithout_20 : dec m_X0_worthWithout 20 = .ok (.invokevirtual 114, 3) := by decide +kernel
theorem d_X0_worthWithout_23 : dec m_X0_worthWithout 23 = .ok (.iload_n 1, 1) := by decide +kernel
theorem d_X0_worthWithout_24 : dec m_X0_worthWithout 24 = .ok (.if_icmp .ne 6, 3) := by decide +kernel
theorem d_X0_worthWithout_27 : dec m_X0_worthWithout 27 = .ok (.goto 70, 3) := by decide +kernel
theorem d_X0_worthWithout_30 : dec m_X0_worthWithout 30 = .ok (.iload_n 3, 1) := by decide +kernel
theorem d_X0_worthWithout_31 : dec m_X0_worthWithout 31 = .ok (.aload_n 0, 1) := by decide +kernel
theorem d_X0_worthWithout_32 : dec m_X0_worthWithout 32 = .ok (.getfield 22, 3) := by decide +kernel
theorem d_X0_worthWithout_35 : dec m_X0_worthWithout 35 = .ok (.if_icmp .ge 19, 3) := by decide +kernel
theorem d_X0_worthWithout_38 : dec m_X0_worthWithout 38 = .ok (.aload_n 0, 1) := by decide +kernel
theorem d_X0_worthWithout_39 : dec m_X0_worthWithout 39 = .ok (.iconst 1, 1) := by decide +kernel
theorem d_X0_worthWithout_40 : dec m_X0_worthWithout 40 = .ok (.iload_n 3, 1) := by decide +kernel
theorem d_X0_worthWithout_41 : dec m_X0_worthWithout 41 = .ok (.invokevirtual 114, 3) := by decide +kernel
theorem d_X0_worthWithout_44 : dec m_X0_worthWithout 44 = .ok (.iload_n 1, 1) := by decide +kernel
theorem d_X0_worthWithout_45 : dec m_X0_worthWithout 45 = .ok (.if_icmp .ne 9, 3) := by decide +kernel
theorem d_X0_worthWithout_48 : dec m_X0_worthWithout 48 = .ok (.iinc 3 1, 3) := by decide +kernel
theorem d_X0_worthWithout_51 : dec m_X0_worthWithout 51 = .ok (.goto (-21), 3) := by decide +kernel
theorem d_X0_worthWithout_54 : dec m_X0_worthWithout 54 = .ok (.iload_n 3, 1) := by decide +kernel
theorem d_X0_worthWithout_55 : dec m_X0_worthWithout 55 = .ok (.aload_n 0, 1) := by decide +kernel
theorem d_X0_worthWithout_56 : dec m_X0_worthWithout 56 = .ok (.getfield 22, 3) := by decide +kernel
theorem d_X0_worthWithout_59 : dec m_X0_worthWithout 59 = .ok (.if_icmp .ge 44, 3) := by decide +kernel
theorem d_X0_worthWithout_62 : dec m_X0_worthWithout 62 = .ok (.aload_n 0, 1) := by decide +kernel
theorem d_X0_worthWithout_63 : dec m_X0_worthWithout 63 = .ok (.iload 4, 2) := by decide +kernel
theorem d_X0_worthWithout_65 : dec m_X0_worthWithout 65 = .ok (.invokevirtual 80, 3) := by decide +kernel
theorem d_X0_worthWithout_68 : dec m_X0_worthWithout 68 = .ok (.aload_n 0, 1) := by decide +kernel
theorem d_X0_worthWithout_69 : dec m_X0_worthWithout 69 = .ok (.iload_n 3, 1) := by decide +kernel
theorem d_X0_worthWithout_70 : dec m_X0_worthWithout 70 = .ok (.invokevirtual 77, 3) := by decide +kernel
theorem d_X0_worthWithout_73 : dec m_X0_worthWithout 73 = .ok (.if_icmp .ge 6, 3) := by decide +kernel
theorem d_X0_worthWithout_76 : dec m_X0_worthWithout 76 = .ok (.goto 27, 3) := by decide +kernel
theorem d_X0_worthWithout_79 : dec m_X0_worthWithout 79 = .ok (.iload_n 2, 1) := by decide +kernel
theorem d_X0_worthWithout_80 : dec m_X0_worthWithout 80 = .ok (.aload_n 0, 1) := by decide +kernel
theorem d_X0_worthWithout_81 : dec m_X0_worthWithout 81 = .ok (.iload 4, 2) := by decide +kernel
theorem d_X0_worthWithout_83 : dec m_X0_worthWithout 83 = .ok (.invokevirtual 80, 3) := by decide +kernel
theorem d_X0_worthWithout_86 : dec m_X0_worthWithout 86 = .ok (.aload_n 0, 1) := by decide +kernel
theorem d_X0_worthWithout_87 : dec m_X0_worthWithout 87 = .ok (.iload_n 3, 1) := by decide +kernel
theorem d_X0_worthWithout_88 : dec m_X0_worthWithout 88 = .ok (.invokevirtual 77, 3) := by decide +kernel
theorem d_X0_worthWithout_91 : dec m_X0_worthWithout 91 = .ok (.isub, 1) := by decide +kernel
theorem d_X0_worthWithout_92 : dec m_X0_worthWithout 92 = .ok (.iadd, 1) := by decide +kernel
theorem d_X0_worthWithout_93 : dec m_X0_worthWithout 93 = .ok (.istore_n 2, 1) := by decide +kernel
theorem d_X0_worthWithout_94 : dec m_X0_worthWithout 94 = .ok (.iinc 3 1, 3) := by decide +kernel
theorem d_X0_worthWithout_97 : dec m_X0_worthWithout 97 = .ok (.iinc 4 1, 3) := by decide +kernel
theorem d_X0_worthWithout_100 : dec m_X0_worthWithout 100 = .ok (.goto (-93), 3) := by decide +kernel
theorem d_X0_worthWithout_103 : dec m_X0_worthWithout 103 = .ok (.iload_n 2, 1) := by decide +kernel
theorem d_X0_worthWithout_104 : dec m_X0_worthWithout 104 = .ok (.ireturn, 1) := by decide +kernel
theorem d_X0_doneOf_0 : dec m_X0_doneOf 0 = .ok (.iconst 0, 1) := by decide +kernel
theorem d_X0_doneOf_1 : dec m_X0_doneOf 1 = .ok (.istore_n 3, 1) := by decide +kernel
theorem d_X0_doneOf_2 : dec m_X0_doneOf 2 = .ok (.iconst 0, 1) := by decide +kernel
theorem d_X0_doneOf_3 : dec m_X0_doneOf 3 = .ok (.istore 4, 2) := by decide +kernel
theorem d_X0_doneOf_5 : dec m_X0_doneOf 5 = .ok (.iload 4, 2) := by decide +kernel
theorem d_X0_doneOf_7 : dec m_X0_doneOf 7 = .ok (.aload_n 0, 1) := by decide +kernel
theorem d_X0_doneOf_8 : dec m_X0_doneOf 8 = .ok (.getfield 92, 3) := by decide +kernel
theorem d_X0_doneOf_11 : dec m_X0_doneOf 11 = .ok (.if_icmp .ge 23, 3) := by decide +kernel
theorem d_X0_doneOf_14 : dec m_X0_doneOf 14 = .ok (.aload_n 0, 1) := by decide +kernel
theorem d_X0_doneOf_15 : dec m_X0_doneOf 15 = .ok (.iload_n 1, 1) := by decide +kernel
theorem d_X0_doneOf_16 : dec m_X0_doneOf 16 = .ok (.iload 4, 2) := by decide +kernel
theorem d_X0_doneOf_18 : dec m_X0_doneOf 18 = .ok (.invokevirtual 114, 3) := by decide +kernel
theorem d_X0_doneOf_21 : dec m_X0_doneOf 21 = .ok (.iload_n 2, 1) := by decide +kernel
theorem d_X0_doneOf_22 : dec m_X0_doneOf 22 = .ok (.if_icmp .ne 6, 3) := by decide +kernel
theorem d_X0_doneOf_25 : dec m_X0_doneOf 25 = .ok (.iinc 3 1, 3) := by decide +kernel
theorem d_X0_doneOf_28 : dec m_X0_doneOf 28 = .ok (.iinc 4 1, 3) := by decide +kernel
theorem d_X0_doneOf_31 : dec m_X0_doneOf 31 = .ok (.goto (-26), 3) := by decide +kernel
theorem d_X0_doneOf_34 : dec m_X0_doneOf 34 = .ok (.iload_n 3, 1) := by decide +kernel
theorem d_X0_doneOf_35 : dec m_X0_doneOf 35 = .ok (.ireturn, 1) := by decide +kernel
theorem d_X0_moneyOf_0 : dec m_X0_moneyOf 0 = .ok (.aload_n 0, 1) := by decide +kernel
theorem d_X0_moneyOf_1 : dec m_X0_moneyOf 1 = .ok (.iload_n 1, 1) := by decide +kernel
theorem d_X0_moneyOf_2 : dec m_X0_moneyOf 2 = .ok (.iload_n 2, 1) := by decide +kernel
theorem d_X0_moneyOf_3 : dec m_X0_moneyOf 3 = .ok (.invokevirtual 117, 3) := by decide +kernel
theorem d_X0_moneyOf_6 : dec m_X0_moneyOf 6 = .ok (.istore_n 3, 1) := by decide +kernel
theorem d_X0_moneyOf_7 : dec m_X0_moneyOf 7 = .ok (.iload_n 3, 1) := by decide +kernel
theorem d_X0_moneyOf_8 : dec m_X0_moneyOf 8 = .ok (.ifCond .ne 5, 3) := by decide +kernel
theorem d_X0_moneyOf_11 : dec m_X0_moneyOf 11 = .ok (.iconst 0, 1) := by decide +kernel
theorem d_X0_moneyOf_12 : dec m_X0_moneyOf 12 = .ok (.ireturn, 1) := by decide +kernel
theorem d_X0_moneyOf_13 : dec m_X0_moneyOf 13 = .ok (.aload_n 0, 1) := by decide +kernel
theorem d_X0_moneyOf_14 : dec m_X0_moneyOf 14 = .ok (.getfield 86, 3) := by decide +kernel
theorem d_X0_moneyOf_17 : dec m_X0_moneyOf 17 = .ok (.iconst 3, 1) := by decide +kernel
theorem d_X0_moneyOf_18 : dec m_X0_moneyOf 18 = .ok (.if_icmp .eq 21, 3) := by decide +kernel
theorem d_X0_moneyOf_21 : dec m_X0_moneyOf 21 = .ok (.iload_n 3, 1) := by decide +kernel
theorem d_X0_moneyOf_22 : dec m_X0_moneyOf 22 = .ok (.iload_n 1, 1) := by decide +kernel
theorem d_X0_moneyOf_23 : dec m_X0_moneyOf 23 = .ok (.ifCond .eq 10, 3) := by decide +kernel
theorem d_X0_moneyOf_26 : dec m_X0_moneyOf 26 = .ok (.aload_n 0, 1) := by decide +kernel
theorem d_X0_moneyOf_27 : dec m_X0_moneyOf 27 = .ok (.getfield 108, 3) := by decide +kernel
theorem d_X0_moneyOf_30 : dec m_X0_moneyOf 30 = .ok (.goto 7, 3) := by decide +kernel
theorem d_X0_moneyOf_33 : dec m_X0_moneyOf 33 = .ok (.aload_n 0, 1) := by decide +kernel
theorem d_X0_moneyOf_34 : dec m_X0_moneyOf 34 = .ok (.getfield 102, 3) := by decide +kernel
theorem d_X0_moneyOf_37 : dec m_X0_moneyOf 37 = .ok (.imul, 1) := by decide +kernel
theorem d_X0_moneyOf_38 : dec m_X0_moneyOf 38 = .ok (.ireturn, 1) := by decide +kernel
theorem d_X0_moneyOf_39 : dec m_X0_moneyOf 39 = .ok (.aload_n 0, 1) := by decide +kernel
theorem d_X0_moneyOf_40 : dec m_X0_moneyOf 40 = .ok (.iload_n 1, 1) := by decide +kernel
theorem d_X0_moneyOf_41 : dec m_X0_moneyOf 41 = .ok (.iload_n 2, 1) := by decide +kernel
theorem d_X0_moneyOf_42 : dec m_X0_moneyOf 42 = .ok (.invokevirtual 120, 3) := by decide +kernel
theorem d_X0_moneyOf_45 : dec m_X0_moneyOf 45 = .ok (.istore 4, 2) := by decide +kernel
theorem d_X0_moneyOf_47 : dec m_X0_moneyOf 47 = .ok (.aload_n 0, 1) := by decide +kernel
theorem d_X0_moneyOf_48 : dec m_X0_moneyOf 48 = .ok (.iload_n 2, 1) := by decide +kernel
theorem d_X0_moneyOf_49 : dec m_X0_moneyOf 49 = .ok (.invokevirtual 123, 3) := by decide +kernel
theorem d_X0_moneyOf_52 : dec m_X0_moneyOf 52 = .ok (.istore 5, 2) := by decide +kernel
theorem d_X0_moneyOf_54 : dec m_X0_moneyOf 54 = .ok (.iload_n 1, 1) := by decide +kernel
theorem d_X0_moneyOf_55 : dec m_X0_moneyOf 55 = .ok (.ifCond .eq 23, 3) := by decide +kernel
theorem d_X0_moneyOf_58 : dec m_X0_moneyOf 58 = .ok (.aload_n 0, 1) := by decide +kernel
theorem d_X0_moneyOf_59 : dec m_X0_moneyOf 59 = .ok (.getfield 89, 3) := by decide +kernel
theorem d_X0_moneyOf_62 : dec m_X0_moneyOf 62 = .ok (.iload 4, 2) := by decide +kernel
theorem d_X0_moneyOf_64 : dec m_X0_moneyOf 64 = .ok (.iadd, 1) := by decide +kernel
theorem d_X0_moneyOf_65 : dec m_X0_moneyOf 65 = .ok (.iload 5, 2) := by decide +kernel
theorem d_X0_moneyOf_67 : dec m_X0_moneyOf 67 = .ok (.isub, 1) := by decide +kernel
theorem d_X0_moneyOf_68 : dec m_X0_moneyOf 68 = .ok (.iload_n 3, 1) := by decide +kernel
theorem d_X0_moneyOf_69 : dec m_X0_moneyOf 69 = .ok (.aload_n 0, 1) := by decide +kernel
theorem d_X0_moneyOf_70 : dec m_X0_moneyOf 70 = .ok (.getfield 74, 3) := by decide +kernel
theorem d_X0_moneyOf_73 : dec m_X0_moneyOf 73 = .ok (.imul, 1) := by decide +kernel
theorem d_X0_moneyOf_74 : dec m_X0_moneyOf 74 = .ok (.isub, 1) := by decide +kernel
theorem d_X0_moneyOf_75 : dec m_X0_moneyOf 75 = .ok (.goto 13, 3) := by decide +kernel
theorem d_X0_moneyOf_78 : dec m_X0_moneyOf 78 = .ok (.iload 5, 2) := by decide +kernel
theorem d_X0_moneyOf_80 : dec m_X0_moneyOf 80 = .ok (.aload_n 0, 1) := by decide +kernel
theorem d_X0_moneyOf_81 : dec m_X0_moneyOf 81 = .ok (.getfield 89, 3) := by decide +kernel
theorem d_X0_moneyOf_84 : dec m_X0_moneyOf 84 = .ok (.iload 4, 2) := by decide +kernel
theorem d_X0_moneyOf_86 : dec m_X0_moneyOf 86 = .ok (.isub, 1) := by decide +kernel
theorem d_X0_moneyOf_87 : dec m_X0_moneyOf 87 = .ok (.isub, 1) := by decide +kernel
theorem d_X0_moneyOf_88 : dec m_X0_moneyOf 88 = .ok (.ireturn, 1) := by decide +kernel
theorem d_X0_amountsDone_0 : dec m_X0_amountsDone 0 = .ok (.iconst 0, 1) := by decide +kernel
theorem d_X0_amountsDone_1 : dec m_X0_amountsDone 1 = .ok (.istore_n 3, 1) := by decide +kernel
theorem d_X0_amountsDone_2 : dec m_X0_amountsDone 2 = .ok (.iconst 0, 1) := by decide +kernel
theorem d_X0_amountsDone_3 : dec m_X0_amountsDone 3 = .ok (.istore 4, 2) := by decide +kernel
theorem d_X0_amountsDone_5 : dec m_X0_amountsDone 5 = .ok (.iload 4, 2) := by decide +kernel
theorem d_X0_amountsDone_7 : dec m_X0_amountsDone 7 = .ok (.aload_n 0, 1) := by decide +kernel
theorem d_X0_amountsDone_8 : dec m_X0_amountsDone 8 = .ok (.getfield 92, 3) := by decide +kernel
theorem d_X0_amountsDone_11 : dec m_X0_amountsDone 11 = .ok (.if_icmp .ge 30, 3) := by decide +kernel
theorem d_X0_amountsDone_14 : dec m_X0_amountsDone 14 = .ok (.aload_n 0, 1) := by decide +kernel
theorem d_X0_amountsDone_15 : dec m_X0_amountsDone 15 = .ok (.iload_n 1, 1) := by decide +kernel
theorem d_X0_amountsDone_16 : dec m_X0_amountsDone 16 = .ok (.iload 4, 2) := by decide +kernel
theorem d_X0_amountsDone_18 : dec m_X0_amountsDone 18 = .ok (.invokevirtual 114, 3) := by decide +kernel
theorem d_X0_amountsDone_21 : dec m_X0_amountsDone 21 = .ok (.iload_n 2, 1) := by decide +kernel
theorem d_X0_amountsDone_22 : dec m_X0_amountsDone 22 = .ok (.if_icmp .ne 13, 3) := by decide +kernel
theorem d_X0_amountsDone_25 : dec m_X0_amountsDone 25 = .ok (.iload_n 3, 1) := by decide +kernel
theorem d_X0_amountsDone_26 : dec m_X0_amountsDone 26 = .ok (.aload_n 0, 1) := by decide +kernel
theorem d_X0_amountsDone_27 : dec m_X0_amountsDone 27 = .ok (.iload_n 1, 1) := by decide +kernel
theorem d_X0_amountsDone_28 : dec m_X0_amountsDone 28 = .ok (.iload 4, 2) := by decide +kernel
theorem d_X0_amountsDone_30 : dec m_X0_amountsDone 30 = .ok (.invokevirtual 126, 3) := by decide +kernel
theorem d_X0_amountsDone_33 : dec m_X0_amountsDone 33 = .ok (.iadd, 1) := by decide +kernel
theorem d_X0_amountsDone_34 : dec m_X0_amountsDone 34 = .ok (.istore_n 3, 1) := by decide +kernel
theorem d_X0_amountsDone_35 : dec m_X0_amountsDone 35 = .ok (.iinc 4 1, 3) := by decide +kernel
theorem d_X0_amountsDone_38 : dec m_X0_amountsDone 38 = .ok (.goto (-33), 3) := by decide +kernel
theorem d_X0_amountsDone_41 : dec m_X0_amountsDone 41 = .ok (.iload_n 3, 1) := by decide +kernel
theorem d_X0_amountsDone_42 : dec m_X0_amountsDone 42 = .ok (.ireturn, 1) := by decide +kernel
theorem d_X0_takings_0 : dec m_X0_takings 0 = .ok (.aload_n 0, 1) := by decide +kernel
theorem d_X0_takings_1 : dec m_X0_takings 1 = .ok (.getfield 86, 3) := by decide +kernel
theorem d_X0_takings_4 : dec m_X0_takings 4 = .ok (.iconst 3, 1) := by decide +kernel
theorem d_X0_takings_5 : dec m_X0_takings 5 = .ok (.if_icmp .eq 29, 3) := by decide +kernel
theorem d_X0_takings_8 : dec m_X0_takings 8 = .ok (.aload_n 0, 1) := by decide +kernel
theorem d_X0_takings_9 : dec m_X0_takings 9 = .ok (.getfield 92, 3) := by decide +kernel
theorem d_X0_takings_12 : dec m_X0_takings 12 = .ok (.ifCond .ne 7, 3) := by decide +kernel
theorem d_X0_takings_15 : dec m_X0_takings 15 = .ok (.iconst 0, 1) := by decide +kernel
theorem d_X0_takings_16 : dec m_X0_takings 16 = .ok (.goto 17, 3) := by decide +kernel
theorem d_X0_takings_19 : dec m_X0_takings 19 = .ok (.aload_n 0, 1) := by decide +kernel
theorem d_X0_takings_20 : dec m_X0_takings 20 = .ok (.getfield 92, 3) := by decide +kernel
theorem d_X0_takings_23 : dec m_X0_takings 23 = .ok (.aload_n 0, 1) := by decide +kernel
theorem d_X0_takings_24 : dec m_X0_takings 24 = .ok (.getfield 102, 3) := by decide +kernel
theorem d_X0_takings_27 : dec m_X0_takings 27 = .ok (.aload_n 0, 1) := by decide +kernel
theorem d_X0_takings_28 : dec m_X0_takings 28 = .ok (.getfield 108, 3) := by decide +kernel
theorem d_X0_takings_31 : dec m_X0_takings 31 = .ok (.isub, 1) := by decide +kernel
theorem d_X0_takings_32 : dec m_X0_takings 32 = .ok (.imul, 1) := by decide +kernel
theorem d_X0_takings_33 : dec m_X0_takings 33 = .ok (.ireturn, 1) := by decide +kernel
theorem d_X0_takings_34 : dec m_X0_takings 34 = .ok (.aload_n 0, 1) := by decide +kernel
theorem d_X0_takings_35 : dec m_X0_takings 35 = .ok (.getfield 89, 3) := by decide +kernel
theorem d_X0_takings_38 : dec m_X0_takings 38 = .ok (.aload_n 0, 1) := by decide +kernel
theorem d_X0_takings_39 : dec m_X0_takings 39 = .ok (.getfield 92, 3) := by decide +kernel
theorem d_X0_takings_42 : dec m_X0_takings 42 = .ok (.aload_n 0, 1) := by decide +kernel
theorem d_X0_takings_43 : dec m_X0_takings 43 = .ok (.getfield 74, 3) := by decide +kernel
theorem d_X0_takings_46 : dec m_X0_takings 46 = .ok (.imul, 1) := by decide +kernel
theorem d_X0_takings_47 : dec m_X0_takings 47 = .ok (.iadd, 1) := by decide +kernel
theorem d_X0_takings_48 : dec m_X0_takings 48 = .ok (.istore_n 1, 1) := by decide +kernel
theorem d_X0_takings_49 : dec m_X0_takings 49 = .ok (.iconst 0, 1) := by decide +kernel
theorem d_X0_takings_50 : dec m_X0_takings 50 = .ok (.istore_n 2, 1) := by decide +kernel
theorem d_X0_takings_51 : dec m_X0_takings 51 = .ok (.iload_n 2, 1) := by decide +kernel
theorem d_X0_takings_52 : dec m_X0_takings 52 = .ok (.bipush 20, 2) := by decide +kernel
theorem d_X0_takings_54 : dec m_X0_takings 54 = .ok (.if_icmp .ge 22, 3) := by decide +kernel
theorem d_X0_takings_57 : dec m_X0_takings 57 = .ok (.iload_n 1, 1) := by decide +kernel
theorem d_X0_takings_58 : dec m_X0_takings 58 = .ok (.aload_n 0, 1) := by decide +kernel
theorem d_X0_takings_59 : dec m_X0_takings 59 = .ok (.getfield 89, 3) := by decide +kernel
theorem d_X0_takings_62 : dec m_X0_takings 62 = .ok (.aload_n 0, 1) := by decide +kernel
theorem d_X0_takings_63 : dec m_X0_takings 63 = .ok (.iload_n 2, 1) := by decide +kernel
theorem d_X0_takings_64 : dec m_X0_takings 64 = .ok (.invokevirtual 123, 3) := by decide +kernel
theorem d_X0_takings_67 : dec m_X0_takings 67 = .ok (.isub, 1) := by decide +kernel
theorem d_X0_takings_68 : dec m_X0_takings 68 = .ok (.isub, 1) := by decide +kernel
theorem d_X0_takings_69 : dec m_X0_takings 69 = .ok (.istore_n 1, 1) := by decide +kernel
theorem d_X0_takings_70 : dec m_X0_takings 70 = .ok (.iinc 2 1, 3) := by decide +kernel
theorem d_X0_takings_73 : dec m_X0_takings 73 = .ok (.goto (-22), 3) := by decide +kernel
theorem d_X0_takings_76 : dec m_X0_takings 76 = .ok (.iload_n 1, 1) := by decide +kernel
theorem d_X0_takings_77 : dec m_X0_takings 77 = .ok (.ireturn, 1) := by decide +kernel
theorem d_X1_clear_0 : dec m_X1_clear 0 = .ok (.aload_n 0, 1) := by decide +kernel
theorem d_X1_clear_1 : dec m_X1_clear 1 = .ok (.iconst 0, 1) := by decide +kernel
theorem d_X1_clear_2 : dec m_X1_clear 2 = .ok (.putfield 31, 3) := by decide +kernel
theorem d_X1_clear_5 : dec m_X1_clear 5 = .ok (.aload_n 0, 1) := by decide +kernel
theorem d_X1_clear_6 : dec m_X1_clear 6 = .ok (.iconst 0, 1) := by decide +kernel
theorem d_X1_clear_7 : dec m_X1_clear 7 = .ok (.putfield 35, 3) := by decide +kernel
theorem d_X1_clear_10 : dec m_X1_clear 10 = .ok (.aload_n 0, 1) := by decide +kernel
theorem d_X1_clear_11 : dec m_X1_clear 11 = .ok (.iconst 0, 1) := by decide +kernel
theorem d_X1_clear_12 : dec m_X1_clear 12 = .ok (.putfield 38, 3) := by decide +kernel
theorem d_X1_clear_15 : dec m_X1_clear 15 = .ok (.aload_n 0, 1) := by decide +kernel
theorem d_X1_clear_16 : dec m_X1_clear 16 = .ok (.iconst 0, 1) := by decide +kernel
theorem d_X1_clear_17 : dec m_X1_clear 17 = .ok (.putfield 41, 3) := by decide +kernel
theorem d_X1_clear_20 : dec m_X1_clear 20 = .ok (.aload_n 0, 1) := by decide +kernel
theorem d_X1_clear_21 : dec m_X1_clear 21 = .ok (.iconst 0, 1) := by decide +kernel
theorem d_X1_clear_22 : dec m_X1_clear 22 = .ok (.putfield 44, 3) := by decide +kernel
theorem d_X1_clear_25 : dec m_X1_clear 25 = .ok (.aload_n 0, 1) := by decide +kernel
theorem d_X1_clear_26 : dec m_X1_clear 26 = .ok (.iconst 0, 1) := by decide +kernel
theorem d_X1_clear_27 : dec m_X1_clear 27 = .ok (.putfield 47, 3) := by decide +kernel
theorem d_X1_clear_30 : dec m_X1_clear 30 = .ok (.aload_n 0, 1) := by decide +kernel
theorem d_X1_clear_31 : dec m_X1_clear 31 = .ok (.iconst 0, 1) := by decide +kernel
theorem d_X1_clear_32 : dec m_X1_clear 32 = .ok (.putfield 50, 3) := by decide +kernel
theorem d_X1_clear_35 : dec m_X1_clear 35 = .ok (.return_, 1) := by decide +kernel
theorem d_X1_copyFrom_0 : dec m_X1_copyFrom 0 = .ok (.aload_n 1, 1) := by decide +kernel
theorem d_X1_copyFrom_1 : dec m_X1_copyFrom 1 = .ok (.ifnonnull 4, 3) := by decide +kernel
theorem d_X1_copyFrom_4 : dec m_X1_copyFrom 4 = .ok (.return_, 1) := by decide +kernel
theorem d_X1_copyFrom_5 : dec m_X1_copyFrom 5 = .ok (.iconst 0, 1) := by decide +kernel
theorem d_X1_copyFrom_6 : dec m_X1_copyFrom 6 = .ok (.istore_n 2, 1) := by decide +kernel
theorem d_X1_copyFrom_7 : dec m_X1_copyFrom 7 = .ok (.iload_n 2, 1) := by decide +kernel
theorem d_X1_copyFrom_8 : dec m_X1_copyFrom 8 = .ok (.bipush 20, 2) := by decide +kernel
theorem d_X1_copyFrom_10 : dec m_X1_copyFrom 10 = .ok (.if_icmp .ge 21, 3) := by decide +kernel
theorem d_X1_copyFrom_13 : dec m_X1_copyFrom 13 = .ok (.aload_n 0, 1) := by decide +kernel
theorem d_X1_copyFrom_14 : dec m_X1_copyFrom 14 = .ok (.getfield 9, 3) := by decide +kernel
theorem d_X1_copyFrom_17 : dec m_X1_copyFrom 17 = .ok (.iload_n 2, 1) := by decide +kernel
theorem d_X1_copyFrom_18 : dec m_X1_copyFrom 18 = .ok (.aload_n 1, 1) := by decide +kernel
theorem d_X1_copyFrom_19 : dec m_X1_copyFrom 19 = .ok (.getfield 9, 3) := by decide +kernel
theorem d_X1_copyFrom_22 : dec m_X1_copyFrom 22 = .ok (.iload_n 2, 1) := by decide +kernel
theorem d_X1_copyFrom_23 : dec m_X1_copyFrom 23 = .ok (.baload, 1) := by decide +kernel
theorem d_X1_copyFrom_24 : dec m_X1_copyFrom 24 = .ok (.bastore, 1) := by decide +kernel
theorem d_X1_copyFrom_25 : dec m_X1_copyFrom 25 = .ok (.iinc 2 1, 3) := by decide +kernel
theorem d_X1_copyFrom_28 : dec m_X1_copyFrom 28 = .ok (.goto (-21), 3) := by decide +kernel
theorem d_X1_copyFrom_31 : dec m_X1_copyFrom 31 = .ok (.aload_n 1, 1) := by decide +kernel
theorem d_X1_copyFrom_32 : dec m_X1_copyFrom 32 = .ok (.getfield 15, 3) := by decide +kernel
theorem d_X1_copyFrom_35 : dec m_X1_copyFrom 35 = .ok (.iconst 0, 1) := by decide +kernel
theorem d_X1_copyFrom_36 : dec m_X1_copyFrom 36 = .ok (.aload_n 0, 1) := by decide +kernel
theorem d_X1_copyFrom_37 : dec m_X1_copyFrom 37 = .ok (.getfield 15, 3) := by decide +kernel
theorem d_X1_copyFrom_40 : dec m_X1_copyFrom 40 = .ok (.iconst 0, 1) := by decide +kernel
theorem d_X1_copyFrom_41 : dec m_X1_copyFrom 41 = .ok (.bipush 20, 2) := by decide +kernel
theorem d_X1_copyFrom_43 : dec m_X1_copyFrom 43 = .ok (.invokestatic 53, 3) := by decide +kernel
theorem d_X1_copyFrom_46 : dec m_X1_copyFrom 46 = .ok (.aload_n 1, 1) := by decide +kernel
theorem d_X1_copyFrom_47 : dec m_X1_copyFrom 47 = .ok (.getfield 19, 3) := by decide +kernel
theorem d_X1_copyFrom_50 : dec m_X1_copyFrom 50 = .ok (.iconst 0, 1) := by decide +kernel
theorem d_X1_copyFrom_51 : dec m_X1_copyFrom 51 = .ok (.aload_n 0, 1) := by decide +kernel
theorem d_X1_copyFrom_52 : dec m_X1_copyFrom 52 = .ok (.getfield 19, 3) := by decide +kernel
theorem d_X1_copyFrom_55 : dec m_X1_copyFrom 55 = .ok (.iconst 0, 1) := by decide +kernel
theorem d_X1_copyFrom_56 : dec m_X1_copyFrom 56 = .ok (.bipush 20, 2) := by decide +kernel
theorem d_X1_copyFrom_58 : dec m_X1_copyFrom 58 = .ok (.invokestatic 53, 3) := by decide +kernel
theorem d_X1_copyFrom_61 : dec m_X1_copyFrom 61 = .ok (.aload_n 1, 1) := by decide +kernel
theorem d_X1_copyFrom_62 : dec m_X1_copyFrom 62 = .ok (.getfield 22, 3) := by decide +kernel
theorem d_X1_copyFrom_65 : dec m_X1_copyFrom 65 = .ok (.iconst 0, 1) := by decide +kernel
theorem d_X1_copyFrom_66 : dec m_X1_copyFrom 66 = .ok (.aload_n 0, 1) := by decide +kernel
theorem d_X1_copyFrom_67 : dec m_X1_copyFrom 67 = .ok (.getfield 22, 3) := by decide +kernel
theorem d_X1_copyFrom_70 : dec m_X1_copyFrom 70 = .ok (.iconst 0, 1) := by decide +kernel
theorem d_X1_copyFrom_71 : dec m_X1_copyFrom 71 = .ok (.bipush 80, 2) := by decide +kernel
theorem d_X1_copyFrom_73 : dec m_X1_copyFrom 73 = .ok (.invokestatic 53, 3) := by decide +kernel
theorem d_X1_copyFrom_76 : dec m_X1_copyFrom 76 = .ok (.aload_n 1, 1) := by decide +kernel
theorem d_X1_copyFrom_77 : dec m_X1_copyFrom 77 = .ok (.getfield 25, 3) := by decide +kernel
theorem d_X1_copyFrom_80 : dec m_X1_copyFrom 80 = .ok (.iconst 0, 1) := by decide +kernel
theorem d_X1_copyFrom_81 : dec m_X1_copyFrom 81 = .ok (.aload_n 0, 1) := by decide +kernel
theorem d_X1_copyFrom_82 : dec m_X1_copyFrom 82 = .ok (.getfield 25, 3) := by decide +kernel
theorem d_X1_copyFrom_85 : dec m_X1_copyFrom 85 = .ok (.iconst 0, 1) := by decide +kernel
theorem d_X1_copyFrom_86 : dec m_X1_copyFrom 86 = .ok (.bipush 20, 2) := by decide +kernel
theorem d_X1_copyFrom_88 : dec m_X1_copyFrom 88 = .ok (.invokestatic 53, 3) := by decide +kernel
theorem d_X1_copyFrom_91 : dec m_X1_copyFrom 91 = .ok (.aload_n 1, 1) := by decide +kernel
theorem d_X1_copyFrom_92 : dec m_X1_copyFrom 92 = .ok (.getfield 28, 3) := by decide +kernel
theorem d_X1_copyFrom_95 : dec m_X1_copyFrom 95 = .ok (.iconst 0, 1) := by decide +kernel
theorem d_X1_copyFrom_96 : dec m_X1_copyFrom 96 = .ok (.aload_n 0, 1) := by decide +kernel
theorem d_X1_copyFrom_97 : dec m_X1_copyFrom 97 = .ok (.getfield 28, 3) := by decide +kernel
theorem d_X1_copyFrom_100 : dec m_X1_copyFrom 100 = .ok (.iconst 0, 1) := by decide +kernel
theorem d_X1_copyFrom_101 : dec m_X1_copyFrom 101 = .ok (.bipush 20, 2) := by decide +kernel
theorem d_X1_copyFrom_103 : dec m_X1_copyFrom 103 = .ok (.invokestatic 53, 3) := by decide +kernel
theorem d_X1_copyFrom_106 : dec m_X1_copyFrom 106 = .ok (.aload_n 0, 1) := by decide +kernel
theorem d_X1_copyFrom_107 : dec m_X1_copyFrom 107 = .ok (.aload_n 1, 1) := by decide +kernel
theorem d_X1_copyFrom_108 : dec m_X1_copyFrom 108 = .ok (.getfield 31, 3) := by decide +kernel
theorem d_X1_copyFrom_111 : dec m_X1_copyFrom 111 = .ok (.putfield 31, 3) := by decide +kernel
theorem d_X1_copyFrom_114 : dec m_X1_copyFrom 114 = .ok (.aload_n 0, 1) := by decide +kernel
theorem d_X1_copyFrom_115 : dec m_X1_copyFrom 115 = .ok (.aload_n 1, 1) := by decide +kernel
theorem d_X1_copyFrom_116 : dec m_X1_copyFrom 116 = .ok (.getfield 35, 3) := by decide +kernel
theorem d_X1_copyFrom_119 : dec m_X1_copyFrom 119 = .ok (.putfield 35, 3) := by decide +kernel
theorem d_X1_copyFrom_122 : dec m_X1_copyFrom 122 = .ok (.aload_n 0, 1) := by decide +kernel
theorem d_X1_copyFrom_123 : dec m_X1_copyFrom 123 = .ok (.aload_n 1, 1) := by decide +kernel
theorem d_X1_copyFrom_124 : dec m_X1_copyFrom 124 = .ok (.getfield 38, 3) := by decide +kernel
theorem d_X1_copyFrom_127 : dec m_X1_copyFrom 127 = .ok (.putfield 38, 3) := by decide +kernel
theorem d_X1_copyFrom_130 : dec m_X1_copyFrom 130 = .ok (.aload_n 0, 1) := by decide +kernel
theorem d_X1_copyFrom_131 : dec m_X1_copyFrom 131 = .ok (.aload_n 1, 1) := by decide +kernel
theorem d_X1_copyFrom_132 : dec m_X1_copyFrom 132 = .ok (.getfield 41, 3) := by decide +kernel
theorem d_X1_copyFrom_135 : dec m_X1_copyFrom 135 = .ok (.putfield 41, 3) := by decide +kernel
theorem d_X1_copyFrom_138 : dec m_X1_copyFrom 138 = .ok (.aload_n 0, 1) := by decide +kernel
theorem d_X1_copyFrom_139 : dec m_X1_copyFrom 139 = .ok (.aload_n 1, 1) := by decide +kernel
theorem d_X1_copyFrom_140 : dec m_X1_copyFrom 140 = .ok (.getfield 44, 3) := by decide +kernel
theorem d_X1_copyFrom_143 : dec m_X1_copyFrom 143 = .ok (.putfield 44, 3) := by decide +kernel
theorem d_X1_copyFrom_146 : dec m_X1_copyFrom 146 = .ok (.aload_n 0, 1) := by decide +kernel
theorem d_X1_copyFrom_147 : dec m_X1_copyFrom 147 = .ok (.aload_n 1, 1) := by decide +kernel
theorem d_X1_copyFrom_148 : dec m_X1_copyFrom 148 = .ok (.getfield 47, 3) := by decide +kernel
theorem d_X1_copyFrom_151 : dec m_X1_copyFrom 151 = .ok (.putfield 47, 3) := by decide +kernel
theorem d_X1_copyFrom_154 : dec m_X1_copyFrom 154 = .ok (.aload_n 0, 1) := by decide +kernel
theorem d_X1_copyFrom_155 : dec m_X1_copyFrom 155 = .ok (.aload_n 1, 1) := by decide +kernel
theorem d_X1_copyFrom_156 : dec m_X1_copyFrom 156 = .ok (.getfield 50, 3) := by decide +kernel
theorem d_X1_copyFrom_159 : dec m_X1_copyFrom 159 = .ok (.putfield 50, 3) := by decide +kernel
theorem d_X1_copyFrom_162 : dec m_X1_copyFrom 162 = .ok (.return_, 1) := by decide +kernel
theorem d_X1_has_0 : dec m_X1_has 0 = .ok (.iload_n 1, 1) := by decide +kernel
theorem d_X1_has_1 : dec m_X1_has 1 = .ok (.ifCond .lt 21, 3) := by decide +kernel
theorem d_X1_has_4 : dec m_X1_has 4 = .ok (.iload_n 1, 1) := by decide +kernel
theorem d_X1_has_5 : dec m_X1_has 5 = .ok (.aload_n 0, 1) := by decide +kernel
theorem d_X1_has_6 : dec m_X1_has 6 = .ok (.getfield 31, 3) := by decide +kernel
theorem d_X1_has_9 : dec m_X1_has 9 = .ok (.if_icmp .ge 13, 3) := by decide +kernel
theorem d_X1_has_12 : dec m_X1_has 12 = .ok (.iload_n 1, 1) := by decide +kernel
theorem d_X1_has_13 : dec m_X1_has 13 = .ok (.bipush 20, 2) := by decide +kernel
theorem d_X1_has_15 : dec m_X1_has 15 = .ok (.if_icmp .ge 7, 3) := by decide +kernel
theorem d_X1_has_18 : dec m_X1_has 18 = .ok (.iconst 1, 1) := by decide +kernel
theorem d_X1_has_19 : dec m_X1_has 19 = .ok (.goto 4, 3) := by decide +kernel
theorem d_X1_has_22 : dec m_X1_has 22 = .ok (.iconst 0, 1) := by decide +kernel
theorem d_X1_has_23 : dec m_X1_has 23 = .ok (.ireturn, 1) := by decide +kernel
theorem d_X1_hasUnit_0 : dec m_X1_hasUnit 0 = .ok (.iload_n 1, 1) := by decide +kernel
theorem d_X1_hasUnit_1 : dec m_X1_hasUnit 1 = .ok (.ifCond .lt 25, 3) := by decide +kernel
theorem d_X1_hasUnit_4 : dec m_X1_hasUnit 4 = .ok (.iload_n 1, 1) := by decide +kernel
theorem d_X1_hasUnit_5 : dec m_X1_hasUnit 5 = .ok (.aload_n 0, 1) := by decide +kernel
theorem d_X1_hasUnit_6 : dec m_X1_hasUnit 6 = .ok (.getfield 31, 3) := by decide +kernel
theorem d_X1_hasUnit_9 : dec m_X1_hasUnit 9 = .ok (.if_icmp .ge 17, 3) := by decide +kernel
theorem d_X1_hasUnit_12 : dec m_X1_hasUnit 12 = .ok (.iload_n 1, 1) := by decide +kernel
theorem d_X1_hasUnit_13 : dec m_X1_hasUnit 13 = .ok (.bipush 20, 2) := by decide +kernel
theorem d_X1_hasUnit_15 : dec m_X1_hasUnit 15 = .ok (.if_icmp .ge 11, 3) := by decide +kernel
theorem d_X1_hasUnit_18 : dec m_X1_hasUnit 18 = .ok (.iload_n 2, 1) := by decide +kernel
theorem d_X1_hasUnit_19 : dec m_X1_hasUnit 19 = .ok (.ifCond .lt 7, 3) := by decide +kernel
theorem d_X1_hasUnit_22 : dec m_X1_hasUnit 22 = .ok (.iconst 1, 1) := by decide +kernel
theorem d_X1_hasUnit_23 : dec m_X1_hasUnit 23 = .ok (.goto 4, 3) := by decide +kernel
theorem d_X1_hasUnit_26 : dec m_X1_hasUnit 26 = .ok (.iconst 0, 1) := by decide +kernel
theorem d_X1_hasUnit_27 : dec m_X1_hasUnit 27 = .ok (.istore_n 3, 1) := by decide +kernel
theorem d_X1_hasUnit_28 : dec m_X1_hasUnit 28 = .ok (.iload_n 3, 1) := by decide +kernel
theorem d_X1_hasUnit_29 : dec m_X1_hasUnit 29 = .ok (.ifCond .eq 22, 3) := by decide +kernel
theorem d_X1_hasUnit_32 : dec m_X1_hasUnit 32 = .ok (.iload_n 2, 1) := by decide +kernel
theorem d_X1_hasUnit_33 : dec m_X1_hasUnit 33 = .ok (.aload_n 0, 1) := by decide +kernel
theorem d_X1_hasUnit_34 : dec m_X1_hasUnit 34 = .ok (.getfield 19, 3) := by decide +kernel
theorem d_X1_hasUnit_37 : dec m_X1_hasUnit 37 = .ok (.iload_n 1, 1) := by decide +kernel
theorem d_X1_hasUnit_38 : dec m_X1_hasUnit 38 = .ok (.iaload, 1) := by decide +kernel
theorem d_X1_hasUnit_39 : dec m_X1_hasUnit 39 = .ok (.if_icmp .ge 12, 3) := by decide +kernel
theorem d_X1_hasUnit_42 : dec m_X1_hasUnit 42 = .ok (.iload_n 2, 1) := by decide +kernel
theorem d_X1_hasUnit_43 : dec m_X1_hasUnit 43 = .ok (.iconst 4, 1) := by decide +kernel
theorem d_X1_hasUnit_44 : dec m_X1_hasUnit 44 = .ok (.if_icmp .ge 7, 3) := by decide +kernel
theorem d_X1_hasUnit_47 : dec m_X1_hasUnit 47 = .ok (.iconst 1, 1) := by decide +kernel
theorem d_X1_hasUnit_48 : dec m_X1_hasUnit 48 = .ok (.goto 4, 3) := by decide +kernel
theorem d_X1_hasUnit_51 : dec m_X1_hasUnit 51 = .ok (.iconst 0, 1) := by decide +kernel
theorem d_X1_hasUnit_52 : dec m_X1_hasUnit 52 = .ok (.ireturn, 1) := by decide +kernel
theorem d_X1_isSeller_0 : dec m_X1_isSeller 0 = .ok (.aload_n 0, 1) := by decide +kernel
theorem d_X1_isSeller_1 : dec m_X1_isSeller 1 = .ok (.iload_n 1, 1) := by decide +kernel
theorem d_X1_isSeller_2 : dec m_X1_isSeller 2 = .ok (.invokevirtual 59, 3) := by decide +kernel
theorem d_X1_isSeller_5 : dec m_X1_isSeller 5 = .ok (.ifCond .eq 16, 3) := by decide +kernel
theorem d_X1_isSeller_8 : dec m_X1_isSeller 8 = .ok (.aload_n 0, 1) := by decide +kernel
theorem d_X1_isSeller_9 : dec m_X1_isSeller 9 = .ok (.getfield 9, 3) := by decide +kernel
theorem d_X1_isSeller_12 : dec m_X1_isSeller 12 = .ok (.iload_n 1, 1) := by decide +kernel
theorem d_X1_isSeller_13 : dec m_X1_isSeller 13 = .ok (.baload, 1) := by decide +kernel
theorem d_X1_isSeller_14 : dec m_X1_isSeller 14 = .ok (.ifCond .eq 7, 3) := by decide +kernel
theorem d_X1_isSeller_17 : dec m_X1_isSeller 17 = .ok (.iconst 1, 1) := by decide +kernel
theorem d_X1_isSeller_18 : dec m_X1_isSeller 18 = .ok (.goto 4, 3) := by decide +kernel
theorem d_X1_isSeller_21 : dec m_X1_isSeller 21 = .ok (.iconst 0, 1) := by decide +kernel
theorem d_X1_isSeller_22 : dec m_X1_isSeller 22 = .ok (.ireturn, 1) := by decide +kernel
theorem d_X1_gradeOf_0 : dec m_X1_gradeOf 0 = .ok (.aload_n 0, 1) := by decide +kernel
theorem d_X1_gradeOf_1 : dec m_X1_gradeOf 1 = .ok (.iload_n 1, 1) := by decide +kernel
theorem d_X1_gradeOf_2 : dec m_X1_gradeOf 2 = .ok (.invokevirtual 59, 3) := by decide +kernel
theorem d_X1_gradeOf_5 : dec m_X1_gradeOf 5 = .ok (.ifCond .eq 12, 3) := by decide +kernel
theorem d_X1_gradeOf_8 : dec m_X1_gradeOf 8 = .ok (.aload_n 0, 1) := by decide +kernel
theorem d_X1_gradeOf_9 : dec m_X1_gradeOf 9 = .ok (.getfield 15, 3) := by decide +kernel
theorem d_X1_gradeOf_12 : dec m_X1_gradeOf 12 = .ok (.iload_n 1, 1) := by decide +kernel
theorem d_X1_gradeOf_13 : dec m_X1_gradeOf 13 = .ok (.iaload, 1) := by decide +kernel
theorem d_X1_gradeOf_14 : dec m_X1_gradeOf 14 = .ok (.goto 4, 3) := by decide +kernel
theorem d_X1_gradeOf_17 : dec m_X1_gradeOf 17 = .ok (.iconst (-1), 1) := by decide +kernel
theorem d_X1_gradeOf_18 : dec m_X1_gradeOf 18 = .ok (.ireturn, 1) := by decide +kernel
theorem d_X1_unitsOf_0 : dec m_X1_unitsOf 0 = .ok (.aload_n 0, 1) := by decide +kernel
theorem d_X1_unitsOf_1 : dec m_X1_unitsOf 1 = .ok (.iload_n 1, 1) := by decide +kernel
theorem d_X1_unitsOf_2 : dec m_X1_unitsOf 2 = .ok (.invokevirtual 59, 3) := by decide +kernel
theorem d_X1_unitsOf_5 : dec m_X1_unitsOf 5 = .ok (.ifCond .eq 12, 3) := by decide +kernel
theorem d_X1_unitsOf_8 : dec m_X1_unitsOf 8 = .ok (.aload_n 0, 1) := by decide +kernel
theorem d_X1_unitsOf_9 : dec m_X1_unitsOf 9 = .ok (.getfield 19, 3) := by decide +kernel
theorem d_X1_unitsOf_12 : dec m_X1_unitsOf 12 = .ok (.iload_n 1, 1) := by decide +kernel
theorem d_X1_unitsOf_13 : dec m_X1_unitsOf 13 = .ok (.iaload, 1) := by decide +kernel
theorem d_X1_unitsOf_14 : dec m_X1_unitsOf 14 = .ok (.goto 4, 3) := by decide +kernel
theorem d_X1_unitsOf_17 : dec m_X1_unitsOf 17 = .ok (.iconst 0, 1) := by decide +kernel
theorem d_X1_unitsOf_18 : dec m_X1_unitsOf 18 = .ok (.ireturn, 1) := by decide +kernel
theorem d_X1_purseOf_0 : dec m_X1_purseOf 0 = .ok (.aload_n 0, 1) := by decide +kernel
theorem d_X1_purseOf_1 : dec m_X1_purseOf 1 = .ok (.iload_n 1, 1) := by decide +kernel
theorem d_X1_purseOf_2 : dec m_X1_purseOf 2 = .ok (.invokevirtual 59, 3) := by decide +kernel
theorem d_X1_purseOf_5 : dec m_X1_purseOf 5 = .ok (.ifCond .eq 12, 3) := by decide +kernel
theorem d_X1_purseOf_8 : dec m_X1_purseOf 8 = .ok (.aload_n 0, 1) := by decide +kernel
theorem d_X1_purseOf_9 : dec m_X1_purseOf 9 = .ok (.getfield 25, 3) := by decide +kernel
theorem d_X1_purseOf_12 : dec m_X1_purseOf 12 = .ok (.iload_n 1, 1) := by decide +kernel
theorem d_X1_purseOf_13 : dec m_X1_purseOf 13 = .ok (.iaload, 1) := by decide +kernel
theorem d_X1_purseOf_14 : dec m_X1_purseOf 14 = .ok (.goto 4, 3) := by decide +kernel
theorem d_X1_purseOf_17 : dec m_X1_purseOf 17 = .ok (.iconst 0, 1) := by decide +kernel
theorem d_X1_purseOf_18 : dec m_X1_purseOf 18 = .ok (.ireturn, 1) := by decide +kernel
theorem d_X1_tradedOf_0 : dec m_X1_tradedOf 0 = .ok (.aload_n 0, 1) := by decide +kernel
theorem d_X1_tradedOf_1 : dec m_X1_tradedOf 1 = .ok (.iload_n 1, 1) := by decide +kernel
theorem d_X1_tradedOf_2 : dec m_X1_tradedOf 2 = .ok (.invokevirtual 59, 3) := by decide +kernel
theorem d_X1_tradedOf_5 : dec m_X1_tradedOf 5 = .ok (.ifCond .eq 12, 3) := by decide +kernel
theorem d_X1_tradedOf_8 : dec m_X1_tradedOf 8 = .ok (.aload_n 0, 1) := by decide +kernel
theorem d_X1_tradedOf_9 : dec m_X1_tradedOf 9 = .ok (.getfield 28, 3) := by decide +kernel
theorem d_X1_tradedOf_12 : dec m_X1_tradedOf 12 = .ok (.iload_n 1, 1) := by decide +kernel
theorem d_X1_tradedOf_13 : dec m_X1_tradedOf 13 = .ok (.iaload, 1) := by decide +kernel
theorem d_X1_tradedOf_14 : dec m_X1_tradedOf 14 = .ok (.goto 4, 3) := by decide +kernel
theorem d_X1_tradedOf_17 : dec m_X1_tradedOf 17 = .ok (.iconst 0, 1) := by decide +kernel
theorem d_X1_tradedOf_18 : dec m_X1_tradedOf 18 = .ok (.ireturn, 1) := by decide +kernel
theorem d_X1_said_0 : dec m_X1_said 0 = .ok (.aload_n 0, 1) := by decide +kernel
theorem d_X1_said_1 : dec m_X1_said 1 = .ok (.iload_n 1, 1) := by decide +kernel
theorem d_X1_said_2 : dec m_X1_said 2 = .ok (.iload_n 2, 1) := by decide +kernel
theorem d_X1_said_3 : dec m_X1_said 3 = .ok (.invokevirtual 63, 3) := by decide +kernel
theorem d_X1_said_6 : dec m_X1_said 6 = .ok (.ifCond .eq 16, 3) := by decide +kernel
theorem d_X1_said_9 : dec m_X1_said 9 = .ok (.aload_n 0, 1) := by decide +kernel
theorem d_X1_said_10 : dec m_X1_said 10 = .ok (.getfield 22, 3) := by decide +kernel
theorem d_X1_said_13 : dec m_X1_said 13 = .ok (.iload_n 1, 1) := by decide +kernel
theorem d_X1_said_14 : dec m_X1_said 14 = .ok (.iconst 4, 1) := by decide +kernel
theorem d_X1_said_15 : dec m_X1_said 15 = .ok (.imul, 1) := by decide +kernel
theorem d_X1_said_16 : dec m_X1_said 16 = .ok (.iload_n 2, 1) := by decide +kernel
theorem d_X1_said_17 : dec m_X1_said 17 = .ok (.iadd, 1) := by decide +kernel
theorem d_X1_said_18 : dec m_X1_said 18 = .ok (.iaload, 1) := by decide +kernel
theorem d_X1_said_19 : dec m_X1_said 19 = .ok (.goto 4, 3) := by decide +kernel
theorem d_X1_said_22 : dec m_X1_said 22 = .ok (.iconst 0, 1) := by decide +kernel
theorem d_X1_said_23 : dec m_X1_said 23 = .ok (.ireturn, 1) := by decide +kernel
theorem d_X1_setSaid_0 : dec m_X1_setSaid 0 = .ok (.aload_n 0, 1) := by decide +kernel
theorem d_X1_setSaid_1 : dec m_X1_setSaid 1 = .ok (.iload_n 1, 1) := by decide +kernel
theorem d_X1_setSaid_2 : dec m_X1_setSaid 2 = .ok (.iload_n 2, 1) := by decide +kernel
theorem d_X1_setSaid_3 : dec m_X1_setSaid 3 = .ok (.invokevirtual 63, 3) := by decide +kernel
theorem d_X1_setSaid_6 : dec m_X1_setSaid 6 = .ok (.ifCond .eq 14, 3) := by decide +kernel
theorem d_X1_setSaid_9 : dec m_X1_setSaid 9 = .ok (.aload_n 0, 1) := by decide +kernel
theorem d_X1_setSaid_10 : dec m_X1_setSaid 10 = .ok (.getfield 22, 3) := by decide +kernel
theorem d_X1_setSaid_13 : dec m_X1_setSaid 13 = .ok (.iload_n 1, 1) := by decide +kernel
theorem d_X1_setSaid_14 : dec m_X1_setSaid 14 = .ok (.iconst 4, 1) := by decide +kernel
theorem d_X1_setSaid_15 : dec m_X1_setSaid 15 = .ok (.imul, 1) := by decide +kernel
theorem d_X1_setSaid_16 : dec m_X1_setSaid 16 = .ok (.iload_n 2, 1) := by decide +kernel
theorem d_X1_setSaid_17 : dec m_X1_setSaid 17 = .ok (.iadd, 1) := by decide +kernel
theorem d_X1_setSaid_18 : dec m_X1_setSaid 18 = .ok (.iload_n 3, 1) := by decide +kernel
theorem d_X1_setSaid_19 : dec m_X1_setSaid 19 = .ok (.iastore, 1) := by decide +kernel
theorem d_X1_setSaid_20 : dec m_X1_setSaid 20 = .ok (.return_, 1) := by decide +kernel
theorem d_X1_fits_0 : dec m_X1_fits 0 = .ok (.aload_n 0, 1) := by decide +kernel
theorem d_X1_fits_1 : dec m_X1_fits 1 = .ok (.iload_n 1, 1) := by decide +kernel
theorem d_X1_fits_2 : dec m_X1_fits 2 = .ok (.invokevirtual 71, 3) := by decide +kernel
theorem d_X1_fits_5 : dec m_X1_fits 5 = .ok (.istore 4, 2) := by decide +kernel
theorem d_X1_fits_7 : dec m_X1_fits 7 = .ok (.aload_n 0, 1) := by decide +kernel
theorem d_X1_fits_8 : dec m_X1_fits 8 = .ok (.iload_n 1, 1) := by decide +kernel
theorem d_X1_fits_9 : dec m_X1_fits 9 = .ok (.iload_n 2, 1) := by decide +kernel
theorem d_X1_fits_10 : dec m_X1_fits 10 = .ok (.iconst 1, 1) := by decide +kernel
theorem d_X1_fits_11 : dec m_X1_fits 11 = .ok (.isub, 1) := by decide +kernel
theorem d_X1_fits_12 : dec m_X1_fits 12 = .ok (.invokevirtual 63, 3) := by decide +kernel
theorem d_X1_fits_15 : dec m_X1_fits 15 = .ok (.ifCond .eq 22, 3) := by decide +kernel
theorem d_X1_fits_18 : dec m_X1_fits 18 = .ok (.iload 4, 2) := by decide +kernel
theorem d_X1_fits_20 : dec m_X1_fits 20 = .ok (.aload_n 0, 1) := by decide +kernel
theorem d_X1_fits_21 : dec m_X1_fits 21 = .ok (.iload_n 1, 1) := by decide +kernel
theorem d_X1_fits_22 : dec m_X1_fits 22 = .ok (.iload_n 2, 1) := by decide +kernel
theorem d_X1_fits_23 : dec m_X1_fits 23 = .ok (.iconst 1, 1) := by decide +kernel
theorem d_X1_fits_24 : dec m_X1_fits 24 = .ok (.isub, 1) := by decide +kernel
theorem d_X1_fits_25 : dec m_X1_fits 25 = .ok (.invokevirtual 67, 3) := by decide +kernel
theorem d_X1_fits_28 : dec m_X1_fits 28 = .ok (.iload_n 3, 1) := by decide +kernel
theorem d_X1_fits_29 : dec m_X1_fits 29 = .ok (.invokestatic 74, 3) := by decide +kernel
theorem d_X1_fits_32 : dec m_X1_fits 32 = .ok (.ifCond .ne 5, 3) := by decide +kernel
theorem d_X1_fits_35 : dec m_X1_fits 35 = .ok (.iconst 0, 1) := by decide +kernel
theorem d_X1_fits_36 : dec m_X1_fits 36 = .ok (.ireturn, 1) := by decide +kernel
theorem d_X1_fits_37 : dec m_X1_fits 37 = .ok (.aload_n 0, 1) := by decide +kernel
theorem d_X1_fits_38 : dec m_X1_fits 38 = .ok (.iload_n 1, 1) := by decide +kernel
theorem d_X1_fits_39 : dec m_X1_fits 39 = .ok (.iload_n 2, 1) := by decide +kernel
theorem d_X1_fits_40 : dec m_X1_fits 40 = .ok (.iconst 1, 1) := by decide +kernel
theorem d_X1_fits_41 : dec m_X1_fits 41 = .ok (.iadd, 1) := by decide +kernel
theorem d_X1_fits_42 : dec m_X1_fits 42 = .ok (.invokevirtual 63, 3) := by decide +kernel
theorem d_X1_fits_45 : dec m_X1_fits 45 = .ok (.ifCond .eq 20, 3) := by decide +kernel
theorem d_X1_fits_48 : dec m_X1_fits 48 = .ok (.iload 4, 2) := by decide +kernel
theorem d_X1_fits_50 : dec m_X1_fits 50 = .ok (.iload_n 3, 1) := by decide +kernel
theorem d_X1_fits_51 : dec m_X1_fits 51 = .ok (.aload_n 0, 1) := by decide +kernel
theorem d_X1_fits_52 : dec m_X1_fits 52 = .ok (.iload_n 1, 1) := by decide +kernel
theorem d_X1_fits_53 : dec m_X1_fits 53 = .ok (.iload_n 2, 1) := by decide +kernel
theorem d_X1_fits_54 : dec m_X1_fits 54 = .ok (.iconst 1, 1) := by decide +kernel
theorem d_X1_fits_55 : dec m_X1_fits 55 = .ok (.iadd, 1) := by decide +kernel
theorem d_X1_fits_56 : dec m_X1_fits 56 = .ok (.invokevirtual 67, 3) := by decide +kernel
theorem d_X1_fits_59 : dec m_X1_fits 59 = .ok (.invokestatic 74, 3) := by decide +kernel
theorem d_X1_fits_62 : dec m_X1_fits 62 = .ok (.ifCond .eq 7, 3) := by decide +kernel
theorem d_X1_fits_65 : dec m_X1_fits 65 = .ok (.iconst 1, 1) := by decide +kernel
theorem d_X1_fits_66 : dec m_X1_fits 66 = .ok (.goto 4, 3) := by decide +kernel
theorem d_X1_fits_69 : dec m_X1_fits 69 = .ok (.iconst 0, 1) := by decide +kernel
theorem d_X1_fits_70 : dec m_X1_fits 70 = .ok (.ireturn, 1) := by decide +kernel
theorem d_X1_inOrder_0 : dec m_X1_inOrder 0 = .ok (.iload_n 0, 1) := by decide +kernel
theorem d_X1_inOrder_1 : dec m_X1_inOrder 1 = .ok (.ifCond .eq 16, 3) := by decide +kernel
theorem d_X1_inOrder_4 : dec m_X1_inOrder 4 = .ok (.iload_n 2, 1) := by decide +kernel
theorem d_X1_inOrder_5 : dec m_X1_inOrder 5 = .ok (.iload_n 1, 1) := by decide +kernel
theorem d_X1_inOrder_6 : dec m_X1_inOrder 6 = .ok (.if_icmp .lt 7, 3) := by decide +kernel
theorem d_X1_inOrder_9 : dec m_X1_inOrder 9 = .ok (.iconst 1, 1) := by decide +kernel
theorem d_X1_inOrder_10 : dec m_X1_inOrder 10 = .ok (.goto 17, 3) := by decide +kernel
theorem d_X1_inOrder_13 : dec m_X1_inOrder 13 = .ok (.iconst 0, 1) := by decide +kernel
theorem d_X1_inOrder_14 : dec m_X1_inOrder 14 = .ok (.goto 13, 3) := by decide +kernel
theorem d_X1_inOrder_17 : dec m_X1_inOrder 17 = .ok (.iload_n 2, 1) := by decide +kernel
theorem d_X1_inOrder_18 : dec m_X1_inOrder 18 = .ok (.iload_n 1, 1) := by decide +kernel
theorem d_X1_inOrder_19 : dec m_X1_inOrder 19 = .ok (.if_icmp .gt 7, 3) := by decide +kernel
theorem d_X1_inOrder_22 : dec m_X1_inOrder 22 = .ok (.iconst 1, 1) := by decide +kernel
theorem d_X1_inOrder_23 : dec m_X1_inOrder 23 = .ok (.goto 4, 3) := by decide +kernel
theorem d_X1_inOrder_26 : dec m_X1_inOrder 26 = .ok (.iconst 0, 1) := by decide +kernel
theorem d_X1_inOrder_27 : dec m_X1_inOrder 27 = .ok (.ireturn, 1) := by decide +kernel
theorem d_X1_enter_0 : dec m_X1_enter 0 = .ok (.aload_n 0, 1) := by decide +kernel
theorem d_X1_enter_1 : dec m_X1_enter 1 = .ok (.getfield 31, 3) := by decide +kernel
theorem d_X1_enter_4 : dec m_X1_enter 4 = .ok (.ifCond .lt 12, 3) := by decide +kernel
theorem d_X1_enter_7 : dec m_X1_enter 7 = .ok (.aload_n 0, 1) := by decide +kernel
theorem d_X1_enter_8 : dec m_X1_enter 8 = .ok (.getfield 31, 3) := by decide +kernel
theorem d_X1_enter_11 : dec m_X1_enter 11 = .ok (.bipush 20, 2) := by decide +kernel
theorem d_X1_enter_13 : dec m_X1_enter 13 = .ok (.if_icmp .lt 5, 3) := by decide +kernel
theorem d_X1_enter_16 : dec m_X1_enter 16 = .ok (.iconst (-1), 1) := by decide +kernel
theorem d_X1_enter_17 : dec m_X1_enter 17 = .ok (.ireturn, 1) := by decide +kernel
theorem d_X1_enter_18 : dec m_X1_enter 18 = .ok (.aload_n 0, 1) := by decide +kernel
theorem d_X1_enter_19 : dec m_X1_enter 19 = .ok (.getfield 31, 3) := by decide +kernel
theorem d_X1_enter_22 : dec m_X1_enter 22 = .ok (.istore_n 3, 1) := by decide +kernel
theorem d_X1_enter_23 : dec m_X1_enter 23 = .ok (.aload_n 0, 1) := by decide +kernel
theorem d_X1_enter_24 : dec m_X1_enter 24 = .ok (.getfield 9, 3) := by decide +kernel
theorem d_X1_enter_27 : dec m_X1_enter 27 = .ok (.iload_n 3, 1) := by decide +kernel
theorem d_X1_enter_28 : dec m_X1_enter 28 = .ok (.iload_n 1, 1) := by decide +kernel
theorem d_X1_enter_29 : dec m_X1_enter 29 = .ok (.bastore, 1) := by decide +kernel
theorem d_X1_enter_30 : dec m_X1_enter 30 = .ok (.aload_n 0, 1) := by decide +kernel
theorem d_X1_enter_31 : dec m_X1_enter 31 = .ok (.getfield 15, 3) := by decide +kernel
theorem d_X1_enter_34 : dec m_X1_enter 34 = .ok (.iload_n 3, 1) := by decide +kernel
theorem d_X1_enter_35 : dec m_X1_enter 35 = .ok (.iload_n 2, 1) := by decide +kernel
theorem d_X1_enter_36 : dec m_X1_enter 36 = .ok (.iastore, 1) := by decide +kernel
theorem d_X1_enter_37 : dec m_X1_enter 37 = .ok (.aload_n 0, 1) := by decide +kernel
theorem d_X1_enter_38 : dec m_X1_enter 38 = .ok (.getfield 19, 3) := by decide +kernel
theorem d_X1_enter_41 : dec m_X1_enter 41 = .ok (.iload_n 3, 1) := by decide +kernel
theorem d_X1_enter_42 : dec m_X1_enter 42 = .ok (.iconst 0, 1) := by decide +kernel
theorem d_X1_enter_43 : dec m_X1_enter 43 = .ok (.iastore, 1) := by decide +kernel
theorem d_X1_enter_44 : dec m_X1_enter 44 = .ok (.aload_n 0, 1) := by decide +kernel
theorem d_X1_enter_45 : dec m_X1_enter 45 = .ok (.getfield 25, 3) := by decide +kernel
theorem d_X1_enter_48 : dec m_X1_enter 48 = .ok (.iload_n 3, 1) := by decide +kernel
theorem d_X1_enter_49 : dec m_X1_enter 49 = .ok (.iconst 0, 1) := by decide +kernel
theorem d_X1_enter_50 : dec m_X1_enter 50 = .ok (.iastore, 1) := by decide +kernel
theorem d_X1_enter_51 : dec m_X1_enter 51 = .ok (.aload_n 0, 1) := by decide +kernel
theorem d_X1_enter_52 : dec m_X1_enter 52 = .ok (.getfield 28, 3) := by decide +kernel
theorem d_X1_enter_55 : dec m_X1_enter 55 = .ok (.iload_n 3, 1) := by decide +kernel
theorem d_X1_enter_56 : dec m_X1_enter 56 = .ok (.iconst 0, 1) := by decide +kernel
theorem d_X1_enter_57 : dec m_X1_enter 57 = .ok (.iastore, 1) := by decide +kernel
theorem d_X1_enter_58 : dec m_X1_enter 58 = .ok (.aload_n 0, 1) := by decide +kernel
theorem d_X1_enter_59 : dec m_X1_enter 59 = .ok (.dup, 1) := by decide +kernel
theorem d_X1_enter_60 : dec m_X1_enter 60 = .ok (.getfield 31, 3) := by decide +kernel
theorem d_X1_enter_63 : dec m_X1_enter 63 = .ok (.iconst 1, 1) := by decide +kernel
theorem d_X1_enter_64 : dec m_X1_enter 64 = .ok (.iadd, 1) := by decide +kernel
theorem d_X1_enter_65 : dec m_X1_enter 65 = .ok (.putfield 31, 3) := by decide +kernel
theorem d_X1_enter_68 : dec m_X1_enter 68 = .ok (.iload_n 3, 1) := by decide +kernel
theorem d_X1_enter_69 : dec m_X1_enter 69 = .ok (.ireturn, 1) := by decide +kernel
theorem d_X1_append_0 : dec m_X1_append 0 = .ok (.aload_n 0, 1) := by decide +kernel
theorem d_X1_append_1 : dec m_X1_append 1 = .ok (.iload_n 1, 1) := by decide +kernel
theorem d_X1_append_2 : dec m_X1_append 2 = .ok (.invokevirtual 78, 3) := by decide +kernel
theorem d_X1_append_5 : dec m_X1_append 5 = .ok (.istore_n 3, 1) := by decide +kernel
theorem d_X1_append_6 : dec m_X1_append 6 = .ok (.aload_n 0, 1) := by decide +kernel
theorem d_X1_append_7 : dec m_X1_append 7 = .ok (.iload_n 1, 1) := by decide +kernel
theorem d_X1_append_8 : dec m_X1_append 8 = .ok (.invokevirtual 59, 3) := by decide +kernel
theorem d_X1_append_11 : dec m_X1_append 11 = .ok (.ifCond .eq 8, 3) := by decide +kernel
theorem d_X1_append_14 : dec m_X1_append 14 = .ok (.iload_n 3, 1) := by decide +kernel
theorem d_X1_append_15 : dec m_X1_append 15 = .ok (.iconst 4, 1) := by decide +kernel
theorem d_X1_append_16 : dec m_X1_append 16 = .ok (.if_icmp .lt 5, 3) := by decide +kernel
theorem d_X1_append_19 : dec m_X1_append 19 = .ok (.iload_n 3, 1) := by decide +kernel
theorem d_X1_append_20 : dec m_X1_append 20 = .ok (.ireturn, 1) := by decide +kernel
theorem d_X1_append_21 : dec m_X1_append 21 = .ok (.aload_n 0, 1) := by decide +kernel
theorem d_X1_append_22 : dec m_X1_append 22 = .ok (.getfield 19, 3) := by decide +kernel
theorem d_X1_append_25 : dec m_X1_append 25 = .ok (.iload_n 1, 1) := by decide +kernel
theorem d_X1_append_26 : dec m_X1_append 26 = .ok (.iload_n 3, 1) := by decide +kernel
theorem d_X1_append_27 : dec m_X1_append 27 = .ok (.iconst 1, 1) := by decide +kernel
theorem d_X1_append_28 : dec m_X1_append 28 = .ok (.iadd, 1) := by decide +kernel
theorem d_X1_append_29 : dec m_X1_append 29 = .ok (.iastore, 1) := by decide +kernel
theorem d_X1_append_30 : dec m_X1_append 30 = .ok (.aload_n 0, 1) := by decide +kernel
theorem d_X1_append_31 : dec m_X1_append 31 = .ok (.iload_n 1, 1) := by decide +kernel
theorem d_X1_append_32 : dec m_X1_append 32 = .ok (.iload_n 3, 1) := by decide +kernel
theorem d_X1_append_33 : dec m_X1_append 33 = .ok (.iload_n 2, 1) := by decide +kernel
theorem d_X1_append_34 : dec m_X1_append 34 = .ok (.invokevirtual 82, 3) := by decide +kernel
theorem d_X1_append_37 : dec m_X1_append 37 = .ok (.aload_n 0, 1) := by decide +kernel
theorem d_X1_append_38 : dec m_X1_append 38 = .ok (.getfield 19, 3) := by decide +kernel
theorem d_X1_append_41 : dec m_X1_append 41 = .ok (.iload_n 1, 1) := by decide +kernel
theorem d_X1_append_42 : dec m_X1_append 42 = .ok (.iaload, 1) := by decide +kernel
theorem d_X1_append_43 : dec m_X1_append 43 = .ok (.ireturn, 1) := by decide +kernel
theorem d_X1_dropFirst_0 : dec m_X1_dropFirst 0 = .ok (.aload_n 0, 1) := by decide +kernel
theorem d_X1_dropFirst_1 : dec m_X1_dropFirst 1 = .ok (.iload_n 1, 1) := by decide +kernel
theorem d_X1_dropFirst_2 : dec m_X1_dropFirst 2 = .ok (.invokevirtual 78, 3) := by decide +kernel
theorem d_X1_dropFirst_5 : dec m_X1_dropFirst 5 = .ok (.iload_n 2, 1) := by decide +kernel
theorem d_X1_dropFirst_6 : dec m_X1_dropFirst 6 = .ok (.isub, 1) := by decide +kernel
theorem d_X1_dropFirst_7 : dec m_X1_dropFirst 7 = .ok (.istore_n 3, 1) := by decide +kernel
theorem d_X1_dropFirst_8 : dec m_X1_dropFirst 8 = .ok (.aload_n 0, 1) := by decide +kernel
theorem d_X1_dropFirst_9 : dec m_X1_dropFirst 9 = .ok (.iload_n 1, 1) := by decide +kernel
theorem d_X1_dropFirst_10 : dec m_X1_dropFirst 10 = .ok (.invokevirtual 59, 3) := by decide +kernel
theorem d_X1_dropFirst_13 : dec m_X1_dropFirst 13 = .ok (.ifCond .eq 11, 3) := by decide +kernel
theorem d_X1_dropFirst_16 : dec m_X1_dropFirst 16 = .ok (.iload_n 2, 1) := by decide +kernel
theorem d_X1_dropFirst_17 : dec m_X1_dropFirst 17 = .ok (.ifCond .lt 7, 3) := by decide +kernel
theorem d_X1_dropFirst_20 : dec m_X1_dropFirst 20 = .ok (.iload_n 3, 1) := by decide +kernel
theorem d_X1_dropFirst_21 : dec m_X1_dropFirst 21 = .ok (.ifCond .ge 4, 3) := by decide +kernel
theorem d_X1_dropFirst_24 : dec m_X1_dropFirst 24 = .ok (.return_, 1) := by decide +kernel
theorem d_X1_dropFirst_25 : dec m_X1_dropFirst 25 = .ok (.iconst 0, 1) := by decide +kernel
theorem d_X1_dropFirst_26 : dec m_X1_dropFirst 26 = .ok (.istore 4, 2) := by decide +kernel
theorem d_X1_dropFirst_28 : dec m_X1_dropFirst 28 = .ok (.iload 4, 2) := by decide +kernel
theorem d_X1_dropFirst_30 : dec m_X1_dropFirst 30 = .ok (.iload_n 3, 1) := by decide +kernel
theorem d_X1_dropFirst_31 : dec m_X1_dropFirst 31 = .ok (.if_icmp .ge 25, 3) := by decide +kernel
theorem d_X1_dropFirst_34 : dec m_X1_dropFirst 34 = .ok (.aload_n 0, 1) := by decide +kernel
theorem d_X1_dropFirst_35 : dec m_X1_dropFirst 35 = .ok (.iload_n 1, 1) := by decide +kernel
theorem d_X1_dropFirst_36 : dec m_X1_dropFirst 36 = .ok (.iload 4, 2) := by decide +kernel
theorem d_X1_dropFirst_38 : dec m_X1_dropFirst 38 = .ok (.aload_n 0, 1) := by decide +kernel
theorem d_X1_dropFirst_39 : dec m_X1_dropFirst 39 = .ok (.iload_n 1, 1) := by decide +kernel
theorem d_X1_dropFirst_40 : dec m_X1_dropFirst 40 = .ok (.iload 4, 2) := by decide +kernel
theorem d_X1_dropFirst_42 : dec m_X1_dropFirst 42 = .ok (.iload_n 2, 1) := by decide +kernel
theorem d_X1_dropFirst_43 : dec m_X1_dropFirst 43 = .ok (.iadd, 1) := by decide +kernel
theorem d_X1_dropFirst_44 : dec m_X1_dropFirst 44 = .ok (.invokevirtual 67, 3) := by decide +kernel
theorem d_X1_dropFirst_47 : dec m_X1_dropFirst 47 = .ok (.invokevirtual 82, 3) := by decide +kernel
theorem d_X1_dropFirst_50 : dec m_X1_dropFirst 50 = .ok (.iinc 4 1, 3) := by decide +kernel
theorem d_X1_dropFirst_53 : dec m_X1_dropFirst 53 = .ok (.goto (-25), 3) := by decide +kernel
theorem d_X1_dropFirst_56 : dec m_X1_dropFirst 56 = .ok (.aload_n 0, 1) := by decide +kernel
theorem d_X1_dropFirst_57 : dec m_X1_dropFirst 57 = .ok (.getfield 19, 3) := by decide +kernel
theorem d_X1_dropFirst_60 : dec m_X1_dropFirst 60 = .ok (.iload_n 1, 1) := by decide +kernel
theorem d_X1_dropFirst_61 : dec m_X1_dropFirst 61 = .ok (.iload_n 3, 1) := by decide +kernel
theorem d_X1_dropFirst_62 : dec m_X1_dropFirst 62 = .ok (.iastore, 1) := by decide +kernel
theorem d_X1_dropFirst_63 : dec m_X1_dropFirst 63 = .ok (.return_, 1) := by decide +kernel
theorem d_X1_trade_0 : dec m_X1_trade 0 = .ok (.aload_n 0, 1) := by decide +kernel
theorem d_X1_trade_1 : dec m_X1_trade 1 = .ok (.iload_n 1, 1) := by decide +kernel
theorem d_X1_trade_2 : dec m_X1_trade 2 = .ok (.invokevirtual 59, 3) := by decide +kernel
theorem d_X1_trade_5 : dec m_X1_trade 5 = .ok (.ifCond .ne 4, 3) := by decide +kernel
theorem d_X1_trade_8 : dec m_X1_trade 8 = .ok (.return_, 1) := by decide +kernel
theorem d_X1_trade_9 : dec m_X1_trade 9 = .ok (.aload_n 0, 1) := by decide +kernel
theorem d_X1_trade_10 : dec m_X1_trade 10 = .ok (.iload_n 1, 1) := by decide +kernel
theorem d_X1_trade_11 : dec m_X1_trade 11 = .ok (.iload_n 2, 1) := by decide +kernel
theorem d_X1_trade_12 : dec m_X1_trade 12 = .ok (.invokevirtual 86, 3) := by decide +kernel
theorem d_X1_trade_15 : dec m_X1_trade 15 = .ok (.aload_n 0, 1) := by decide +kernel
theorem d_X1_trade_16 : dec m_X1_trade 16 = .ok (.getfield 28, 3) := by decide +kernel
theorem d_X1_trade_19 : dec m_X1_trade 19 = .ok (.iload_n 1, 1) := by decide +kernel
theorem d_X1_trade_20 : dec m_X1_trade 20 = .ok (.dup2, 1) := by decide +kernel
theorem d_X1_trade_21 : dec m_X1_trade 21 = .ok (.iaload, 1) := by decide +kernel
theorem d_X1_trade_22 : dec m_X1_trade 22 = .ok (.iload_n 2, 1) := by decide +kernel
theorem d_X1_trade_23 : dec m_X1_trade 23 = .ok (.iadd, 1) := by decide +kernel
theorem d_X1_trade_24 : dec m_X1_trade 24 = .ok (.iastore, 1) := by decide +kernel
theorem d_X1_trade_25 : dec m_X1_trade 25 = .ok (.aload_n 0, 1) := by decide +kernel
theorem d_X1_trade_26 : dec m_X1_trade 26 = .ok (.getfield 25, 3) := by decide +kernel
theorem d_X1_trade_29 : dec m_X1_trade 29 = .ok (.iload_n 1, 1) := by decide +kernel
theorem d_X1_trade_30 : dec m_X1_trade 30 = .ok (.dup2, 1) := by decide +kernel
theorem d_X1_trade_31 : dec m_X1_trade 31 = .ok (.iaload, 1) := by decide +kernel
theorem d_X1_trade_32 : dec m_X1_trade 32 = .ok (.aload_n 0, 1) := by decide +kernel
theorem d_X1_trade_33 : dec m_X1_trade 33 = .ok (.getfield 9, 3) := by decide +kernel
theorem d_X1_trade_36 : dec m_X1_trade 36 = .ok (.iload_n 1, 1) := by decide +kernel
theorem d_X1_trade_37 : dec m_X1_trade 37 = .ok (.baload, 1) := by decide +kernel
theorem d_X1_trade_38 : dec m_X1_trade 38 = .ok (.ifCond .eq 7, 3) := by decide +kernel
theorem d_X1_trade_41 : dec m_X1_trade 41 = .ok (.iload_n 3, 1) := by decide +kernel
theorem d_X1_trade_42 : dec m_X1_trade 42 = .ok (.goto 5, 3) := by decide +kernel
theorem d_X1_trade_45 : dec m_X1_trade 45 = .ok (.iload_n 3, 1) := by decide +kernel
theorem d_X1_trade_46 : dec m_X1_trade 46 = .ok (.ineg, 1) := by decide +kernel
theorem d_X1_trade_47 : dec m_X1_trade 47 = .ok (.iadd, 1) := by decide +kernel
theorem d_X1_trade_48 : dec m_X1_trade 48 = .ok (.iastore, 1) := by decide +kernel
theorem d_X1_trade_49 : dec m_X1_trade 49 = .ok (.return_, 1) := by decide +kernel
theorem d_X1_noteClose_0 : dec m_X1_noteClose 0 = .ok (.aload_n 0, 1) := by decide +kernel
theorem d_X1_noteClose_1 : dec m_X1_noteClose 1 = .ok (.aload_n 0, 1) := by decide +kernel
theorem d_X1_noteClose_2 : dec m_X1_noteClose 2 = .ok (.getfield 47, 3) := by decide +kernel
theorem d_X1_noteClose_5 : dec m_X1_noteClose 5 = .ok (.ifCond .ne 7, 3) := by decide +kernel
theorem d_X1_noteClose_8 : dec m_X1_noteClose 8 = .ok (.iload_n 2, 1) := by decide +kernel
theorem d_X1_noteClose_9 : dec m_X1_noteClose 9 = .ok (.goto 11, 3) := by decide +kernel
theorem d_X1_noteClose_12 : dec m_X1_noteClose 12 = .ok (.aload_n 0, 1) := by decide +kernel
theorem d_X1_noteClose_13 : dec m_X1_noteClose 13 = .ok (.getfield 50, 3) := by decide +kernel
theorem d_X1_noteClose_16 : dec m_X1_noteClose 16 = .ok (.iload_n 2, 1) := by decide +kernel
theorem d_X1_noteClose_17 : dec m_X1_noteClose 17 = .ok (.invokestatic 90, 3) := by decide +kernel
theorem d_X1_noteClose_20 : dec m_X1_noteClose 20 = .ok (.putfield 50, 3) := by decide +kernel
theorem d_X1_noteClose_23 : dec m_X1_noteClose 23 = .ok (.aload_n 0, 1) := by decide +kernel
theorem d_X1_noteClose_24 : dec m_X1_noteClose 24 = .ok (.dup, 1) := by decide +kernel
theorem d_X1_noteClose_25 : dec m_X1_noteClose 25 = .ok (.getfield 41, 3) := by decide +kernel
theorem d_X1_noteClose_28 : dec m_X1_noteClose 28 = .ok (.iload_n 2, 1) := by decide +kernel
theorem d_X1_noteClose_29 : dec m_X1_noteClose 29 = .ok (.iadd, 1) := by decide +kernel
theorem d_X1_noteClose_30 : dec m_X1_noteClose 30 = .ok (.putfield 41, 3) := by decide +kernel
theorem d_X1_noteClose_33 : dec m_X1_noteClose 33 = .ok (.aload_n 0, 1) := by decide +kernel
theorem d_X1_noteClose_34 : dec m_X1_noteClose 34 = .ok (.dup, 1) := by decide +kernel
theorem d_X1_noteClose_35 : dec m_X1_noteClose 35 = .ok (.getfield 44, 3) := by decide +kernel
theorem d_X1_noteClose_38 : dec m_X1_noteClose 38 = .ok (.iload_n 1, 1) := by decide +kernel
theorem d_X1_noteClose_39 : dec m_X1_noteClose 39 = .ok (.iadd, 1) := by decide +kernel
theorem d_X1_noteClose_40 : dec m_X1_noteClose 40 = .ok (.putfield 44, 3) := by decide +kernel
theorem d_X1_noteClose_43 : dec m_X1_noteClose 43 = .ok (.aload_n 0, 1) := by decide +kernel
theorem d_X1_noteClose_44 : dec m_X1_noteClose 44 = .ok (.dup, 1) := by decide +kernel
theorem d_X1_noteClose_45 : dec m_X1_noteClose 45 = .ok (.getfield 47, 3) := by decide +kernel
theorem d_X1_noteClose_48 : dec m_X1_noteClose 48 = .ok (.iconst 1, 1) := by decide +kernel
theorem d_X1_noteClose_49 : dec m_X1_noteClose 49 = .ok (.iadd, 1) := by decide +kernel
theorem d_X1_noteClose_50 : dec m_X1_noteClose 50 = .ok (.putfield 47, 3) := by decide +kernel
theorem d_X1_noteClose_53 : dec m_X1_noteClose 53 = .ok (.return_, 1) := by decide +kernel
theorem d_X1_allUnits_0 : dec m_X1_allUnits 0 = .ok (.iconst 0, 1) := by decide +kernel
theorem d_X1_allUnits_1 : dec m_X1_allUnits 1 = .ok (.istore_n 1, 1) := by decide +kernel
theorem d_X1_allUnits_2 : dec m_X1_allUnits 2 = .ok (.iconst 0, 1) := by decide +kernel
theorem d_X1_allUnits_3 : dec m_X1_allUnits 3 = .ok (.istore_n 2, 1) := by decide +kernel
theorem d_X1_allUnits_4 : dec m_X1_allUnits 4 = .ok (.iload_n 2, 1) := by decide +kernel
theorem d_X1_allUnits_5 : dec m_X1_allUnits 5 = .ok (.aload_n 0, 1) := by decide +kernel
theorem d_X1_allUnits_6 : dec m_X1_allUnits 6 = .ok (.getfield 31, 3) := by decide +kernel
theorem d_X1_allUnits_9 : dec m_X1_allUnits 9 = .ok (.if_icmp .ge 17, 3) := by decide +kernel
theorem d_X1_allUnits_12 : dec m_X1_allUnits 12 = .ok (.iload_n 1, 1) := by decide +kernel
theorem d_X1_allUnits_13 : dec m_X1_allUnits 13 = .ok (.aload_n 0, 1) := by decide +kernel
theorem d_X1_allUnits_14 : dec m_X1_allUnits 14 = .ok (.iload_n 2, 1) := by decide +kernel
theorem d_X1_allUnits_15 : dec m_X1_allUnits 15 = .ok (.invokevirtual 78, 3) := by decide +kernel
theorem d_X1_allUnits_18 : dec m_X1_allUnits 18 = .ok (.iadd, 1) := by decide +kernel
theorem d_X1_allUnits_19 : dec m_X1_allUnits 19 = .ok (.istore_n 1, 1) := by decide +kernel
theorem d_X1_allUnits_20 : dec m_X1_allUnits 20 = .ok (.iinc 2 1, 3) := by decide +kernel
theorem d_X1_allUnits_23 : dec m_X1_allUnits 23 = .ok (.goto (-19), 3) := by decide +kernel
theorem d_X1_allUnits_26 : dec m_X1_allUnits 26 = .ok (.iload_n 1, 1) := by decide +kernel
theorem d_X1_allUnits_27 : dec m_X1_allUnits 27 = .ok (.ireturn, 1) := by decide +kernel
theorem d_X1_allPurses_0 : dec m_X1_allPurses 0 = .ok (.iconst 0, 1) := by decide +kernel
theorem d_X1_allPurses_1 : dec m_X1_allPurses 1 = .ok (.istore_n 1, 1) := by decide +kernel
theorem d_X1_allPurses_2 : dec m_X1_allPurses 2 = .ok (.iconst 0, 1) := by decide +kernel
theorem d_X1_allPurses_3 : dec m_X1_allPurses 3 = .ok (.istore_n 2, 1) := by decide +kernel
theorem d_X1_allPurses_4 : dec m_X1_allPurses 4 = .ok (.iload_n 2, 1) := by decide +kernel
theorem d_X1_allPurses_5 : dec m_X1_allPurses 5 = .ok (.aload_n 0, 1) := by decide +kernel
theorem d_X1_allPurses_6 : dec m_X1_allPurses 6 = .ok (.getfield 31, 3) := by decide +kernel
theorem d_X1_allPurses_9 : dec m_X1_allPurses 9 = .ok (.if_icmp .ge 17, 3) := by decide +kernel
theorem d_X1_allPurses_12 : dec m_X1_allPurses 12 = .ok (.iload_n 1, 1) := by decide +kernel
theorem d_X1_allPurses_13 : dec m_X1_allPurses 13 = .ok (.aload_n 0, 1) := by decide +kernel
theorem d_X1_allPurses_14 : dec m_X1_allPurses 14 = .ok (.iload_n 2, 1) := by decide +kernel
theorem d_X1_allPurses_15 : dec m_X1_allPurses 15 = .ok (.invokevirtual 95, 3) := by decide +kernel
theorem d_X1_allPurses_18 : dec m_X1_allPurses 18 = .ok (.iadd, 1) := by decide +kernel
theorem d_X1_allPurses_19 : dec m_X1_allPurses 19 = .ok (.istore_n 1, 1) := by decide +kernel
theorem d_X1_allPurses_20 : dec m_X1_allPurses 20 = .ok (.iinc 2 1, 3) := by decide +kernel
theorem d_X1_allPurses_23 : dec m_X1_allPurses 23 = .ok (.goto (-19), 3) := by decide +kernel
theorem d_X1_allPurses_26 : dec m_X1_allPurses 26 = .ok (.iload_n 1, 1) := by decide +kernel
theorem d_X1_allPurses_27 : dec m_X1_allPurses 27 = .ok (.ireturn, 1) := by decide +kernel
theorem d_X1_richest_0 : dec m_X1_richest 0 = .ok (.iconst 0, 1) := by decide +kernel
theorem d_X1_richest_1 : dec m_X1_richest 1 = .ok (.istore_n 1, 1) := by decide +kernel
theorem d_X1_richest_2 : dec m_X1_richest 2 = .ok (.iconst 1, 1) := by decide +kernel
theorem d_X1_richest_3 : dec m_X1_richest 3 = .ok (.istore_n 2, 1) := by decide +kernel
theorem d_X1_richest_4 : dec m_X1_richest 4 = .ok (.iload_n 2, 1) := by decide +kernel
theorem d_X1_richest_5 : dec m_X1_richest 5 = .ok (.aload_n 0, 1) := by decide +kernel
theorem d_X1_richest_6 : dec m_X1_richest 6 = .ok (.getfield 31, 3) := by decide +kernel
theorem d_X1_richest_9 : dec m_X1_richest 9 = .ok (.if_icmp .ge 24, 3) := by decide +kernel
theorem d_X1_richest_12 : dec m_X1_richest 12 = .ok (.aload_n 0, 1) := by decide +kernel
theorem d_X1_richest_13 : dec m_X1_richest 13 = .ok (.iload_n 2, 1) := by decide +kernel
theorem d_X1_richest_14 : dec m_X1_richest 14 = .ok (.invokevirtual 95, 3) := by decide +kernel
theorem d_X1_richest_17 : dec m_X1_richest 17 = .ok (.aload_n 0, 1) := by decide +kernel
theorem d_X1_richest_18 : dec m_X1_richest 18 = .ok (.iload_n 1, 1) := by decide +kernel
theorem d_X1_richest_19 : dec m_X1_richest 19 = .ok (.invokevirtual 95, 3) := by decide +kernel
theorem d_X1_richest_22 : dec m_X1_richest 22 = .ok (.if_icmp .le 5, 3) := by decide +kernel
theorem d_X1_richest_25 : dec m_X1_richest 25 = .ok (.iload_n 2, 1) := by decide +kernel
theorem d_X1_richest_26 : dec m_X1_richest 26 = .ok (.istore_n 1, 1) := by decide +kernel
theorem d_X1_richest_27 : dec m_X1_richest 27 = .ok (.iinc 2 1, 3) := by decide +kernel
theorem d_X1_richest_30 : dec m_X1_richest 30 = .ok (.goto (-26), 3) := by decide +kernel
theorem d_X1_richest_33 : dec m_X1_richest 33 = .ok (.iload_n 1, 1) := by decide +kernel
theorem d_X1_richest_34 : dec m_X1_richest 34 = .ok (.ireturn, 1) := by decide +kernel
theorem d_X2_forget_0 : dec m_X2_forget 0 = .ok (.aload_n 0, 1) := by decide +kernel
theorem d_X2_forget_1 : dec m_X2_forget 1 = .ok (.iconst 0, 1) := by decide +kernel
theorem d_X2_forget_2 : dec m_X2_forget 2 = .ok (.putfield 18, 3) := by decide +kernel
theorem d_X2_forget_5 : dec m_X2_forget 5 = .ok (.return_, 1) := by decide +kernel
theorem d_X2_remember_0 : dec m_X2_remember 0 = .ok (.aload_n 0, 1) := by decide +kernel
theorem d_X2_remember_1 : dec m_X2_remember 1 = .ok (.aload_n 0, 1) := by decide +kernel
theorem d_X2_remember_2 : dec m_X2_remember 2 = .ok (.getfield 22, 3) := by decide +kernel
theorem d_X2_remember_5 : dec m_X2_remember 5 = .ok (.invokevirtual 25, 3) := by decide +kernel
theorem d_X2_remember_8 : dec m_X2_remember 8 = .ok (.astore_n 2, 1) := by decide +kernel
theorem d_X2_remember_9 : dec m_X2_remember 9 = .ok (.aload_n 2, 1) := by decide +kernel
theorem d_X2_remember_10 : dec m_X2_remember 10 = .ok (.ifnull 8, 3) := by decide +kernel
theorem d_X2_remember_13 : dec m_X2_remember 13 = .ok (.aload_n 2, 1) := by decide +kernel
theorem d_X2_remember_14 : dec m_X2_remember 14 = .ok (.aload_n 1, 1) := by decide +kernel
theorem d_X2_remember_15 : dec m_X2_remember 15 = .ok (.invokevirtual 29, 3) := by decide +kernel
theorem d_X2_remember_18 : dec m_X2_remember 18 = .ok (.aload_n 0, 1) := by decide +kernel
theorem d_X2_remember_19 : dec m_X2_remember 19 = .ok (.aload_n 0, 1) := by decide +kernel
theorem d_X2_remember_20 : dec m_X2_remember 20 = .ok (.getfield 22, 3) := by decide +kernel
theorem d_X2_remember_23 : dec m_X2_remember 23 = .ok (.iconst 1, 1) := by decide +kernel
theorem d_X2_remember_24 : dec m_X2_remember 24 = .ok (.iadd, 1) := by decide +kernel
theorem d_X2_remember_25 : dec m_X2_remember 25 = .ok (.bipush 10, 2) := by decide +kernel
theorem d_X2_remember_27 : dec m_X2_remember 27 = .ok (.irem, 1) := by decide +kernel
theorem d_X2_remember_28 : dec m_X2_remember 28 = .ok (.putfield 22, 3) := by decide +kernel
theorem d_X2_remember_31 : dec m_X2_remember 31 = .ok (.aload_n 0, 1) := by decide +kernel
theorem d_X2_remember_32 : dec m_X2_remember 32 = .ok (.aload_n 0, 1) := by decide +kernel
theorem d_X2_remember_33 : dec m_X2_remember 33 = .ok (.getfield 18, 3) := by decide +kernel
theorem d_X2_remember_36 : dec m_X2_remember 36 = .ok (.iconst 1, 1) := by decide +kernel
theorem d_X2_remember_37 : dec m_X2_remember 37 = .ok (.iadd, 1) := by decide +kernel
theorem d_X2_remember_38 : dec m_X2_remember 38 = .ok (.bipush 10, 2) := by decide +kernel
theorem d_X2_remember_40 : dec m_X2_remember 40 = .ok (.invokestatic 33, 3) := by decide +kernel
theorem d_X2_remember_43 : dec m_X2_remember 43 = .ok (.putfield 18, 3) := by decide +kernel
theorem d_X2_remember_46 : dec m_X2_remember 46 = .ok (.return_, 1) := by decide +kernel
theorem d_X2_takeBack_0 : dec m_X2_takeBack 0 = .ok (.aload_n 0, 1) := by decide +kernel
theorem d_X2_takeBack_1 : dec m_X2_takeBack 1 = .ok (.getfield 18, 3) := by decide +kernel
theorem d_X2_takeBack_4 : dec m_X2_takeBack 4 = .ok (.ifCond .gt 5, 3) := by decide +kernel
theorem d_X2_takeBack_7 : dec m_X2_takeBack 7 = .ok (.iconst (-1), 1) := by decide +kernel
theorem d_X2_takeBack_8 : dec m_X2_takeBack 8 = .ok (.ireturn, 1) := by decide +kernel
theorem d_X2_takeBack_9 : dec m_X2_takeBack 9 = .ok (.aload_n 0, 1) := by decide +kernel
theorem d_X2_takeBack_10 : dec m_X2_takeBack 10 = .ok (.aload_n 0, 1) := by decide +kernel
theorem d_X2_takeBack_11 : dec m_X2_takeBack 11 = .ok (.getfield 22, 3) := by decide +kernel
theorem d_X2_takeBack_14 : dec m_X2_takeBack 14 = .ok (.bipush 10, 2) := by decide +kernel
theorem d_X2_takeBack_16 : dec m_X2_takeBack 16 = .ok (.iadd, 1) := by decide +kernel
theorem d_X2_takeBack_17 : dec m_X2_takeBack 17 = .ok (.iconst 1, 1) := by decide +kernel
theorem d_X2_takeBack_18 : dec m_X2_takeBack 18 = .ok (.isub, 1) := by decide +kernel
theorem d_X2_takeBack_19 : dec m_X2_takeBack 19 = .ok (.bipush 10, 2) := by decide +kernel
theorem d_X2_takeBack_21 : dec m_X2_takeBack 21 = .ok (.irem, 1) := by decide +kernel
theorem d_X2_takeBack_22 : dec m_X2_takeBack 22 = .ok (.putfield 22, 3) := by decide +kernel
theorem d_X2_takeBack_25 : dec m_X2_takeBack 25 = .ok (.aload_n 1, 1) := by decide +kernel
theorem d_X2_takeBack_26 : dec m_X2_takeBack 26 = .ok (.aload_n 0, 1) := by decide +kernel
theorem d_X2_takeBack_27 : dec m_X2_takeBack 27 = .ok (.aload_n 0, 1) := by decide +kernel
theorem d_X2_takeBack_28 : dec m_X2_takeBack 28 = .ok (.getfield 22, 3) := by decide +kernel
theorem d_X2_takeBack_31 : dec m_X2_takeBack 31 = .ok (.invokevirtual 25, 3) := by decide +kernel
theorem d_X2_takeBack_34 : dec m_X2_takeBack 34 = .ok (.invokevirtual 29, 3) := by decide +kernel
theorem d_X2_takeBack_37 : dec m_X2_takeBack 37 = .ok (.aload_n 0, 1) := by decide +kernel
theorem d_X2_takeBack_38 : dec m_X2_takeBack 38 = .ok (.dup, 1) := by decide +kernel
theorem d_X2_takeBack_39 : dec m_X2_takeBack 39 = .ok (.getfield 18, 3) := by decide +kernel
theorem d_X2_takeBack_42 : dec m_X2_takeBack 42 = .ok (.iconst 1, 1) := by decide +kernel
theorem d_X2_takeBack_43 : dec m_X2_takeBack 43 = .ok (.isub, 1) := by decide +kernel
theorem d_X2_takeBack_44 : dec m_X2_takeBack 44 = .ok (.putfield 18, 3) := by decide +kernel
theorem d_X2_takeBack_47 : dec m_X2_takeBack 47 = .ok (.aload_n 0, 1) := by decide +kernel
theorem d_X2_takeBack_48 : dec m_X2_takeBack 48 = .ok (.getfield 18, 3) := by decide +kernel
theorem d_X2_takeBack_51 : dec m_X2_takeBack 51 = .ok (.ireturn, 1) := by decide +kernel
theorem d_X2_at_0 : dec m_X2_at 0 = .ok (.iload_n 1, 1) := by decide +kernel
theorem d_X2_at_1 : dec m_X2_at 1 = .ok (.ifCond .lt 18, 3) := by decide +kernel
theorem d_X2_at_4 : dec m_X2_at 4 = .ok (.iload_n 1, 1) := by decide +kernel
theorem d_X2_at_5 : dec m_X2_at 5 = .ok (.bipush 10, 2) := by decide +kernel
theorem d_X2_at_7 : dec m_X2_at 7 = .ok (.if_icmp .ge 12, 3) := by decide +kernel
theorem d_X2_at_10 : dec m_X2_at 10 = .ok (.aload_n 0, 1) := by decide +kernel
theorem d_X2_at_11 : dec m_X2_at 11 = .ok (.getfield 11, 3) := by decide +kernel
theorem d_X2_at_14 : dec m_X2_at 14 = .ok (.iload_n 1, 1) := by decide +kernel
theorem d_X2_at_15 : dec m_X2_at 15 = .ok (.aaload, 1) := by decide +kernel
theorem d_X2_at_16 : dec m_X2_at 16 = .ok (.goto 4, 3) := by decide +kernel
theorem d_X2_at_19 : dec m_X2_at 19 = .ok (.aconst_null, 1) := by decide +kernel
theorem d_X2_at_20 : dec m_X2_at 20 = .ok (.areturn, 1) := by decide +kernel
theorem d_X3_at_0 : dec m_X3_at 0 = .ok (.iload_n 1, 1) := by decide +kernel
theorem d_X3_at_1 : dec m_X3_at 1 = .ok (.ifCond .lt 27, 3) := by decide +kernel
theorem d_X3_at_4 : dec m_X3_at 4 = .ok (.iload_n 1, 1) := by decide +kernel
theorem d_X3_at_5 : dec m_X3_at 5 = .ok (.aload_n 0, 1) := by decide +kernel
theorem d_X3_at_6 : dec m_X3_at 6 = .ok (.getfield 15, 3) := by decide +kernel
theorem d_X3_at_9 : dec m_X3_at 9 = .ok (.if_icmp .ge 19, 3) := by decide +kernel
theorem d_X3_at_12 : dec m_X3_at 12 = .ok (.iload_n 1, 1) := by decide +kernel
theorem d_X3_at_13 : dec m_X3_at 13 = .ok (.sipush 640, 3) := by decide +kernel
theorem d_X3_at_16 : dec m_X3_at 16 = .ok (.if_icmp .ge 12, 3) := by decide +kernel
theorem d_X3_at_19 : dec m_X3_at 19 = .ok (.aload_n 0, 1) := by decide +kernel
theorem d_X3_at_20 : dec m_X3_at 20 = .ok (.getfield 9, 3) := by decide +kernel
theorem d_X3_at_23 : dec m_X3_at 23 = .ok (.iload_n 1, 1) := by decide +kernel
theorem d_X3_at_24 : dec m_X3_at 24 = .ok (.iaload, 1) := by decide +kernel
theorem d_X3_at_25 : dec m_X3_at 25 = .ok (.goto 4, 3) := by decide +kernel
theorem d_X3_at_28 : dec m_X3_at 28 = .ok (.iconst (-1), 1) := by decide +kernel
theorem d_X3_at_29 : dec m_X3_at 29 = .ok (.ireturn, 1) := by decide +kernel
theorem d_X3_write_0 : dec m_X3_write 0 = .ok (.aload_n 0, 1) := by decide +kernel
theorem d_X3_write_1 : dec m_X3_write 1 = .ok (.iconst 0, 1) := by decide +kernel
theorem d_X3_write_2 : dec m_X3_write 2 = .ok (.putfield 15, 3) := by decide +kernel
theorem d_X3_write_5 : dec m_X3_write 5 = .ok (.iconst 0, 1) := by decide +kernel
theorem d_X3_write_6 : dec m_X3_write 6 = .ok (.istore_n 2, 1) := by decide +kernel
theorem d_X3_write_7 : dec m_X3_write 7 = .ok (.iload_n 2, 1) := by decide +kernel
theorem d_X3_write_8 : dec m_X3_write 8 = .ok (.aload_n 1, 1) := by decide +kernel
theorem d_X3_write_9 : dec m_X3_write 9 = .ok (.getfield 19, 3) := by decide +kernel
theorem d_X3_write_12 : dec m_X3_write 12 = .ok (.if_icmp .ge 64, 3) := by decide +kernel
theorem d_X3_write_15 : dec m_X3_write 15 = .ok (.aload_n 0, 1) := by decide +kernel
theorem d_X3_write_16 : dec m_X3_write 16 = .ok (.aload_n 1, 1) := by decide +kernel
theorem d_X3_write_17 : dec m_X3_write 17 = .ok (.iload_n 2, 1) := by decide +kernel
theorem d_X3_write_18 : dec m_X3_write 18 = .ok (.invokevirtual 22, 3) := by decide +kernel
theorem d_X3_write_21 : dec m_X3_write 21 = .ok (.ifCond .eq 8, 3) := by decide +kernel
theorem d_X3_write_24 : dec m_X3_write 24 = .ok (.ldc 26, 2) := by decide +kernel
theorem d_X3_write_26 : dec m_X3_write 26 = .ok (.goto 5, 3) := by decide +kernel
theorem d_X3_write_29 : dec m_X3_write 29 = .ok (.ldc 28, 2) := by decide +kernel
theorem d_X3_write_31 : dec m_X3_write 31 = .ok (.invokevirtual 30, 3) := by decide +kernel
theorem d_X3_write_34 : dec m_X3_write 34 = .ok (.aload_n 0, 1) := by decide +kernel
theorem d_X3_write_35 : dec m_X3_write 35 = .ok (.aload_n 1, 1) := by decide +kernel
theorem d_X3_write_36 : dec m_X3_write 36 = .ok (.iload_n 2, 1) := by decide +kernel
theorem d_X3_write_37 : dec m_X3_write 37 = .ok (.invokevirtual 34, 3) := by decide +kernel
theorem d_X3_write_40 : dec m_X3_write 40 = .ok (.invokevirtual 38, 3) := by decide +kernel
theorem d_X3_write_43 : dec m_X3_write 43 = .ok (.iconst 0, 1) := by decide +kernel
theorem d_X3_write_44 : dec m_X3_write 44 = .ok (.istore_n 3, 1) := by decide +kernel
theorem d_X3_write_45 : dec m_X3_write 45 = .ok (.iload_n 3, 1) := by decide +kernel
theorem d_X3_write_46 : dec m_X3_write 46 = .ok (.aload_n 1, 1) := by decide +kernel
theorem d_X3_write_47 : dec m_X3_write 47 = .ok (.iload_n 2, 1) := by decide +kernel
theorem d_X3_write_48 : dec m_X3_write 48 = .ok (.invokevirtual 42, 3) := by decide +kernel
theorem d_X3_write_51 : dec m_X3_write 51 = .ok (.if_icmp .ge 19, 3) := by decide +kernel
theorem d_X3_write_54 : dec m_X3_write 54 = .ok (.aload_n 0, 1) := by decide +kernel
theorem d_X3_write_55 : dec m_X3_write 55 = .ok (.aload_n 1, 1) := by decide +kernel
theorem d_X3_write_56 : dec m_X3_write 56 = .ok (.iload_n 2, 1) := by decide +kernel
theorem d_X3_write_57 : dec m_X3_write 57 = .ok (.iload_n 3, 1) := by decide +kernel
theorem d_X3_write_58 : dec m_X3_write 58 = .ok (.invokevirtual 45, 3) := by decide +kernel
theorem d_X3_write_61 : dec m_X3_write 61 = .ok (.invokevirtual 38, 3) := by decide +kernel
theorem d_X3_write_64 : dec m_X3_write 64 = .ok (.iinc 3 1, 3) := by decide +kernel
theorem d_X3_write_67 : dec m_X3_write 67 = .ok (.goto (-22), 3) := by decide +kernel
theorem d_X3_write_70 : dec m_X3_write 70 = .ok (.iinc 2 1, 3) := by decide +kernel
theorem d_X3_write_73 : dec m_X3_write 73 = .ok (.goto (-66), 3) := by decide +kernel
theorem d_X3_write_76 : dec m_X3_write 76 = .ok (.aload_n 1, 1) := by decide +kernel
theorem d_X3_write_77 : dec m_X3_write 77 = .ok (.getfield 49, 3) := by decide +kernel
theorem d_X3_write_80 : dec m_X3_write 80 = .ok (.ifCond .eq 17, 3) := by decide +kernel
theorem d_X3_write_83 : dec m_X3_write 83 = .ok (.aload_n 0, 1) := by decide +kernel
theorem d_X3_write_84 : dec m_X3_write 84 = .ok (.ldc 52, 2) := by decide +kernel
theorem d_X3_write_86 : dec m_X3_write 86 = .ok (.invokevirtual 30, 3) := by decide +kernel
theorem d_X3_write_89 : dec m_X3_write 89 = .ok (.aload_n 0, 1) := by decide +kernel
theorem d_X3_write_90 : dec m_X3_write 90 = .ok (.aload_n 1, 1) := by decide +kernel
theorem d_X3_write_91 : dec m_X3_write 91 = .ok (.getfield 49, 3) := by decide +kernel
theorem d_X3_write_94 : dec m_X3_write 94 = .ok (.invokevirtual 38, 3) := by decide +kernel
theorem d_X3_write_97 : dec m_X3_write 97 = .ok (.aload_n 1, 1) := by decide +kernel
theorem d_X3_write_98 : dec m_X3_write 98 = .ok (.getfield 53, 3) := by decide +kernel
theorem d_X3_write_101 : dec m_X3_write 101 = .ok (.ifCond .eq 26, 3) := by decide +kernel
theorem d_X3_write_104 : dec m_X3_write 104 = .ok (.aload_n 0, 1) := by decide +kernel
theorem d_X3_write_105 : dec m_X3_write 105 = .ok (.ldc 56, 2) := by decide +kernel
theorem d_X3_write_107 : dec m_X3_write 107 = .ok (.invokevirtual 30, 3) := by decide +kernel
theorem d_X3_write_110 : dec m_X3_write 110 = .ok (.aload_n 0, 1) := by decide +kernel
theorem d_X3_write_111 : dec m_X3_write 111 = .ok (.bipush 32, 2) := by decide +kernel
theorem d_X3_write_113 : dec m_X3_write 113 = .ok (.invokevirtual 57, 3) := by decide +kernel
theorem d_X3_write_116 : dec m_X3_write 116 = .ok (.aload_n 0, 1) := by decide +kernel
theorem d_X3_write_117 : dec m_X3_write 117 = .ok (.aload_n 1, 1) := by decide +kernel
theorem d_X3_write_118 : dec m_X3_write 118 = .ok (.getfield 53, 3) := by decide +kernel
theorem d_X3_write_121 : dec m_X3_write 121 = .ok (.invokestatic 60, 3) := by decide +kernel
theorem d_X3_write_124 : dec m_X3_write 124 = .ok (.invokevirtual 64, 3) := by decide +kernel
theorem d_X3_write_127 : dec m_X3_write 127 = .ok (.return_, 1) := by decide +kernel
theorem d_X3_beginPart_0 : dec m_X3_beginPart 0 = .ok (.aload_n 0, 1) := by decide +kernel
theorem d_X3_beginPart_1 : dec m_X3_beginPart 1 = .ok (.getfield 15, 3) := by decide +kernel
theorem d_X3_beginPart_4 : dec m_X3_beginPart 4 = .ok (.ifCond .le 9, 3) := by decide +kernel
theorem d_X3_beginPart_7 : dec m_X3_beginPart 7 = .ok (.aload_n 0, 1) := by decide +kernel
theorem d_X3_beginPart_8 : dec m_X3_beginPart 8 = .ok (.bipush 59, 2) := by decide +kernel
theorem d_X3_beginPart_10 : dec m_X3_beginPart 10 = .ok (.invokevirtual 57, 3) := by decide +kernel
theorem d_X3_beginPart_13 : dec m_X3_beginPart 13 = .ok (.aload_n 0, 1) := by decide +kernel
theorem d_X3_beginPart_14 : dec m_X3_beginPart 14 = .ok (.aload_n 1, 1) := by decide +kernel
theorem d_X3_beginPart_15 : dec m_X3_beginPart 15 = .ok (.invokevirtual 64, 3) := by decide +kernel
theorem d_X3_beginPart_18 : dec m_X3_beginPart 18 = .ok (.return_, 1) := by decide +kernel
theorem d_X3_putWord_0 : dec m_X3_putWord 0 = .ok (.iconst 0, 1) := by decide +kernel
theorem d_X3_putWord_1 : dec m_X3_putWord 1 = .ok (.istore_n 2, 1) := by decide +kernel
theorem d_X3_putWord_2 : dec m_X3_putWord 2 = .ok (.iload_n 2, 1) := by decide +kernel
theorem d_X3_putWord_3 : dec m_X3_putWord 3 = .ok (.aload_n 1, 1) := by decide +kernel
theorem d_X3_putWord_4 : dec m_X3_putWord 4 = .ok (.invokevirtual 67, 3) := by decide +kernel
theorem d_X3_putWord_7 : dec m_X3_putWord 7 = .ok (.if_icmp .ge 18, 3) := by decide +kernel
theorem d_X3_putWord_10 : dec m_X3_putWord 10 = .ok (.aload_n 0, 1) := by decide +kernel
theorem d_X3_putWord_11 : dec m_X3_putWord 11 = .ok (.aload_n 1, 1) := by decide +kernel
theorem d_X3_putWord_12 : dec m_X3_putWord 12 = .ok (.iload_n 2, 1) := by decide +kernel
theorem d_X3_putWord_13 : dec m_X3_putWord 13 = .ok (.invokevirtual 73, 3) := by decide +kernel
theorem d_X3_putWord_16 : dec m_X3_putWord 16 = .ok (.invokevirtual 57, 3) := by decide +kernel
theorem d_X3_putWord_19 : dec m_X3_putWord 19 = .ok (.iinc 2 1, 3) := by decide +kernel
theorem d_X3_putWord_22 : dec m_X3_putWord 22 = .ok (.goto (-20), 3) := by decide +kernel
theorem d_X3_putWord_25 : dec m_X3_putWord 25 = .ok (.return_, 1) := by decide +kernel
theorem d_X3_putNumber_0 : dec m_X3_putNumber 0 = .ok (.aload_n 0, 1) := by decide +kernel
theorem d_X3_putNumber_1 : dec m_X3_putNumber 1 = .ok (.bipush 32, 2) := by decide +kernel
theorem d_X3_putNumber_3 : dec m_X3_putNumber 3 = .ok (.invokevirtual 57, 3) := by decide +kernel
theorem d_X3_putNumber_6 : dec m_X3_putNumber 6 = .ok (.iconst 0, 1) := by decide +kernel
theorem d_X3_putNumber_7 : dec m_X3_putNumber 7 = .ok (.istore_n 2, 1) := by decide +kernel
theorem d_X3_putNumber_8 : dec m_X3_putNumber 8 = .ok (.sipush 1000, 3) := by decide +kernel
theorem d_X3_putNumber_11 : dec m_X3_putNumber 11 = .ok (.istore_n 3, 1) := by decide +kernel
theorem d_X3_putNumber_12 : dec m_X3_putNumber 12 = .ok (.iload_n 3, 1) := by decide +kernel
theorem d_X3_putNumber_13 : dec m_X3_putNumber 13 = .ok (.iconst 1, 1) := by decide +kernel
theorem d_X3_putNumber_14 : dec m_X3_putNumber 14 = .ok (.if_icmp .lt 48, 3) := by decide +kernel
theorem d_X3_putNumber_17 : dec m_X3_putNumber 17 = .ok (.iload_n 2, 1) := by decide +kernel
theorem d_X3_putNumber_18 : dec m_X3_putNumber 18 = .ok (.ifCond .ne 13, 3) := by decide +kernel
theorem d_X3_putNumber_21 : dec m_X3_putNumber 21 = .ok (.iload_n 1, 1) := by decide +kernel
theorem d_X3_putNumber_22 : dec m_X3_putNumber 22 = .ok (.iload_n 3, 1) := by decide +kernel
theorem d_X3_putNumber_23 : dec m_X3_putNumber 23 = .ok (.if_icmp .ge 8, 3) := by decide +kernel
theorem d_X3_putNumber_26 : dec m_X3_putNumber 26 = .ok (.iload_n 3, 1) := by decide +kernel
theorem d_X3_putNumber_27 : dec m_X3_putNumber 27 = .ok (.iconst 1, 1) := by decide +kernel
theorem d_X3_putNumber_28 : dec m_X3_putNumber 28 = .ok (.if_icmp .ne 7, 3) := by decide +kernel
theorem d_X3_putNumber_31 : dec m_X3_putNumber 31 = .ok (.iconst 1, 1) := by decide +kernel
theorem d_X3_putNumber_32 : dec m_X3_putNumber 32 = .ok (.goto 4, 3) := by decide +kernel
theorem d_X3_putNumber_35 : dec m_X3_putNumber 35 = .ok (.iconst 0, 1) := by decide +kernel
theorem d_X3_putNumber_36 : dec m_X3_putNumber 36 = .ok (.istore_n 2, 1) := by decide +kernel
theorem d_X3_putNumber_37 : dec m_X3_putNumber 37 = .ok (.iload_n 2, 1) := by decide +kernel
theorem d_X3_putNumber_38 : dec m_X3_putNumber 38 = .ok (.ifCond .eq 16, 3) := by decide +kernel
theorem d_X3_putNumber_41 : dec m_X3_putNumber 41 = .ok (.aload_n 0, 1) := by decide +kernel
theorem d_X3_putNumber_42 : dec m_X3_putNumber 42 = .ok (.bipush 48, 2) := by decide +kernel
theorem d_X3_putNumber_44 : dec m_X3_putNumber 44 = .ok (.iload_n 1, 1) := by decide +kernel
theorem d_X3_putNumber_45 : dec m_X3_putNumber 45 = .ok (.iload_n 3, 1) := by decide +kernel
theorem d_X3_putNumber_46 : dec m_X3_putNumber 46 = .ok (.idiv, 1) := by decide +kernel
theorem d_X3_putNumber_47 : dec m_X3_putNumber 47 = .ok (.bipush 10, 2) := by decide +kernel
theorem d_X3_putNumber_49 : dec m_X3_putNumber 49 = .ok (.irem, 1) := by decide +kernel
theorem d_X3_putNumber_50 : dec m_X3_putNumber 50 = .ok (.iadd, 1) := by decide +kernel
theorem d_X3_putNumber_51 : dec m_X3_putNumber 51 = .ok (.invokevirtual 57, 3) := by decide +kernel
theorem d_X3_putNumber_54 : dec m_X3_putNumber 54 = .ok (.iload_n 3, 1) := by decide +kernel
theorem d_X3_putNumber_55 : dec m_X3_putNumber 55 = .ok (.bipush 10, 2) := by decide +kernel
theorem d_X3_putNumber_57 : dec m_X3_putNumber 57 = .ok (.idiv, 1) := by decide +kernel
theorem d_X3_putNumber_58 : dec m_X3_putNumber 58 = .ok (.istore_n 3, 1) := by decide +kernel
theorem d_X3_putNumber_59 : dec m_X3_putNumber 59 = .ok (.goto (-47), 3) := by decide +kernel
theorem d_X3_putNumber_62 : dec m_X3_putNumber 62 = .ok (.return_, 1) := by decide +kernel
theorem d_X3_put_0 : dec m_X3_put 0 = .ok (.aload_n 0, 1) := by decide +kernel
theorem d_X3_put_1 : dec m_X3_put 1 = .ok (.getfield 15, 3) := by decide +kernel
theorem d_X3_put_4 : dec m_X3_put 4 = .ok (.ifCond .lt 33, 3) := by decide +kernel
theorem d_X3_put_7 : dec m_X3_put 7 = .ok (.aload_n 0, 1) := by decide +kernel
theorem d_X3_put_8 : dec m_X3_put 8 = .ok (.getfield 15, 3) := by decide +kernel
theorem d_X3_put_11 : dec m_X3_put 11 = .ok (.sipush 640, 3) := by decide +kernel
theorem d_X3_put_14 : dec m_X3_put 14 = .ok (.if_icmp .ge 23, 3) := by decide +kernel
theorem d_X3_put_17 : dec m_X3_put 17 = .ok (.aload_n 0, 1) := by decide +kernel
theorem d_X3_put_18 : dec m_X3_put 18 = .ok (.getfield 9, 3) := by decide +kernel
theorem d_X3_put_21 : dec m_X3_put 21 = .ok (.aload_n 0, 1) := by decide +kernel
theorem d_X3_put_22 : dec m_X3_put 22 = .ok (.getfield 15, 3) := by decide +kernel
theorem d_X3_put_25 : dec m_X3_put 25 = .ok (.iload_n 1, 1) := by decide +kernel
theorem d_X3_put_26 : dec m_X3_put 26 = .ok (.iastore, 1) := by decide +kernel
theorem d_X3_put_27 : dec m_X3_put 27 = .ok (.aload_n 0, 1) := by decide +kernel
theorem d_X3_put_28 : dec m_X3_put 28 = .ok (.dup, 1) := by decide +kernel
theorem d_X3_put_29 : dec m_X3_put 29 = .ok (.getfield 15, 3) := by decide +kernel
theorem d_X3_put_32 : dec m_X3_put 32 = .ok (.iconst 1, 1) := by decide +kernel
theorem d_X3_put_33 : dec m_X3_put 33 = .ok (.iadd, 1) := by decide +kernel
theorem d_X3_put_34 : dec m_X3_put 34 = .ok (.putfield 15, 3) := by decide +kernel
theorem d_X3_put_37 : dec m_X3_put 37 = .ok (.return_, 1) := by decide +kernel
theorem d_X6_holds_0 : dec m_X6_holds 0 = .ok (.aload_n 0, 1) := by decide +kernel
theorem d_X6_holds_1 : dec m_X6_holds 1 = .ok (.getfield 18, 3) := by decide +kernel
theorem d_X6_holds_4 : dec m_X6_holds 4 = .ok (.iload_n 1, 1) := by decide +kernel
theorem d_X6_holds_5 : dec m_X6_holds 5 = .ok (.invokestatic 22, 3) := by decide +kernel
theorem d_X6_holds_8 : dec m_X6_holds 8 = .ok (.iand, 1) := by decide +kernel
theorem d_X6_holds_9 : dec m_X6_holds 9 = .ok (.ifCond .eq 7, 3) := by decide +kernel
theorem d_X6_holds_12 : dec m_X6_holds 12 = .ok (.iconst 1, 1) := by decide +kernel
theorem d_X6_holds_13 : dec m_X6_holds 13 = .ok (.goto 4, 3) := by decide +kernel
theorem d_X6_holds_16 : dec m_X6_holds 16 = .ok (.iconst 0, 1) := by decide +kernel
theorem d_X6_holds_17 : dec m_X6_holds 17 = .ok (.ireturn, 1) := by decide +kernel
theorem d_X6_put_0 : dec m_X6_put 0 = .ok (.aload_n 0, 1) := by decide +kernel
theorem d_X6_put_1 : dec m_X6_put 1 = .ok (.iload_n 1, 1) := by decide +kernel
theorem d_X6_put_2 : dec m_X6_put 2 = .ok (.invokevirtual 26, 3) := by decide +kernel
theorem d_X6_put_5 : dec m_X6_put 5 = .ok (.astore_n 3, 1) := by decide +kernel
theorem d_X6_put_6 : dec m_X6_put 6 = .ok (.aload_n 3, 1) := by decide +kernel
theorem d_X6_put_7 : dec m_X6_put 7 = .ok (.ifnull 21, 3) := by decide +kernel
theorem d_X6_put_10 : dec m_X6_put 10 = .ok (.aload_n 3, 1) := by decide +kernel
theorem d_X6_put_11 : dec m_X6_put 11 = .ok (.aload_n 2, 1) := by decide +kernel
theorem d_X6_put_12 : dec m_X6_put 12 = .ok (.invokevirtual 30, 3) := by decide +kernel
theorem d_X6_put_15 : dec m_X6_put 15 = .ok (.aload_n 0, 1) := by decide +kernel
theorem d_X6_put_16 : dec m_X6_put 16 = .ok (.dup, 1) := by decide +kernel
theorem d_X6_put_17 : dec m_X6_put 17 = .ok (.getfield 18, 3) := by decide +kernel
theorem d_X6_put_20 : dec m_X6_put 20 = .ok (.iload_n 1, 1) := by decide +kernel
theorem d_X6_put_21 : dec m_X6_put 21 = .ok (.invokestatic 22, 3) := by decide +kernel
theorem d_X6_put_24 : dec m_X6_put 24 = .ok (.ior, 1) := by decide +kernel
theorem d_X6_put_25 : dec m_X6_put 25 = .ok (.putfield 18, 3) := by decide +kernel
theorem d_X6_put_28 : dec m_X6_put 28 = .ok (.return_, 1) := by decide +kernel
theorem d_X6_fetch_0 : dec m_X6_fetch 0 = .ok (.aload_n 2, 1) := by decide +kernel
theorem d_X6_fetch_1 : dec m_X6_fetch 1 = .ok (.aload_n 0, 1) := by decide +kernel
theorem d_X6_fetch_2 : dec m_X6_fetch 2 = .ok (.iload_n 1, 1) := by decide +kernel
theorem d_X6_fetch_3 : dec m_X6_fetch 3 = .ok (.invokevirtual 26, 3) := by decide +kernel
theorem d_X6_fetch_6 : dec m_X6_fetch 6 = .ok (.invokevirtual 30, 3) := by decide +kernel
theorem d_X6_fetch_9 : dec m_X6_fetch 9 = .ok (.return_, 1) := by decide +kernel
theorem d_X6_at_0 : dec m_X6_at 0 = .ok (.iload_n 1, 1) := by decide +kernel
theorem d_X6_at_1 : dec m_X6_at 1 = .ok (.invokestatic 34, 3) := by decide +kernel
theorem d_X6_at_4 : dec m_X6_at 4 = .ok (.ifCond .eq 12, 3) := by decide +kernel
theorem d_X6_at_7 : dec m_X6_at 7 = .ok (.aload_n 0, 1) := by decide +kernel
theorem d_X6_at_8 : dec m_X6_at 8 = .ok (.getfield 11, 3) := by decide +kernel
theorem d_X6_at_11 : dec m_X6_at 11 = .ok (.iload_n 1, 1) := by decide +kernel
theorem d_X6_at_12 : dec m_X6_at 12 = .ok (.aaload, 1) := by decide +kernel
theorem d_X6_at_13 : dec m_X6_at 13 = .ok (.goto 4, 3) := by decide +kernel
theorem d_X6_at_16 : dec m_X6_at 16 = .ok (.aconst_null, 1) := by decide +kernel
theorem d_X6_at_17 : dec m_X6_at 17 = .ok (.areturn, 1) := by decide +kernel
theorem d_X7_append_0 : dec m_X7_append 0 = .ok (.bipush 24, 2) := by decide +kernel
theorem d_X7_append_2 : dec m_X7_append 2 = .ok (.istore_n 2, 1) := by decide +kernel
theorem d_X7_append_3 : dec m_X7_append 3 = .ok (.iload_n 2, 1) := by decide +kernel
theorem d_X7_append_4 : dec m_X7_append 4 = .ok (.ifCond .lt 52, 3) := by decide +kernel
theorem d_X7_append_7 : dec m_X7_append 7 = .ok (.aload_n 0, 1) := by decide +kernel
theorem d_X7_append_8 : dec m_X7_append 8 = .ok (.getfield 22, 3) := by decide +kernel
theorem d_X7_append_11 : dec m_X7_append 11 = .ok (.ifCond .lt 39, 3) := by decide +kernel
theorem d_X7_append_14 : dec m_X7_append 14 = .ok (.aload_n 0, 1) := by decide +kernel
theorem d_X7_append_15 : dec m_X7_append 15 = .ok (.getfield 22, 3) := by decide +kernel
theorem d_X7_append_18 : dec m_X7_append 18 = .ok (.sipush 400, 3) := by decide +kernel
theorem d_X7_append_21 : dec m_X7_append 21 = .ok (.if_icmp .ge 29, 3) := by decide +kernel
theorem d_X7_append_24 : dec m_X7_append 24 = .ok (.aload_n 0, 1) := by decide +kernel
theorem d_X7_append_25 : dec m_X7_append 25 = .ok (.getfield 9, 3) := by decide +kernel
theorem d_X7_append_28 : dec m_X7_append 28 = .ok (.aload_n 0, 1) := by decide +kernel
theorem d_X7_append_29 : dec m_X7_append 29 = .ok (.getfield 22, 3) := by decide +kernel
theorem d_X7_append_32 : dec m_X7_append 32 = .ok (.iload_n 1, 1) := by decide +kernel
theorem d_X7_append_33 : dec m_X7_append 33 = .ok (.iload_n 2, 1) := by decide +kernel
theorem d_X7_append_34 : dec m_X7_append 34 = .ok (.iushr, 1) := by decide +kernel
theorem d_X7_append_35 : dec m_X7_append 35 = .ok (.sipush 255, 3) := by decide +kernel
theorem d_X7_append_38 : dec m_X7_append 38 = .ok (.iand, 1) := by decide +kernel
theorem d_X7_append_39 : dec m_X7_append 39 = .ok (.iastore, 1) := by decide +kernel
theorem d_X7_append_40 : dec m_X7_append 40 = .ok (.aload_n 0, 1) := by decide +kernel
theorem d_X7_append_41 : dec m_X7_append 41 = .ok (.dup, 1) := by decide +kernel
theorem d_X7_append_42 : dec m_X7_append 42 = .ok (.getfield 22, 3) := by decide +kernel
theorem d_X7_append_45 : dec m_X7_append 45 = .ok (.iconst 1, 1) := by decide +kernel
theorem d_X7_append_46 : dec m_X7_append 46 = .ok (.iadd, 1) := by decide +kernel
theorem d_X7_append_47 : dec m_X7_append 47 = .ok (.putfield 22, 3) := by decide +kernel
theorem d_X7_append_50 : dec m_X7_append 50 = .ok (.iinc 2 (-8), 3) := by decide +kernel
theorem d_X7_append_53 : dec m_X7_append 53 = .ok (.goto (-50), 3) := by decide +kernel
theorem d_X7_append_56 : dec m_X7_append 56 = .ok (.return_, 1) := by decide +kernel
theorem d_X7_read_0 : dec m_X7_read 0 = .ok (.aload_n 0, 1) := by decide +kernel
theorem d_X7_read_1 : dec m_X7_read 1 = .ok (.getfield 18, 3) := by decide +kernel
theorem d_X7_read_4 : dec m_X7_read 4 = .ok (.invokevirtual 26, 3) := by decide +kernel
theorem d_X7_read_7 : dec m_X7_read 7 = .ok (.aload_n 0, 1) := by decide +kernel
theorem d_X7_read_8 : dec m_X7_read 8 = .ok (.iconst 0, 1) := by decide +kernel
theorem d_X7_read_9 : dec m_X7_read 9 = .ok (.putfield 29, 3) := by decide +kernel
theorem d_X7_read_12 : dec m_X7_read 12 = .ok (.aload_n 0, 1) := by decide +kernel
theorem d_X7_read_13 : dec m_X7_read 13 = .ok (.iconst 0, 1) := by decide +kernel
theorem d_X7_read_14 : dec m_X7_read 14 = .ok (.putfield 32, 3) := by decide +kernel
theorem d_X7_read_17 : dec m_X7_read 17 = .ok (.aload_n 0, 1) := by decide +kernel
theorem d_X7_read_18 : dec m_X7_read 18 = .ok (.iconst 0, 1) := by decide +kernel
theorem d_X7_read_19 : dec m_X7_read 19 = .ok (.putfield 35, 3) := by decide +kernel
theorem d_X7_read_22 : dec m_X7_read 22 = .ok (.aload_n 0, 1) := by decide +kernel
theorem d_X7_read_23 : dec m_X7_read 23 = .ok (.iconst 0, 1) := by decide +kernel
theorem d_X7_read_24 : dec m_X7_read 24 = .ok (.putfield 39, 3) := by decide +kernel
theorem d_X7_read_27 : dec m_X7_read 27 = .ok (.aload_n 0, 1) := by decide +kernel
theorem d_X7_read_28 : dec m_X7_read 28 = .ok (.invokevirtual 42, 3) := by decide +kernel
theorem d_X7_read_31 : dec m_X7_read 31 = .ok (.aload_n 0, 1) := by decide +kernel
theorem d_X7_read_32 : dec m_X7_read 32 = .ok (.getfield 29, 3) := by decide +kernel
theorem d_X7_read_35 : dec m_X7_read 35 = .ok (.aload_n 0, 1) := by decide +kernel
theorem d_X7_read_36 : dec m_X7_read 36 = .ok (.getfield 22, 3) := by decide +kernel
theorem d_X7_read_39 : dec m_X7_read 39 = .ok (.if_icmp .lt 5, 3) := by decide +kernel
theorem d_X7_read_42 : dec m_X7_read 42 = .ok (.iconst 0, 1) := by decide +kernel
theorem d_X7_read_43 : dec m_X7_read 43 = .ok (.ireturn, 1) := by decide +kernel
theorem d_X7_read_44 : dec m_X7_read 44 = .ok (.iconst 0, 1) := by decide +kernel
theorem d_X7_read_45 : dec m_X7_read 45 = .ok (.istore_n 1, 1) := by decide +kernel
theorem d_X7_read_46 : dec m_X7_read 46 = .ok (.iload_n 1, 1) := by decide +kernel
theorem d_X7_read_47 : dec m_X7_read 47 = .ok (.sipush 400, 3) := by decide +kernel
theorem d_X7_read_50 : dec m_X7_read 50 = .ok (.if_icmp .ge 73, 3) := by decide +kernel
theorem d_X7_read_53 : dec m_X7_read 53 = .ok (.aload_n 0, 1) := by decide +kernel
theorem d_X7_read_54 : dec m_X7_read 54 = .ok (.invokevirtual 45, 3) := by decide +kernel
theorem d_X7_read_57 : dec m_X7_read 57 = .ok (.aload_n 0, 1) := by decide +kernel
theorem d_X7_read_58 : dec m_X7_read 58 = .ok (.invokevirtual 42, 3) := by decide +kernel
theorem d_X7_read_61 : dec m_X7_read 61 = .ok (.aload_n 0, 1) := by decide +kernel
theorem d_X7_read_62 : dec m_X7_read 62 = .ok (.getfield 32, 3) := by decide +kernel
theorem d_X7_read_65 : dec m_X7_read 65 = .ok (.ifCond .ne 58, 3) := by decide +kernel
theorem d_X7_read_68 : dec m_X7_read 68 = .ok (.aload_n 0, 1) := by decide +kernel
theorem d_X7_read_69 : dec m_X7_read 69 = .ok (.getfield 29, 3) := by decide +kernel
theorem d_X7_read_72 : dec m_X7_read 72 = .ok (.aload_n 0, 1) := by decide +kernel
theorem d_X7_read_73 : dec m_X7_read 73 = .ok (.getfield 22, 3) := by decide +kernel
theorem d_X7_read_76 : dec m_X7_read 76 = .ok (.if_icmp .lt 6, 3) := by decide +kernel
theorem d_X7_read_79 : dec m_X7_read 79 = .ok (.goto 44, 3) := by decide +kernel
theorem d_X7_read_82 : dec m_X7_read 82 = .ok (.aload_n 0, 1) := by decide +kernel
theorem d_X7_read_83 : dec m_X7_read 83 = .ok (.aload_n 0, 1) := by decide +kernel
theorem d_X7_read_84 : dec m_X7_read 84 = .ok (.getfield 29, 3) := by decide +kernel
theorem d_X7_read_87 : dec m_X7_read 87 = .ok (.invokevirtual 48, 3) := by decide +kernel
theorem d_X7_read_90 : dec m_X7_read 90 = .ok (.bipush 59, 2) := by decide +kernel
theorem d_X7_read_92 : dec m_X7_read 92 = .ok (.if_icmp .eq 15, 3) := by decide +kernel
theorem d_X7_read_95 : dec m_X7_read 95 = .ok (.aload_n 0, 1) := by decide +kernel
theorem d_X7_read_96 : dec m_X7_read 96 = .ok (.aload_n 0, 1) := by decide +kernel
theorem d_X7_read_97 : dec m_X7_read 97 = .ok (.getfield 29, 3) := by decide +kernel
theorem d_X7_read_100 : dec m_X7_read 100 = .ok (.iconst 1, 1) := by decide +kernel
theorem d_X7_read_101 : dec m_X7_read 101 = .ok (.invokevirtual 52, 3) := by decide +kernel
theorem d_X7_read_104 : dec m_X7_read 104 = .ok (.goto 19, 3) := by decide +kernel
theorem d_X7_read_107 : dec m_X7_read 107 = .ok (.aload_n 0, 1) := by decide +kernel
theorem d_X7_read_108 : dec m_X7_read 108 = .ok (.dup, 1) := by decide +kernel
theorem d_X7_read_109 : dec m_X7_read 109 = .ok (.getfield 29, 3) := by decide +kernel
theorem d_X7_read_112 : dec m_X7_read 112 = .ok (.iconst 1, 1) := by decide +kernel
theorem d_X7_read_113 : dec m_X7_read 113 = .ok (.iadd, 1) := by decide +kernel
theorem d_X7_read_114 : dec m_X7_read 114 = .ok (.putfield 29, 3) := by decide +kernel
theorem d_X7_read_117 : dec m_X7_read 117 = .ok (.iinc 1 1, 3) := by decide +kernel
theorem d_X7_read_120 : dec m_X7_read 120 = .ok (.goto (-74), 3) := by decide +kernel
theorem d_X7_read_123 : dec m_X7_read 123 = .ok (.aload_n 0, 1) := by decide +kernel
theorem d_X7_read_124 : dec m_X7_read 124 = .ok (.getfield 32, 3) := by decide +kernel
theorem d_X7_read_127 : dec m_X7_read 127 = .ok (.ireturn, 1) := by decide +kernel
theorem d_X7_readPart_0 : dec m_X7_readPart 0 = .ok (.aload_n 0, 1) := by decide +kernel
theorem d_X7_readPart_1 : dec m_X7_readPart 1 = .ok (.invokevirtual 42, 3) := by decide +kernel
theorem d_X7_readPart_4 : dec m_X7_readPart 4 = .ok (.aload_n 0, 1) := by decide +kernel
theorem d_X7_readPart_5 : dec m_X7_readPart 5 = .ok (.getfield 29, 3) := by decide +kernel
theorem d_X7_readPart_8 : dec m_X7_readPart 8 = .ok (.istore_n 1, 1) := by decide +kernel
theorem d_X7_readPart_9 : dec m_X7_readPart 9 = .ok (.aload_n 0, 1) := by decide +kernel
theorem d_X7_readPart_10 : dec m_X7_readPart 10 = .ok (.invokevirtual 56, 3) := by decide +kernel
theorem d_X7_readPart_13 : dec m_X7_readPart 13 = .ok (.aload_n 0, 1) := by decide +kernel
theorem d_X7_readPart_14 : dec m_X7_readPart 14 = .ok (.iload_n 1, 1) := by decide +kernel
theorem d_X7_readPart_15 : dec m_X7_readPart 15 = .ok (.ldc 59, 2) := by decide +kernel
theorem d_X7_readPart_17 : dec m_X7_readPart 17 = .ok (.invokevirtual 61, 3) := by decide +kernel
theorem d_X7_readPart_20 : dec m_X7_readPart 20 = .ok (.ifCond .eq 12, 3) := by decide +kernel
theorem d_X7_readPart_23 : dec m_X7_readPart 23 = .ok (.aload_n 0, 1) := by decide +kernel
theorem d_X7_readPart_24 : dec m_X7_readPart 24 = .ok (.iload_n 1, 1) := by decide +kernel
theorem d_X7_readPart_25 : dec m_X7_readPart 25 = .ok (.iconst 0, 1) := by decide +kernel
theorem d_X7_readPart_26 : dec m_X7_readPart 26 = .ok (.invokevirtual 65, 3) := by decide +kernel
theorem d_X7_readPart_29 : dec m_X7_readPart 29 = .ok (.goto 64, 3) := by decide +kernel
theorem d_X7_readPart_32 : dec m_X7_readPart 32 = .ok (.aload_n 0, 1) := by decide +kernel
theorem d_X7_readPart_33 : dec m_X7_readPart 33 = .ok (.iload_n 1, 1) := by decide +kernel
theorem d_X7_readPart_34 : dec m_X7_readPart 34 = .ok (.ldc 69, 2) := by decide +kernel
theorem d_X7_readPart_36 : dec m_X7_readPart 36 = .ok (.invokevirtual 61, 3) := by decide +kernel
theorem d_X7_readPart_39 : dec m_X7_readPart 39 = .ok (.ifCond .eq 12, 3) := by decide +kernel
theorem d_X7_readPart_42 : dec m_X7_readPart 42 = .ok (.aload_n 0, 1) := by decide +kernel
theorem d_X7_readPart_43 : dec m_X7_readPart 43 = .ok (.iload_n 1, 1) := by decide +kernel
theorem d_X7_readPart_44 : dec m_X7_readPart 44 = .ok (.iconst 1, 1) := by decide +kernel
theorem d_X7_readPart_45 : dec m_X7_readPart 45 = .ok (.invokevirtual 65, 3) := by decide +kernel
theorem d_X7_readPart_48 : dec m_X7_readPart 48 = .ok (.goto 45, 3) := by decide +kernel
theorem d_X7_readPart_51 : dec m_X7_readPart 51 = .ok (.aload_n 0, 1) := by decide +kernel
theorem d_X7_readPart_52 : dec m_X7_readPart 52 = .ok (.iload_n 1, 1) := by decide +kernel
theorem d_X7_readPart_53 : dec m_X7_readPart 53 = .ok (.ldc 71, 2) := by decide +kernel
theorem d_X7_readPart_55 : dec m_X7_readPart 55 = .ok (.invokevirtual 61, 3) := by decide +kernel
theorem d_X7_readPart_58 : dec m_X7_readPart 58 = .ok (.ifCond .eq 11, 3) := by decide +kernel
theorem d_X7_readPart_61 : dec m_X7_readPart 61 = .ok (.aload_n 0, 1) := by decide +kernel
theorem d_X7_readPart_62 : dec m_X7_readPart 62 = .ok (.iload_n 1, 1) := by decide +kernel
theorem d_X7_readPart_63 : dec m_X7_readPart 63 = .ok (.invokevirtual 73, 3) := by decide +kernel
theorem d_X7_readPart_66 : dec m_X7_readPart 66 = .ok (.goto 27, 3) := by decide +kernel
theorem d_X7_readPart_69 : dec m_X7_readPart 69 = .ok (.aload_n 0, 1) := by decide +kernel
theorem d_X7_readPart_70 : dec m_X7_readPart 70 = .ok (.iload_n 1, 1) := by decide +kernel
theorem d_X7_readPart_71 : dec m_X7_readPart 71 = .ok (.ldc 77, 2) := by decide +kernel
theorem d_X7_readPart_73 : dec m_X7_readPart 73 = .ok (.invokevirtual 61, 3) := by decide +kernel
theorem d_X7_readPart_76 : dec m_X7_readPart 76 = .ok (.ifCond .eq 11, 3) := by decide +kernel
theorem d_X7_readPart_79 : dec m_X7_readPart 79 = .ok (.aload_n 0, 1) := by decide +kernel
theorem d_X7_readPart_80 : dec m_X7_readPart 80 = .ok (.iload_n 1, 1) := by decide +kernel
theorem d_X7_readPart_81 : dec m_X7_readPart 81 = .ok (.invokevirtual 79, 3) := by decide +kernel
theorem d_X7_readPart_84 : dec m_X7_readPart 84 = .ok (.goto 9, 3) := by decide +kernel
theorem d_X7_readPart_87 : dec m_X7_readPart 87 = .ok (.aload_n 0, 1) := by decide +kernel
theorem d_X7_readPart_88 : dec m_X7_readPart 88 = .ok (.iload_n 1, 1) := by decide +kernel
theorem d_X7_readPart_89 : dec m_X7_readPart 89 = .ok (.iconst 1, 1) := by decide +kernel
theorem d_X7_readPart_90 : dec m_X7_readPart 90 = .ok (.invokevirtual 52, 3) := by decide +kernel
theorem d_X7_readPart_93 : dec m_X7_readPart 93 = .ok (.return_, 1) := by decide +kernel
theorem d_X7_readTrader_0 : dec m_X7_readTrader 0 = .ok (.aload_n 0, 1) := by decide +kernel
theorem d_X7_readTrader_1 : dec m_X7_readTrader 1 = .ok (.getfield 18, 3) := by decide +kernel
theorem d_X7_readTrader_4 : dec m_X7_readTrader 4 = .ok (.getfield 82, 3) := by decide +kernel
theorem d_X7_readTrader_7 : dec m_X7_readTrader 7 = .ok (.bipush 20, 2) := by decide +kernel
theorem d_X7_readTrader_9 : dec m_X7_readTrader 9 = .ok (.if_icmp .lt 10, 3) := by decide +kernel
theorem d_X7_readTrader_12 : dec m_X7_readTrader 12 = .ok (.aload_n 0, 1) := by decide +kernel
theorem d_X7_readTrader_13 : dec m_X7_readTrader 13 = .ok (.iload_n 1, 1) := by decide +kernel
theorem d_X7_readTrader_14 : dec m_X7_readTrader 14 = .ok (.iconst 3, 1) := by decide +kernel
theorem d_X7_readTrader_15 : dec m_X7_readTrader 15 = .ok (.invokevirtual 52, 3) := by decide +kernel
theorem d_X7_readTrader_18 : dec m_X7_readTrader 18 = .ok (.return_, 1) := by decide +kernel
theorem d_X7_readTrader_19 : dec m_X7_readTrader 19 = .ok (.aload_n 0, 1) := by decide +kernel
theorem d_X7_readTrader_20 : dec m_X7_readTrader 20 = .ok (.iconst 3, 1) := by decide +kernel
theorem d_X7_readTrader_21 : dec m_X7_readTrader 21 = .ok (.invokevirtual 83, 3) := by decide +kernel
theorem d_X7_readTrader_24 : dec m_X7_readTrader 24 = .ok (.istore_n 3, 1) := by decide +kernel
theorem d_X7_readTrader_25 : dec m_X7_readTrader 25 = .ok (.aload_n 0, 1) := by decide +kernel
theorem d_X7_readTrader_26 : dec m_X7_readTrader 26 = .ok (.getfield 32, 3) := by decide +kernel
theorem d_X7_readTrader_29 : dec m_X7_readTrader 29 = .ok (.ifCond .eq 4, 3) := by decide +kernel
theorem d_X7_readTrader_32 : dec m_X7_readTrader 32 = .ok (.return_, 1) := by decide +kernel
theorem d_X7_readTrader_33 : dec m_X7_readTrader 33 = .ok (.aload_n 0, 1) := by decide +kernel
theorem d_X7_readTrader_34 : dec m_X7_readTrader 34 = .ok (.getfield 18, 3) := by decide +kernel
theorem d_X7_readTrader_37 : dec m_X7_readTrader 37 = .ok (.iload_n 2, 1) := by decide +kernel
theorem d_X7_readTrader_38 : dec m_X7_readTrader 38 = .ok (.iload_n 3, 1) := by decide +kernel
theorem d_X7_readTrader_39 : dec m_X7_readTrader 39 = .ok (.invokevirtual 86, 3) := by decide +kernel
theorem d_X7_readTrader_42 : dec m_X7_readTrader 42 = .ok (.istore 4, 2) := by decide +kernel
theorem d_X7_readTrader_44 : dec m_X7_readTrader 44 = .ok (.aload_n 0, 1) := by decide +kernel
theorem d_X7_readTrader_45 : dec m_X7_readTrader 45 = .ok (.invokevirtual 42, 3) := by decide +kernel
theorem d_X7_readTrader_48 : dec m_X7_readTrader 48 = .ok (.iconst 0, 1) := by decide +kernel
theorem d_X7_readTrader_49 : dec m_X7_readTrader 49 = .ok (.istore 5, 2) := by decide +kernel
theorem d_X7_readTrader_51 : dec m_X7_readTrader 51 = .ok (.iload 5, 2) := by decide +kernel
theorem d_X7_readTrader_53 : dec m_X7_readTrader 53 = .ok (.iconst 4, 1) := by decide +kernel
theorem d_X7_readTrader_54 : dec m_X7_readTrader 54 = .ok (.if_icmp .gt 115, 3) := by decide +kernel
theorem d_X7_readTrader_57 : dec m_X7_readTrader 57 = .ok (.aload_n 0, 1) := by decide +kernel
theorem d_X7_readTrader_58 : dec m_X7_readTrader 58 = .ok (.aload_n 0, 1) := by decide +kernel
theorem d_X7_readTrader_59 : dec m_X7_readTrader 59 = .ok (.getfield 29, 3) := by decide +kernel
theorem d_X7_readTrader_62 : dec m_X7_readTrader 62 = .ok (.invokevirtual 48, 3) := by decide +kernel
theorem d_X7_readTrader_65 : dec m_X7_readTrader 65 = .ok (.invokestatic 90, 3) := by decide +kernel
theorem d_X7_readTrader_68 : dec m_X7_readTrader 68 = .ok (.ifCond .eq 101, 3) := by decide +kernel
theorem d_X7_readTrader_71 : dec m_X7_readTrader 71 = .ok (.aload_n 0, 1) := by decide +kernel
theorem d_X7_readTrader_72 : dec m_X7_readTrader 72 = .ok (.getfield 29, 3) := by decide +kernel
theorem d_X7_readTrader_75 : dec m_X7_readTrader 75 = .ok (.istore 6, 2) := by decide +kernel
theorem d_X7_readTrader_77 : dec m_X7_readTrader 77 = .ok (.aload_n 0, 1) := by decide +kernel
theorem d_X7_readTrader_78 : dec m_X7_readTrader 78 = .ok (.sipush 9999, 3) := by decide +kernel
theorem d_X7_readTrader_81 : dec m_X7_readTrader 81 = .ok (.invokevirtual 83, 3) := by decide +kernel
theorem d_X7_readTrader_84 : dec m_X7_readTrader 84 = .ok (.istore 7, 2) := by decide +kernel
theorem d_X7_readTrader_86 : dec m_X7_readTrader 86 = .ok (.aload_n 0, 1) := by decide +kernel
theorem d_X7_readTrader_87 : dec m_X7_readTrader 87 = .ok (.getfield 32, 3) := by decide +kernel
theorem d_X7_readTrader_90 : dec m_X7_readTrader 90 = .ok (.ifCond .ne 29, 3) := by decide +kernel
theorem d_X7_readTrader_93 : dec m_X7_readTrader 93 = .ok (.aload_n 0, 1) := by decide +kernel
theorem d_X7_readTrader_94 : dec m_X7_readTrader 94 = .ok (.getfield 18, 3) := by decide +kernel
theorem d_X7_readTrader_97 : dec m_X7_readTrader 97 = .ok (.iload 4, 2) := by decide +kernel
theorem d_X7_readTrader_99 : dec m_X7_readTrader 99 = .ok (.iload 5, 2) := by decide +kernel
theorem d_X7_readTrader_101 : dec m_X7_readTrader 101 = .ok (.iload 7, 2) := by decide +kernel
theorem d_X7_readTrader_103 : dec m_X7_readTrader 103 = .ok (.invokevirtual 94, 3) := by decide +kernel
