set_option maxRecDepth 100000
theorem d_X5_offerUnits_13 : dec m_X5_offerUnits 13 = .ok (.iload_n 3, 1) := by decide +kernel
theorem d_X5_offerUnits_14 : dec m_X5_offerUnits 14 = .ok (.ifCond .eq 26, 3) := by decide +kernel
theorem d_X5_offerUnits_17 : dec m_X5_offerUnits 17 = .ok (.aload_n 0, 1) := by decide +kernel
theorem d_X5_offerUnits_18 : dec m_X5_offerUnits 18 = .ok (.aload_n 1, 1) := by decide +kernel
theorem d_X5_offerUnits_19 : dec m_X5_offerUnits 19 = .ok (.iload_n 2, 1) := by decide +kernel
theorem d_X5_offerUnits_20 : dec m_X5_offerUnits 20 = .ok (.iload 4, 2) := by decide +kernel
theorem d_X5_offerUnits_22 : dec m_X5_offerUnits 22 = .ok (.invokevirtual 46, 3) := by decide +kernel
theorem d_X5_offerUnits_25 : dec m_X5_offerUnits 25 = .ok (.aload_n 1, 1) := by decide +kernel
theorem d_X5_offerUnits_26 : dec m_X5_offerUnits 26 = .ok (.getfield 50, 3) := by decide +kernel
theorem d_X5_offerUnits_29 : dec m_X5_offerUnits 29 = .ok (.iadd, 1) := by decide +kernel
theorem d_X5_offerUnits_30 : dec m_X5_offerUnits 30 = .ok (.sipush 128, 3) := by decide +kernel
theorem d_X5_offerUnits_33 : dec m_X5_offerUnits 33 = .ok (.imul, 1) := by decide +kernel
theorem d_X5_offerUnits_34 : dec m_X5_offerUnits 34 = .ok (.invokevirtual 53, 3) := by decide +kernel
theorem d_X5_offerUnits_37 : dec m_X5_offerUnits 37 = .ok (.goto 20, 3) := by decide +kernel
theorem d_X5_offerUnits_40 : dec m_X5_offerUnits 40 = .ok (.aload_n 0, 1) := by decide +kernel
theorem d_X5_offerUnits_41 : dec m_X5_offerUnits 41 = .ok (.aload_n 1, 1) := by decide +kernel
theorem d_X5_offerUnits_42 : dec m_X5_offerUnits 42 = .ok (.iload_n 2, 1) := by decide +kernel
theorem d_X5_offerUnits_43 : dec m_X5_offerUnits 43 = .ok (.iload 4, 2) := by decide +kernel
theorem d_X5_offerUnits_45 : dec m_X5_offerUnits 45 = .ok (.invokevirtual 46, 3) := by decide +kernel
theorem d_X5_offerUnits_48 : dec m_X5_offerUnits 48 = .ok (.sipush 128, 3) := by decide +kernel
theorem d_X5_offerUnits_51 : dec m_X5_offerUnits 51 = .ok (.imul, 1) := by decide +kernel
theorem d_X5_offerUnits_52 : dec m_X5_offerUnits 52 = .ok (.iconst 1, 1) := by decide +kernel
theorem d_X5_offerUnits_53 : dec m_X5_offerUnits 53 = .ok (.isub, 1) := by decide +kernel
theorem d_X5_offerUnits_54 : dec m_X5_offerUnits 54 = .ok (.invokevirtual 57, 3) := by decide +kernel
theorem d_X5_offerUnits_57 : dec m_X5_offerUnits 57 = .ok (.iinc 4 1, 3) := by decide +kernel
theorem d_X5_offerUnits_60 : dec m_X5_offerUnits 60 = .ok (.goto (-57), 3) := by decide +kernel
theorem d_X5_offerUnits_63 : dec m_X5_offerUnits 63 = .ok (.return_, 1) := by decide +kernel
theorem d_X5_offerAsk_0 : dec m_X5_offerAsk 0 = .ok (.bipush 80, 2) := by decide +kernel
theorem d_X5_offerAsk_2 : dec m_X5_offerAsk 2 = .ok (.istore_n 2, 1) := by decide +kernel
theorem d_X5_offerAsk_3 : dec m_X5_offerAsk 3 = .ok (.iload_n 2, 1) := by decide +kernel
theorem d_X5_offerAsk_4 : dec m_X5_offerAsk 4 = .ok (.iconst 1, 1) := by decide +kernel
theorem d_X5_offerAsk_5 : dec m_X5_offerAsk 5 = .ok (.if_icmp .lt 34, 3) := by decide +kernel
theorem d_X5_offerAsk_8 : dec m_X5_offerAsk 8 = .ok (.aload_n 0, 1) := by decide +kernel
theorem d_X5_offerAsk_9 : dec m_X5_offerAsk 9 = .ok (.getfield 9, 3) := by decide +kernel
theorem d_X5_offerAsk_12 : dec m_X5_offerAsk 12 = .ok (.iload_n 2, 1) := by decide +kernel
theorem d_X5_offerAsk_13 : dec m_X5_offerAsk 13 = .ok (.aload_n 0, 1) := by decide +kernel
theorem d_X5_offerAsk_14 : dec m_X5_offerAsk 14 = .ok (.getfield 9, 3) := by decide +kernel
theorem d_X5_offerAsk_17 : dec m_X5_offerAsk 17 = .ok (.iload_n 2, 1) := by decide +kernel
theorem d_X5_offerAsk_18 : dec m_X5_offerAsk 18 = .ok (.iaload, 1) := by decide +kernel
theorem d_X5_offerAsk_19 : dec m_X5_offerAsk 19 = .ok (.aload_n 0, 1) := by decide +kernel
theorem d_X5_offerAsk_20 : dec m_X5_offerAsk 20 = .ok (.getfield 9, 3) := by decide +kernel
theorem d_X5_offerAsk_23 : dec m_X5_offerAsk 23 = .ok (.iload_n 2, 1) := by decide +kernel
theorem d_X5_offerAsk_24 : dec m_X5_offerAsk 24 = .ok (.iconst 1, 1) := by decide +kernel
theorem d_X5_offerAsk_25 : dec m_X5_offerAsk 25 = .ok (.isub, 1) := by decide +kernel
theorem d_X5_offerAsk_26 : dec m_X5_offerAsk 26 = .ok (.iaload, 1) := by decide +kernel
theorem d_X5_offerAsk_27 : dec m_X5_offerAsk 27 = .ok (.iload_n 1, 1) := by decide +kernel
theorem d_X5_offerAsk_28 : dec m_X5_offerAsk 28 = .ok (.isub, 1) := by decide +kernel
theorem d_X5_offerAsk_29 : dec m_X5_offerAsk 29 = .ok (.invokestatic 60, 3) := by decide +kernel
theorem d_X5_offerAsk_32 : dec m_X5_offerAsk 32 = .ok (.iastore, 1) := by decide +kernel
theorem d_X5_offerAsk_33 : dec m_X5_offerAsk 33 = .ok (.iinc 2 (-1), 3) := by decide +kernel
theorem d_X5_offerAsk_36 : dec m_X5_offerAsk 36 = .ok (.goto (-33), 3) := by decide +kernel
theorem d_X5_offerAsk_39 : dec m_X5_offerAsk 39 = .ok (.return_, 1) := by decide +kernel
theorem d_X5_offerBid_0 : dec m_X5_offerBid 0 = .ok (.iconst 0, 1) := by decide +kernel
theorem d_X5_offerBid_1 : dec m_X5_offerBid 1 = .ok (.istore_n 2, 1) := by decide +kernel
theorem d_X5_offerBid_2 : dec m_X5_offerBid 2 = .ok (.iload_n 2, 1) := by decide +kernel
theorem d_X5_offerBid_3 : dec m_X5_offerBid 3 = .ok (.bipush 80, 2) := by decide +kernel
theorem d_X5_offerBid_5 : dec m_X5_offerBid 5 = .ok (.if_icmp .ge 34, 3) := by decide +kernel
theorem d_X5_offerBid_8 : dec m_X5_offerBid 8 = .ok (.aload_n 0, 1) := by decide +kernel
theorem d_X5_offerBid_9 : dec m_X5_offerBid 9 = .ok (.getfield 9, 3) := by decide +kernel
theorem d_X5_offerBid_12 : dec m_X5_offerBid 12 = .ok (.iload_n 2, 1) := by decide +kernel
theorem d_X5_offerBid_13 : dec m_X5_offerBid 13 = .ok (.aload_n 0, 1) := by decide +kernel
theorem d_X5_offerBid_14 : dec m_X5_offerBid 14 = .ok (.getfield 9, 3) := by decide +kernel
theorem d_X5_offerBid_17 : dec m_X5_offerBid 17 = .ok (.iload_n 2, 1) := by decide +kernel
theorem d_X5_offerBid_18 : dec m_X5_offerBid 18 = .ok (.iaload, 1) := by decide +kernel
theorem d_X5_offerBid_19 : dec m_X5_offerBid 19 = .ok (.aload_n 0, 1) := by decide +kernel
theorem d_X5_offerBid_20 : dec m_X5_offerBid 20 = .ok (.getfield 9, 3) := by decide +kernel
theorem d_X5_offerBid_23 : dec m_X5_offerBid 23 = .ok (.iload_n 2, 1) := by decide +kernel
theorem d_X5_offerBid_24 : dec m_X5_offerBid 24 = .ok (.iconst 1, 1) := by decide +kernel
theorem d_X5_offerBid_25 : dec m_X5_offerBid 25 = .ok (.iadd, 1) := by decide +kernel
theorem d_X5_offerBid_26 : dec m_X5_offerBid 26 = .ok (.iaload, 1) := by decide +kernel
theorem d_X5_offerBid_27 : dec m_X5_offerBid 27 = .ok (.iload_n 1, 1) := by decide +kernel
theorem d_X5_offerBid_28 : dec m_X5_offerBid 28 = .ok (.iadd, 1) := by decide +kernel
theorem d_X5_offerBid_29 : dec m_X5_offerBid 29 = .ok (.invokestatic 60, 3) := by decide +kernel
theorem d_X5_offerBid_32 : dec m_X5_offerBid 32 = .ok (.iastore, 1) := by decide +kernel
theorem d_X5_offerBid_33 : dec m_X5_offerBid 33 = .ok (.iinc 2 1, 3) := by decide +kernel
theorem d_X5_offerBid_36 : dec m_X5_offerBid 36 = .ok (.goto (-34), 3) := by decide +kernel
theorem d_X5_offerBid_39 : dec m_X5_offerBid 39 = .ok (.return_, 1) := by decide +kernel
theorem d_X6_holds_0 : dec m_X6_holds 0 = .ok (.aload_n 0, 1) := by decide +kernel
theorem d_X6_holds_1 : dec m_X6_holds 1 = .ok (.getfield 18, 3) := by decide +kernel
theorem d_X6_holds_4 : dec m_X6_holds 4 = .ok (.iload_n 1, 1) := by decide +kernel
theorem d_X6_holds_5 : dec m_X6_holds 5 = .ok (.invokestatic 22, 3) := by decide +kernel
theorem d_X6_holds_8 : dec m_X6_holds 8 = .ok (.iand, 1) := by decide +kernel
theorem d_X6_holds_9 : dec m_X6_holds 9 = .ok (.ifCond .eq 7, 3) := by decide +kernel
theorem d_X6_holds_12 : dec m_X6_holds 12 = .ok (.iconst 1, 1) := by decide +kernel
theorem d_X6_holds_13 : dec m_X6_holds 13 = .ok (.goto 4, 3) := by decide +kernel
theorem d_X6_holds_16 : dec m_X6_holds 16 = .ok (.iconst 0, 1) := by decide +kernel
theorem d_X6_holds_17 : dec m_X6_holds 17 = .ok (.ireturn, 1) := by decide +kernel
theorem d_X6_put_0 : dec m_X6_put 0 = .ok (.aload_n 0, 1) := by decide +kernel
theorem d_X6_put_1 : dec m_X6_put 1 = .ok (.iload_n 1, 1) := by decide +kernel
theorem d_X6_put_2 : dec m_X6_put 2 = .ok (.invokevirtual 26, 3) := by decide +kernel
theorem d_X6_put_5 : dec m_X6_put 5 = .ok (.astore_n 3, 1) := by decide +kernel
theorem d_X6_put_6 : dec m_X6_put 6 = .ok (.aload_n 3, 1) := by decide +kernel
theorem d_X6_put_7 : dec m_X6_put 7 = .ok (.ifnull 21, 3) := by decide +kernel
theorem d_X6_put_10 : dec m_X6_put 10 = .ok (.aload_n 3, 1) := by decide +kernel
theorem d_X6_put_11 : dec m_X6_put 11 = .ok (.aload_n 2, 1) := by decide +kernel
theorem d_X6_put_12 : dec m_X6_put 12 = .ok (.invokevirtual 30, 3) := by decide +kernel
theorem d_X6_put_15 : dec m_X6_put 15 = .ok (.aload_n 0, 1) := by decide +kernel
theorem d_X6_put_16 : dec m_X6_put 16 = .ok (.dup, 1) := by decide +kernel
theorem d_X6_put_17 : dec m_X6_put 17 = .ok (.getfield 18, 3) := by decide +kernel
theorem d_X6_put_20 : dec m_X6_put 20 = .ok (.iload_n 1, 1) := by decide +kernel
theorem d_X6_put_21 : dec m_X6_put 21 = .ok (.invokestatic 22, 3) := by decide +kernel
theorem d_X6_put_24 : dec m_X6_put 24 = .ok (.ior, 1) := by decide +kernel
theorem d_X6_put_25 : dec m_X6_put 25 = .ok (.putfield 18, 3) := by decide +kernel
theorem d_X6_put_28 : dec m_X6_put 28 = .ok (.return_, 1) := by decide +kernel
theorem d_X6_fetch_0 : dec m_X6_fetch 0 = .ok (.aload_n 2, 1) := by decide +kernel
theorem d_X6_fetch_1 : dec m_X6_fetch 1 = .ok (.aload_n 0, 1) := by decide +kernel
theorem d_X6_fetch_2 : dec m_X6_fetch 2 = .ok (.iload_n 1, 1) := by decide +kernel
theorem d_X6_fetch_3 : dec m_X6_fetch 3 = .ok (.invokevirtual 26, 3) := by decide +kernel
theorem d_X6_fetch_6 : dec m_X6_fetch 6 = .ok (.invokevirtual 30, 3) := by decide +kernel
theorem d_X6_fetch_9 : dec m_X6_fetch 9 = .ok (.return_, 1) := by decide +kernel
theorem d_X6_at_0 : dec m_X6_at 0 = .ok (.iload_n 1, 1) := by decide +kernel
theorem d_X6_at_1 : dec m_X6_at 1 = .ok (.invokestatic 34, 3) := by decide +kernel
theorem d_X6_at_4 : dec m_X6_at 4 = .ok (.ifCond .eq 12, 3) := by decide +kernel
theorem d_X6_at_7 : dec m_X6_at 7 = .ok (.aload_n 0, 1) := by decide +kernel
theorem d_X6_at_8 : dec m_X6_at 8 = .ok (.getfield 11, 3) := by decide +kernel
theorem d_X6_at_11 : dec m_X6_at 11 = .ok (.iload_n 1, 1) := by decide +kernel
theorem d_X6_at_12 : dec m_X6_at 12 = .ok (.aaload, 1) := by decide +kernel
theorem d_X6_at_13 : dec m_X6_at 13 = .ok (.goto 4, 3) := by decide +kernel
theorem d_X6_at_16 : dec m_X6_at 16 = .ok (.aconst_null, 1) := by decide +kernel
theorem d_X6_at_17 : dec m_X6_at 17 = .ok (.areturn, 1) := by decide +kernel
theorem d_X7_append_0 : dec m_X7_append 0 = .ok (.bipush 24, 2) := by decide +kernel
theorem d_X7_append_2 : dec m_X7_append 2 = .ok (.istore_n 2, 1) := by decide +kernel
theorem d_X7_append_3 : dec m_X7_append 3 = .ok (.iload_n 2, 1) := by decide +kernel
theorem d_X7_append_4 : dec m_X7_append 4 = .ok (.ifCond .lt 52, 3) := by decide +kernel
theorem d_X7_append_7 : dec m_X7_append 7 = .ok (.aload_n 0, 1) := by decide +kernel
theorem d_X7_append_8 : dec m_X7_append 8 = .ok (.getfield 22, 3) := by decide +kernel
theorem d_X7_append_11 : dec m_X7_append 11 = .ok (.ifCond .lt 39, 3) := by decide +kernel
theorem d_X7_append_14 : dec m_X7_append 14 = .ok (.aload_n 0, 1) := by decide +kernel
theorem d_X7_append_15 : dec m_X7_append 15 = .ok (.getfield 22, 3) := by decide +kernel
theorem d_X7_append_18 : dec m_X7_append 18 = .ok (.sipush 400, 3) := by decide +kernel
theorem d_X7_append_21 : dec m_X7_append 21 = .ok (.if_icmp .ge 29, 3) := by decide +kernel
theorem d_X7_append_24 : dec m_X7_append 24 = .ok (.aload_n 0, 1) := by decide +kernel
theorem d_X7_append_25 : dec m_X7_append 25 = .ok (.getfield 9, 3) := by decide +kernel
theorem d_X7_append_28 : dec m_X7_append 28 = .ok (.aload_n 0, 1) := by decide +kernel
theorem d_X7_append_29 : dec m_X7_append 29 = .ok (.getfield 22, 3) := by decide +kernel
theorem d_X7_append_32 : dec m_X7_append 32 = .ok (.iload_n 1, 1) := by decide +kernel
theorem d_X7_append_33 : dec m_X7_append 33 = .ok (.iload_n 2, 1) := by decide +kernel
theorem d_X7_append_34 : dec m_X7_append 34 = .ok (.iushr, 1) := by decide +kernel
theorem d_X7_append_35 : dec m_X7_append 35 = .ok (.sipush 255, 3) := by decide +kernel
theorem d_X7_append_38 : dec m_X7_append 38 = .ok (.iand, 1) := by decide +kernel
theorem d_X7_append_39 : dec m_X7_append 39 = .ok (.iastore, 1) := by decide +kernel
theorem d_X7_append_40 : dec m_X7_append 40 = .ok (.aload_n 0, 1) := by decide +kernel
theorem d_X7_append_41 : dec m_X7_append 41 = .ok (.dup, 1) := by decide +kernel
theorem d_X7_append_42 : dec m_X7_append 42 = .ok (.getfield 22, 3) := by decide +kernel
theorem d_X7_append_45 : dec m_X7_append 45 = .ok (.iconst 1, 1) := by decide +kernel
theorem d_X7_append_46 : dec m_X7_append 46 = .ok (.iadd, 1) := by decide +kernel
theorem d_X7_append_47 : dec m_X7_append 47 = .ok (.putfield 22, 3) := by decide +kernel
theorem d_X7_append_50 : dec m_X7_append 50 = .ok (.iinc 2 (-8), 3) := by decide +kernel
theorem d_X7_append_53 : dec m_X7_append 53 = .ok (.goto (-50), 3) := by decide +kernel
theorem d_X7_append_56 : dec m_X7_append 56 = .ok (.return_, 1) := by decide +kernel
theorem d_X7_read_0 : dec m_X7_read 0 = .ok (.aload_n 0, 1) := by decide +kernel
theorem d_X7_read_1 : dec m_X7_read 1 = .ok (.getfield 18, 3) := by decide +kernel
theorem d_X7_read_4 : dec m_X7_read 4 = .ok (.invokevirtual 26, 3) := by decide +kernel
theorem d_X7_read_7 : dec m_X7_read 7 = .ok (.aload_n 0, 1) := by decide +kernel
theorem d_X7_read_8 : dec m_X7_read 8 = .ok (.iconst 0, 1) := by decide +kernel
theorem d_X7_read_9 : dec m_X7_read 9 = .ok (.putfield 29, 3) := by decide +kernel
theorem d_X7_read_12 : dec m_X7_read 12 = .ok (.aload_n 0, 1) := by decide +kernel
theorem d_X7_read_13 : dec m_X7_read 13 = .ok (.iconst 0, 1) := by decide +kernel
theorem d_X7_read_14 : dec m_X7_read 14 = .ok (.putfield 32, 3) := by decide +kernel
theorem d_X7_read_17 : dec m_X7_read 17 = .ok (.aload_n 0, 1) := by decide +kernel
theorem d_X7_read_18 : dec m_X7_read 18 = .ok (.iconst 0, 1) := by decide +kernel
theorem d_X7_read_19 : dec m_X7_read 19 = .ok (.putfield 35, 3) := by decide +kernel
theorem d_X7_read_22 : dec m_X7_read 22 = .ok (.aload_n 0, 1) := by decide +kernel
theorem d_X7_read_23 : dec m_X7_read 23 = .ok (.iconst 0, 1) := by decide +kernel
theorem d_X7_read_24 : dec m_X7_read 24 = .ok (.putfield 39, 3) := by decide +kernel
theorem d_X7_read_27 : dec m_X7_read 27 = .ok (.aload_n 0, 1) := by decide +kernel
theorem d_X7_read_28 : dec m_X7_read 28 = .ok (.invokevirtual 42, 3) := by decide +kernel
theorem d_X7_read_31 : dec m_X7_read 31 = .ok (.aload_n 0, 1) := by decide +kernel
theorem d_X7_read_32 : dec m_X7_read 32 = .ok (.getfield 29, 3) := by decide +kernel
theorem d_X7_read_35 : dec m_X7_read 35 = .ok (.aload_n 0, 1) := by decide +kernel
theorem d_X7_read_36 : dec m_X7_read 36 = .ok (.getfield 22, 3) := by decide +kernel
theorem d_X7_read_39 : dec m_X7_read 39 = .ok (.if_icmp .lt 5, 3) := by decide +kernel
theorem d_X7_read_42 : dec m_X7_read 42 = .ok (.iconst 0, 1) := by decide +kernel
theorem d_X7_read_43 : dec m_X7_read 43 = .ok (.ireturn, 1) := by decide +kernel
theorem d_X7_read_44 : dec m_X7_read 44 = .ok (.iconst 0, 1) := by decide +kernel
theorem d_X7_read_45 : dec m_X7_read 45 = .ok (.istore_n 1, 1) := by decide +kernel
theorem d_X7_read_46 : dec m_X7_read 46 = .ok (.iload_n 1, 1) := by decide +kernel
theorem d_X7_read_47 : dec m_X7_read 47 = .ok (.sipush 400, 3) := by decide +kernel
theorem d_X7_read_50 : dec m_X7_read 50 = .ok (.if_icmp .ge 73, 3) := by decide +kernel
theorem d_X7_read_53 : dec m_X7_read 53 = .ok (.aload_n 0, 1) := by decide +kernel
theorem d_X7_read_54 : dec m_X7_read 54 = .ok (.invokevirtual 45, 3) := by decide +kernel
theorem d_X7_read_57 : dec m_X7_read 57 = .ok (.aload_n 0, 1) := by decide +kernel
theorem d_X7_read_58 : dec m_X7_read 58 = .ok (.invokevirtual 42, 3) := by decide +kernel
theorem d_X7_read_61 : dec m_X7_read 61 = .ok (.aload_n 0, 1) := by decide +kernel
theorem d_X7_read_62 : dec m_X7_read 62 = .ok (.getfield 32, 3) := by decide +kernel
theorem d_X7_read_65 : dec m_X7_read 65 = .ok (.ifCond .ne 58, 3) := by decide +kernel
theorem d_X7_read_68 : dec m_X7_read 68 = .ok (.aload_n 0, 1) := by decide +kernel
theorem d_X7_read_69 : dec m_X7_read 69 = .ok (.getfield 29, 3) := by decide +kernel
theorem d_X7_read_72 : dec m_X7_read 72 = .ok (.aload_n 0, 1) := by decide +kernel
theorem d_X7_read_73 : dec m_X7_read 73 = .ok (.getfield 22, 3) := by decide +kernel
theorem d_X7_read_76 : dec m_X7_read 76 = .ok (.if_icmp .lt 6, 3) := by decide +kernel
theorem d_X7_read_79 : dec m_X7_read 79 = .ok (.goto 44, 3) := by decide +kernel
theorem d_X7_read_82 : dec m_X7_read 82 = .ok (.aload_n 0, 1) := by decide +kernel
theorem d_X7_read_83 : dec m_X7_read 83 = .ok (.aload_n 0, 1) := by decide +kernel
theorem d_X7_read_84 : dec m_X7_read 84 = .ok (.getfield 29, 3) := by decide +kernel
theorem d_X7_read_87 : dec m_X7_read 87 = .ok (.invokevirtual 48, 3) := by decide +kernel
theorem d_X7_read_90 : dec m_X7_read 90 = .ok (.bipush 59, 2) := by decide +kernel
theorem d_X7_read_92 : dec m_X7_read 92 = .ok (.if_icmp .eq 15, 3) := by decide +kernel
theorem d_X7_read_95 : dec m_X7_read 95 = .ok (.aload_n 0, 1) := by decide +kernel
theorem d_X7_read_96 : dec m_X7_read 96 = .ok (.aload_n 0, 1) := by decide +kernel
theorem d_X7_read_97 : dec m_X7_read 97 = .ok (.getfield 29, 3) := by decide +kernel
theorem d_X7_read_100 : dec m_X7_read 100 = .ok (.iconst 1, 1) := by decide +kernel
theorem d_X7_read_101 : dec m_X7_read 101 = .ok (.invokevirtual 52, 3) := by decide +kernel
theorem d_X7_read_104 : dec m_X7_read 104 = .ok (.goto 19, 3) := by decide +kernel
theorem d_X7_read_107 : dec m_X7_read 107 = .ok (.aload_n 0, 1) := by decide +kernel
theorem d_X7_read_108 : dec m_X7_read 108 = .ok (.dup, 1) := by decide +kernel
theorem d_X7_read_109 : dec m_X7_read 109 = .ok (.getfield 29, 3) := by decide +kernel
theorem d_X7_read_112 : dec m_X7_read 112 = .ok (.iconst 1, 1) := by decide +kernel
theorem d_X7_read_113 : dec m_X7_read 113 = .ok (.iadd, 1) := by decide +kernel
theorem d_X7_read_114 : dec m_X7_read 114 = .ok (.putfield 29, 3) := by decide +kernel
theorem d_X7_read_117 : dec m_X7_read 117 = .ok (.iinc 1 1, 3) := by decide +kernel
theorem d_X7_read_120 : dec m_X7_read 120 = .ok (.goto (-74), 3) := by decide +kernel
theorem d_X7_read_123 : dec m_X7_read 123 = .ok (.aload_n 0, 1) := by decide +kernel
theorem d_X7_read_124 : dec m_X7_read 124 = .ok (.getfield 32, 3) := by decide +kernel
theorem d_X7_read_127 : dec m_X7_read 127 = .ok (.ireturn, 1) := by decide +kernel
theorem d_X7_readPart_0 : dec m_X7_readPart 0 = .ok (.aload_n 0, 1) := by decide +kernel
theorem d_X7_readPart_1 : dec m_X7_readPart 1 = .ok (.invokevirtual 42, 3) := by decide +kernel
theorem d_X7_readPart_4 : dec m_X7_readPart 4 = .ok (.aload_n 0, 1) := by decide +kernel
theorem d_X7_readPart_5 : dec m_X7_readPart 5 = .ok (.getfield 29, 3) := by decide +kernel
theorem d_X7_readPart_8 : dec m_X7_readPart 8 = .ok (.istore_n 1, 1) := by decide +kernel
theorem d_X7_readPart_9 : dec m_X7_readPart 9 = .ok (.aload_n 0, 1) := by decide +kernel
theorem d_X7_readPart_10 : dec m_X7_readPart 10 = .ok (.invokevirtual 56, 3) := by decide +kernel
theorem d_X7_readPart_13 : dec m_X7_readPart 13 = .ok (.aload_n 0, 1) := by decide +kernel
theorem d_X7_readPart_14 : dec m_X7_readPart 14 = .ok (.iload_n 1, 1) := by decide +kernel
theorem d_X7_readPart_15 : dec m_X7_readPart 15 = .ok (.ldc 59, 2) := by decide +kernel
theorem d_X7_readPart_17 : dec m_X7_readPart 17 = .ok (.invokevirtual 61, 3) := by decide +kernel
theorem d_X7_readPart_20 : dec m_X7_readPart 20 = .ok (.ifCond .eq 12, 3) := by decide +kernel
theorem d_X7_readPart_23 : dec m_X7_readPart 23 = .ok (.aload_n 0, 1) := by decide +kernel
theorem d_X7_readPart_24 : dec m_X7_readPart 24 = .ok (.iload_n 1, 1) := by decide +kernel
theorem d_X7_readPart_25 : dec m_X7_readPart 25 = .ok (.iconst 0, 1) := by decide +kernel
theorem d_X7_readPart_26 : dec m_X7_readPart 26 = .ok (.invokevirtual 65, 3) := by decide +kernel
theorem d_X7_readPart_29 : dec m_X7_readPart 29 = .ok (.goto 64, 3) := by decide +kernel
theorem d_X7_readPart_32 : dec m_X7_readPart 32 = .ok (.aload_n 0, 1) := by decide +kernel
theorem d_X7_readPart_33 : dec m_X7_readPart 33 = .ok (.iload_n 1, 1) := by decide +kernel
theorem d_X7_readPart_34 : dec m_X7_readPart 34 = .ok (.ldc 69, 2) := by decide +kernel
theorem d_X7_readPart_36 : dec m_X7_readPart 36 = .ok (.invokevirtual 61, 3) := by decide +kernel
theorem d_X7_readPart_39 : dec m_X7_readPart 39 = .ok (.ifCond .eq 12, 3) := by decide +kernel
theorem d_X7_readPart_42 : dec m_X7_readPart 42 = .ok (.aload_n 0, 1) := by decide +kernel
theorem d_X7_readPart_43 : dec m_X7_readPart 43 = .ok (.iload_n 1, 1) := by decide +kernel
theorem d_X7_readPart_44 : dec m_X7_readPart 44 = .ok (.iconst 1, 1) := by decide +kernel
theorem d_X7_readPart_45 : dec m_X7_readPart 45 = .ok (.invokevirtual 65, 3) := by decide +kernel
theorem d_X7_readPart_48 : dec m_X7_readPart 48 = .ok (.goto 45, 3) := by decide +kernel
theorem d_X7_readPart_51 : dec m_X7_readPart 51 = .ok (.aload_n 0, 1) := by decide +kernel
theorem d_X7_readPart_52 : dec m_X7_readPart 52 = .ok (.iload_n 1, 1) := by decide +kernel
theorem d_X7_readPart_53 : dec m_X7_readPart 53 = .ok (.ldc 71, 2) := by decide +kernel
theorem d_X7_readPart_55 : dec m_X7_readPart 55 = .ok (.invokevirtual 61, 3) := by decide +kernel
theorem d_X7_readPart_58 : dec m_X7_readPart 58 = .ok (.ifCond .eq 11, 3) := by decide +kernel
theorem d_X7_readPart_61 : dec m_X7_readPart 61 = .ok (.aload_n 0, 1) := by decide +kernel
theorem d_X7_readPart_62 : dec m_X7_readPart 62 = .ok (.iload_n 1, 1) := by decide +kernel
theorem d_X7_readPart_63 : dec m_X7_readPart 63 = .ok (.invokevirtual 73, 3) := by decide +kernel
theorem d_X7_readPart_66 : dec m_X7_readPart 66 = .ok (.goto 27, 3) := by decide +kernel
theorem d_X7_readPart_69 : dec m_X7_readPart 69 = .ok (.aload_n 0, 1) := by decide +kernel
theorem d_X7_readPart_70 : dec m_X7_readPart 70 = .ok (.iload_n 1, 1) := by decide +kernel
theorem d_X7_readPart_71 : dec m_X7_readPart 71 = .ok (.ldc 77, 2) := by decide +kernel
theorem d_X7_readPart_73 : dec m_X7_readPart 73 = .ok (.invokevirtual 61, 3) := by decide +kernel
theorem d_X7_readPart_76 : dec m_X7_readPart 76 = .ok (.ifCond .eq 11, 3) := by decide +kernel
theorem d_X7_readPart_79 : dec m_X7_readPart 79 = .ok (.aload_n 0, 1) := by decide +kernel
theorem d_X7_readPart_80 : dec m_X7_readPart 80 = .ok (.iload_n 1, 1) := by decide +kernel
theorem d_X7_readPart_81 : dec m_X7_readPart 81 = .ok (.invokevirtual 79, 3) := by decide +kernel
theorem d_X7_readPart_84 : dec m_X7_readPart 84 = .ok (.goto 9, 3) := by decide +kernel
theorem d_X7_readPart_87 : dec m_X7_readPart 87 = .ok (.aload_n 0, 1) := by decide +kernel
theorem d_X7_readPart_88 : dec m_X7_readPart 88 = .ok (.iload_n 1, 1) := by decide +kernel
theorem d_X7_readPart_89 : dec m_X7_readPart 89 = .ok (.iconst 1, 1) := by decide +kernel
theorem d_X7_readPart_90 : dec m_X7_readPart 90 = .ok (.invokevirtual 52, 3) := by decide +kernel
theorem d_X7_readPart_93 : dec m_X7_readPart 93 = .ok (.return_, 1) := by decide +kernel
theorem d_X7_readTrader_0 : dec m_X7_readTrader 0 = .ok (.aload_n 0, 1) := by decide +kernel
theorem d_X7_readTrader_1 : dec m_X7_readTrader 1 = .ok (.getfield 18, 3) := by decide +kernel
theorem d_X7_readTrader_4 : dec m_X7_readTrader 4 = .ok (.getfield 82, 3) := by decide +kernel
theorem d_X7_readTrader_7 : dec m_X7_readTrader 7 = .ok (.bipush 20, 2) := by decide +kernel
theorem d_X7_readTrader_9 : dec m_X7_readTrader 9 = .ok (.if_icmp .lt 10, 3) := by decide +kernel
theorem d_X7_readTrader_12 : dec m_X7_readTrader 12 = .ok (.aload_n 0, 1) := by decide +kernel
theorem d_X7_readTrader_13 : dec m_X7_readTrader 13 = .ok (.iload_n 1, 1) := by decide +kernel
theorem d_X7_readTrader_14 : dec m_X7_readTrader 14 = .ok (.iconst 3, 1) := by decide +kernel
theorem d_X7_readTrader_15 : dec m_X7_readTrader 15 = .ok (.invokevirtual 52, 3) := by decide +kernel
theorem d_X7_readTrader_18 : dec m_X7_readTrader 18 = .ok (.return_, 1) := by decide +kernel
theorem d_X7_readTrader_19 : dec m_X7_readTrader 19 = .ok (.aload_n 0, 1) := by decide +kernel
theorem d_X7_readTrader_20 : dec m_X7_readTrader 20 = .ok (.iconst 3, 1) := by decide +kernel
theorem d_X7_readTrader_21 : dec m_X7_readTrader 21 = .ok (.invokevirtual 83, 3) := by decide +kernel
theorem d_X7_readTrader_24 : dec m_X7_readTrader 24 = .ok (.istore_n 3, 1) := by decide +kernel
theorem d_X7_readTrader_25 : dec m_X7_readTrader 25 = .ok (.aload_n 0, 1) := by decide +kernel
theorem d_X7_readTrader_26 : dec m_X7_readTrader 26 = .ok (.getfield 32, 3) := by decide +kernel
theorem d_X7_readTrader_29 : dec m_X7_readTrader 29 = .ok (.ifCond .eq 4, 3) := by decide +kernel
theorem d_X7_readTrader_32 : dec m_X7_readTrader 32 = .ok (.return_, 1) := by decide +kernel
theorem d_X7_readTrader_33 : dec m_X7_readTrader 33 = .ok (.aload_n 0, 1) := by decide +kernel
theorem d_X7_readTrader_34 : dec m_X7_readTrader 34 = .ok (.getfield 18, 3) := by decide +kernel
theorem d_X7_readTrader_37 : dec m_X7_readTrader 37 = .ok (.iload_n 2, 1) := by decide +kernel
theorem d_X7_readTrader_38 : dec m_X7_readTrader 38 = .ok (.iload_n 3, 1) := by decide +kernel
theorem d_X7_readTrader_39 : dec m_X7_readTrader 39 = .ok (.invokevirtual 86, 3) := by decide +kernel
theorem d_X7_readTrader_42 : dec m_X7_readTrader 42 = .ok (.istore 4, 2) := by decide +kernel
theorem d_X7_readTrader_44 : dec m_X7_readTrader 44 = .ok (.aload_n 0, 1) := by decide +kernel
theorem d_X7_readTrader_45 : dec m_X7_readTrader 45 = .ok (.invokevirtual 42, 3) := by decide +kernel
theorem d_X7_readTrader_48 : dec m_X7_readTrader 48 = .ok (.iconst 0, 1) := by decide +kernel
theorem d_X7_readTrader_49 : dec m_X7_readTrader 49 = .ok (.istore 5, 2) := by decide +kernel
theorem d_X7_readTrader_51 : dec m_X7_readTrader 51 = .ok (.iload 5, 2) := by decide +kernel
theorem d_X7_readTrader_53 : dec m_X7_readTrader 53 = .ok (.iconst 4, 1) := by decide +kernel
theorem d_X7_readTrader_54 : dec m_X7_readTrader 54 = .ok (.if_icmp .gt 115, 3) := by decide +kernel
theorem d_X7_readTrader_57 : dec m_X7_readTrader 57 = .ok (.aload_n 0, 1) := by decide +kernel
theorem d_X7_readTrader_58 : dec m_X7_readTrader 58 = .ok (.aload_n 0, 1) := by decide +kernel
theorem d_X7_readTrader_59 : dec m_X7_readTrader 59 = .ok (.getfield 29, 3) := by decide +kernel
theorem d_X7_readTrader_62 : dec m_X7_readTrader 62 = .ok (.invokevirtual 48, 3) := by decide +kernel
theorem d_X7_readTrader_65 : dec m_X7_readTrader 65 = .ok (.invokestatic 90, 3) := by decide +kernel
theorem d_X7_readTrader_68 : dec m_X7_readTrader 68 = .ok (.ifCond .eq 101, 3) := by decide +kernel
theorem d_X7_readTrader_71 : dec m_X7_readTrader 71 = .ok (.aload_n 0, 1) := by decide +kernel
theorem d_X7_readTrader_72 : dec m_X7_readTrader 72 = .ok (.getfield 29, 3) := by decide +kernel
theorem d_X7_readTrader_75 : dec m_X7_readTrader 75 = .ok (.istore 6, 2) := by decide +kernel
theorem d_X7_readTrader_77 : dec m_X7_readTrader 77 = .ok (.aload_n 0, 1) := by decide +kernel
theorem d_X7_readTrader_78 : dec m_X7_readTrader 78 = .ok (.sipush 9999, 3) := by decide +kernel
theorem d_X7_readTrader_81 : dec m_X7_readTrader 81 = .ok (.invokevirtual 83, 3) := by decide +kernel
theorem d_X7_readTrader_84 : dec m_X7_readTrader 84 = .ok (.istore 7, 2) := by decide +kernel
theorem d_X7_readTrader_86 : dec m_X7_readTrader 86 = .ok (.aload_n 0, 1) := by decide +kernel
theorem d_X7_readTrader_87 : dec m_X7_readTrader 87 = .ok (.getfield 32, 3) := by decide +kernel
theorem d_X7_readTrader_90 : dec m_X7_readTrader 90 = .ok (.ifCond .ne 29, 3) := by decide +kernel
theorem d_X7_readTrader_93 : dec m_X7_readTrader 93 = .ok (.aload_n 0, 1) := by decide +kernel
theorem d_X7_readTrader_94 : dec m_X7_readTrader 94 = .ok (.getfield 18, 3) := by decide +kernel
theorem d_X7_readTrader_97 : dec m_X7_readTrader 97 = .ok (.iload 4, 2) := by decide +kernel
theorem d_X7_readTrader_99 : dec m_X7_readTrader 99 = .ok (.iload 5, 2) := by decide +kernel
theorem d_X7_readTrader_101 : dec m_X7_readTrader 101 = .ok (.iload 7, 2) := by decide +kernel
theorem d_X7_readTrader_103 : dec m_X7_readTrader 103 = .ok (.invokevirtual 94, 3) := by decide +kernel
theorem d_X7_readTrader_106 : dec m_X7_readTrader 106 = .ok (.ifCond .ne 13, 3) := by decide +kernel
theorem d_X7_readTrader_109 : dec m_X7_readTrader 109 = .ok (.aload_n 0, 1) := by decide +kernel
theorem d_X7_readTrader_110 : dec m_X7_readTrader 110 = .ok (.iload 6, 2) := by decide +kernel
theorem d_X7_readTrader_112 : dec m_X7_readTrader 112 = .ok (.iconst 2, 1) := by decide +kernel
theorem d_X7_readTrader_113 : dec m_X7_readTrader 113 = .ok (.invokevirtual 52, 3) := by decide +kernel
theorem d_X7_readTrader_116 : dec m_X7_readTrader 116 = .ok (.goto 23, 3) := by decide +kernel
theorem d_X7_readTrader_119 : dec m_X7_readTrader 119 = .ok (.aload_n 0, 1) := by decide +kernel
theorem d_X7_readTrader_120 : dec m_X7_readTrader 120 = .ok (.getfield 32, 3) := by decide +kernel
theorem d_X7_readTrader_123 : dec m_X7_readTrader 123 = .ok (.ifCond .ne 16, 3) := by decide +kernel
theorem d_X7_readTrader_126 : dec m_X7_readTrader 126 = .ok (.iload 5, 2) := by decide +kernel
theorem d_X7_readTrader_128 : dec m_X7_readTrader 128 = .ok (.iconst 4, 1) := by decide +kernel
theorem d_X7_readTrader_129 : dec m_X7_readTrader 129 = .ok (.if_icmp .lt 10, 3) := by decide +kernel
theorem d_X7_readTrader_132 : dec m_X7_readTrader 132 = .ok (.aload_n 0, 1) := by decide +kernel
theorem d_X7_readTrader_133 : dec m_X7_readTrader 133 = .ok (.iload 6, 2) := by decide +kernel
theorem d_X7_readTrader_135 : dec m_X7_readTrader 135 = .ok (.iconst 3, 1) := by decide +kernel
theorem d_X7_readTrader_136 : dec m_X7_readTrader 136 = .ok (.invokevirtual 52, 3) := by decide +kernel
theorem d_X7_readTrader_139 : dec m_X7_readTrader 139 = .ok (.aload_n 0, 1) := by decide +kernel
theorem d_X7_readTrader_140 : dec m_X7_readTrader 140 = .ok (.getfield 32, 3) := by decide +kernel
theorem d_X7_readTrader_143 : dec m_X7_readTrader 143 = .ok (.ifCond .eq 4, 3) := by decide +kernel
theorem d_X7_readTrader_146 : dec m_X7_readTrader 146 = .ok (.return_, 1) := by decide +kernel
theorem d_X7_readTrader_147 : dec m_X7_readTrader 147 = .ok (.aload_n 0, 1) := by decide +kernel
theorem d_X7_readTrader_148 : dec m_X7_readTrader 148 = .ok (.getfield 18, 3) := by decide +kernel
theorem d_X7_readTrader_151 : dec m_X7_readTrader 151 = .ok (.iload 4, 2) := by decide +kernel
theorem d_X7_readTrader_153 : dec m_X7_readTrader 153 = .ok (.iload 7, 2) := by decide +kernel
theorem d_X7_readTrader_155 : dec m_X7_readTrader 155 = .ok (.invokevirtual 98, 3) := by decide +kernel
theorem d_X7_readTrader_158 : dec m_X7_readTrader 158 = .ok (.pop, 1) := by decide +kernel
theorem d_X7_readTrader_159 : dec m_X7_readTrader 159 = .ok (.aload_n 0, 1) := by decide +kernel
theorem d_X7_readTrader_160 : dec m_X7_readTrader 160 = .ok (.invokevirtual 42, 3) := by decide +kernel
theorem d_X7_readTrader_163 : dec m_X7_readTrader 163 = .ok (.iinc 5 1, 3) := by decide +kernel
theorem d_X7_readTrader_166 : dec m_X7_readTrader 166 = .ok (.goto (-115), 3) := by decide +kernel
theorem d_X7_readTrader_169 : dec m_X7_readTrader 169 = .ok (.return_, 1) := by decide +kernel
theorem d_X7_readFee_0 : dec m_X7_readFee 0 = .ok (.aload_n 0, 1) := by decide +kernel
theorem d_X7_readFee_1 : dec m_X7_readFee 1 = .ok (.getfield 35, 3) := by decide +kernel
theorem d_X7_readFee_4 : dec m_X7_readFee 4 = .ok (.ifCond .eq 10, 3) := by decide +kernel
theorem d_X7_readFee_7 : dec m_X7_readFee 7 = .ok (.aload_n 0, 1) := by decide +kernel
theorem d_X7_readFee_8 : dec m_X7_readFee 8 = .ok (.iload_n 1, 1) := by decide +kernel
theorem d_X7_readFee_9 : dec m_X7_readFee 9 = .ok (.iconst 3, 1) := by decide +kernel
theorem d_X7_readFee_10 : dec m_X7_readFee 10 = .ok (.invokevirtual 52, 3) := by decide +kernel
theorem d_X7_readFee_13 : dec m_X7_readFee 13 = .ok (.return_, 1) := by decide +kernel
theorem d_X7_readFee_14 : dec m_X7_readFee 14 = .ok (.aload_n 0, 1) := by decide +kernel
theorem d_X7_readFee_15 : dec m_X7_readFee 15 = .ok (.iconst 1, 1) := by decide +kernel
theorem d_X7_readFee_16 : dec m_X7_readFee 16 = .ok (.putfield 35, 3) := by decide +kernel
theorem d_X7_readFee_19 : dec m_X7_readFee 19 = .ok (.aload_n 0, 1) := by decide +kernel
theorem d_X7_readFee_20 : dec m_X7_readFee 20 = .ok (.getfield 18, 3) := by decide +kernel
theorem d_X7_readFee_23 : dec m_X7_readFee 23 = .ok (.aload_n 0, 1) := by decide +kernel
theorem d_X7_readFee_24 : dec m_X7_readFee 24 = .ok (.sipush 500, 3) := by decide +kernel
theorem d_X7_readFee_27 : dec m_X7_readFee 27 = .ok (.invokevirtual 83, 3) := by decide +kernel
theorem d_X7_readFee_30 : dec m_X7_readFee 30 = .ok (.putfield 102, 3) := by decide +kernel
theorem d_X7_readFee_33 : dec m_X7_readFee 33 = .ok (.return_, 1) := by decide +kernel
theorem d_X7_readLaw_0 : dec m_X7_readLaw 0 = .ok (.aload_n 0, 1) := by decide +kernel
theorem d_X7_readLaw_1 : dec m_X7_readLaw 1 = .ok (.getfield 39, 3) := by decide +kernel
theorem d_X7_readLaw_4 : dec m_X7_readLaw 4 = .ok (.ifCond .eq 10, 3) := by decide +kernel
theorem d_X7_readLaw_7 : dec m_X7_readLaw 7 = .ok (.aload_n 0, 1) := by decide +kernel
theorem d_X7_readLaw_8 : dec m_X7_readLaw 8 = .ok (.iload_n 1, 1) := by decide +kernel
theorem d_X7_readLaw_9 : dec m_X7_readLaw 9 = .ok (.iconst 3, 1) := by decide +kernel
theorem d_X7_readLaw_10 : dec m_X7_readLaw 10 = .ok (.invokevirtual 52, 3) := by decide +kernel
theorem d_X7_readLaw_13 : dec m_X7_readLaw 13 = .ok (.return_, 1) := by decide +kernel
theorem d_X7_readLaw_14 : dec m_X7_readLaw 14 = .ok (.aload_n 0, 1) := by decide +kernel
theorem d_X7_readLaw_15 : dec m_X7_readLaw 15 = .ok (.iconst 1, 1) := by decide +kernel
theorem d_X7_readLaw_16 : dec m_X7_readLaw 16 = .ok (.putfield 39, 3) := by decide +kernel
theorem d_X7_readLaw_19 : dec m_X7_readLaw 19 = .ok (.aload_n 0, 1) := by decide +kernel
theorem d_X7_readLaw_20 : dec m_X7_readLaw 20 = .ok (.invokevirtual 42, 3) := by decide +kernel
theorem d_X7_readLaw_23 : dec m_X7_readLaw 23 = .ok (.aload_n 0, 1) := by decide +kernel
theorem d_X7_readLaw_24 : dec m_X7_readLaw 24 = .ok (.getfield 29, 3) := by decide +kernel
theorem d_X7_readLaw_27 : dec m_X7_readLaw 27 = .ok (.istore_n 2, 1) := by decide +kernel
theorem d_X7_readLaw_28 : dec m_X7_readLaw 28 = .ok (.aload_n 0, 1) := by decide +kernel
theorem d_X7_readLaw_29 : dec m_X7_readLaw 29 = .ok (.invokevirtual 56, 3) := by decide +kernel
theorem d_X7_readLaw_32 : dec m_X7_readLaw 32 = .ok (.iconst 0, 1) := by decide +kernel
theorem d_X7_readLaw_33 : dec m_X7_readLaw 33 = .ok (.istore_n 3, 1) := by decide +kernel
theorem d_X7_readLaw_34 : dec m_X7_readLaw 34 = .ok (.iload_n 3, 1) := by decide +kernel
theorem d_X7_readLaw_35 : dec m_X7_readLaw 35 = .ok (.iconst 3, 1) := by decide +kernel
theorem d_X7_readLaw_36 : dec m_X7_readLaw 36 = .ok (.if_icmp .gt 30, 3) := by decide +kernel
theorem d_X7_readLaw_39 : dec m_X7_readLaw 39 = .ok (.aload_n 0, 1) := by decide +kernel
theorem d_X7_readLaw_40 : dec m_X7_readLaw 40 = .ok (.iload_n 2, 1) := by decide +kernel
theorem d_X7_readLaw_41 : dec m_X7_readLaw 41 = .ok (.iload_n 3, 1) := by decide +kernel
theorem d_X7_readLaw_42 : dec m_X7_readLaw 42 = .ok (.invokestatic 104, 3) := by decide +kernel
theorem d_X7_readLaw_45 : dec m_X7_readLaw 45 = .ok (.invokevirtual 61, 3) := by decide +kernel
theorem d_X7_readLaw_48 : dec m_X7_readLaw 48 = .ok (.ifCond .eq 12, 3) := by decide +kernel
theorem d_X7_readLaw_51 : dec m_X7_readLaw 51 = .ok (.aload_n 0, 1) := by decide +kernel
theorem d_X7_readLaw_52 : dec m_X7_readLaw 52 = .ok (.getfield 18, 3) := by decide +kernel
theorem d_X7_readLaw_55 : dec m_X7_readLaw 55 = .ok (.iload_n 3, 1) := by decide +kernel
theorem d_X7_readLaw_56 : dec m_X7_readLaw 56 = .ok (.putfield 108, 3) := by decide +kernel
theorem d_X7_readLaw_59 : dec m_X7_readLaw 59 = .ok (.return_, 1) := by decide +kernel
theorem d_X7_readLaw_60 : dec m_X7_readLaw 60 = .ok (.iinc 3 1, 3) := by decide +kernel
theorem d_X7_readLaw_63 : dec m_X7_readLaw 63 = .ok (.goto (-29), 3) := by decide +kernel
theorem d_X7_readLaw_66 : dec m_X7_readLaw 66 = .ok (.aload_n 0, 1) := by decide +kernel
theorem d_X7_readLaw_67 : dec m_X7_readLaw 67 = .ok (.iload_n 2, 1) := by decide +kernel
theorem d_X7_readLaw_68 : dec m_X7_readLaw 68 = .ok (.iconst 1, 1) := by decide +kernel
theorem d_X7_readLaw_69 : dec m_X7_readLaw 69 = .ok (.invokevirtual 52, 3) := by decide +kernel
theorem d_X7_readLaw_72 : dec m_X7_readLaw 72 = .ok (.return_, 1) := by decide +kernel
theorem d_X7_readNumber_0 : dec m_X7_readNumber 0 = .ok (.aload_n 0, 1) := by decide +kernel
theorem d_X7_readNumber_1 : dec m_X7_readNumber 1 = .ok (.invokevirtual 42, 3) := by decide +kernel
theorem d_X7_readNumber_4 : dec m_X7_readNumber 4 = .ok (.aload_n 0, 1) := by decide +kernel
theorem d_X7_readNumber_5 : dec m_X7_readNumber 5 = .ok (.getfield 29, 3) := by decide +kernel
theorem d_X7_readNumber_8 : dec m_X7_readNumber 8 = .ok (.istore_n 2, 1) := by decide +kernel
theorem d_X7_readNumber_9 : dec m_X7_readNumber 9 = .ok (.iconst 0, 1) := by decide +kernel
theorem d_X7_readNumber_10 : dec m_X7_readNumber 10 = .ok (.istore_n 3, 1) := by decide +kernel
theorem d_X7_readNumber_11 : dec m_X7_readNumber 11 = .ok (.aload_n 0, 1) := by decide +kernel
theorem d_X7_readNumber_12 : dec m_X7_readNumber 12 = .ok (.getfield 29, 3) := by decide +kernel
theorem d_X7_readNumber_15 : dec m_X7_readNumber 15 = .ok (.aload_n 0, 1) := by decide +kernel
theorem d_X7_readNumber_16 : dec m_X7_readNumber 16 = .ok (.getfield 22, 3) := by decide +kernel
theorem d_X7_readNumber_19 : dec m_X7_readNumber 19 = .ok (.if_icmp .ge 53, 3) := by decide +kernel
theorem d_X7_readNumber_22 : dec m_X7_readNumber 22 = .ok (.aload_n 0, 1) := by decide +kernel
theorem d_X7_readNumber_23 : dec m_X7_readNumber 23 = .ok (.aload_n 0, 1) := by decide +kernel
theorem d_X7_readNumber_24 : dec m_X7_readNumber 24 = .ok (.getfield 29, 3) := by decide +kernel
theorem d_X7_readNumber_27 : dec m_X7_readNumber 27 = .ok (.invokevirtual 48, 3) := by decide +kernel
theorem d_X7_readNumber_30 : dec m_X7_readNumber 30 = .ok (.invokestatic 90, 3) := by decide +kernel
theorem d_X7_readNumber_33 : dec m_X7_readNumber 33 = .ok (.ifCond .eq 39, 3) := by decide +kernel
theorem d_X7_readNumber_36 : dec m_X7_readNumber 36 = .ok (.iload_n 3, 1) := by decide +kernel
theorem d_X7_readNumber_37 : dec m_X7_readNumber 37 = .ok (.bipush 10, 2) := by decide +kernel
theorem d_X7_readNumber_39 : dec m_X7_readNumber 39 = .ok (.imul, 1) := by decide +kernel
theorem d_X7_readNumber_40 : dec m_X7_readNumber 40 = .ok (.aload_n 0, 1) := by decide +kernel
theorem d_X7_readNumber_41 : dec m_X7_readNumber 41 = .ok (.aload_n 0, 1) := by decide +kernel
theorem d_X7_readNumber_42 : dec m_X7_readNumber 42 = .ok (.getfield 29, 3) := by decide +kernel
theorem d_X7_readNumber_45 : dec m_X7_readNumber 45 = .ok (.invokevirtual 48, 3) := by decide +kernel
theorem d_X7_readNumber_48 : dec m_X7_readNumber 48 = .ok (.iadd, 1) := by decide +kernel
theorem d_X7_readNumber_49 : dec m_X7_readNumber 49 = .ok (.bipush 48, 2) := by decide +kernel
theorem d_X7_readNumber_51 : dec m_X7_readNumber 51 = .ok (.isub, 1) := by decide +kernel
theorem d_X7_readNumber_52 : dec m_X7_readNumber 52 = .ok (.sipush 10000, 3) := by decide +kernel
theorem d_X7_readNumber_55 : dec m_X7_readNumber 55 = .ok (.invokestatic 110, 3) := by decide +kernel
theorem d_X7_readNumber_58 : dec m_X7_readNumber 58 = .ok (.istore_n 3, 1) := by decide +kernel
theorem d_X7_readNumber_59 : dec m_X7_readNumber 59 = .ok (.aload_n 0, 1) := by decide +kernel
theorem d_X7_readNumber_60 : dec m_X7_readNumber 60 = .ok (.dup, 1) := by decide +kernel
theorem d_X7_readNumber_61 : dec m_X7_readNumber 61 = .ok (.getfield 29, 3) := by decide +kernel
theorem d_X7_readNumber_64 : dec m_X7_readNumber 64 = .ok (.iconst 1, 1) := by decide +kernel
theorem d_X7_readNumber_65 : dec m_X7_readNumber 65 = .ok (.iadd, 1) := by decide +kernel
theorem d_X7_readNumber_66 : dec m_X7_readNumber 66 = .ok (.putfield 29, 3) := by decide +kernel
theorem d_X7_readNumber_69 : dec m_X7_readNumber 69 = .ok (.goto (-58), 3) := by decide +kernel
theorem d_X7_readNumber_72 : dec m_X7_readNumber 72 = .ok (.aload_n 0, 1) := by decide +kernel
theorem d_X7_readNumber_73 : dec m_X7_readNumber 73 = .ok (.getfield 29, 3) := by decide +kernel
theorem d_X7_readNumber_76 : dec m_X7_readNumber 76 = .ok (.iload_n 2, 1) := by decide +kernel
theorem d_X7_readNumber_77 : dec m_X7_readNumber 77 = .ok (.if_icmp .ne 12, 3) := by decide +kernel
theorem d_X7_readNumber_80 : dec m_X7_readNumber 80 = .ok (.aload_n 0, 1) := by decide +kernel
theorem d_X7_readNumber_81 : dec m_X7_readNumber 81 = .ok (.iload_n 2, 1) := by decide +kernel
theorem d_X7_readNumber_82 : dec m_X7_readNumber 82 = .ok (.iconst 1, 1) := by decide +kernel
theorem d_X7_readNumber_83 : dec m_X7_readNumber 83 = .ok (.invokevirtual 52, 3) := by decide +kernel
theorem d_X7_readNumber_86 : dec m_X7_readNumber 86 = .ok (.goto 14, 3) := by decide +kernel
theorem d_X7_readNumber_89 : dec m_X7_readNumber 89 = .ok (.iload_n 3, 1) := by decide +kernel
theorem d_X7_readNumber_90 : dec m_X7_readNumber 90 = .ok (.iload_n 1, 1) := by decide +kernel
theorem d_X7_readNumber_91 : dec m_X7_readNumber 91 = .ok (.if_icmp .le 9, 3) := by decide +kernel
theorem d_X7_readNumber_94 : dec m_X7_readNumber 94 = .ok (.aload_n 0, 1) := by decide +kernel
theorem d_X7_readNumber_95 : dec m_X7_readNumber 95 = .ok (.iload_n 2, 1) := by decide +kernel
theorem d_X7_readNumber_96 : dec m_X7_readNumber 96 = .ok (.iconst 2, 1) := by decide +kernel
theorem d_X7_readNumber_97 : dec m_X7_readNumber 97 = .ok (.invokevirtual 52, 3) := by decide +kernel
theorem d_X7_readNumber_100 : dec m_X7_readNumber 100 = .ok (.iload_n 3, 1) := by decide +kernel
theorem d_X7_readNumber_101 : dec m_X7_readNumber 101 = .ok (.ireturn, 1) := by decide +kernel
theorem d_X7_note_0 : dec m_X7_note 0 = .ok (.aload_n 0, 1) := by decide +kernel
theorem d_X7_note_1 : dec m_X7_note 1 = .ok (.bipush 8, 2) := by decide +kernel
theorem d_X7_note_3 : dec m_X7_note 3 = .ok (.iload_n 1, 1) := by decide +kernel
theorem d_X7_note_4 : dec m_X7_note 4 = .ok (.imul, 1) := by decide +kernel
theorem d_X7_note_5 : dec m_X7_note 5 = .ok (.iload_n 2, 1) := by decide +kernel
theorem d_X7_note_6 : dec m_X7_note 6 = .ok (.iadd, 1) := by decide +kernel
theorem d_X7_note_7 : dec m_X7_note 7 = .ok (.putfield 32, 3) := by decide +kernel
theorem d_X7_note_10 : dec m_X7_note 10 = .ok (.return_, 1) := by decide +kernel
theorem d_X7_skipBlanks_0 : dec m_X7_skipBlanks 0 = .ok (.aload_n 0, 1) := by decide +kernel
theorem d_X7_skipBlanks_1 : dec m_X7_skipBlanks 1 = .ok (.getfield 29, 3) := by decide +kernel
theorem d_X7_skipBlanks_4 : dec m_X7_skipBlanks 4 = .ok (.aload_n 0, 1) := by decide +kernel
theorem d_X7_skipBlanks_5 : dec m_X7_skipBlanks 5 = .ok (.getfield 22, 3) := by decide +kernel
theorem d_X7_skipBlanks_8 : dec m_X7_skipBlanks 8 = .ok (.if_icmp .ge 29, 3) := by decide +kernel
theorem d_X7_skipBlanks_11 : dec m_X7_skipBlanks 11 = .ok (.aload_n 0, 1) := by decide +kernel
theorem d_X7_skipBlanks_12 : dec m_X7_skipBlanks 12 = .ok (.aload_n 0, 1) := by decide +kernel
theorem d_X7_skipBlanks_13 : dec m_X7_skipBlanks 13 = .ok (.getfield 29, 3) := by decide +kernel
theorem d_X7_skipBlanks_16 : dec m_X7_skipBlanks 16 = .ok (.invokevirtual 48, 3) := by decide +kernel
theorem d_X7_skipBlanks_19 : dec m_X7_skipBlanks 19 = .ok (.bipush 32, 2) := by decide +kernel
theorem d_X7_skipBlanks_21 : dec m_X7_skipBlanks 21 = .ok (.if_icmp .ne 16, 3) := by decide +kernel
theorem d_X7_skipBlanks_24 : dec m_X7_skipBlanks 24 = .ok (.aload_n 0, 1) := by decide +kernel
theorem d_X7_skipBlanks_25 : dec m_X7_skipBlanks 25 = .ok (.dup, 1) := by decide +kernel
theorem d_X7_skipBlanks_26 : dec m_X7_skipBlanks 26 = .ok (.getfield 29, 3) := by decide +kernel
theorem d_X7_skipBlanks_29 : dec m_X7_skipBlanks 29 = .ok (.iconst 1, 1) := by decide +kernel
theorem d_X7_skipBlanks_30 : dec m_X7_skipBlanks 30 = .ok (.iadd, 1) := by decide +kernel
theorem d_X7_skipBlanks_31 : dec m_X7_skipBlanks 31 = .ok (.putfield 29, 3) := by decide +kernel
theorem d_X7_skipBlanks_34 : dec m_X7_skipBlanks 34 = .ok (.goto (-34), 3) := by decide +kernel
theorem d_X7_skipBlanks_37 : dec m_X7_skipBlanks 37 = .ok (.return_, 1) := by decide +kernel
theorem d_X7_skipWord_0 : dec m_X7_skipWord 0 = .ok (.aload_n 0, 1) := by decide +kernel
theorem d_X7_skipWord_1 : dec m_X7_skipWord 1 = .ok (.getfield 29, 3) := by decide +kernel
theorem d_X7_skipWord_4 : dec m_X7_skipWord 4 = .ok (.aload_n 0, 1) := by decide +kernel
theorem d_X7_skipWord_5 : dec m_X7_skipWord 5 = .ok (.getfield 22, 3) := by decide +kernel
theorem d_X7_skipWord_8 : dec m_X7_skipWord 8 = .ok (.if_icmp .ge 30, 3) := by decide +kernel
theorem d_X7_skipWord_11 : dec m_X7_skipWord 11 = .ok (.aload_n 0, 1) := by decide +kernel
theorem d_X7_skipWord_12 : dec m_X7_skipWord 12 = .ok (.aload_n 0, 1) := by decide +kernel
theorem d_X7_skipWord_13 : dec m_X7_skipWord 13 = .ok (.getfield 29, 3) := by decide +kernel
theorem d_X7_skipWord_16 : dec m_X7_skipWord 16 = .ok (.invokevirtual 48, 3) := by decide +kernel
theorem d_X7_skipWord_19 : dec m_X7_skipWord 19 = .ok (.invokestatic 115, 3) := by decide +kernel
theorem d_X7_skipWord_22 : dec m_X7_skipWord 22 = .ok (.ifCond .eq 16, 3) := by decide +kernel
theorem d_X7_skipWord_25 : dec m_X7_skipWord 25 = .ok (.aload_n 0, 1) := by decide +kernel
theorem d_X7_skipWord_26 : dec m_X7_skipWord 26 = .ok (.dup, 1) := by decide +kernel
theorem d_X7_skipWord_27 : dec m_X7_skipWord 27 = .ok (.getfield 29, 3) := by decide +kernel
theorem d_X7_skipWord_30 : dec m_X7_skipWord 30 = .ok (.iconst 1, 1) := by decide +kernel
theorem d_X7_skipWord_31 : dec m_X7_skipWord 31 = .ok (.iadd, 1) := by decide +kernel
theorem d_X7_skipWord_32 : dec m_X7_skipWord 32 = .ok (.putfield 29, 3) := by decide +kernel
theorem d_X7_skipWord_35 : dec m_X7_skipWord 35 = .ok (.goto (-35), 3) := by decide +kernel
theorem d_X7_skipWord_38 : dec m_X7_skipWord 38 = .ok (.return_, 1) := by decide +kernel
theorem d_X7_isWord_0 : dec m_X7_isWord 0 = .ok (.aload_n 0, 1) := by decide +kernel
theorem d_X7_isWord_1 : dec m_X7_isWord 1 = .ok (.getfield 29, 3) := by decide +kernel
theorem d_X7_isWord_4 : dec m_X7_isWord 4 = .ok (.iload_n 1, 1) := by decide +kernel
theorem d_X7_isWord_5 : dec m_X7_isWord 5 = .ok (.isub, 1) := by decide +kernel
theorem d_X7_isWord_6 : dec m_X7_isWord 6 = .ok (.aload_n 2, 1) := by decide +kernel
theorem d_X7_isWord_7 : dec m_X7_isWord 7 = .ok (.invokevirtual 118, 3) := by decide +kernel
theorem d_X7_isWord_10 : dec m_X7_isWord 10 = .ok (.if_icmp .eq 5, 3) := by decide +kernel
theorem d_X7_isWord_13 : dec m_X7_isWord 13 = .ok (.iconst 0, 1) := by decide +kernel
theorem d_X7_isWord_14 : dec m_X7_isWord 14 = .ok (.ireturn, 1) := by decide +kernel
theorem d_X7_isWord_15 : dec m_X7_isWord 15 = .ok (.iconst 0, 1) := by decide +kernel
theorem d_X7_isWord_16 : dec m_X7_isWord 16 = .ok (.istore_n 3, 1) := by decide +kernel
theorem d_X7_isWord_17 : dec m_X7_isWord 17 = .ok (.iload_n 3, 1) := by decide +kernel
theorem d_X7_isWord_18 : dec m_X7_isWord 18 = .ok (.aload_n 2, 1) := by decide +kernel
theorem d_X7_isWord_19 : dec m_X7_isWord 19 = .ok (.invokevirtual 118, 3) := by decide +kernel
theorem d_X7_isWord_22 : dec m_X7_isWord 22 = .ok (.if_icmp .ge 26, 3) := by decide +kernel
theorem d_X7_isWord_25 : dec m_X7_isWord 25 = .ok (.aload_n 0, 1) := by decide +kernel
theorem d_X7_isWord_26 : dec m_X7_isWord 26 = .ok (.iload_n 1, 1) := by decide +kernel
theorem d_X7_isWord_27 : dec m_X7_isWord 27 = .ok (.iload_n 3, 1) := by decide +kernel
theorem d_X7_isWord_28 : dec m_X7_isWord 28 = .ok (.iadd, 1) := by decide +kernel
theorem d_X7_isWord_29 : dec m_X7_isWord 29 = .ok (.invokevirtual 48, 3) := by decide +kernel
theorem d_X7_isWord_32 : dec m_X7_isWord 32 = .ok (.aload_n 2, 1) := by decide +kernel
theorem d_X7_isWord_33 : dec m_X7_isWord 33 = .ok (.iload_n 3, 1) := by decide +kernel
theorem d_X7_isWord_34 : dec m_X7_isWord 34 = .ok (.invokevirtual 124, 3) := by decide +kernel
theorem d_X7_isWord_37 : dec m_X7_isWord 37 = .ok (.if_icmp .eq 5, 3) := by decide +kernel
theorem d_X7_isWord_40 : dec m_X7_isWord 40 = .ok (.iconst 0, 1) := by decide +kernel
theorem d_X7_isWord_41 : dec m_X7_isWord 41 = .ok (.ireturn, 1) := by decide +kernel
theorem d_X7_isWord_42 : dec m_X7_isWord 42 = .ok (.iinc 3 1, 3) := by decide +kernel
theorem d_X7_isWord_45 : dec m_X7_isWord 45 = .ok (.goto (-28), 3) := by decide +kernel
theorem d_X7_isWord_48 : dec m_X7_isWord 48 = .ok (.iconst 1, 1) := by decide +kernel
theorem d_X7_isWord_49 : dec m_X7_isWord 49 = .ok (.ireturn, 1) := by decide +kernel
theorem d_X7_byteAt_0 : dec m_X7_byteAt 0 = .ok (.iload_n 1, 1) := by decide +kernel
theorem d_X7_byteAt_1 : dec m_X7_byteAt 1 = .ok (.ifCond .lt 27, 3) := by decide +kernel
theorem d_X7_byteAt_4 : dec m_X7_byteAt 4 = .ok (.iload_n 1, 1) := by decide +kernel
theorem d_X7_byteAt_5 : dec m_X7_byteAt 5 = .ok (.aload_n 0, 1) := by decide +kernel
theorem d_X7_byteAt_6 : dec m_X7_byteAt 6 = .ok (.getfield 22, 3) := by decide +kernel
theorem d_X7_byteAt_9 : dec m_X7_byteAt 9 = .ok (.if_icmp .ge 19, 3) := by decide +kernel
theorem d_X7_byteAt_12 : dec m_X7_byteAt 12 = .ok (.iload_n 1, 1) := by decide +kernel
theorem d_X7_byteAt_13 : dec m_X7_byteAt 13 = .ok (.sipush 400, 3) := by decide +kernel
theorem d_X7_byteAt_16 : dec m_X7_byteAt 16 = .ok (.if_icmp .ge 12, 3) := by decide +kernel
theorem d_X7_byteAt_19 : dec m_X7_byteAt 19 = .ok (.aload_n 0, 1) := by decide +kernel
theorem d_X7_byteAt_20 : dec m_X7_byteAt 20 = .ok (.getfield 9, 3) := by decide +kernel
theorem d_X7_byteAt_23 : dec m_X7_byteAt 23 = .ok (.iload_n 1, 1) := by decide +kernel
theorem d_X7_byteAt_24 : dec m_X7_byteAt 24 = .ok (.iaload, 1) := by decide +kernel
theorem d_X7_byteAt_25 : dec m_X7_byteAt 25 = .ok (.goto 4, 3) := by decide +kernel
theorem d_X7_byteAt_28 : dec m_X7_byteAt 28 = .ok (.iconst (-1), 1) := by decide +kernel
theorem d_X7_byteAt_29 : dec m_X7_byteAt 29 = .ok (.ireturn, 1) := by decide +kernel
theorem d_X7_isDigit_0 : dec m_X7_isDigit 0 = .ok (.iload_n 0, 1) := by decide +kernel
theorem d_X7_isDigit_1 : dec m_X7_isDigit 1 = .ok (.bipush 48, 2) := by decide +kernel
theorem d_X7_isDigit_3 : dec m_X7_isDigit 3 = .ok (.if_icmp .lt 13, 3) := by decide +kernel
theorem d_X7_isDigit_6 : dec m_X7_isDigit 6 = .ok (.iload_n 0, 1) := by decide +kernel
theorem d_X7_isDigit_7 : dec m_X7_isDigit 7 = .ok (.bipush 57, 2) := by decide +kernel
theorem d_X7_isDigit_9 : dec m_X7_isDigit 9 = .ok (.if_icmp .gt 7, 3) := by decide +kernel
theorem d_X7_isDigit_12 : dec m_X7_isDigit 12 = .ok (.iconst 1, 1) := by decide +kernel
theorem d_X7_isDigit_13 : dec m_X7_isDigit 13 = .ok (.goto 4, 3) := by decide +kernel
theorem d_X7_isDigit_16 : dec m_X7_isDigit 16 = .ok (.iconst 0, 1) := by decide +kernel
theorem d_X7_isDigit_17 : dec m_X7_isDigit 17 = .ok (.ireturn, 1) := by decide +kernel
theorem d_X7_isSmallLetter_0 : dec m_X7_isSmallLetter 0 = .ok (.iload_n 0, 1) := by decide +kernel
theorem d_X7_isSmallLetter_1 : dec m_X7_isSmallLetter 1 = .ok (.bipush 97, 2) := by decide +kernel
theorem d_X7_isSmallLetter_3 : dec m_X7_isSmallLetter 3 = .ok (.if_icmp .lt 13, 3) := by decide +kernel
theorem d_X7_isSmallLetter_6 : dec m_X7_isSmallLetter 6 = .ok (.iload_n 0, 1) := by decide +kernel
theorem d_X7_isSmallLetter_7 : dec m_X7_isSmallLetter 7 = .ok (.bipush 122, 2) := by decide +kernel
theorem d_X7_isSmallLetter_9 : dec m_X7_isSmallLetter 9 = .ok (.if_icmp .gt 7, 3) := by decide +kernel
theorem d_X7_isSmallLetter_12 : dec m_X7_isSmallLetter 12 = .ok (.iconst 1, 1) := by decide +kernel
theorem d_X7_isSmallLetter_13 : dec m_X7_isSmallLetter 13 = .ok (.goto 4, 3) := by decide +kernel
theorem d_X7_isSmallLetter_16 : dec m_X7_isSmallLetter 16 = .ok (.iconst 0, 1) := by decide +kernel
theorem d_X7_isSmallLetter_17 : dec m_X7_isSmallLetter 17 = .ok (.ireturn, 1) := by decide +kernel
theorem d_X8_feed_0 : dec m_X8_feed 0 = .ok (.aload_n 0, 1) := by decide +kernel
theorem d_X8_feed_1 : dec m_X8_feed 1 = .ok (.getfield 19, 3) := by decide +kernel
theorem d_X8_feed_4 : dec m_X8_feed 4 = .ok (.getfield 76, 3) := by decide +kernel
theorem d_X8_feed_7 : dec m_X8_feed 7 = .ok (.bipush 20, 2) := by decide +kernel
theorem d_X8_feed_9 : dec m_X8_feed 9 = .ok (.iadd, 1) := by decide +kernel
theorem d_X8_feed_10 : dec m_X8_feed 10 = .ok (.sipush 400, 3) := by decide +kernel
theorem d_X8_feed_13 : dec m_X8_feed 13 = .ok (.if_icmp .le 5, 3) := by decide +kernel
theorem d_X8_feed_16 : dec m_X8_feed 16 = .ok (.iconst (-1), 1) := by decide +kernel
theorem d_X8_feed_17 : dec m_X8_feed 17 = .ok (.ireturn, 1) := by decide +kernel
theorem d_X8_feed_18 : dec m_X8_feed 18 = .ok (.aload_n 0, 1) := by decide +kernel
theorem d_X8_feed_19 : dec m_X8_feed 19 = .ok (.getfield 19, 3) := by decide +kernel
theorem d_X8_feed_22 : dec m_X8_feed 22 = .ok (.iload_n 1, 1) := by decide +kernel
theorem d_X8_feed_23 : dec m_X8_feed 23 = .ok (.invokevirtual 80, 3) := by decide +kernel
theorem d_X8_feed_26 : dec m_X8_feed 26 = .ok (.aload_n 0, 1) := by decide +kernel
theorem d_X8_feed_27 : dec m_X8_feed 27 = .ok (.getfield 19, 3) := by decide +kernel
theorem d_X8_feed_30 : dec m_X8_feed 30 = .ok (.iload_n 2, 1) := by decide +kernel
theorem d_X8_feed_31 : dec m_X8_feed 31 = .ok (.invokevirtual 80, 3) := by decide +kernel
theorem d_X8_feed_34 : dec m_X8_feed 34 = .ok (.aload_n 0, 1) := by decide +kernel
theorem d_X8_feed_35 : dec m_X8_feed 35 = .ok (.getfield 19, 3) := by decide +kernel
theorem d_X8_feed_38 : dec m_X8_feed 38 = .ok (.iload_n 3, 1) := by decide +kernel
theorem d_X8_feed_39 : dec m_X8_feed 39 = .ok (.invokevirtual 80, 3) := by decide +kernel
theorem d_X8_feed_42 : dec m_X8_feed 42 = .ok (.aload_n 0, 1) := by decide +kernel
theorem d_X8_feed_43 : dec m_X8_feed 43 = .ok (.getfield 19, 3) := by decide +kernel
theorem d_X8_feed_46 : dec m_X8_feed 46 = .ok (.iload 4, 2) := by decide +kernel
theorem d_X8_feed_48 : dec m_X8_feed 48 = .ok (.invokevirtual 80, 3) := by decide +kernel
theorem d_X8_feed_51 : dec m_X8_feed 51 = .ok (.aload_n 0, 1) := by decide +kernel
theorem d_X8_feed_52 : dec m_X8_feed 52 = .ok (.getfield 19, 3) := by decide +kernel
theorem d_X8_feed_55 : dec m_X8_feed 55 = .ok (.iload 5, 2) := by decide +kernel
theorem d_X8_feed_57 : dec m_X8_feed 57 = .ok (.invokevirtual 80, 3) := by decide +kernel
theorem d_X8_feed_60 : dec m_X8_feed 60 = .ok (.aload_n 0, 1) := by decide +kernel
theorem d_X8_feed_61 : dec m_X8_feed 61 = .ok (.getfield 19, 3) := by decide +kernel
theorem d_X8_feed_64 : dec m_X8_feed 64 = .ok (.getfield 76, 3) := by decide +kernel
theorem d_X8_feed_67 : dec m_X8_feed 67 = .ok (.ireturn, 1) := by decide +kernel
theorem d_X8_end_0 : dec m_X8_end 0 = .ok (.iload_n 1, 1) := by decide +kernel
theorem d_X8_end_1 : dec m_X8_end 1 = .ok (.ifCond .lt 14, 3) := by decide +kernel
theorem d_X8_end_4 : dec m_X8_end 4 = .ok (.iload_n 1, 1) := by decide +kernel
theorem d_X8_end_5 : dec m_X8_end 5 = .ok (.aload_n 0, 1) := by decide +kernel
theorem d_X8_end_6 : dec m_X8_end 6 = .ok (.getfield 19, 3) := by decide +kernel
theorem d_X8_end_9 : dec m_X8_end 9 = .ok (.getfield 76, 3) := by decide +kernel
theorem d_X8_end_12 : dec m_X8_end 12 = .ok (.if_icmp .le 5, 3) := by decide +kernel
theorem d_X8_end_15 : dec m_X8_end 15 = .ok (.iconst (-1), 1) := by decide +kernel
theorem d_X8_end_16 : dec m_X8_end 16 = .ok (.ireturn, 1) := by decide +kernel
theorem d_X8_end_17 : dec m_X8_end 17 = .ok (.aload_n 0, 1) := by decide +kernel
theorem d_X8_end_18 : dec m_X8_end 18 = .ok (.getfield 19, 3) := by decide +kernel
theorem d_X8_end_21 : dec m_X8_end 21 = .ok (.iload_n 1, 1) := by decide +kernel
theorem d_X8_end_22 : dec m_X8_end 22 = .ok (.putfield 76, 3) := by decide +kernel
theorem d_X8_end_25 : dec m_X8_end 25 = .ok (.iload_n 1, 1) := by decide +kernel
theorem d_X8_end_26 : dec m_X8_end 26 = .ok (.ireturn, 1) := by decide +kernel
theorem d_X8_tell_0 : dec m_X8_tell 0 = .ok (.aload_n 0, 1) := by decide +kernel
theorem d_X8_tell_1 : dec m_X8_tell 1 = .ok (.getfield 19, 3) := by decide +kernel
theorem d_X8_tell_4 : dec m_X8_tell 4 = .ok (.invokevirtual 84, 3) := by decide +kernel
theorem d_X8_tell_7 : dec m_X8_tell 7 = .ok (.istore_n 1, 1) := by decide +kernel
theorem d_X8_tell_8 : dec m_X8_tell 8 = .ok (.aload_n 0, 1) := by decide +kernel
theorem d_X8_tell_9 : dec m_X8_tell 9 = .ok (.getfield 19, 3) := by decide +kernel
theorem d_X8_tell_12 : dec m_X8_tell 12 = .ok (.iconst 0, 1) := by decide +kernel
theorem d_X8_tell_13 : dec m_X8_tell 13 = .ok (.putfield 76, 3) := by decide +kernel
theorem d_X8_tell_16 : dec m_X8_tell 16 = .ok (.iload_n 1, 1) := by decide +kernel
theorem d_X8_tell_17 : dec m_X8_tell 17 = .ok (.ifCond .eq 8, 3) := by decide +kernel
theorem d_X8_tell_20 : dec m_X8_tell 20 = .ok (.bipush (-2), 2) := by decide +kernel
theorem d_X8_tell_22 : dec m_X8_tell 22 = .ok (.iload_n 1, 1) := by decide +kernel
theorem d_X8_tell_23 : dec m_X8_tell 23 = .ok (.isub, 1) := by decide +kernel
theorem d_X8_tell_24 : dec m_X8_tell 24 = .ok (.ireturn, 1) := by decide +kernel
theorem d_X8_tell_25 : dec m_X8_tell 25 = .ok (.aload_n 0, 1) := by decide +kernel
theorem d_X8_tell_26 : dec m_X8_tell 26 = .ok (.getfield 12, 3) := by decide +kernel
theorem d_X8_tell_29 : dec m_X8_tell 29 = .ok (.aload_n 0, 1) := by decide +kernel
theorem d_X8_tell_30 : dec m_X8_tell 30 = .ok (.getfield 19, 3) := by decide +kernel
theorem d_X8_tell_33 : dec m_X8_tell 33 = .ok (.getfield 88, 3) := by decide +kernel
theorem d_X8_tell_36 : dec m_X8_tell 36 = .ok (.invokevirtual 91, 3) := by decide +kernel
theorem d_X8_tell_39 : dec m_X8_tell 39 = .ok (.aload_n 0, 1) := by decide +kernel
theorem d_X8_tell_40 : dec m_X8_tell 40 = .ok (.getfield 26, 3) := by decide +kernel
theorem d_X8_tell_43 : dec m_X8_tell 43 = .ok (.invokevirtual 95, 3) := by decide +kernel
theorem d_X8_tell_46 : dec m_X8_tell 46 = .ok (.aload_n 0, 1) := by decide +kernel
theorem d_X8_tell_47 : dec m_X8_tell 47 = .ok (.getfield 12, 3) := by decide +kernel
theorem d_X8_tell_50 : dec m_X8_tell 50 = .ok (.getfield 98, 3) := by decide +kernel
theorem d_X8_tell_53 : dec m_X8_tell 53 = .ok (.ireturn, 1) := by decide +kernel
theorem d_X8_come_0 : dec m_X8_come 0 = .ok (.iload_n 2, 1) := by decide +kernel
theorem d_X8_come_1 : dec m_X8_come 1 = .ok (.invokestatic 99, 3) := by decide +kernel
theorem d_X8_come_4 : dec m_X8_come 4 = .ok (.ifCond .ne 5, 3) := by decide +kernel
theorem d_X8_come_7 : dec m_X8_come 7 = .ok (.iconst (-1), 1) := by decide +kernel
theorem d_X8_come_8 : dec m_X8_come 8 = .ok (.ireturn, 1) := by decide +kernel
theorem d_X8_come_9 : dec m_X8_come 9 = .ok (.aload_n 0, 1) := by decide +kernel
theorem d_X8_come_10 : dec m_X8_come 10 = .ok (.getfield 12, 3) := by decide +kernel
theorem d_X8_come_13 : dec m_X8_come 13 = .ok (.getfield 98, 3) := by decide +kernel
theorem d_X8_come_16 : dec m_X8_come 16 = .ok (.bipush 20, 2) := by decide +kernel
theorem d_X8_come_18 : dec m_X8_come 18 = .ok (.if_icmp .lt 6, 3) := by decide +kernel
theorem d_X8_come_21 : dec m_X8_come 21 = .ok (.bipush (-2), 2) := by decide +kernel
theorem d_X8_come_23 : dec m_X8_come 23 = .ok (.ireturn, 1) := by decide +kernel
theorem d_X8_come_24 : dec m_X8_come 24 = .ok (.aload_n 0, 1) := by decide +kernel
theorem d_X8_come_25 : dec m_X8_come 25 = .ok (.getfield 26, 3) := by decide +kernel
theorem d_X8_come_28 : dec m_X8_come 28 = .ok (.aload_n 0, 1) := by decide +kernel
theorem d_X8_come_29 : dec m_X8_come 29 = .ok (.getfield 12, 3) := by decide +kernel
theorem d_X8_come_32 : dec m_X8_come 32 = .ok (.invokevirtual 103, 3) := by decide +kernel
theorem d_X8_come_35 : dec m_X8_come 35 = .ok (.aload_n 0, 1) := by decide +kernel
theorem d_X8_come_36 : dec m_X8_come 36 = .ok (.getfield 12, 3) := by decide +kernel
theorem d_X8_come_39 : dec m_X8_come 39 = .ok (.iload_n 1, 1) := by decide +kernel
theorem d_X8_come_40 : dec m_X8_come 40 = .ok (.iload_n 2, 1) := by decide +kernel
theorem d_X8_come_41 : dec m_X8_come 41 = .ok (.invokevirtual 106, 3) := by decide +kernel
theorem d_X8_come_44 : dec m_X8_come 44 = .ok (.ireturn, 1) := by decide +kernel
theorem d_X8_add_0 : dec m_X8_add 0 = .ok (.aload_n 0, 1) := by decide +kernel
theorem d_X8_add_1 : dec m_X8_add 1 = .ok (.getfield 12, 3) := by decide +kernel
theorem d_X8_add_4 : dec m_X8_add 4 = .ok (.iload_n 1, 1) := by decide +kernel
theorem d_X8_add_5 : dec m_X8_add 5 = .ok (.invokevirtual 110, 3) := by decide +kernel
theorem d_X8_add_8 : dec m_X8_add 8 = .ok (.ifCond .eq 10, 3) := by decide +kernel
theorem d_X8_add_11 : dec m_X8_add 11 = .ok (.iload_n 2, 1) := by decide +kernel
theorem d_X8_add_12 : dec m_X8_add 12 = .ok (.invokestatic 113, 3) := by decide +kernel
theorem d_X8_add_15 : dec m_X8_add 15 = .ok (.ifCond .ne 5, 3) := by decide +kernel
theorem d_X8_add_18 : dec m_X8_add 18 = .ok (.iconst (-1), 1) := by decide +kernel
theorem d_X8_add_19 : dec m_X8_add 19 = .ok (.ireturn, 1) := by decide +kernel
theorem d_X8_add_20 : dec m_X8_add 20 = .ok (.aload_n 0, 1) := by decide +kernel
theorem d_X8_add_21 : dec m_X8_add 21 = .ok (.getfield 12, 3) := by decide +kernel
theorem d_X8_add_24 : dec m_X8_add 24 = .ok (.iload_n 1, 1) := by decide +kernel
theorem d_X8_add_25 : dec m_X8_add 25 = .ok (.invokevirtual 116, 3) := by decide +kernel
theorem d_X8_add_28 : dec m_X8_add 28 = .ok (.istore_n 3, 1) := by decide +kernel
theorem d_X8_add_29 : dec m_X8_add 29 = .ok (.iload_n 3, 1) := by decide +kernel
theorem d_X8_add_30 : dec m_X8_add 30 = .ok (.iconst 4, 1) := by decide +kernel
theorem d_X8_add_31 : dec m_X8_add 31 = .ok (.if_icmp .lt 6, 3) := by decide +kernel
theorem d_X8_add_34 : dec m_X8_add 34 = .ok (.bipush (-2), 2) := by decide +kernel
theorem d_X8_add_36 : dec m_X8_add 36 = .ok (.ireturn, 1) := by decide +kernel
theorem d_X8_add_37 : dec m_X8_add 37 = .ok (.aload_n 0, 1) := by decide +kernel
theorem d_X8_add_38 : dec m_X8_add 38 = .ok (.getfield 12, 3) := by decide +kernel
theorem d_X8_add_41 : dec m_X8_add 41 = .ok (.iload_n 1, 1) := by decide +kernel
theorem d_X8_add_42 : dec m_X8_add 42 = .ok (.iload_n 3, 1) := by decide +kernel
theorem d_X8_add_43 : dec m_X8_add 43 = .ok (.iload_n 2, 1) := by decide +kernel
theorem d_X8_add_44 : dec m_X8_add 44 = .ok (.invokevirtual 120, 3) := by decide +kernel
theorem d_X8_add_47 : dec m_X8_add 47 = .ok (.ifCond .ne 6, 3) := by decide +kernel
theorem d_X8_add_50 : dec m_X8_add 50 = .ok (.bipush (-3), 2) := by decide +kernel
theorem d_X8_add_52 : dec m_X8_add 52 = .ok (.ireturn, 1) := by decide +kernel
theorem d_X8_add_53 : dec m_X8_add 53 = .ok (.aload_n 0, 1) := by decide +kernel
theorem d_X8_add_54 : dec m_X8_add 54 = .ok (.getfield 26, 3) := by decide +kernel
theorem d_X8_add_57 : dec m_X8_add 57 = .ok (.aload_n 0, 1) := by decide +kernel
theorem d_X8_add_58 : dec m_X8_add 58 = .ok (.getfield 12, 3) := by decide +kernel
theorem d_X8_add_61 : dec m_X8_add 61 = .ok (.invokevirtual 103, 3) := by decide +kernel
theorem d_X8_add_64 : dec m_X8_add 64 = .ok (.aload_n 0, 1) := by decide +kernel
theorem d_X8_add_65 : dec m_X8_add 65 = .ok (.getfield 12, 3) := by decide +kernel
theorem d_X8_add_68 : dec m_X8_add 68 = .ok (.iload_n 1, 1) := by decide +kernel
theorem d_X8_add_69 : dec m_X8_add 69 = .ok (.iload_n 2, 1) := by decide +kernel
theorem d_X8_add_70 : dec m_X8_add 70 = .ok (.invokevirtual 124, 3) := by decide +kernel
theorem d_X8_add_73 : dec m_X8_add 73 = .ok (.ireturn, 1) := by decide +kernel
theorem d_X8_say_0 : dec m_X8_say 0 = .ok (.aload_n 0, 1) := by decide +kernel
theorem d_X8_say_1 : dec m_X8_say 1 = .ok (.getfield 12, 3) := by decide +kernel
theorem d_X8_say_4 : dec m_X8_say 4 = .ok (.iload_n 1, 1) := by decide +kernel
theorem d_X8_say_5 : dec m_X8_say 5 = .ok (.iload_n 2, 1) := by decide +kernel
theorem d_X8_say_6 : dec m_X8_say 6 = .ok (.invokevirtual 127, 3) := by decide +kernel
theorem d_X8_say_9 : dec m_X8_say 9 = .ok (.ifCond .eq 10, 3) := by decide +kernel
theorem d_X8_say_12 : dec m_X8_say 12 = .ok (.iload_n 3, 1) := by decide +kernel
theorem d_X8_say_13 : dec m_X8_say 13 = .ok (.invokestatic 113, 3) := by decide +kernel
theorem d_X8_say_16 : dec m_X8_say 16 = .ok (.ifCond .ne 5, 3) := by decide +kernel
theorem d_X8_say_19 : dec m_X8_say 19 = .ok (.iconst (-1), 1) := by decide +kernel
theorem d_X8_say_20 : dec m_X8_say 20 = .ok (.ireturn, 1) := by decide +kernel
theorem d_X8_say_21 : dec m_X8_say 21 = .ok (.aload_n 0, 1) := by decide +kernel
theorem d_X8_say_22 : dec m_X8_say 22 = .ok (.getfield 12, 3) := by decide +kernel
theorem d_X8_say_25 : dec m_X8_say 25 = .ok (.iload_n 1, 1) := by decide +kernel
theorem d_X8_say_26 : dec m_X8_say 26 = .ok (.iload_n 2, 1) := by decide +kernel
theorem d_X8_say_27 : dec m_X8_say 27 = .ok (.invokevirtual 131, 3) := by decide +kernel
theorem d_X8_say_30 : dec m_X8_say 30 = .ok (.istore 4, 2) := by decide +kernel
theorem d_X8_say_32 : dec m_X8_say 32 = .ok (.iload 4, 2) := by decide +kernel
theorem d_X8_say_34 : dec m_X8_say 34 = .ok (.iload_n 3, 1) := by decide +kernel
theorem d_X8_say_35 : dec m_X8_say 35 = .ok (.if_icmp .ne 6, 3) := by decide +kernel
theorem d_X8_say_38 : dec m_X8_say 38 = .ok (.bipush (-2), 2) := by decide +kernel
theorem d_X8_say_40 : dec m_X8_say 40 = .ok (.ireturn, 1) := by decide +kernel
theorem d_X8_say_41 : dec m_X8_say 41 = .ok (.aload_n 0, 1) := by decide +kernel
theorem d_X8_say_42 : dec m_X8_say 42 = .ok (.getfield 12, 3) := by decide +kernel
theorem d_X8_say_45 : dec m_X8_say 45 = .ok (.iload_n 1, 1) := by decide +kernel
theorem d_X8_say_46 : dec m_X8_say 46 = .ok (.iload_n 2, 1) := by decide +kernel
theorem d_X8_say_47 : dec m_X8_say 47 = .ok (.iload_n 3, 1) := by decide +kernel
theorem d_X8_say_48 : dec m_X8_say 48 = .ok (.invokevirtual 120, 3) := by decide +kernel
theorem d_X8_say_51 : dec m_X8_say 51 = .ok (.ifCond .ne 6, 3) := by decide +kernel
theorem d_X8_say_54 : dec m_X8_say 54 = .ok (.bipush (-3), 2) := by decide +kernel
theorem d_X8_say_56 : dec m_X8_say 56 = .ok (.ireturn, 1) := by decide +kernel
theorem d_X8_say_57 : dec m_X8_say 57 = .ok (.aload_n 0, 1) := by decide +kernel
theorem d_X8_say_58 : dec m_X8_say 58 = .ok (.getfield 26, 3) := by decide +kernel
theorem d_X8_say_61 : dec m_X8_say 61 = .ok (.aload_n 0, 1) := by decide +kernel
theorem d_X8_say_62 : dec m_X8_say 62 = .ok (.getfield 12, 3) := by decide +kernel
theorem d_X8_say_65 : dec m_X8_say 65 = .ok (.invokevirtual 103, 3) := by decide +kernel
theorem d_X8_say_68 : dec m_X8_say 68 = .ok (.aload_n 0, 1) := by decide +kernel
theorem d_X8_say_69 : dec m_X8_say 69 = .ok (.getfield 12, 3) := by decide +kernel
theorem d_X8_say_72 : dec m_X8_say 72 = .ok (.iload_n 1, 1) := by decide +kernel
theorem d_X8_say_73 : dec m_X8_say 73 = .ok (.iload_n 2, 1) := by decide +kernel
theorem d_X8_say_74 : dec m_X8_say 74 = .ok (.iload_n 3, 1) := by decide +kernel
theorem d_X8_say_75 : dec m_X8_say 75 = .ok (.invokevirtual 134, 3) := by decide +kernel
theorem d_X8_say_78 : dec m_X8_say 78 = .ok (.iload 4, 2) := by decide +kernel
theorem d_X8_say_80 : dec m_X8_say 80 = .ok (.ireturn, 1) := by decide +kernel
theorem d_X8_leave_0 : dec m_X8_leave 0 = .ok (.aload_n 0, 1) := by decide +kernel
theorem d_X8_leave_1 : dec m_X8_leave 1 = .ok (.getfield 12, 3) := by decide +kernel
theorem d_X8_leave_4 : dec m_X8_leave 4 = .ok (.iload_n 1, 1) := by decide +kernel
theorem d_X8_leave_5 : dec m_X8_leave 5 = .ok (.invokevirtual 116, 3) := by decide +kernel
theorem d_X8_leave_8 : dec m_X8_leave 8 = .ok (.istore_n 2, 1) := by decide +kernel
theorem d_X8_leave_9 : dec m_X8_leave 9 = .ok (.iload_n 2, 1) := by decide +kernel
theorem d_X8_leave_10 : dec m_X8_leave 10 = .ok (.ifCond .ne 5, 3) := by decide +kernel
theorem d_X8_leave_13 : dec m_X8_leave 13 = .ok (.iconst (-1), 1) := by decide +kernel
theorem d_X8_leave_14 : dec m_X8_leave 14 = .ok (.ireturn, 1) := by decide +kernel
theorem d_X8_leave_15 : dec m_X8_leave 15 = .ok (.aload_n 0, 1) := by decide +kernel
theorem d_X8_leave_16 : dec m_X8_leave 16 = .ok (.getfield 26, 3) := by decide +kernel
theorem d_X8_leave_19 : dec m_X8_leave 19 = .ok (.aload_n 0, 1) := by decide +kernel
theorem d_X8_leave_20 : dec m_X8_leave 20 = .ok (.getfield 12, 3) := by decide +kernel
theorem d_X8_leave_23 : dec m_X8_leave 23 = .ok (.invokevirtual 103, 3) := by decide +kernel
theorem d_X8_leave_26 : dec m_X8_leave 26 = .ok (.aload_n 0, 1) := by decide +kernel
theorem d_X8_leave_27 : dec m_X8_leave 27 = .ok (.getfield 12, 3) := by decide +kernel
theorem d_X8_leave_30 : dec m_X8_leave 30 = .ok (.iload_n 1, 1) := by decide +kernel
theorem d_X8_leave_31 : dec m_X8_leave 31 = .ok (.iload_n 2, 1) := by decide +kernel
theorem d_X8_leave_32 : dec m_X8_leave 32 = .ok (.invokevirtual 138, 3) := by decide +kernel
theorem d_X8_leave_35 : dec m_X8_leave 35 = .ok (.iload_n 2, 1) := by decide +kernel
theorem d_X8_leave_36 : dec m_X8_leave 36 = .ok (.ireturn, 1) := by decide +kernel
theorem d_X8_fee_0 : dec m_X8_fee 0 = .ok (.iload_n 1, 1) := by decide +kernel
theorem d_X8_fee_1 : dec m_X8_fee 1 = .ok (.invokestatic 142, 3) := by decide +kernel
theorem d_X8_fee_4 : dec m_X8_fee 4 = .ok (.ifCond .ne 5, 3) := by decide +kernel
theorem d_X8_fee_7 : dec m_X8_fee 7 = .ok (.iconst (-1), 1) := by decide +kernel
theorem d_X8_fee_8 : dec m_X8_fee 8 = .ok (.ireturn, 1) := by decide +kernel
theorem d_X8_fee_9 : dec m_X8_fee 9 = .ok (.aload_n 0, 1) := by decide +kernel
theorem d_X8_fee_10 : dec m_X8_fee 10 = .ok (.getfield 12, 3) := by decide +kernel
theorem d_X8_fee_13 : dec m_X8_fee 13 = .ok (.getfield 145, 3) := by decide +kernel
theorem d_X8_fee_16 : dec m_X8_fee 16 = .ok (.istore_n 2, 1) := by decide +kernel
theorem d_X8_fee_17 : dec m_X8_fee 17 = .ok (.iload_n 2, 1) := by decide +kernel
theorem d_X8_fee_18 : dec m_X8_fee 18 = .ok (.iload_n 1, 1) := by decide +kernel
theorem d_X8_fee_19 : dec m_X8_fee 19 = .ok (.if_icmp .ne 6, 3) := by decide +kernel
theorem d_X8_fee_22 : dec m_X8_fee 22 = .ok (.bipush (-2), 2) := by decide +kernel
theorem d_X8_fee_24 : dec m_X8_fee 24 = .ok (.ireturn, 1) := by decide +kernel
theorem d_X8_fee_25 : dec m_X8_fee 25 = .ok (.aload_n 0, 1) := by decide +kernel
theorem d_X8_fee_26 : dec m_X8_fee 26 = .ok (.getfield 26, 3) := by decide +kernel
theorem d_X8_fee_29 : dec m_X8_fee 29 = .ok (.aload_n 0, 1) := by decide +kernel
theorem d_X8_fee_30 : dec m_X8_fee 30 = .ok (.getfield 12, 3) := by decide +kernel
theorem d_X8_fee_33 : dec m_X8_fee 33 = .ok (.invokevirtual 103, 3) := by decide +kernel
theorem d_X8_fee_36 : dec m_X8_fee 36 = .ok (.aload_n 0, 1) := by decide +kernel
theorem d_X8_fee_37 : dec m_X8_fee 37 = .ok (.getfield 12, 3) := by decide +kernel
theorem d_X8_fee_40 : dec m_X8_fee 40 = .ok (.iload_n 1, 1) := by decide +kernel
theorem d_X8_fee_41 : dec m_X8_fee 41 = .ok (.putfield 145, 3) := by decide +kernel
theorem d_X8_fee_44 : dec m_X8_fee 44 = .ok (.iload_n 2, 1) := by decide +kernel
theorem d_X8_fee_45 : dec m_X8_fee 45 = .ok (.ireturn, 1) := by decide +kernel
theorem d_X8_law_0 : dec m_X8_law 0 = .ok (.iload_n 1, 1) := by decide +kernel
theorem d_X8_law_1 : dec m_X8_law 1 = .ok (.invokestatic 148, 3) := by decide +kernel
theorem d_X8_law_4 : dec m_X8_law 4 = .ok (.ifCond .ne 5, 3) := by decide +kernel
theorem d_X8_law_7 : dec m_X8_law 7 = .ok (.iconst (-1), 1) := by decide +kernel
theorem d_X8_law_8 : dec m_X8_law 8 = .ok (.ireturn, 1) := by decide +kernel
theorem d_X8_law_9 : dec m_X8_law 9 = .ok (.aload_n 0, 1) := by decide +kernel
theorem d_X8_law_10 : dec m_X8_law 10 = .ok (.getfield 12, 3) := by decide +kernel
theorem d_X8_law_13 : dec m_X8_law 13 = .ok (.getfield 151, 3) := by decide +kernel
theorem d_X8_law_16 : dec m_X8_law 16 = .ok (.istore_n 2, 1) := by decide +kernel
theorem d_X8_law_17 : dec m_X8_law 17 = .ok (.iload_n 2, 1) := by decide +kernel
theorem d_X8_law_18 : dec m_X8_law 18 = .ok (.iload_n 1, 1) := by decide +kernel
theorem d_X8_law_19 : dec m_X8_law 19 = .ok (.if_icmp .ne 6, 3) := by decide +kernel
theorem d_X8_law_22 : dec m_X8_law 22 = .ok (.bipush (-2), 2) := by decide +kernel
theorem d_X8_law_24 : dec m_X8_law 24 = .ok (.ireturn, 1) := by decide +kernel
theorem d_X8_law_25 : dec m_X8_law 25 = .ok (.aload_n 0, 1) := by decide +kernel
theorem d_X8_law_26 : dec m_X8_law 26 = .ok (.getfield 26, 3) := by decide +kernel
theorem d_X8_law_29 : dec m_X8_law 29 = .ok (.aload_n 0, 1) := by decide +kernel
theorem d_X8_law_30 : dec m_X8_law 30 = .ok (.getfield 12, 3) := by decide +kernel
theorem d_X8_law_33 : dec m_X8_law 33 = .ok (.invokevirtual 103, 3) := by decide +kernel
theorem d_X8_law_36 : dec m_X8_law 36 = .ok (.aload_n 0, 1) := by decide +kernel
theorem d_X8_law_37 : dec m_X8_law 37 = .ok (.getfield 12, 3) := by decide +kernel
theorem d_X8_law_40 : dec m_X8_law 40 = .ok (.iload_n 1, 1) := by decide +kernel
theorem d_X8_law_41 : dec m_X8_law 41 = .ok (.putfield 151, 3) := by decide +kernel
theorem d_X8_law_44 : dec m_X8_law 44 = .ok (.iload_n 2, 1) := by decide +kernel
theorem d_X8_law_45 : dec m_X8_law 45 = .ok (.ireturn, 1) := by decide +kernel
theorem d_X8_close_0 : dec m_X8_close 0 = .ok (.iload_n 1, 1) := by decide +kernel
theorem d_X8_close_1 : dec m_X8_close 1 = .ok (.invokestatic 99, 3) := by decide +kernel
theorem d_X8_close_4 : dec m_X8_close 4 = .ok (.ifCond .ne 5, 3) := by decide +kernel
theorem d_X8_close_7 : dec m_X8_close 7 = .ok (.iconst (-1), 1) := by decide +kernel
theorem d_X8_close_8 : dec m_X8_close 8 = .ok (.ireturn, 1) := by decide +kernel
theorem d_X8_close_9 : dec m_X8_close 9 = .ok (.aload_n 0, 1) := by decide +kernel
theorem d_X8_close_10 : dec m_X8_close 10 = .ok (.iload_n 1, 1) := by decide +kernel
theorem d_X8_close_11 : dec m_X8_close 11 = .ok (.invokevirtual 154, 3) := by decide +kernel
theorem d_X8_close_14 : dec m_X8_close 14 = .ok (.aload_n 0, 1) := by decide +kernel
theorem d_X8_close_15 : dec m_X8_close 15 = .ok (.getfield 47, 3) := by decide +kernel
theorem d_X8_close_18 : dec m_X8_close 18 = .ok (.getfield 157, 3) := by decide +kernel
theorem d_X8_close_21 : dec m_X8_close 21 = .ok (.ifCond .ne 6, 3) := by decide +kernel
theorem d_X8_close_24 : dec m_X8_close 24 = .ok (.bipush (-2), 2) := by decide +kernel
theorem d_X8_close_26 : dec m_X8_close 26 = .ok (.ireturn, 1) := by decide +kernel
theorem d_X8_close_27 : dec m_X8_close 27 = .ok (.aload_n 0, 1) := by decide +kernel
theorem d_X8_close_28 : dec m_X8_close 28 = .ok (.getfield 26, 3) := by decide +kernel
theorem d_X8_close_31 : dec m_X8_close 31 = .ok (.aload_n 0, 1) := by decide +kernel
theorem d_X8_close_32 : dec m_X8_close 32 = .ok (.getfield 12, 3) := by decide +kernel
theorem d_X8_close_35 : dec m_X8_close 35 = .ok (.invokevirtual 103, 3) := by decide +kernel
theorem d_X8_close_38 : dec m_X8_close 38 = .ok (.iconst 0, 1) := by decide +kernel
theorem d_X8_close_39 : dec m_X8_close 39 = .ok (.istore_n 2, 1) := by decide +kernel
theorem d_X8_close_40 : dec m_X8_close 40 = .ok (.iload_n 2, 1) := by decide +kernel
theorem d_X8_close_41 : dec m_X8_close 41 = .ok (.aload_n 0, 1) := by decide +kernel
theorem d_X8_close_42 : dec m_X8_close 42 = .ok (.getfield 12, 3) := by decide +kernel
theorem d_X8_close_45 : dec m_X8_close 45 = .ok (.getfield 98, 3) := by decide +kernel
theorem d_X8_close_48 : dec m_X8_close 48 = .ok (.if_icmp .ge 44, 3) := by decide +kernel
theorem d_X8_close_51 : dec m_X8_close 51 = .ok (.aload_n 0, 1) := by decide +kernel
theorem d_X8_close_52 : dec m_X8_close 52 = .ok (.getfield 12, 3) := by decide +kernel
theorem d_X8_close_55 : dec m_X8_close 55 = .ok (.iload_n 2, 1) := by decide +kernel
theorem d_X8_close_56 : dec m_X8_close 56 = .ok (.invokevirtual 160, 3) := by decide +kernel
theorem d_X8_close_59 : dec m_X8_close 59 = .ok (.istore_n 3, 1) := by decide +kernel
theorem d_X8_close_60 : dec m_X8_close 60 = .ok (.aload_n 0, 1) := by decide +kernel
theorem d_X8_close_61 : dec m_X8_close 61 = .ok (.getfield 12, 3) := by decide +kernel
theorem d_X8_close_64 : dec m_X8_close 64 = .ok (.iload_n 2, 1) := by decide +kernel
theorem d_X8_close_65 : dec m_X8_close 65 = .ok (.aload_n 0, 1) := by decide +kernel
theorem d_X8_close_66 : dec m_X8_close 66 = .ok (.getfield 47, 3) := by decide +kernel
theorem d_X8_close_69 : dec m_X8_close 69 = .ok (.iload_n 3, 1) := by decide +kernel
theorem d_X8_close_70 : dec m_X8_close 70 = .ok (.iload_n 2, 1) := by decide +kernel
theorem d_X8_close_71 : dec m_X8_close 71 = .ok (.invokevirtual 163, 3) := by decide +kernel
theorem d_X8_close_74 : dec m_X8_close 74 = .ok (.aload_n 0, 1) := by decide +kernel
theorem d_X8_close_75 : dec m_X8_close 75 = .ok (.getfield 47, 3) := by decide +kernel
theorem d_X8_close_78 : dec m_X8_close 78 = .ok (.iload_n 3, 1) := by decide +kernel
theorem d_X8_close_79 : dec m_X8_close 79 = .ok (.iload_n 2, 1) := by decide +kernel
theorem d_X8_close_80 : dec m_X8_close 80 = .ok (.invokevirtual 166, 3) := by decide +kernel
theorem d_X8_close_83 : dec m_X8_close 83 = .ok (.invokevirtual 169, 3) := by decide +kernel
theorem d_X8_close_86 : dec m_X8_close 86 = .ok (.iinc 2 1, 3) := by decide +kernel
theorem d_X8_close_89 : dec m_X8_close 89 = .ok (.goto (-49), 3) := by decide +kernel
theorem d_X8_close_92 : dec m_X8_close 92 = .ok (.aload_n 0, 1) := by decide +kernel
theorem d_X8_close_93 : dec m_X8_close 93 = .ok (.getfield 12, 3) := by decide +kernel
theorem d_X8_close_96 : dec m_X8_close 96 = .ok (.aload_n 0, 1) := by decide +kernel
theorem d_X8_close_97 : dec m_X8_close 97 = .ok (.getfield 47, 3) := by decide +kernel
theorem d_X8_close_100 : dec m_X8_close 100 = .ok (.getfield 157, 3) := by decide +kernel
theorem d_X8_close_103 : dec m_X8_close 103 = .ok (.aload_n 0, 1) := by decide +kernel
theorem d_X8_close_104 : dec m_X8_close 104 = .ok (.getfield 47, 3) := by decide +kernel
theorem d_X8_close_107 : dec m_X8_close 107 = .ok (.invokevirtual 172, 3) := by decide +kernel
theorem d_X8_close_110 : dec m_X8_close 110 = .ok (.invokevirtual 175, 3) := by decide +kernel
theorem d_X8_close_113 : dec m_X8_close 113 = .ok (.aload_n 0, 1) := by decide +kernel
theorem d_X8_close_114 : dec m_X8_close 114 = .ok (.getfield 47, 3) := by decide +kernel
theorem d_X8_close_117 : dec m_X8_close 117 = .ok (.getfield 157, 3) := by decide +kernel
theorem d_X8_close_120 : dec m_X8_close 120 = .ok (.ireturn, 1) := by decide +kernel
theorem d_X8_undo_0 : dec m_X8_undo 0 = .ok (.aload_n 0, 1) := by decide +kernel
theorem d_X8_undo_1 : dec m_X8_undo 1 = .ok (.getfield 26, 3) := by decide +kernel
theorem d_X8_undo_4 : dec m_X8_undo 4 = .ok (.aload_n 0, 1) := by decide +kernel
theorem d_X8_undo_5 : dec m_X8_undo 5 = .ok (.getfield 12, 3) := by decide +kernel
theorem d_X8_undo_8 : dec m_X8_undo 8 = .ok (.invokevirtual 178, 3) := by decide +kernel
theorem d_X8_undo_11 : dec m_X8_undo 11 = .ok (.ireturn, 1) := by decide +kernel
theorem d_X8_keep_0 : dec m_X8_keep 0 = .ok (.iload_n 1, 1) := by decide +kernel
theorem d_X8_keep_1 : dec m_X8_keep 1 = .ok (.invokestatic 182, 3) := by decide +kernel
theorem d_X8_keep_4 : dec m_X8_keep 4 = .ok (.ifCond .ne 5, 3) := by decide +kernel
theorem d_X8_keep_7 : dec m_X8_keep 7 = .ok (.iconst (-1), 1) := by decide +kernel
theorem d_X8_keep_8 : dec m_X8_keep 8 = .ok (.ireturn, 1) := by decide +kernel
theorem d_X8_keep_9 : dec m_X8_keep 9 = .ok (.aload_n 0, 1) := by decide +kernel
theorem d_X8_keep_10 : dec m_X8_keep 10 = .ok (.getfield 33, 3) := by decide +kernel
theorem d_X8_keep_13 : dec m_X8_keep 13 = .ok (.iload_n 1, 1) := by decide +kernel
theorem d_X8_keep_14 : dec m_X8_keep 14 = .ok (.aload_n 0, 1) := by decide +kernel
theorem d_X8_keep_15 : dec m_X8_keep 15 = .ok (.getfield 12, 3) := by decide +kernel
theorem d_X8_keep_18 : dec m_X8_keep 18 = .ok (.invokevirtual 185, 3) := by decide +kernel
theorem d_X8_keep_21 : dec m_X8_keep 21 = .ok (.aload_n 0, 1) := by decide +kernel
theorem d_X8_keep_22 : dec m_X8_keep 22 = .ok (.getfield 12, 3) := by decide +kernel
theorem d_X8_keep_25 : dec m_X8_keep 25 = .ok (.getfield 98, 3) := by decide +kernel
theorem d_X8_keep_28 : dec m_X8_keep 28 = .ok (.ireturn, 1) := by decide +kernel
theorem d_X8_back_0 : dec m_X8_back 0 = .ok (.iload_n 1, 1) := by decide +kernel
theorem d_X8_back_1 : dec m_X8_back 1 = .ok (.invokestatic 182, 3) := by decide +kernel
theorem d_X8_back_4 : dec m_X8_back 4 = .ok (.ifCond .ne 5, 3) := by decide +kernel
theorem d_X8_back_7 : dec m_X8_back 7 = .ok (.iconst (-1), 1) := by decide +kernel
theorem d_X8_back_8 : dec m_X8_back 8 = .ok (.ireturn, 1) := by decide +kernel
theorem d_X8_back_9 : dec m_X8_back 9 = .ok (.aload_n 0, 1) := by decide +kernel
theorem d_X8_back_10 : dec m_X8_back 10 = .ok (.getfield 33, 3) := by decide +kernel
theorem d_X8_back_13 : dec m_X8_back 13 = .ok (.iload_n 1, 1) := by decide +kernel
theorem d_X8_back_14 : dec m_X8_back 14 = .ok (.invokevirtual 189, 3) := by decide +kernel
theorem d_X8_back_17 : dec m_X8_back 17 = .ok (.ifCond .ne 6, 3) := by decide +kernel
theorem d_X8_back_20 : dec m_X8_back 20 = .ok (.bipush (-2), 2) := by decide +kernel
theorem d_X8_back_22 : dec m_X8_back 22 = .ok (.ireturn, 1) := by decide +kernel
theorem d_X8_back_23 : dec m_X8_back 23 = .ok (.aload_n 0, 1) := by decide +kernel
theorem d_X8_back_24 : dec m_X8_back 24 = .ok (.getfield 33, 3) := by decide +kernel
theorem d_X8_back_27 : dec m_X8_back 27 = .ok (.iload_n 1, 1) := by decide +kernel
theorem d_X8_back_28 : dec m_X8_back 28 = .ok (.aload_n 0, 1) := by decide +kernel
theorem d_X8_back_29 : dec m_X8_back 29 = .ok (.getfield 12, 3) := by decide +kernel
theorem d_X8_back_32 : dec m_X8_back 32 = .ok (.invokevirtual 192, 3) := by decide +kernel
theorem d_X8_back_35 : dec m_X8_back 35 = .ok (.aload_n 0, 1) := by decide +kernel
theorem d_X8_back_36 : dec m_X8_back 36 = .ok (.getfield 26, 3) := by decide +kernel
theorem d_X8_back_39 : dec m_X8_back 39 = .ok (.invokevirtual 95, 3) := by decide +kernel
theorem d_X8_back_42 : dec m_X8_back 42 = .ok (.aload_n 0, 1) := by decide +kernel
theorem d_X8_back_43 : dec m_X8_back 43 = .ok (.getfield 12, 3) := by decide +kernel
theorem d_X8_back_46 : dec m_X8_back 46 = .ok (.getfield 98, 3) := by decide +kernel
theorem d_X8_back_49 : dec m_X8_back 49 = .ok (.ireturn, 1) := by decide +kernel
theorem d_X8_trader_0 : dec m_X8_trader 0 = .ok (.aload_n 0, 1) := by decide +kernel
theorem d_X8_trader_1 : dec m_X8_trader 1 = .ok (.getfield 12, 3) := by decide +kernel
theorem d_X8_trader_4 : dec m_X8_trader 4 = .ok (.iload_n 1, 1) := by decide +kernel
theorem d_X8_trader_5 : dec m_X8_trader 5 = .ok (.invokevirtual 110, 3) := by decide +kernel
theorem d_X8_trader_8 : dec m_X8_trader 8 = .ok (.ifCond .ne 6, 3) := by decide +kernel
theorem d_X8_trader_11 : dec m_X8_trader 11 = .ok (.ldc 195, 2) := by decide +kernel
theorem d_X8_trader_13 : dec m_X8_trader 13 = .ok (.ireturn, 1) := by decide +kernel
theorem d_X8_trader_14 : dec m_X8_trader 14 = .ok (.iload_n 2, 1) := by decide +kernel
theorem d_X8_trader_15 : dec m_X8_trader 15 = .ok (.tableswitch 119 0 5 #[37, 54, 63, 72, 81, 110], 37) := by decide +kernel
theorem d_X8_trader_52 : dec m_X8_trader 52 = .ok (.aload_n 0, 1) := by decide +kernel
theorem d_X8_trader_53 : dec m_X8_trader 53 = .ok (.getfield 12, 3) := by decide +kernel
theorem d_X8_trader_56 : dec m_X8_trader 56 = .ok (.iload_n 1, 1) := by decide +kernel
theorem d_X8_trader_57 : dec m_X8_trader 57 = .ok (.invokevirtual 160, 3) := by decide +kernel
theorem d_X8_trader_60 : dec m_X8_trader 60 = .ok (.ifCond .eq 7, 3) := by decide +kernel
theorem d_X8_trader_63 : dec m_X8_trader 63 = .ok (.iconst 1, 1) := by decide +kernel
theorem d_X8_trader_64 : dec m_X8_trader 64 = .ok (.goto 4, 3) := by decide +kernel
theorem d_X8_trader_67 : dec m_X8_trader 67 = .ok (.iconst 0, 1) := by decide +kernel
theorem d_X8_trader_68 : dec m_X8_trader 68 = .ok (.ireturn, 1) := by decide +kernel
theorem d_X8_trader_69 : dec m_X8_trader 69 = .ok (.aload_n 0, 1) := by decide +kernel
theorem d_X8_trader_70 : dec m_X8_trader 70 = .ok (.getfield 12, 3) := by decide +kernel
theorem d_X8_trader_73 : dec m_X8_trader 73 = .ok (.iload_n 1, 1) := by decide +kernel
theorem d_X8_trader_74 : dec m_X8_trader 74 = .ok (.invokevirtual 196, 3) := by decide +kernel
theorem d_X8_trader_77 : dec m_X8_trader 77 = .ok (.ireturn, 1) := by decide +kernel
theorem d_X8_trader_78 : dec m_X8_trader 78 = .ok (.aload_n 0, 1) := by decide +kernel
theorem d_X8_trader_79 : dec m_X8_trader 79 = .ok (.getfield 12, 3) := by decide +kernel
theorem d_X8_trader_82 : dec m_X8_trader 82 = .ok (.iload_n 1, 1) := by decide +kernel
theorem d_X8_trader_83 : dec m_X8_trader 83 = .ok (.invokevirtual 116, 3) := by decide +kernel
theorem d_X8_trader_86 : dec m_X8_trader 86 = .ok (.ireturn, 1) := by decide +kernel
theorem d_X8_trader_87 : dec m_X8_trader 87 = .ok (.aload_n 0, 1) := by decide +kernel
theorem d_X8_trader_88 : dec m_X8_trader 88 = .ok (.getfield 12, 3) := by decide +kernel
theorem d_X8_trader_91 : dec m_X8_trader 91 = .ok (.iload_n 1, 1) := by decide +kernel
theorem d_X8_trader_92 : dec m_X8_trader 92 = .ok (.invokevirtual 199, 3) := by decide +kernel
theorem d_X8_trader_95 : dec m_X8_trader 95 = .ok (.ireturn, 1) := by decide +kernel
theorem d_X8_trader_96 : dec m_X8_trader 96 = .ok (.aload_n 0, 1) := by decide +kernel
theorem d_X8_trader_97 : dec m_X8_trader 97 = .ok (.aload_n 0, 1) := by decide +kernel
theorem d_X8_trader_98 : dec m_X8_trader 98 = .ok (.getfield 12, 3) := by decide +kernel
theorem d_X8_trader_101 : dec m_X8_trader 101 = .ok (.iload_n 1, 1) := by decide +kernel
theorem d_X8_trader_102 : dec m_X8_trader 102 = .ok (.invokevirtual 196, 3) := by decide +kernel
theorem d_X8_trader_105 : dec m_X8_trader 105 = .ok (.invokevirtual 154, 3) := by decide +kernel
theorem d_X8_trader_108 : dec m_X8_trader 108 = .ok (.aload_n 0, 1) := by decide +kernel
theorem d_X8_trader_109 : dec m_X8_trader 109 = .ok (.getfield 47, 3) := by decide +kernel
theorem d_X8_trader_112 : dec m_X8_trader 112 = .ok (.aload_n 0, 1) := by decide +kernel
theorem d_X8_trader_113 : dec m_X8_trader 113 = .ok (.getfield 12, 3) := by decide +kernel
theorem d_X8_trader_116 : dec m_X8_trader 116 = .ok (.iload_n 1, 1) := by decide +kernel
theorem d_X8_trader_117 : dec m_X8_trader 117 = .ok (.invokevirtual 160, 3) := by decide +kernel
theorem d_X8_trader_120 : dec m_X8_trader 120 = .ok (.iload_n 1, 1) := by decide +kernel
theorem d_X8_trader_121 : dec m_X8_trader 121 = .ok (.invokevirtual 163, 3) := by decide +kernel
theorem d_X8_trader_124 : dec m_X8_trader 124 = .ok (.ireturn, 1) := by decide +kernel
theorem d_X8_trader_125 : dec m_X8_trader 125 = .ok (.aload_n 0, 1) := by decide +kernel
theorem d_X8_trader_126 : dec m_X8_trader 126 = .ok (.getfield 12, 3) := by decide +kernel
theorem d_X8_trader_129 : dec m_X8_trader 129 = .ok (.iload_n 1, 1) := by decide +kernel
theorem d_X8_trader_130 : dec m_X8_trader 130 = .ok (.invokevirtual 202, 3) := by decide +kernel
theorem d_X8_trader_133 : dec m_X8_trader 133 = .ok (.ireturn, 1) := by decide +kernel
theorem d_X8_trader_134 : dec m_X8_trader 134 = .ok (.aload_n 0, 1) := by decide +kernel
theorem d_X8_trader_135 : dec m_X8_trader 135 = .ok (.getfield 12, 3) := by decide +kernel
theorem d_X8_trader_138 : dec m_X8_trader 138 = .ok (.iload_n 1, 1) := by decide +kernel
theorem d_X8_trader_139 : dec m_X8_trader 139 = .ok (.iload_n 2, 1) := by decide +kernel
theorem d_X8_trader_140 : dec m_X8_trader 140 = .ok (.bipush 10, 2) := by decide +kernel
theorem d_X8_trader_142 : dec m_X8_trader 142 = .ok (.isub, 1) := by decide +kernel
theorem d_X8_trader_143 : dec m_X8_trader 143 = .ok (.invokevirtual 127, 3) := by decide +kernel
theorem d_X8_trader_146 : dec m_X8_trader 146 = .ok (.ifCond .eq 18, 3) := by decide +kernel
theorem d_X8_trader_149 : dec m_X8_trader 149 = .ok (.aload_n 0, 1) := by decide +kernel
theorem d_X8_trader_150 : dec m_X8_trader 150 = .ok (.getfield 12, 3) := by decide +kernel
theorem d_X8_trader_153 : dec m_X8_trader 153 = .ok (.iload_n 1, 1) := by decide +kernel
theorem d_X8_trader_154 : dec m_X8_trader 154 = .ok (.iload_n 2, 1) := by decide +kernel
theorem d_X8_trader_155 : dec m_X8_trader 155 = .ok (.bipush 10, 2) := by decide +kernel
theorem d_X8_trader_157 : dec m_X8_trader 157 = .ok (.isub, 1) := by decide +kernel
theorem d_X8_trader_158 : dec m_X8_trader 158 = .ok (.invokevirtual 131, 3) := by decide +kernel
theorem d_X8_trader_161 : dec m_X8_trader 161 = .ok (.goto 5, 3) := by decide +kernel
theorem d_X8_trader_164 : dec m_X8_trader 164 = .ok (.ldc 195, 2) := by decide +kernel
theorem d_X8_trader_166 : dec m_X8_trader 166 = .ok (.ireturn, 1) := by decide +kernel
theorem d_X8_row_0 : dec m_X8_row 0 = .ok (.iload_n 1, 1) := by decide +kernel
theorem d_X8_row_1 : dec m_X8_row 1 = .ok (.invokestatic 99, 3) := by decide +kernel
theorem d_X8_row_4 : dec m_X8_row 4 = .ok (.ifCond .eq 14, 3) := by decide +kernel
theorem d_X8_row_7 : dec m_X8_row 7 = .ok (.iload 4, 2) := by decide +kernel
theorem d_X8_row_9 : dec m_X8_row 9 = .ok (.ifCond .lt 9, 3) := by decide +kernel
theorem d_X8_row_12 : dec m_X8_row 12 = .ok (.iload 4, 2) := by decide +kernel
theorem d_X8_row_14 : dec m_X8_row 14 = .ok (.iconst 2, 1) := by decide +kernel
theorem d_X8_row_15 : dec m_X8_row 15 = .ok (.if_icmp .le 5, 3) := by decide +kernel
theorem d_X8_row_18 : dec m_X8_row 18 = .ok (.iconst (-1), 1) := by decide +kernel
theorem d_X8_row_19 : dec m_X8_row 19 = .ok (.ireturn, 1) := by decide +kernel
theorem d_X8_row_20 : dec m_X8_row 20 = .ok (.aload_n 0, 1) := by decide +kernel
theorem d_X8_row_21 : dec m_X8_row 21 = .ok (.iload_n 1, 1) := by decide +kernel
theorem d_X8_row_22 : dec m_X8_row 22 = .ok (.invokevirtual 154, 3) := by decide +kernel
theorem d_X8_row_25 : dec m_X8_row 25 = .ok (.iload_n 2, 1) := by decide +kernel
theorem d_X8_row_26 : dec m_X8_row 26 = .ok (.ifCond .eq 13, 3) := by decide +kernel
theorem d_X8_row_29 : dec m_X8_row 29 = .ok (.aload_n 0, 1) := by decide +kernel
theorem d_X8_row_30 : dec m_X8_row 30 = .ok (.getfield 47, 3) := by decide +kernel
theorem d_X8_row_33 : dec m_X8_row 33 = .ok (.getfield 205, 3) := by decide +kernel
theorem d_X8_row_36 : dec m_X8_row 36 = .ok (.goto 10, 3) := by decide +kernel
theorem d_X8_row_39 : dec m_X8_row 39 = .ok (.aload_n 0, 1) := by decide +kernel
theorem d_X8_row_40 : dec m_X8_row 40 = .ok (.getfield 47, 3) := by decide +kernel
theorem d_X8_row_43 : dec m_X8_row 43 = .ok (.getfield 208, 3) := by decide +kernel
theorem d_X8_row_46 : dec m_X8_row 46 = .ok (.istore 5, 2) := by decide +kernel
theorem d_X8_row_48 : dec m_X8_row 48 = .ok (.iload_n 3, 1) := by decide +kernel
theorem d_X8_row_49 : dec m_X8_row 49 = .ok (.iconst (-1), 1) := by decide +kernel
theorem d_X8_row_50 : dec m_X8_row 50 = .ok (.if_icmp .ne 11, 3) := by decide +kernel
theorem d_X8_row_53 : dec m_X8_row 53 = .ok (.iload 4, 2) := by decide +kernel
theorem d_X8_row_55 : dec m_X8_row 55 = .ok (.ifCond .ne 6, 3) := by decide +kernel
theorem d_X8_row_58 : dec m_X8_row 58 = .ok (.iload 5, 2) := by decide +kernel
theorem d_X8_row_60 : dec m_X8_row 60 = .ok (.ireturn, 1) := by decide +kernel
theorem d_X8_row_61 : dec m_X8_row 61 = .ok (.iload_n 3, 1) := by decide +kernel
theorem d_X8_row_62 : dec m_X8_row 62 = .ok (.ifCond .lt 9, 3) := by decide +kernel
theorem d_X8_row_65 : dec m_X8_row 65 = .ok (.iload_n 3, 1) := by decide +kernel
theorem d_X8_row_66 : dec m_X8_row 66 = .ok (.iload 5, 2) := by decide +kernel
theorem d_X8_row_68 : dec m_X8_row 68 = .ok (.if_icmp .lt 5, 3) := by decide +kernel
theorem d_X8_row_71 : dec m_X8_row 71 = .ok (.iconst (-1), 1) := by decide +kernel
theorem d_X8_row_72 : dec m_X8_row 72 = .ok (.ireturn, 1) := by decide +kernel
theorem d_X8_row_73 : dec m_X8_row 73 = .ok (.iload 4, 2) := by decide +kernel
theorem d_X8_row_75 : dec m_X8_row 75 = .ok (.lookupswitch 45 #[(0, 25), (1, 35)], 25) := by decide +kernel
theorem d_X8_row_100 : dec m_X8_row 100 = .ok (.aload_n 0, 1) := by decide +kernel
theorem d_X8_row_101 : dec m_X8_row 101 = .ok (.getfield 47, 3) := by decide +kernel
theorem d_X8_row_104 : dec m_X8_row 104 = .ok (.iload_n 2, 1) := by decide +kernel
theorem d_X8_row_105 : dec m_X8_row 105 = .ok (.iload_n 3, 1) := by decide +kernel
theorem d_X8_row_106 : dec m_X8_row 106 = .ok (.invokevirtual 211, 3) := by decide +kernel
theorem d_X8_row_109 : dec m_X8_row 109 = .ok (.ireturn, 1) := by decide +kernel
theorem d_X8_row_110 : dec m_X8_row 110 = .ok (.aload_n 0, 1) := by decide +kernel
theorem d_X8_row_111 : dec m_X8_row 111 = .ok (.getfield 47, 3) := by decide +kernel
theorem d_X8_row_114 : dec m_X8_row 114 = .ok (.iload_n 2, 1) := by decide +kernel
theorem d_X8_row_115 : dec m_X8_row 115 = .ok (.iload_n 3, 1) := by decide +kernel
theorem d_X8_row_116 : dec m_X8_row 116 = .ok (.invokevirtual 214, 3) := by decide +kernel
theorem d_X8_row_119 : dec m_X8_row 119 = .ok (.ireturn, 1) := by decide +kernel
theorem d_X8_row_120 : dec m_X8_row 120 = .ok (.iload_n 2, 1) := by decide +kernel
theorem d_X8_row_121 : dec m_X8_row 121 = .ok (.ifCond .eq 14, 3) := by decide +kernel
theorem d_X8_row_124 : dec m_X8_row 124 = .ok (.aload_n 0, 1) := by decide +kernel
theorem d_X8_row_125 : dec m_X8_row 125 = .ok (.getfield 47, 3) := by decide +kernel
theorem d_X8_row_128 : dec m_X8_row 128 = .ok (.iload_n 3, 1) := by decide +kernel
theorem d_X8_row_129 : dec m_X8_row 129 = .ok (.invokevirtual 217, 3) := by decide +kernel
theorem d_X8_row_132 : dec m_X8_row 132 = .ok (.goto 11, 3) := by decide +kernel
theorem d_X8_row_135 : dec m_X8_row 135 = .ok (.aload_n 0, 1) := by decide +kernel
theorem d_X8_row_136 : dec m_X8_row 136 = .ok (.getfield 47, 3) := by decide +kernel
theorem d_X8_row_139 : dec m_X8_row 139 = .ok (.iload_n 3, 1) := by decide +kernel
theorem d_X8_row_140 : dec m_X8_row 140 = .ok (.invokevirtual 220, 3) := by decide +kernel
theorem d_X8_row_143 : dec m_X8_row 143 = .ok (.ireturn, 1) := by decide +kernel
theorem d_X8_market_0 : dec m_X8_market 0 = .ok (.iload_n 1, 1) := by decide +kernel
theorem d_X8_market_1 : dec m_X8_market 1 = .ok (.invokestatic 99, 3) := by decide +kernel
theorem d_X8_market_4 : dec m_X8_market 4 = .ok (.ifCond .ne 6, 3) := by decide +kernel
theorem d_X8_market_7 : dec m_X8_market 7 = .ok (.ldc 195, 2) := by decide +kernel
theorem d_X8_market_9 : dec m_X8_market 9 = .ok (.ireturn, 1) := by decide +kernel
theorem d_X8_market_10 : dec m_X8_market 10 = .ok (.aload_n 0, 1) := by decide +kernel
theorem d_X8_market_11 : dec m_X8_market 11 = .ok (.iload_n 1, 1) := by decide +kernel
theorem d_X8_market_12 : dec m_X8_market 12 = .ok (.invokevirtual 154, 3) := by decide +kernel
theorem d_X8_market_15 : dec m_X8_market 15 = .ok (.iload_n 2, 1) := by decide +kernel
theorem d_X8_market_16 : dec m_X8_market 16 = .ok (.tableswitch 184 0 8 #[52, 60, 68, 76, 99, 122, 130, 138, 161], 52) := by decide +kernel
theorem d_X8_market_68 : dec m_X8_market 68 = .ok (.aload_n 0, 1) := by decide +kernel
theorem d_X8_market_69 : dec m_X8_market 69 = .ok (.getfield 47, 3) := by decide +kernel
theorem d_X8_market_72 : dec m_X8_market 72 = .ok (.getfield 223, 3) := by decide +kernel
theorem d_X8_market_75 : dec m_X8_market 75 = .ok (.ireturn, 1) := by decide +kernel
theorem d_X8_market_76 : dec m_X8_market 76 = .ok (.aload_n 0, 1) := by decide +kernel
theorem d_X8_market_77 : dec m_X8_market 77 = .ok (.getfield 47, 3) := by decide +kernel
theorem d_X8_market_80 : dec m_X8_market 80 = .ok (.getfield 226, 3) := by decide +kernel
theorem d_X8_market_83 : dec m_X8_market 83 = .ok (.ireturn, 1) := by decide +kernel
theorem d_X8_market_84 : dec m_X8_market 84 = .ok (.aload_n 0, 1) := by decide +kernel
theorem d_X8_market_85 : dec m_X8_market 85 = .ok (.getfield 47, 3) := by decide +kernel
theorem d_X8_market_88 : dec m_X8_market 88 = .ok (.getfield 157, 3) := by decide +kernel
theorem d_X8_market_91 : dec m_X8_market 91 = .ok (.ireturn, 1) := by decide +kernel
theorem d_X8_market_92 : dec m_X8_market 92 = .ok (.aload_n 0, 1) := by decide +kernel
theorem d_X8_market_93 : dec m_X8_market 93 = .ok (.getfield 47, 3) := by decide +kernel
theorem d_X8_market_96 : dec m_X8_market 96 = .ok (.invokevirtual 229, 3) := by decide +kernel
theorem d_X8_market_99 : dec m_X8_market 99 = .ok (.ifCond .eq 13, 3) := by decide +kernel
theorem d_X8_market_102 : dec m_X8_market 102 = .ok (.aload_n 0, 1) := by decide +kernel
theorem d_X8_market_103 : dec m_X8_market 103 = .ok (.getfield 47, 3) := by decide +kernel
theorem d_X8_market_106 : dec m_X8_market 106 = .ok (.getfield 233, 3) := by decide +kernel
theorem d_X8_market_109 : dec m_X8_market 109 = .ok (.goto 5, 3) := by decide +kernel
theorem d_X8_market_112 : dec m_X8_market 112 = .ok (.bipush (-2), 2) := by decide +kernel
theorem d_X8_market_114 : dec m_X8_market 114 = .ok (.ireturn, 1) := by decide +kernel
theorem d_X8_market_115 : dec m_X8_market 115 = .ok (.aload_n 0, 1) := by decide +kernel
theorem d_X8_market_116 : dec m_X8_market 116 = .ok (.getfield 47, 3) := by decide +kernel
theorem d_X8_market_119 : dec m_X8_market 119 = .ok (.invokevirtual 229, 3) := by decide +kernel
theorem d_X8_market_122 : dec m_X8_market 122 = .ok (.ifCond .eq 13, 3) := by decide +kernel
theorem d_X8_market_125 : dec m_X8_market 125 = .ok (.aload_n 0, 1) := by decide +kernel
theorem d_X8_market_126 : dec m_X8_market 126 = .ok (.getfield 47, 3) := by decide +kernel
theorem d_X8_market_129 : dec m_X8_market 129 = .ok (.getfield 236, 3) := by decide +kernel
theorem d_X8_market_132 : dec m_X8_market 132 = .ok (.goto 5, 3) := by decide +kernel
theorem d_X8_market_135 : dec m_X8_market 135 = .ok (.bipush (-2), 2) := by decide +kernel
theorem d_X8_market_137 : dec m_X8_market 137 = .ok (.ireturn, 1) := by decide +kernel
theorem d_X8_market_138 : dec m_X8_market 138 = .ok (.aload_n 0, 1) := by decide +kernel
theorem d_X8_market_139 : dec m_X8_market 139 = .ok (.getfield 47, 3) := by decide +kernel
theorem d_X8_market_142 : dec m_X8_market 142 = .ok (.invokevirtual 172, 3) := by decide +kernel
theorem d_X8_market_145 : dec m_X8_market 145 = .ok (.ireturn, 1) := by decide +kernel
theorem d_X8_market_146 : dec m_X8_market 146 = .ok (.aload_n 0, 1) := by decide +kernel
theorem d_X8_market_147 : dec m_X8_market 147 = .ok (.getfield 47, 3) := by decide +kernel
theorem d_X8_market_150 : dec m_X8_market 150 = .ok (.invokevirtual 239, 3) := by decide +kernel
theorem d_X8_market_153 : dec m_X8_market 153 = .ok (.ireturn, 1) := by decide +kernel
theorem d_X8_market_154 : dec m_X8_market 154 = .ok (.aload_n 0, 1) := by decide +kernel
theorem d_X8_market_155 : dec m_X8_market 155 = .ok (.getfield 47, 3) := by decide +kernel
theorem d_X8_market_158 : dec m_X8_market 158 = .ok (.getfield 223, 3) := by decide +kernel
theorem d_X8_market_161 : dec m_X8_market 161 = .ok (.ifCond .le 13, 3) := by decide +kernel
theorem d_X8_market_164 : dec m_X8_market 164 = .ok (.aload_n 0, 1) := by decide +kernel
theorem d_X8_market_165 : dec m_X8_market 165 = .ok (.getfield 47, 3) := by decide +kernel
theorem d_X8_market_168 : dec m_X8_market 168 = .ok (.invokevirtual 242, 3) := by decide +kernel
theorem d_X8_market_171 : dec m_X8_market 171 = .ok (.goto 5, 3) := by decide +kernel
theorem d_X8_market_174 : dec m_X8_market 174 = .ok (.bipush (-2), 2) := by decide +kernel
theorem d_X8_market_176 : dec m_X8_market 176 = .ok (.ireturn, 1) := by decide +kernel
theorem d_X8_market_177 : dec m_X8_market 177 = .ok (.aload_n 0, 1) := by decide +kernel
theorem d_X8_market_178 : dec m_X8_market 178 = .ok (.getfield 47, 3) := by decide +kernel
theorem d_X8_market_181 : dec m_X8_market 181 = .ok (.getfield 223, 3) := by decide +kernel
theorem d_X8_market_184 : dec m_X8_market 184 = .ok (.ifCond .le 13, 3) := by decide +kernel
theorem d_X8_market_187 : dec m_X8_market 187 = .ok (.aload_n 0, 1) := by decide +kernel
theorem d_X8_market_188 : dec m_X8_market 188 = .ok (.getfield 47, 3) := by decide +kernel
theorem d_X8_market_191 : dec m_X8_market 191 = .ok (.invokevirtual 245, 3) := by decide +kernel
theorem d_X8_market_194 : dec m_X8_market 194 = .ok (.goto 5, 3) := by decide +kernel
theorem d_X8_market_197 : dec m_X8_market 197 = .ok (.bipush (-2), 2) := by decide +kernel
theorem d_X8_market_199 : dec m_X8_market 199 = .ok (.ireturn, 1) := by decide +kernel
theorem d_X8_market_200 : dec m_X8_market 200 = .ok (.ldc 195, 2) := by decide +kernel
theorem d_X8_market_202 : dec m_X8_market 202 = .ok (.ireturn, 1) := by decide +kernel
theorem d_X8_deal_0 : dec m_X8_deal 0 = .ok (.aload_n 0, 1) := by decide +kernel
theorem d_X8_deal_1 : dec m_X8_deal 1 = .ok (.getfield 12, 3) := by decide +kernel
theorem d_X8_deal_4 : dec m_X8_deal 4 = .ok (.iload_n 1, 1) := by decide +kernel
theorem d_X8_deal_5 : dec m_X8_deal 5 = .ok (.invokevirtual 110, 3) := by decide +kernel
theorem d_X8_deal_8 : dec m_X8_deal 8 = .ok (.ifCond .eq 10, 3) := by decide +kernel
theorem d_X8_deal_11 : dec m_X8_deal 11 = .ok (.iload_n 2, 1) := by decide +kernel
theorem d_X8_deal_12 : dec m_X8_deal 12 = .ok (.invokestatic 248, 3) := by decide +kernel
theorem d_X8_deal_15 : dec m_X8_deal 15 = .ok (.ifCond .ne 6, 3) := by decide +kernel
theorem d_X8_deal_18 : dec m_X8_deal 18 = .ok (.ldc 195, 2) := by decide +kernel
theorem d_X8_deal_20 : dec m_X8_deal 20 = .ok (.ireturn, 1) := by decide +kernel
theorem d_X8_deal_21 : dec m_X8_deal 21 = .ok (.aload_n 0, 1) := by decide +kernel
theorem d_X8_deal_22 : dec m_X8_deal 22 = .ok (.aload_n 0, 1) := by decide +kernel
theorem d_X8_deal_23 : dec m_X8_deal 23 = .ok (.getfield 12, 3) := by decide +kernel
theorem d_X8_deal_26 : dec m_X8_deal 26 = .ok (.iload_n 1, 1) := by decide +kernel
theorem d_X8_deal_27 : dec m_X8_deal 27 = .ok (.invokevirtual 196, 3) := by decide +kernel
theorem d_X8_deal_30 : dec m_X8_deal 30 = .ok (.invokevirtual 154, 3) := by decide +kernel
theorem d_X8_deal_33 : dec m_X8_deal 33 = .ok (.aload_n 0, 1) := by decide +kernel
theorem d_X8_deal_34 : dec m_X8_deal 34 = .ok (.getfield 12, 3) := by decide +kernel
theorem d_X8_deal_37 : dec m_X8_deal 37 = .ok (.iload_n 1, 1) := by decide +kernel
theorem d_X8_deal_38 : dec m_X8_deal 38 = .ok (.invokevirtual 160, 3) := by decide +kernel
theorem d_X8_deal_41 : dec m_X8_deal 41 = .ok (.istore_n 3, 1) := by decide +kernel
theorem d_X8_deal_42 : dec m_X8_deal 42 = .ok (.iload_n 2, 1) := by decide +kernel
theorem d_X8_deal_43 : dec m_X8_deal 43 = .ok (.ifCond .ne 15, 3) := by decide +kernel
theorem d_X8_deal_46 : dec m_X8_deal 46 = .ok (.aload_n 0, 1) := by decide +kernel
theorem d_X8_deal_47 : dec m_X8_deal 47 = .ok (.getfield 47, 3) := by decide +kernel
theorem d_X8_deal_50 : dec m_X8_deal 50 = .ok (.iload_n 3, 1) := by decide +kernel
theorem d_X8_deal_51 : dec m_X8_deal 51 = .ok (.iload_n 1, 1) := by decide +kernel
theorem d_X8_deal_52 : dec m_X8_deal 52 = .ok (.invokevirtual 166, 3) := by decide +kernel
theorem d_X8_deal_55 : dec m_X8_deal 55 = .ok (.goto 15, 3) := by decide +kernel
theorem d_X8_deal_58 : dec m_X8_deal 58 = .ok (.aload_n 0, 1) := by decide +kernel
theorem d_X8_deal_59 : dec m_X8_deal 59 = .ok (.getfield 47, 3) := by decide +kernel
theorem d_X8_deal_62 : dec m_X8_deal 62 = .ok (.aload_n 0, 1) := by decide +kernel
theorem d_X8_deal_63 : dec m_X8_deal 63 = .ok (.getfield 12, 3) := by decide +kernel
theorem d_X8_deal_66 : dec m_X8_deal 66 = .ok (.iload_n 1, 1) := by decide +kernel
theorem d_X8_deal_67 : dec m_X8_deal 67 = .ok (.invokevirtual 251, 3) := by decide +kernel
theorem d_X8_deal_70 : dec m_X8_deal 70 = .ok (.ireturn, 1) := by decide +kernel
theorem d_X8_lie_0 : dec m_X8_lie 0 = .ok (.aload_n 0, 1) := by decide +kernel
theorem d_X8_lie_1 : dec m_X8_lie 1 = .ok (.getfield 12, 3) := by decide +kernel
theorem d_X8_lie_4 : dec m_X8_lie 4 = .ok (.iload_n 1, 1) := by decide +kernel
theorem d_X8_lie_5 : dec m_X8_lie 5 = .ok (.invokevirtual 110, 3) := by decide +kernel
theorem d_X8_lie_8 : dec m_X8_lie 8 = .ok (.ifCond .eq 17, 3) := by decide +kernel
theorem d_X8_lie_11 : dec m_X8_lie 11 = .ok (.iload_n 2, 1) := by decide +kernel
theorem d_X8_lie_12 : dec m_X8_lie 12 = .ok (.sipush (-500), 3) := by decide +kernel
theorem d_X8_lie_15 : dec m_X8_lie 15 = .ok (.if_icmp .lt 10, 3) := by decide +kernel
theorem d_X8_lie_18 : dec m_X8_lie 18 = .ok (.iload_n 2, 1) := by decide +kernel
theorem d_X8_lie_19 : dec m_X8_lie 19 = .ok (.sipush 500, 3) := by decide +kernel
theorem d_X8_lie_22 : dec m_X8_lie 22 = .ok (.if_icmp .le 6, 3) := by decide +kernel
theorem d_X8_lie_25 : dec m_X8_lie 25 = .ok (.ldc 195, 2) := by decide +kernel
theorem d_X8_lie_27 : dec m_X8_lie 27 = .ok (.ireturn, 1) := by decide +kernel
theorem d_X8_lie_28 : dec m_X8_lie 28 = .ok (.aload_n 0, 1) := by decide +kernel
theorem d_X8_lie_29 : dec m_X8_lie 29 = .ok (.aload_n 0, 1) := by decide +kernel
theorem d_X8_lie_30 : dec m_X8_lie 30 = .ok (.getfield 12, 3) := by decide +kernel
theorem d_X8_lie_33 : dec m_X8_lie 33 = .ok (.iload_n 1, 1) := by decide +kernel
theorem d_X8_lie_34 : dec m_X8_lie 34 = .ok (.invokevirtual 196, 3) := by decide +kernel
theorem d_X8_lie_37 : dec m_X8_lie 37 = .ok (.iload_n 1, 1) := by decide +kernel
theorem d_X8_lie_38 : dec m_X8_lie 38 = .ok (.invokestatic 255, 3) := by decide +kernel
theorem d_X8_lie_41 : dec m_X8_lie 41 = .ok (.invokevirtual 258, 3) := by decide +kernel
theorem d_X8_lie_44 : dec m_X8_lie 44 = .ok (.aload_n 0, 1) := by decide +kernel
theorem d_X8_lie_45 : dec m_X8_lie 45 = .ok (.iload_n 1, 1) := by decide +kernel
theorem d_X8_lie_46 : dec m_X8_lie 46 = .ok (.iload_n 2, 1) := by decide +kernel
theorem d_X8_lie_47 : dec m_X8_lie 47 = .ok (.invokevirtual 261, 3) := by decide +kernel
theorem d_X8_lie_50 : dec m_X8_lie 50 = .ok (.ireturn, 1) := by decide +kernel
theorem d_X8_tempted_0 : dec m_X8_tempted 0 = .ok (.aload_n 0, 1) := by decide +kernel
theorem d_X8_tempted_1 : dec m_X8_tempted 1 = .ok (.getfield 12, 3) := by decide +kernel
theorem d_X8_tempted_4 : dec m_X8_tempted 4 = .ok (.iload_n 1, 1) := by decide +kernel
theorem d_X8_tempted_5 : dec m_X8_tempted 5 = .ok (.invokevirtual 110, 3) := by decide +kernel
theorem d_X8_tempted_8 : dec m_X8_tempted 8 = .ok (.ifCond .eq 10, 3) := by decide +kernel
theorem d_X8_tempted_11 : dec m_X8_tempted 11 = .ok (.iload_n 2, 1) := by decide +kernel
theorem d_X8_tempted_12 : dec m_X8_tempted 12 = .ok (.invokestatic 248, 3) := by decide +kernel
theorem d_X8_tempted_15 : dec m_X8_tempted 15 = .ok (.ifCond .ne 6, 3) := by decide +kernel
theorem d_X8_tempted_18 : dec m_X8_tempted 18 = .ok (.ldc 195, 2) := by decide +kernel
theorem d_X8_tempted_20 : dec m_X8_tempted 20 = .ok (.ireturn, 1) := by decide +kernel
theorem d_X8_tempted_21 : dec m_X8_tempted 21 = .ok (.aload_n 0, 1) := by decide +kernel
theorem d_X8_tempted_22 : dec m_X8_tempted 22 = .ok (.aload_n 0, 1) := by decide +kernel
theorem d_X8_tempted_23 : dec m_X8_tempted 23 = .ok (.getfield 12, 3) := by decide +kernel
theorem d_X8_tempted_26 : dec m_X8_tempted 26 = .ok (.iload_n 1, 1) := by decide +kernel
theorem d_X8_tempted_27 : dec m_X8_tempted 27 = .ok (.invokevirtual 196, 3) := by decide +kernel
theorem d_X8_tempted_30 : dec m_X8_tempted 30 = .ok (.iload_n 1, 1) := by decide +kernel
theorem d_X8_tempted_31 : dec m_X8_tempted 31 = .ok (.invokestatic 255, 3) := by decide +kernel
theorem d_X8_tempted_34 : dec m_X8_tempted 34 = .ok (.invokevirtual 258, 3) := by decide +kernel
theorem d_X8_tempted_37 : dec m_X8_tempted 37 = .ok (.aload_n 0, 1) := by decide +kernel
theorem d_X8_tempted_38 : dec m_X8_tempted 38 = .ok (.iload_n 1, 1) := by decide +kernel
theorem d_X8_tempted_39 : dec m_X8_tempted 39 = .ok (.iconst 0, 1) := by decide +kernel
theorem d_X8_tempted_40 : dec m_X8_tempted 40 = .ok (.invokevirtual 261, 3) := by decide +kernel
theorem d_X8_tempted_43 : dec m_X8_tempted 43 = .ok (.istore_n 3, 1) := by decide +kernel
theorem d_X8_tempted_44 : dec m_X8_tempted 44 = .ok (.iconst 0, 1) := by decide +kernel
theorem d_X8_tempted_45 : dec m_X8_tempted 45 = .ok (.istore 4, 2) := by decide +kernel
theorem d_X8_tempted_47 : dec m_X8_tempted 47 = .ok (.iconst 1, 1) := by decide +kernel
theorem d_X8_tempted_48 : dec m_X8_tempted 48 = .ok (.istore 5, 2) := by decide +kernel
theorem d_X8_tempted_50 : dec m_X8_tempted 50 = .ok (.iload 5, 2) := by decide +kernel
theorem d_X8_tempted_52 : dec m_X8_tempted 52 = .ok (.sipush 400, 3) := by decide +kernel
theorem d_X8_tempted_55 : dec m_X8_tempted 55 = .ok (.if_icmp .gt 38, 3) := by decide +kernel
theorem d_X8_tempted_58 : dec m_X8_tempted 58 = .ok (.iload 5, 2) := by decide +kernel
theorem d_X8_tempted_60 : dec m_X8_tempted 60 = .ok (.invokestatic 264, 3) := by decide +kernel
theorem d_X8_tempted_63 : dec m_X8_tempted 63 = .ok (.istore 6, 2) := by decide +kernel
theorem d_X8_tempted_65 : dec m_X8_tempted 65 = .ok (.aload_n 0, 1) := by decide +kernel
theorem d_X8_tempted_66 : dec m_X8_tempted 66 = .ok (.iload_n 1, 1) := by decide +kernel
theorem d_X8_tempted_67 : dec m_X8_tempted 67 = .ok (.iload 6, 2) := by decide +kernel
theorem d_X8_tempted_69 : dec m_X8_tempted 69 = .ok (.invokevirtual 261, 3) := by decide +kernel
theorem d_X8_tempted_72 : dec m_X8_tempted 72 = .ok (.istore 7, 2) := by decide +kernel
theorem d_X8_tempted_74 : dec m_X8_tempted 74 = .ok (.iload 7, 2) := by decide +kernel
theorem d_X8_tempted_76 : dec m_X8_tempted 76 = .ok (.iload_n 3, 1) := by decide +kernel
theorem d_X8_tempted_77 : dec m_X8_tempted 77 = .ok (.if_icmp .le 10, 3) := by decide +kernel
theorem d_X8_tempted_80 : dec m_X8_tempted 80 = .ok (.iload 7, 2) := by decide +kernel
theorem d_X8_tempted_82 : dec m_X8_tempted 82 = .ok (.istore_n 3, 1) := by decide +kernel
theorem d_X8_tempted_83 : dec m_X8_tempted 83 = .ok (.iload 6, 2) := by decide +kernel
theorem d_X8_tempted_85 : dec m_X8_tempted 85 = .ok (.istore 4, 2) := by decide +kernel
theorem d_X8_tempted_87 : dec m_X8_tempted 87 = .ok (.iinc 5 1, 3) := by decide +kernel
theorem d_X8_tempted_90 : dec m_X8_tempted 90 = .ok (.goto (-40), 3) := by decide +kernel
theorem d_X8_tempted_93 : dec m_X8_tempted 93 = .ok (.iload_n 2, 1) := by decide +kernel
theorem d_X8_tempted_94 : dec m_X8_tempted 94 = .ok (.ifCond .ne 7, 3) := by decide +kernel
theorem d_X8_tempted_97 : dec m_X8_tempted 97 = .ok (.iload_n 3, 1) := by decide +kernel
theorem d_X8_tempted_98 : dec m_X8_tempted 98 = .ok (.goto 5, 3) := by decide +kernel
theorem d_X8_tempted_101 : dec m_X8_tempted 101 = .ok (.iload 4, 2) := by decide +kernel
theorem d_X8_tempted_103 : dec m_X8_tempted 103 = .ok (.ireturn, 1) := by decide +kernel
theorem d_X8_missed_0 : dec m_X8_missed 0 = .ok (.aload_n 0, 1) := by decide +kernel
theorem d_X8_missed_1 : dec m_X8_missed 1 = .ok (.getfield 12, 3) := by decide +kernel
theorem d_X8_missed_4 : dec m_X8_missed 4 = .ok (.iload_n 1, 1) := by decide +kernel
theorem d_X8_missed_5 : dec m_X8_missed 5 = .ok (.invokevirtual 110, 3) := by decide +kernel
theorem d_X8_missed_8 : dec m_X8_missed 8 = .ok (.ifCond .ne 5, 3) := by decide +kernel
theorem d_X8_missed_11 : dec m_X8_missed 11 = .ok (.iconst (-1), 1) := by decide +kernel
theorem d_X8_missed_12 : dec m_X8_missed 12 = .ok (.ireturn, 1) := by decide +kernel
theorem d_X8_missed_13 : dec m_X8_missed 13 = .ok (.aload_n 0, 1) := by decide +kernel
theorem d_X8_missed_14 : dec m_X8_missed 14 = .ok (.aload_n 0, 1) := by decide +kernel
theorem d_X8_missed_15 : dec m_X8_missed 15 = .ok (.getfield 12, 3) := by decide +kernel
theorem d_X8_missed_18 : dec m_X8_missed 18 = .ok (.iload_n 1, 1) := by decide +kernel
theorem d_X8_missed_19 : dec m_X8_missed 19 = .ok (.invokevirtual 196, 3) := by decide +kernel
theorem d_X8_missed_22 : dec m_X8_missed 22 = .ok (.invokevirtual 154, 3) := by decide +kernel
theorem d_X8_missed_25 : dec m_X8_missed 25 = .ok (.aload_n 0, 1) := by decide +kernel
theorem d_X8_missed_26 : dec m_X8_missed 26 = .ok (.getfield 47, 3) := by decide +kernel
theorem d_X8_missed_29 : dec m_X8_missed 29 = .ok (.getfield 226, 3) := by decide +kernel
theorem d_X8_missed_32 : dec m_X8_missed 32 = .ok (.aload_n 0, 1) := by decide +kernel
theorem d_X8_missed_33 : dec m_X8_missed 33 = .ok (.getfield 47, 3) := by decide +kernel
theorem d_X8_missed_36 : dec m_X8_missed 36 = .ok (.iload_n 1, 1) := by decide +kernel
theorem d_X8_missed_37 : dec m_X8_missed 37 = .ok (.invokevirtual 267, 3) := by decide +kernel
theorem d_X8_missed_40 : dec m_X8_missed 40 = .ok (.isub, 1) := by decide +kernel
theorem d_X8_missed_41 : dec m_X8_missed 41 = .ok (.ireturn, 1) := by decide +kernel
theorem d_X8_open_0 : dec m_X8_open 0 = .ok (.iload_n 1, 1) := by decide +kernel
theorem d_X8_open_1 : dec m_X8_open 1 = .ok (.invokestatic 99, 3) := by decide +kernel
theorem d_X8_open_4 : dec m_X8_open 4 = .ok (.ifCond .eq 12, 3) := by decide +kernel
theorem d_X8_open_7 : dec m_X8_open 7 = .ok (.iload_n 2, 1) := by decide +kernel
theorem d_X8_open_8 : dec m_X8_open 8 = .ok (.ifCond .lt 8, 3) := by decide +kernel
theorem d_X8_open_11 : dec m_X8_open 11 = .ok (.iload_n 2, 1) := by decide +kernel
theorem d_X8_open_12 : dec m_X8_open 12 = .ok (.iconst 3, 1) := by decide +kernel
theorem d_X8_open_13 : dec m_X8_open 13 = .ok (.if_icmp .le 5, 3) := by decide +kernel
theorem d_X8_open_16 : dec m_X8_open 16 = .ok (.iconst (-1), 1) := by decide +kernel
theorem d_X8_open_17 : dec m_X8_open 17 = .ok (.ireturn, 1) := by decide +kernel
theorem d_X8_open_18 : dec m_X8_open 18 = .ok (.aload_n 0, 1) := by decide +kernel
theorem d_X8_open_19 : dec m_X8_open 19 = .ok (.iload_n 1, 1) := by decide +kernel
theorem d_X8_open_20 : dec m_X8_open 20 = .ok (.invokevirtual 154, 3) := by decide +kernel
theorem d_X8_open_23 : dec m_X8_open 23 = .ok (.iload_n 2, 1) := by decide +kernel
theorem d_X8_open_24 : dec m_X8_open 24 = .ok (.ifCond .ne 11, 3) := by decide +kernel
theorem d_X8_open_27 : dec m_X8_open 27 = .ok (.aload_n 0, 1) := by decide +kernel
theorem d_X8_open_28 : dec m_X8_open 28 = .ok (.getfield 47, 3) := by decide +kernel
theorem d_X8_open_31 : dec m_X8_open 31 = .ok (.invokevirtual 270, 3) := by decide +kernel
theorem d_X8_open_34 : dec m_X8_open 34 = .ok (.ireturn, 1) := by decide +kernel
theorem d_X8_open_35 : dec m_X8_open 35 = .ok (.aload_n 0, 1) := by decide +kernel
theorem d_X8_open_36 : dec m_X8_open 36 = .ok (.getfield 47, 3) := by decide +kernel
theorem d_X8_open_39 : dec m_X8_open 39 = .ok (.invokevirtual 273, 3) := by decide +kernel
theorem d_X8_open_42 : dec m_X8_open 42 = .ok (.istore_n 3, 1) := by decide +kernel
theorem d_X8_open_43 : dec m_X8_open 43 = .ok (.iload_n 2, 1) := by decide +kernel
theorem d_X8_open_44 : dec m_X8_open 44 = .ok (.iconst 1, 1) := by decide +kernel
theorem d_X8_open_45 : dec m_X8_open 45 = .ok (.if_icmp .ne 5, 3) := by decide +kernel
theorem d_X8_open_48 : dec m_X8_open 48 = .ok (.iload_n 3, 1) := by decide +kernel
theorem d_X8_open_49 : dec m_X8_open 49 = .ok (.ireturn, 1) := by decide +kernel
theorem d_X8_open_50 : dec m_X8_open 50 = .ok (.iload_n 3, 1) := by decide +kernel
theorem d_X8_open_51 : dec m_X8_open 51 = .ok (.ifCond .le 30, 3) := by decide +kernel
theorem d_X8_open_54 : dec m_X8_open 54 = .ok (.aload_n 0, 1) := by decide +kernel
theorem d_X8_open_55 : dec m_X8_open 55 = .ok (.getfield 47, 3) := by decide +kernel
theorem d_X8_open_58 : dec m_X8_open 58 = .ok (.iload_n 2, 1) := by decide +kernel
theorem d_X8_open_59 : dec m_X8_open 59 = .ok (.iconst 3, 1) := by decide +kernel
theorem d_X8_open_60 : dec m_X8_open 60 = .ok (.if_icmp .ne 7, 3) := by decide +kernel
theorem d_X8_open_63 : dec m_X8_open 63 = .ok (.iconst 1, 1) := by decide +kernel
theorem d_X8_open_64 : dec m_X8_open 64 = .ok (.goto 4, 3) := by decide +kernel
theorem d_X8_open_67 : dec m_X8_open 67 = .ok (.iconst 0, 1) := by decide +kernel
theorem d_X8_open_68 : dec m_X8_open 68 = .ok (.aload_n 0, 1) := by decide +kernel
theorem d_X8_open_69 : dec m_X8_open 69 = .ok (.getfield 47, 3) := by decide +kernel
theorem d_X8_open_72 : dec m_X8_open 72 = .ok (.getfield 157, 3) := by decide +kernel
theorem d_X8_open_75 : dec m_X8_open 75 = .ok (.invokevirtual 211, 3) := by decide +kernel
theorem d_X8_open_78 : dec m_X8_open 78 = .ok (.goto 5, 3) := by decide +kernel
theorem d_X8_open_81 : dec m_X8_open 81 = .ok (.bipush (-2), 2) := by decide +kernel
theorem d_X8_open_83 : dec m_X8_open 83 = .ok (.ireturn, 1) := by decide +kernel
theorem d_X8_ties_0 : dec m_X8_ties 0 = .ok (.iload_n 1, 1) := by decide +kernel
theorem d_X8_ties_1 : dec m_X8_ties 1 = .ok (.invokestatic 99, 3) := by decide +kernel
theorem d_X8_ties_4 : dec m_X8_ties 4 = .ok (.ifCond .ne 7, 3) := by decide +kernel
theorem d_X8_ties_7 : dec m_X8_ties 7 = .ok (.ldc2_w 276, 3) := by decide +kernel
theorem d_X8_ties_10 : dec m_X8_ties 10 = .ok (.lreturn, 1) := by decide +kernel
theorem d_X8_ties_11 : dec m_X8_ties 11 = .ok (.aload_n 0, 1) := by decide +kernel
theorem d_X8_ties_12 : dec m_X8_ties 12 = .ok (.iload_n 1, 1) := by decide +kernel
theorem d_X8_ties_13 : dec m_X8_ties 13 = .ok (.invokevirtual 154, 3) := by decide +kernel
theorem d_X8_ties_16 : dec m_X8_ties 16 = .ok (.aload_n 0, 1) := by decide +kernel
theorem d_X8_ties_17 : dec m_X8_ties 17 = .ok (.aload_n 0, 1) := by decide +kernel
theorem d_X8_ties_18 : dec m_X8_ties 18 = .ok (.getfield 47, 3) := by decide +kernel
theorem d_X8_ties_21 : dec m_X8_ties 21 = .ok (.iconst 0, 1) := by decide +kernel
theorem d_X8_ties_22 : dec m_X8_ties 22 = .ok (.aload_n 0, 1) := by decide +kernel
theorem d_X8_ties_23 : dec m_X8_ties 23 = .ok (.getfield 47, 3) := by decide +kernel
theorem d_X8_ties_26 : dec m_X8_ties 26 = .ok (.getfield 208, 3) := by decide +kernel
theorem d_X8_ties_29 : dec m_X8_ties 29 = .ok (.invokevirtual 278, 3) := by decide +kernel
theorem d_X8_ties_32 : dec m_X8_ties 32 = .ok (.aload_n 0, 1) := by decide +kernel
theorem d_X8_ties_33 : dec m_X8_ties 33 = .ok (.getfield 47, 3) := by decide +kernel
theorem d_X8_ties_36 : dec m_X8_ties 36 = .ok (.iconst 0, 1) := by decide +kernel
theorem d_X8_ties_37 : dec m_X8_ties 37 = .ok (.aload_n 0, 1) := by decide +kernel
theorem d_X8_ties_38 : dec m_X8_ties 38 = .ok (.getfield 47, 3) := by decide +kernel
theorem d_X8_ties_41 : dec m_X8_ties 41 = .ok (.getfield 223, 3) := by decide +kernel
theorem d_X8_ties_44 : dec m_X8_ties 44 = .ok (.invokevirtual 278, 3) := by decide +kernel
theorem d_X8_ties_47 : dec m_X8_ties 47 = .ok (.invokevirtual 281, 3) := by decide +kernel
theorem d_X8_ties_50 : dec m_X8_ties 50 = .ok (.lstore_n 2, 1) := by decide +kernel
theorem d_X8_ties_51 : dec m_X8_ties 51 = .ok (.aload_n 0, 1) := by decide +kernel
theorem d_X8_ties_52 : dec m_X8_ties 52 = .ok (.aload_n 0, 1) := by decide +kernel
theorem d_X8_ties_53 : dec m_X8_ties 53 = .ok (.getfield 47, 3) := by decide +kernel
theorem d_X8_ties_56 : dec m_X8_ties 56 = .ok (.iconst 1, 1) := by decide +kernel
theorem d_X8_ties_57 : dec m_X8_ties 57 = .ok (.aload_n 0, 1) := by decide +kernel
theorem d_X8_ties_58 : dec m_X8_ties 58 = .ok (.getfield 47, 3) := by decide +kernel
theorem d_X8_ties_61 : dec m_X8_ties 61 = .ok (.getfield 205, 3) := by decide +kernel
theorem d_X8_ties_64 : dec m_X8_ties 64 = .ok (.invokevirtual 278, 3) := by decide +kernel
theorem d_X8_ties_67 : dec m_X8_ties 67 = .ok (.aload_n 0, 1) := by decide +kernel
theorem d_X8_ties_68 : dec m_X8_ties 68 = .ok (.getfield 47, 3) := by decide +kernel
theorem d_X8_ties_71 : dec m_X8_ties 71 = .ok (.iconst 1, 1) := by decide +kernel
theorem d_X8_ties_72 : dec m_X8_ties 72 = .ok (.aload_n 0, 1) := by decide +kernel
theorem d_X8_ties_73 : dec m_X8_ties 73 = .ok (.getfield 47, 3) := by decide +kernel
theorem d_X8_ties_76 : dec m_X8_ties 76 = .ok (.getfield 223, 3) := by decide +kernel
theorem d_X8_ties_79 : dec m_X8_ties 79 = .ok (.invokevirtual 278, 3) := by decide +kernel
theorem d_X8_ties_82 : dec m_X8_ties 82 = .ok (.invokevirtual 281, 3) := by decide +kernel
theorem d_X8_ties_85 : dec m_X8_ties 85 = .ok (.lstore 4, 2) := by decide +kernel
theorem d_X8_ties_87 : dec m_X8_ties 87 = .ok (.lload 4, 2) := by decide +kernel
theorem d_X8_ties_89 : dec m_X8_ties 89 = .ok (.lconst 0, 1) := by decide +kernel
theorem d_X8_ties_90 : dec m_X8_ties 90 = .ok (.lcmp, 1) := by decide +kernel
theorem d_X8_ties_91 : dec m_X8_ties 91 = .ok (.ifCond .le 14, 3) := by decide +kernel
theorem d_X8_ties_94 : dec m_X8_ties 94 = .ok (.lload_n 2, 1) := by decide +kernel
theorem d_X8_ties_95 : dec m_X8_ties 95 = .ok (.ldc2_w 285, 3) := by decide +kernel
theorem d_X8_ties_98 : dec m_X8_ties 98 = .ok (.lload 4, 2) := by decide +kernel
theorem d_X8_ties_100 : dec m_X8_ties 100 = .ok (.ldiv, 1) := by decide +kernel
theorem d_X8_ties_101 : dec m_X8_ties 101 = .ok (.lcmp, 1) := by decide +kernel
theorem d_X8_ties_102 : dec m_X8_ties 102 = .ok (.ifCond .le 7, 3) := by decide +kernel
theorem d_X8_ties_105 : dec m_X8_ties 105 = .ok (.ldc2_w 287, 3) := by decide +kernel
theorem d_X8_ties_108 : dec m_X8_ties 108 = .ok (.lreturn, 1) := by decide +kernel
theorem d_X8_ties_109 : dec m_X8_ties 109 = .ok (.lload_n 2, 1) := by decide +kernel
theorem d_X8_ties_110 : dec m_X8_ties 110 = .ok (.lload 4, 2) := by decide +kernel
theorem d_X8_ties_112 : dec m_X8_ties 112 = .ok (.lmul, 1) := by decide +kernel
theorem d_X8_ties_113 : dec m_X8_ties 113 = .ok (.lreturn, 1) := by decide +kernel
theorem d_X8_under_0 : dec m_X8_under 0 = .ok (.iload_n 1, 1) := by decide +kernel
theorem d_X8_under_1 : dec m_X8_under 1 = .ok (.invokestatic 99, 3) := by decide +kernel
theorem d_X8_under_4 : dec m_X8_under 4 = .ok (.ifCond .eq 10, 3) := by decide +kernel
theorem d_X8_under_7 : dec m_X8_under 7 = .ok (.iload_n 2, 1) := by decide +kernel
theorem d_X8_under_8 : dec m_X8_under 8 = .ok (.invokestatic 148, 3) := by decide +kernel
theorem d_X8_under_11 : dec m_X8_under 11 = .ok (.ifCond .ne 6, 3) := by decide +kernel
theorem d_X8_under_14 : dec m_X8_under 14 = .ok (.ldc 195, 2) := by decide +kernel
theorem d_X8_under_16 : dec m_X8_under 16 = .ok (.ireturn, 1) := by decide +kernel
theorem d_X8_under_17 : dec m_X8_under 17 = .ok (.aload_n 0, 1) := by decide +kernel
theorem d_X8_under_18 : dec m_X8_under 18 = .ok (.getfield 47, 3) := by decide +kernel
theorem d_X8_under_21 : dec m_X8_under 21 = .ok (.aload_n 0, 1) := by decide +kernel
theorem d_X8_under_22 : dec m_X8_under 22 = .ok (.getfield 12, 3) := by decide +kernel
theorem d_X8_under_25 : dec m_X8_under 25 = .ok (.iload_n 1, 1) := by decide +kernel
theorem d_X8_under_26 : dec m_X8_under 26 = .ok (.invokestatic 255, 3) := by decide +kernel
theorem d_X8_under_29 : dec m_X8_under 29 = .ok (.iconst 0, 1) := by decide +kernel
theorem d_X8_under_30 : dec m_X8_under 30 = .ok (.invokevirtual 289, 3) := by decide +kernel
theorem d_X8_under_33 : dec m_X8_under 33 = .ok (.aload_n 0, 1) := by decide +kernel
theorem d_X8_under_34 : dec m_X8_under 34 = .ok (.getfield 47, 3) := by decide +kernel
theorem d_X8_under_37 : dec m_X8_under 37 = .ok (.aload_n 0, 1) := by decide +kernel
theorem d_X8_under_38 : dec m_X8_under 38 = .ok (.getfield 12, 3) := by decide +kernel
theorem d_X8_under_41 : dec m_X8_under 41 = .ok (.getfield 145, 3) := by decide +kernel
theorem d_X8_under_44 : dec m_X8_under 44 = .ok (.iload_n 2, 1) := by decide +kernel
theorem d_X8_under_45 : dec m_X8_under 45 = .ok (.invokevirtual 293, 3) := by decide +kernel
theorem d_X8_under_48 : dec m_X8_under 48 = .ok (.iload_n 3, 1) := by decide +kernel
theorem d_X8_under_49 : dec m_X8_under 49 = .ok (.tableswitch 51 0 2 #[27, 35, 43], 27) := by decide +kernel
theorem d_X8_under_76 : dec m_X8_under 76 = .ok (.aload_n 0, 1) := by decide +kernel
theorem d_X8_under_77 : dec m_X8_under 77 = .ok (.getfield 47, 3) := by decide +kernel
theorem d_X8_under_80 : dec m_X8_under 80 = .ok (.getfield 157, 3) := by decide +kernel
theorem d_X8_under_83 : dec m_X8_under 83 = .ok (.ireturn, 1) := by decide +kernel
theorem d_X8_under_84 : dec m_X8_under 84 = .ok (.aload_n 0, 1) := by decide +kernel
theorem d_X8_under_85 : dec m_X8_under 85 = .ok (.getfield 47, 3) := by decide +kernel
theorem d_X8_under_88 : dec m_X8_under 88 = .ok (.invokevirtual 172, 3) := by decide +kernel
theorem d_X8_under_91 : dec m_X8_under 91 = .ok (.ireturn, 1) := by decide +kernel
theorem d_X8_under_92 : dec m_X8_under 92 = .ok (.aload_n 0, 1) := by decide +kernel
theorem d_X8_under_93 : dec m_X8_under 93 = .ok (.getfield 47, 3) := by decide +kernel
theorem d_X8_under_96 : dec m_X8_under 96 = .ok (.invokevirtual 239, 3) := by decide +kernel
theorem d_X8_under_99 : dec m_X8_under 99 = .ok (.ireturn, 1) := by decide +kernel
theorem d_X8_under_100 : dec m_X8_under 100 = .ok (.ldc 195, 2) := by decide +kernel
theorem d_X8_under_102 : dec m_X8_under 102 = .ok (.ireturn, 1) := by decide +kernel
theorem d_X8_feeing_0 : dec m_X8_feeing 0 = .ok (.iload_n 1, 1) := by decide +kernel
theorem d_X8_feeing_1 : dec m_X8_feeing 1 = .ok (.invokestatic 99, 3) := by decide +kernel
theorem d_X8_feeing_4 : dec m_X8_feeing 4 = .ok (.ifCond .eq 17, 3) := by decide +kernel
theorem d_X8_feeing_7 : dec m_X8_feeing 7 = .ok (.iload_n 2, 1) := by decide +kernel
theorem d_X8_feeing_8 : dec m_X8_feeing 8 = .ok (.invokestatic 142, 3) := by decide +kernel
theorem d_X8_feeing_11 : dec m_X8_feeing 11 = .ok (.ifCond .eq 10, 3) := by decide +kernel
theorem d_X8_feeing_14 : dec m_X8_feeing 14 = .ok (.iload_n 3, 1) := by decide +kernel
theorem d_X8_feeing_15 : dec m_X8_feeing 15 = .ok (.invokestatic 248, 3) := by decide +kernel
theorem d_X8_feeing_18 : dec m_X8_feeing 18 = .ok (.ifCond .ne 6, 3) := by decide +kernel
theorem d_X8_feeing_21 : dec m_X8_feeing 21 = .ok (.ldc 195, 2) := by decide +kernel
theorem d_X8_feeing_23 : dec m_X8_feeing 23 = .ok (.ireturn, 1) := by decide +kernel
theorem d_X8_feeing_24 : dec m_X8_feeing 24 = .ok (.aload_n 0, 1) := by decide +kernel
theorem d_X8_feeing_25 : dec m_X8_feeing 25 = .ok (.getfield 47, 3) := by decide +kernel
theorem d_X8_feeing_28 : dec m_X8_feeing 28 = .ok (.aload_n 0, 1) := by decide +kernel
theorem d_X8_feeing_29 : dec m_X8_feeing 29 = .ok (.getfield 12, 3) := by decide +kernel
theorem d_X8_feeing_32 : dec m_X8_feeing 32 = .ok (.iload_n 1, 1) := by decide +kernel
theorem d_X8_feeing_33 : dec m_X8_feeing 33 = .ok (.invokestatic 255, 3) := by decide +kernel
theorem d_X8_feeing_36 : dec m_X8_feeing 36 = .ok (.iconst 0, 1) := by decide +kernel
theorem d_X8_feeing_37 : dec m_X8_feeing 37 = .ok (.invokevirtual 289, 3) := by decide +kernel
theorem d_X8_feeing_40 : dec m_X8_feeing 40 = .ok (.aload_n 0, 1) := by decide +kernel
theorem d_X8_feeing_41 : dec m_X8_feeing 41 = .ok (.getfield 47, 3) := by decide +kernel
theorem d_X8_feeing_44 : dec m_X8_feeing 44 = .ok (.iload_n 2, 1) := by decide +kernel
theorem d_X8_feeing_45 : dec m_X8_feeing 45 = .ok (.aload_n 0, 1) := by decide +kernel
theorem d_X8_feeing_46 : dec m_X8_feeing 46 = .ok (.getfield 12, 3) := by decide +kernel
theorem d_X8_feeing_49 : dec m_X8_feeing 49 = .ok (.getfield 151, 3) := by decide +kernel
theorem d_X8_feeing_52 : dec m_X8_feeing 52 = .ok (.invokevirtual 293, 3) := by decide +kernel
theorem d_X8_feeing_55 : dec m_X8_feeing 55 = .ok (.iload_n 3, 1) := by decide +kernel
theorem d_X8_feeing_56 : dec m_X8_feeing 56 = .ok (.ifCond .ne 13, 3) := by decide +kernel
theorem d_X8_feeing_59 : dec m_X8_feeing 59 = .ok (.aload_n 0, 1) := by decide +kernel
theorem d_X8_feeing_60 : dec m_X8_feeing 60 = .ok (.getfield 47, 3) := by decide +kernel
theorem d_X8_feeing_63 : dec m_X8_feeing 63 = .ok (.getfield 223, 3) := by decide +kernel
theorem d_X8_feeing_66 : dec m_X8_feeing 66 = .ok (.goto 10, 3) := by decide +kernel
theorem d_X8_feeing_69 : dec m_X8_feeing 69 = .ok (.aload_n 0, 1) := by decide +kernel
theorem d_X8_feeing_70 : dec m_X8_feeing 70 = .ok (.getfield 47, 3) := by decide +kernel
theorem d_X8_feeing_73 : dec m_X8_feeing 73 = .ok (.invokevirtual 172, 3) := by decide +kernel
theorem d_X8_feeing_76 : dec m_X8_feeing 76 = .ok (.ireturn, 1) := by decide +kernel
theorem d_X8_bestFee_0 : dec m_X8_bestFee 0 = .ok (.iload_n 1, 1) := by decide +kernel
theorem d_X8_bestFee_1 : dec m_X8_bestFee 1 = .ok (.invokestatic 248, 3) := by decide +kernel
theorem d_X8_bestFee_4 : dec m_X8_bestFee 4 = .ok (.ifCond .ne 5, 3) := by decide +kernel
theorem d_X8_bestFee_7 : dec m_X8_bestFee 7 = .ok (.iconst (-1), 1) := by decide +kernel
theorem d_X8_bestFee_8 : dec m_X8_bestFee 8 = .ok (.ireturn, 1) := by decide +kernel
theorem d_X8_bestFee_9 : dec m_X8_bestFee 9 = .ok (.aload_n 0, 1) := by decide +kernel
theorem d_X8_bestFee_10 : dec m_X8_bestFee 10 = .ok (.invokevirtual 296, 3) := by decide +kernel
theorem d_X8_bestFee_13 : dec m_X8_bestFee 13 = .ok (.iconst 0, 1) := by decide +kernel
theorem d_X8_bestFee_14 : dec m_X8_bestFee 14 = .ok (.istore_n 2, 1) := by decide +kernel
theorem d_X8_bestFee_15 : dec m_X8_bestFee 15 = .ok (.iconst 1, 1) := by decide +kernel
theorem d_X8_bestFee_16 : dec m_X8_bestFee 16 = .ok (.istore_n 3, 1) := by decide +kernel
theorem d_X8_bestFee_17 : dec m_X8_bestFee 17 = .ok (.iload_n 3, 1) := by decide +kernel
theorem d_X8_bestFee_18 : dec m_X8_bestFee 18 = .ok (.sipush 500, 3) := by decide +kernel
theorem d_X8_bestFee_21 : dec m_X8_bestFee 21 = .ok (.if_icmp .gt 26, 3) := by decide +kernel
theorem d_X8_bestFee_24 : dec m_X8_bestFee 24 = .ok (.aload_n 0, 1) := by decide +kernel
theorem d_X8_bestFee_25 : dec m_X8_bestFee 25 = .ok (.getfield 68, 3) := by decide +kernel
theorem d_X8_bestFee_28 : dec m_X8_bestFee 28 = .ok (.iload_n 3, 1) := by decide +kernel
theorem d_X8_bestFee_29 : dec m_X8_bestFee 29 = .ok (.iaload, 1) := by decide +kernel
theorem d_X8_bestFee_30 : dec m_X8_bestFee 30 = .ok (.aload_n 0, 1) := by decide +kernel
theorem d_X8_bestFee_31 : dec m_X8_bestFee 31 = .ok (.getfield 68, 3) := by decide +kernel
theorem d_X8_bestFee_34 : dec m_X8_bestFee 34 = .ok (.iload_n 2, 1) := by decide +kernel
theorem d_X8_bestFee_35 : dec m_X8_bestFee 35 = .ok (.iaload, 1) := by decide +kernel
theorem d_X8_bestFee_36 : dec m_X8_bestFee 36 = .ok (.if_icmp .le 5, 3) := by decide +kernel
theorem d_X8_bestFee_39 : dec m_X8_bestFee 39 = .ok (.iload_n 3, 1) := by decide +kernel
theorem d_X8_bestFee_40 : dec m_X8_bestFee 40 = .ok (.istore_n 2, 1) := by decide +kernel
theorem d_X8_bestFee_41 : dec m_X8_bestFee 41 = .ok (.iinc 3 1, 3) := by decide +kernel
theorem d_X8_bestFee_44 : dec m_X8_bestFee 44 = .ok (.goto (-27), 3) := by decide +kernel
theorem d_X8_bestFee_47 : dec m_X8_bestFee 47 = .ok (.iload_n 1, 1) := by decide +kernel
theorem d_X8_bestFee_48 : dec m_X8_bestFee 48 = .ok (.ifCond .ne 7, 3) := by decide +kernel
theorem d_X8_bestFee_51 : dec m_X8_bestFee 51 = .ok (.iload_n 2, 1) := by decide +kernel
theorem d_X8_bestFee_52 : dec m_X8_bestFee 52 = .ok (.goto 9, 3) := by decide +kernel
theorem d_X8_bestFee_55 : dec m_X8_bestFee 55 = .ok (.aload_n 0, 1) := by decide +kernel
theorem d_X8_bestFee_56 : dec m_X8_bestFee 56 = .ok (.getfield 68, 3) := by decide +kernel
theorem d_X8_bestFee_59 : dec m_X8_bestFee 59 = .ok (.iload_n 2, 1) := by decide +kernel
theorem d_X8_bestFee_60 : dec m_X8_bestFee 60 = .ok (.iaload, 1) := by decide +kernel
theorem d_X8_bestFee_61 : dec m_X8_bestFee 61 = .ok (.ireturn, 1) := by decide +kernel
theorem d_X8_served_0 : dec m_X8_served 0 = .ok (.iload_n 1, 1) := by decide +kernel
theorem d_X8_served_1 : dec m_X8_served 1 = .ok (.ifCond .lt 8, 3) := by decide +kernel
theorem d_X8_served_4 : dec m_X8_served 4 = .ok (.iload_n 1, 1) := by decide +kernel
theorem d_X8_served_5 : dec m_X8_served 5 = .ok (.iconst 2, 1) := by decide +kernel
theorem d_X8_served_6 : dec m_X8_served 6 = .ok (.if_icmp .le 5, 3) := by decide +kernel
theorem d_X8_served_9 : dec m_X8_served 9 = .ok (.iconst (-1), 1) := by decide +kernel
theorem d_X8_served_10 : dec m_X8_served 10 = .ok (.ireturn, 1) := by decide +kernel
theorem d_X8_served_11 : dec m_X8_served 11 = .ok (.aload_n 0, 1) := by decide +kernel
theorem d_X8_served_12 : dec m_X8_served 12 = .ok (.getfield 64, 3) := by decide +kernel
theorem d_X8_served_15 : dec m_X8_served 15 = .ok (.aload_n 0, 1) := by decide +kernel
theorem d_X8_served_16 : dec m_X8_served 16 = .ok (.getfield 12, 3) := by decide +kernel
theorem d_X8_served_19 : dec m_X8_served 19 = .ok (.invokevirtual 299, 3) := by decide +kernel
theorem d_X8_served_22 : dec m_X8_served 22 = .ok (.iload_n 1, 1) := by decide +kernel
theorem d_X8_served_23 : dec m_X8_served 23 = .ok (.iconst 1, 1) := by decide +kernel
theorem d_X8_served_24 : dec m_X8_served 24 = .ok (.if_icmp .ne 11, 3) := by decide +kernel
theorem d_X8_served_27 : dec m_X8_served 27 = .ok (.aload_n 0, 1) := by decide +kernel
theorem d_X8_served_28 : dec m_X8_served 28 = .ok (.getfield 64, 3) := by decide +kernel
theorem d_X8_served_31 : dec m_X8_served 31 = .ok (.getfield 302, 3) := by decide +kernel
theorem d_X8_served_34 : dec m_X8_served 34 = .ok (.ireturn, 1) := by decide +kernel
theorem d_X8_served_35 : dec m_X8_served 35 = .ok (.iload_n 1, 1) := by decide +kernel
theorem d_X8_served_36 : dec m_X8_served 36 = .ok (.ifCond .ne 13, 3) := by decide +kernel
theorem d_X8_served_39 : dec m_X8_served 39 = .ok (.aload_n 0, 1) := by decide +kernel
theorem d_X8_served_40 : dec m_X8_served 40 = .ok (.getfield 64, 3) := by decide +kernel
theorem d_X8_served_43 : dec m_X8_served 43 = .ok (.getfield 305, 3) := by decide +kernel
theorem d_X8_served_46 : dec m_X8_served 46 = .ok (.goto 15, 3) := by decide +kernel
theorem d_X8_served_49 : dec m_X8_served 49 = .ok (.aload_n 0, 1) := by decide +kernel
theorem d_X8_served_50 : dec m_X8_served 50 = .ok (.getfield 64, 3) := by decide +kernel
theorem d_X8_served_53 : dec m_X8_served 53 = .ok (.getfield 305, 3) := by decide +kernel
theorem d_X8_served_56 : dec m_X8_served 56 = .ok (.aload_n 0, 1) := by decide +kernel
theorem d_X8_served_57 : dec m_X8_served 57 = .ok (.invokevirtual 308, 3) := by decide +kernel
theorem d_X8_served_60 : dec m_X8_served 60 = .ok (.isub, 1) := by decide +kernel
theorem d_X8_served_61 : dec m_X8_served 61 = .ok (.ireturn, 1) := by decide +kernel
theorem d_X8_share_0 : dec m_X8_share 0 = .ok (.iconst 0, 1) := by decide +kernel
theorem d_X8_share_1 : dec m_X8_share 1 = .ok (.istore_n 1, 1) := by decide +kernel
theorem d_X8_share_2 : dec m_X8_share 2 = .ok (.iconst 0, 1) := by decide +kernel
theorem d_X8_share_3 : dec m_X8_share 3 = .ok (.istore_n 2, 1) := by decide +kernel
theorem d_X8_share_4 : dec m_X8_share 4 = .ok (.iconst 0, 1) := by decide +kernel
theorem d_X8_share_5 : dec m_X8_share 5 = .ok (.istore_n 3, 1) := by decide +kernel
theorem d_X8_share_6 : dec m_X8_share 6 = .ok (.iload_n 3, 1) := by decide +kernel
theorem d_X8_share_7 : dec m_X8_share 7 = .ok (.iconst 4, 1) := by decide +kernel
theorem d_X8_share_8 : dec m_X8_share 8 = .ok (.if_icmp .ge 41, 3) := by decide +kernel
theorem d_X8_share_11 : dec m_X8_share 11 = .ok (.aload_n 0, 1) := by decide +kernel
theorem d_X8_share_12 : dec m_X8_share 12 = .ok (.iload_n 3, 1) := by decide +kernel
theorem d_X8_share_13 : dec m_X8_share 13 = .ok (.invokevirtual 154, 3) := by decide +kernel
theorem d_X8_share_16 : dec m_X8_share 16 = .ok (.iload_n 1, 1) := by decide +kernel
theorem d_X8_share_17 : dec m_X8_share 17 = .ok (.aload_n 0, 1) := by decide +kernel
theorem d_X8_share_18 : dec m_X8_share 18 = .ok (.getfield 47, 3) := by decide +kernel
theorem d_X8_share_21 : dec m_X8_share 21 = .ok (.getfield 226, 3) := by decide +kernel
theorem d_X8_share_24 : dec m_X8_share 24 = .ok (.iadd, 1) := by decide +kernel
theorem d_X8_share_25 : dec m_X8_share 25 = .ok (.istore_n 1, 1) := by decide +kernel
theorem d_X8_share_26 : dec m_X8_share 26 = .ok (.iload_n 2, 1) := by decide +kernel
theorem d_X8_share_27 : dec m_X8_share 27 = .ok (.aload_n 0, 1) := by decide +kernel
theorem d_X8_share_28 : dec m_X8_share 28 = .ok (.getfield 47, 3) := by decide +kernel
theorem d_X8_share_31 : dec m_X8_share 31 = .ok (.aload_n 0, 1) := by decide +kernel
theorem d_X8_share_32 : dec m_X8_share 32 = .ok (.getfield 47, 3) := by decide +kernel
theorem d_X8_share_35 : dec m_X8_share 35 = .ok (.getfield 157, 3) := by decide +kernel
theorem d_X8_share_38 : dec m_X8_share 38 = .ok (.invokevirtual 311, 3) := by decide +kernel
theorem d_X8_share_41 : dec m_X8_share 41 = .ok (.iadd, 1) := by decide +kernel
theorem d_X8_share_42 : dec m_X8_share 42 = .ok (.istore_n 2, 1) := by decide +kernel
theorem d_X8_share_43 : dec m_X8_share 43 = .ok (.iinc 3 1, 3) := by decide +kernel
theorem d_X8_share_46 : dec m_X8_share 46 = .ok (.goto (-40), 3) := by decide +kernel
theorem d_X8_share_49 : dec m_X8_share 49 = .ok (.iload_n 2, 1) := by decide +kernel
theorem d_X8_share_50 : dec m_X8_share 50 = .ok (.iload_n 1, 1) := by decide +kernel
theorem d_X8_share_51 : dec m_X8_share 51 = .ok (.invokestatic 314, 3) := by decide +kernel
theorem d_X8_share_54 : dec m_X8_share 54 = .ok (.lreturn, 1) := by decide +kernel
theorem d_X8_audit_0 : dec m_X8_audit 0 = .ok (.iload_n 1, 1) := by decide +kernel
theorem d_X8_audit_1 : dec m_X8_audit 1 = .ok (.tableswitch 102 0 5 #[39, 47, 55, 63, 86, 94], 39) := by decide +kernel
theorem d_X8_audit_40 : dec m_X8_audit 40 = .ok (.aload_n 0, 1) := by decide +kernel
theorem d_X8_audit_41 : dec m_X8_audit 41 = .ok (.getfield 12, 3) := by decide +kernel
theorem d_X8_audit_44 : dec m_X8_audit 44 = .ok (.getfield 317, 3) := by decide +kernel
theorem d_X8_audit_47 : dec m_X8_audit 47 = .ok (.ireturn, 1) := by decide +kernel
theorem d_X8_audit_48 : dec m_X8_audit 48 = .ok (.aload_n 0, 1) := by decide +kernel
theorem d_X8_audit_49 : dec m_X8_audit 49 = .ok (.getfield 12, 3) := by decide +kernel
theorem d_X8_audit_52 : dec m_X8_audit 52 = .ok (.invokevirtual 320, 3) := by decide +kernel
theorem d_X8_audit_55 : dec m_X8_audit 55 = .ok (.ireturn, 1) := by decide +kernel
theorem d_X8_audit_56 : dec m_X8_audit 56 = .ok (.aload_n 0, 1) := by decide +kernel
theorem d_X8_audit_57 : dec m_X8_audit 57 = .ok (.getfield 12, 3) := by decide +kernel
theorem d_X8_audit_60 : dec m_X8_audit 60 = .ok (.getfield 323, 3) := by decide +kernel
theorem d_X8_audit_63 : dec m_X8_audit 63 = .ok (.ireturn, 1) := by decide +kernel
theorem d_X8_audit_64 : dec m_X8_audit 64 = .ok (.aload_n 0, 1) := by decide +kernel
theorem d_X8_audit_65 : dec m_X8_audit 65 = .ok (.getfield 12, 3) := by decide +kernel
theorem d_X8_audit_68 : dec m_X8_audit 68 = .ok (.getfield 98, 3) := by decide +kernel
theorem d_X8_audit_71 : dec m_X8_audit 71 = .ok (.ifCond .le 13, 3) := by decide +kernel
theorem d_X8_audit_74 : dec m_X8_audit 74 = .ok (.aload_n 0, 1) := by decide +kernel
theorem d_X8_audit_75 : dec m_X8_audit 75 = .ok (.getfield 12, 3) := by decide +kernel
theorem d_X8_audit_78 : dec m_X8_audit 78 = .ok (.invokevirtual 326, 3) := by decide +kernel
theorem d_X8_audit_81 : dec m_X8_audit 81 = .ok (.goto 5, 3) := by decide +kernel
theorem d_X8_audit_84 : dec m_X8_audit 84 = .ok (.bipush (-2), 2) := by decide +kernel
theorem d_X8_audit_86 : dec m_X8_audit 86 = .ok (.ireturn, 1) := by decide +kernel
theorem d_X8_audit_87 : dec m_X8_audit 87 = .ok (.aload_n 0, 1) := by decide +kernel
theorem d_X8_audit_88 : dec m_X8_audit 88 = .ok (.getfield 12, 3) := by decide +kernel
theorem d_X8_audit_91 : dec m_X8_audit 91 = .ok (.getfield 329, 3) := by decide +kernel
theorem d_X8_audit_94 : dec m_X8_audit 94 = .ok (.ireturn, 1) := by decide +kernel
theorem d_X8_audit_95 : dec m_X8_audit 95 = .ok (.aload_n 0, 1) := by decide +kernel
theorem d_X8_audit_96 : dec m_X8_audit 96 = .ok (.getfield 12, 3) := by decide +kernel
theorem d_X8_audit_99 : dec m_X8_audit 99 = .ok (.getfield 332, 3) := by decide +kernel
theorem d_X8_audit_102 : dec m_X8_audit 102 = .ok (.ireturn, 1) := by decide +kernel
theorem d_X8_audit_103 : dec m_X8_audit 103 = .ok (.ldc 195, 2) := by decide +kernel
theorem d_X8_audit_105 : dec m_X8_audit 105 = .ok (.ireturn, 1) := by decide +kernel
theorem d_X8_entry_0 : dec m_X8_entry 0 = .ok (.iload_n 2, 1) := by decide +kernel
theorem d_X8_entry_1 : dec m_X8_entry 1 = .ok (.invokestatic 99, 3) := by decide +kernel
theorem d_X8_entry_4 : dec m_X8_entry 4 = .ok (.ifCond .ne 5, 3) := by decide +kernel
theorem d_X8_entry_7 : dec m_X8_entry 7 = .ok (.iconst (-1), 1) := by decide +kernel
theorem d_X8_entry_8 : dec m_X8_entry 8 = .ok (.ireturn, 1) := by decide +kernel
theorem d_X8_entry_9 : dec m_X8_entry 9 = .ok (.aload_n 0, 1) := by decide +kernel
theorem d_X8_entry_10 : dec m_X8_entry 10 = .ok (.iload_n 2, 1) := by decide +kernel
theorem d_X8_entry_11 : dec m_X8_entry 11 = .ok (.invokevirtual 154, 3) := by decide +kernel
theorem d_X8_entry_14 : dec m_X8_entry 14 = .ok (.iload_n 1, 1) := by decide +kernel
theorem d_X8_entry_15 : dec m_X8_entry 15 = .ok (.ifCond .eq 13, 3) := by decide +kernel
theorem d_X8_entry_18 : dec m_X8_entry 18 = .ok (.aload_n 0, 1) := by decide +kernel
theorem d_X8_entry_19 : dec m_X8_entry 19 = .ok (.getfield 47, 3) := by decide +kernel
theorem d_X8_entry_22 : dec m_X8_entry 22 = .ok (.invokevirtual 335, 3) := by decide +kernel
theorem d_X8_entry_25 : dec m_X8_entry 25 = .ok (.goto 10, 3) := by decide +kernel
theorem d_X8_entry_28 : dec m_X8_entry 28 = .ok (.aload_n 0, 1) := by decide +kernel
theorem d_X8_entry_29 : dec m_X8_entry 29 = .ok (.getfield 47, 3) := by decide +kernel
theorem d_X8_entry_32 : dec m_X8_entry 32 = .ok (.invokevirtual 338, 3) := by decide +kernel
theorem d_X8_entry_35 : dec m_X8_entry 35 = .ok (.istore_n 3, 1) := by decide +kernel
theorem d_X8_entry_36 : dec m_X8_entry 36 = .ok (.iload_n 3, 1) := by decide +kernel
theorem d_X8_entry_37 : dec m_X8_entry 37 = .ok (.invokestatic 113, 3) := by decide +kernel
theorem d_X8_entry_40 : dec m_X8_entry 40 = .ok (.ifCond .eq 7, 3) := by decide +kernel
theorem d_X8_entry_43 : dec m_X8_entry 43 = .ok (.iload_n 3, 1) := by decide +kernel
theorem d_X8_entry_44 : dec m_X8_entry 44 = .ok (.goto 5, 3) := by decide +kernel
theorem d_X8_entry_47 : dec m_X8_entry 47 = .ok (.bipush (-2), 2) := by decide +kernel
theorem d_X8_entry_49 : dec m_X8_entry 49 = .ok (.ireturn, 1) := by decide +kernel
theorem d_X8_letter_0 : dec m_X8_letter 0 = .ok (.iload_n 1, 1) := by decide +kernel
theorem d_X8_letter_1 : dec m_X8_letter 1 = .ok (.iconst (-1), 1) := by decide +kernel
theorem d_X8_letter_2 : dec m_X8_letter 2 = .ok (.if_icmp .ge 5, 3) := by decide +kernel
theorem d_X8_letter_5 : dec m_X8_letter 5 = .ok (.iconst (-1), 1) := by decide +kernel
theorem d_X8_letter_6 : dec m_X8_letter 6 = .ok (.ireturn, 1) := by decide +kernel
theorem d_X8_letter_7 : dec m_X8_letter 7 = .ok (.aload_n 0, 1) := by decide +kernel
theorem d_X8_letter_8 : dec m_X8_letter 8 = .ok (.getfield 40, 3) := by decide +kernel
theorem d_X8_letter_11 : dec m_X8_letter 11 = .ok (.aload_n 0, 1) := by decide +kernel
theorem d_X8_letter_12 : dec m_X8_letter 12 = .ok (.getfield 12, 3) := by decide +kernel
theorem d_X8_letter_15 : dec m_X8_letter 15 = .ok (.invokevirtual 341, 3) := by decide +kernel
theorem d_X8_letter_18 : dec m_X8_letter 18 = .ok (.iload_n 1, 1) := by decide +kernel
theorem d_X8_letter_19 : dec m_X8_letter 19 = .ok (.iconst (-1), 1) := by decide +kernel
theorem d_X8_letter_20 : dec m_X8_letter 20 = .ok (.if_icmp .ne 11, 3) := by decide +kernel
theorem d_X8_letter_23 : dec m_X8_letter 23 = .ok (.aload_n 0, 1) := by decide +kernel
theorem d_X8_letter_24 : dec m_X8_letter 24 = .ok (.getfield 40, 3) := by decide +kernel
theorem d_X8_letter_27 : dec m_X8_letter 27 = .ok (.getfield 344, 3) := by decide +kernel
theorem d_X8_letter_30 : dec m_X8_letter 30 = .ok (.ireturn, 1) := by decide +kernel
theorem d_X8_letter_31 : dec m_X8_letter 31 = .ok (.iload_n 1, 1) := by decide +kernel
theorem d_X8_letter_32 : dec m_X8_letter 32 = .ok (.aload_n 0, 1) := by decide +kernel
theorem d_X8_letter_33 : dec m_X8_letter 33 = .ok (.getfield 40, 3) := by decide +kernel
theorem d_X8_letter_36 : dec m_X8_letter 36 = .ok (.getfield 344, 3) := by decide +kernel
theorem d_X8_letter_39 : dec m_X8_letter 39 = .ok (.if_icmp .ge 14, 3) := by decide +kernel
theorem d_X8_letter_42 : dec m_X8_letter 42 = .ok (.aload_n 0, 1) := by decide +kernel
theorem d_X8_letter_43 : dec m_X8_letter 43 = .ok (.getfield 40, 3) := by decide +kernel
theorem d_X8_letter_46 : dec m_X8_letter 46 = .ok (.iload_n 1, 1) := by decide +kernel
theorem d_X8_letter_47 : dec m_X8_letter 47 = .ok (.invokevirtual 345, 3) := by decide +kernel
theorem d_X8_letter_50 : dec m_X8_letter 50 = .ok (.goto 5, 3) := by decide +kernel
theorem d_X8_letter_53 : dec m_X8_letter 53 = .ok (.bipush (-2), 2) := by decide +kernel
theorem d_X8_letter_55 : dec m_X8_letter 55 = .ok (.ireturn, 1) := by decide +kernel
theorem d_X8_match_0 : dec m_X8_match 0 = .ok (.iload_n 1, 1) := by decide +kernel
theorem d_X8_match_1 : dec m_X8_match 1 = .ok (.invokestatic 99, 3) := by decide +kernel
theorem d_X8_match_4 : dec m_X8_match 4 = .ok (.ifCond .eq 12, 3) := by decide +kernel
theorem d_X8_match_7 : dec m_X8_match 7 = .ok (.iload_n 3, 1) := by decide +kernel
theorem d_X8_match_8 : dec m_X8_match 8 = .ok (.ifCond .lt 8, 3) := by decide +kernel
theorem d_X8_match_11 : dec m_X8_match 11 = .ok (.iload_n 3, 1) := by decide +kernel
theorem d_X8_match_12 : dec m_X8_match 12 = .ok (.iconst 3, 1) := by decide +kernel
theorem d_X8_match_13 : dec m_X8_match 13 = .ok (.if_icmp .le 5, 3) := by decide +kernel
theorem d_X8_match_16 : dec m_X8_match 16 = .ok (.iconst (-1), 1) := by decide +kernel
theorem d_X8_match_17 : dec m_X8_match 17 = .ok (.ireturn, 1) := by decide +kernel
theorem d_X8_match_18 : dec m_X8_match 18 = .ok (.aload_n 0, 1) := by decide +kernel
theorem d_X8_match_19 : dec m_X8_match 19 = .ok (.iload_n 1, 1) := by decide +kernel
theorem d_X8_match_20 : dec m_X8_match 20 = .ok (.invokevirtual 154, 3) := by decide +kernel
theorem d_X8_match_23 : dec m_X8_match 23 = .ok (.iload_n 2, 1) := by decide +kernel
theorem d_X8_match_24 : dec m_X8_match 24 = .ok (.iconst (-1), 1) := by decide +kernel
theorem d_X8_match_25 : dec m_X8_match 25 = .ok (.if_icmp .ne 15, 3) := by decide +kernel
theorem d_X8_match_28 : dec m_X8_match 28 = .ok (.iload_n 3, 1) := by decide +kernel
theorem d_X8_match_29 : dec m_X8_match 29 = .ok (.ifCond .ne 11, 3) := by decide +kernel
theorem d_X8_match_32 : dec m_X8_match 32 = .ok (.aload_n 0, 1) := by decide +kernel
theorem d_X8_match_33 : dec m_X8_match 33 = .ok (.getfield 47, 3) := by decide +kernel
theorem d_X8_match_36 : dec m_X8_match 36 = .ok (.getfield 157, 3) := by decide +kernel
theorem d_X8_match_39 : dec m_X8_match 39 = .ok (.ireturn, 1) := by decide +kernel
theorem d_X8_match_40 : dec m_X8_match 40 = .ok (.iload_n 2, 1) := by decide +kernel
theorem d_X8_match_41 : dec m_X8_match 41 = .ok (.ifCond .lt 14, 3) := by decide +kernel
theorem d_X8_match_44 : dec m_X8_match 44 = .ok (.iload_n 2, 1) := by decide +kernel
theorem d_X8_match_45 : dec m_X8_match 45 = .ok (.aload_n 0, 1) := by decide +kernel
theorem d_X8_match_46 : dec m_X8_match 46 = .ok (.getfield 47, 3) := by decide +kernel
theorem d_X8_match_49 : dec m_X8_match 49 = .ok (.getfield 157, 3) := by decide +kernel
theorem d_X8_match_52 : dec m_X8_match 52 = .ok (.if_icmp .lt 5, 3) := by decide +kernel
theorem d_X8_match_55 : dec m_X8_match 55 = .ok (.iconst (-1), 1) := by decide +kernel
theorem d_X8_match_56 : dec m_X8_match 56 = .ok (.ireturn, 1) := by decide +kernel
theorem d_X8_match_57 : dec m_X8_match 57 = .ok (.iload_n 3, 1) := by decide +kernel
theorem d_X8_match_58 : dec m_X8_match 58 = .ok (.iconst 2, 1) := by decide +kernel
theorem d_X8_match_59 : dec m_X8_match 59 = .ok (.if_icmp .lt 7, 3) := by decide +kernel
theorem d_X8_match_62 : dec m_X8_match 62 = .ok (.iconst 1, 1) := by decide +kernel
theorem d_X8_match_63 : dec m_X8_match 63 = .ok (.goto 4, 3) := by decide +kernel
theorem d_X8_match_66 : dec m_X8_match 66 = .ok (.iconst 0, 1) := by decide +kernel
theorem d_X8_match_67 : dec m_X8_match 67 = .ok (.istore 4, 2) := by decide +kernel
theorem d_X8_match_69 : dec m_X8_match 69 = .ok (.iload_n 3, 1) := by decide +kernel
theorem d_X8_match_70 : dec m_X8_match 70 = .ok (.iconst 2, 1) := by decide +kernel
theorem d_X8_match_71 : dec m_X8_match 71 = .ok (.irem, 1) := by decide +kernel
theorem d_X8_match_72 : dec m_X8_match 72 = .ok (.ifCond .ne 16, 3) := by decide +kernel
theorem d_X8_match_75 : dec m_X8_match 75 = .ok (.aload_n 0, 1) := by decide +kernel
theorem d_X8_match_76 : dec m_X8_match 76 = .ok (.getfield 47, 3) := by decide +kernel
theorem d_X8_match_79 : dec m_X8_match 79 = .ok (.iload 4, 2) := by decide +kernel
theorem d_X8_match_81 : dec m_X8_match 81 = .ok (.iload_n 2, 1) := by decide +kernel
theorem d_X8_match_82 : dec m_X8_match 82 = .ok (.invokevirtual 211, 3) := by decide +kernel
theorem d_X8_match_85 : dec m_X8_match 85 = .ok (.goto 13, 3) := by decide +kernel
theorem d_X8_match_88 : dec m_X8_match 88 = .ok (.aload_n 0, 1) := by decide +kernel
theorem d_X8_match_89 : dec m_X8_match 89 = .ok (.getfield 47, 3) := by decide +kernel
theorem d_X8_match_92 : dec m_X8_match 92 = .ok (.iload 4, 2) := by decide +kernel
theorem d_X8_match_94 : dec m_X8_match 94 = .ok (.iload_n 2, 1) := by decide +kernel
theorem d_X8_match_95 : dec m_X8_match 95 = .ok (.invokevirtual 214, 3) := by decide +kernel
theorem d_X8_match_98 : dec m_X8_match 98 = .ok (.ireturn, 1) := by decide +kernel
theorem d_X8_merged_0 : dec m_X8_merged 0 = .ok (.iload_n 1, 1) := by decide +kernel
theorem d_X8_merged_1 : dec m_X8_merged 1 = .ok (.invokestatic 99, 3) := by decide +kernel
theorem d_X8_merged_4 : dec m_X8_merged 4 = .ok (.ifCond .eq 24, 3) := by decide +kernel
theorem d_X8_merged_7 : dec m_X8_merged 7 = .ok (.iload_n 2, 1) := by decide +kernel
theorem d_X8_merged_8 : dec m_X8_merged 8 = .ok (.invokestatic 99, 3) := by decide +kernel
theorem d_X8_merged_11 : dec m_X8_merged 11 = .ok (.ifCond .eq 17, 3) := by decide +kernel
theorem d_X8_merged_14 : dec m_X8_merged 14 = .ok (.iload_n 1, 1) := by decide +kernel
theorem d_X8_merged_15 : dec m_X8_merged 15 = .ok (.iload_n 2, 1) := by decide +kernel
theorem d_X8_merged_16 : dec m_X8_merged 16 = .ok (.if_icmp .eq 12, 3) := by decide +kernel
theorem d_X8_merged_19 : dec m_X8_merged 19 = .ok (.iload_n 3, 1) := by decide +kernel
theorem d_X8_merged_20 : dec m_X8_merged 20 = .ok (.ifCond .lt 8, 3) := by decide +kernel
theorem d_X8_merged_23 : dec m_X8_merged 23 = .ok (.iload_n 3, 1) := by decide +kernel
theorem d_X8_merged_24 : dec m_X8_merged 24 = .ok (.iconst 2, 1) := by decide +kernel
theorem d_X8_merged_25 : dec m_X8_merged 25 = .ok (.if_icmp .le 5, 3) := by decide +kernel
theorem d_X8_merged_28 : dec m_X8_merged 28 = .ok (.iconst (-1), 1) := by decide +kernel
theorem d_X8_merged_29 : dec m_X8_merged 29 = .ok (.ireturn, 1) := by decide +kernel
theorem d_X8_merged_30 : dec m_X8_merged 30 = .ok (.aload_n 0, 1) := by decide +kernel
theorem d_X8_merged_31 : dec m_X8_merged 31 = .ok (.iload_n 1, 1) := by decide +kernel
theorem d_X8_merged_32 : dec m_X8_merged 32 = .ok (.invokestatic 255, 3) := by decide +kernel
theorem d_X8_merged_35 : dec m_X8_merged 35 = .ok (.iconst 0, 1) := by decide +kernel
theorem d_X8_merged_36 : dec m_X8_merged 36 = .ok (.invokevirtual 348, 3) := by decide +kernel
theorem d_X8_merged_39 : dec m_X8_merged 39 = .ok (.aload_n 0, 1) := by decide +kernel
theorem d_X8_merged_40 : dec m_X8_merged 40 = .ok (.iload_n 2, 1) := by decide +kernel
theorem d_X8_merged_41 : dec m_X8_merged 41 = .ok (.invokestatic 255, 3) := by decide +kernel
theorem d_X8_merged_44 : dec m_X8_merged 44 = .ok (.iconst 0, 1) := by decide +kernel
theorem d_X8_merged_45 : dec m_X8_merged 45 = .ok (.invokevirtual 348, 3) := by decide +kernel
theorem d_X8_merged_48 : dec m_X8_merged 48 = .ok (.iadd, 1) := by decide +kernel
theorem d_X8_merged_49 : dec m_X8_merged 49 = .ok (.istore 4, 2) := by decide +kernel
theorem d_X8_merged_51 : dec m_X8_merged 51 = .ok (.aload_n 0, 1) := by decide +kernel
theorem d_X8_merged_52 : dec m_X8_merged 52 = .ok (.iload_n 1, 1) := by decide +kernel
theorem d_X8_merged_53 : dec m_X8_merged 53 = .ok (.invokestatic 255, 3) := by decide +kernel
theorem d_X8_merged_56 : dec m_X8_merged 56 = .ok (.iload_n 2, 1) := by decide +kernel
theorem d_X8_merged_57 : dec m_X8_merged 57 = .ok (.invokestatic 255, 3) := by decide +kernel
theorem d_X8_merged_60 : dec m_X8_merged 60 = .ok (.ior, 1) := by decide +kernel
theorem d_X8_merged_61 : dec m_X8_merged 61 = .ok (.iconst 0, 1) := by decide +kernel
theorem d_X8_merged_62 : dec m_X8_merged 62 = .ok (.invokevirtual 348, 3) := by decide +kernel
theorem d_X8_merged_65 : dec m_X8_merged 65 = .ok (.istore 5, 2) := by decide +kernel
theorem d_X8_merged_67 : dec m_X8_merged 67 = .ok (.iload_n 3, 1) := by decide +kernel
theorem d_X8_merged_68 : dec m_X8_merged 68 = .ok (.lookupswitch 39 #[(0, 28), (1, 36)], 28) := by decide +kernel
theorem d_X8_merged_96 : dec m_X8_merged 96 = .ok (.aload_n 0, 1) := by decide +kernel
theorem d_X8_merged_97 : dec m_X8_merged 97 = .ok (.getfield 47, 3) := by decide +kernel
theorem d_X8_merged_100 : dec m_X8_merged 100 = .ok (.getfield 223, 3) := by decide +kernel
theorem d_X8_merged_103 : dec m_X8_merged 103 = .ok (.ireturn, 1) := by decide +kernel
theorem d_X8_merged_104 : dec m_X8_merged 104 = .ok (.iload 5, 2) := by decide +kernel
theorem d_X8_merged_106 : dec m_X8_merged 106 = .ok (.ireturn, 1) := by decide +kernel
theorem d_X8_merged_107 : dec m_X8_merged 107 = .ok (.iload 5, 2) := by decide +kernel
theorem d_X8_merged_109 : dec m_X8_merged 109 = .ok (.iload 4, 2) := by decide +kernel
theorem d_X8_merged_111 : dec m_X8_merged 111 = .ok (.isub, 1) := by decide +kernel
theorem d_X8_merged_112 : dec m_X8_merged 112 = .ok (.ireturn, 1) := by decide +kernel
theorem d_X8_prices_0 : dec m_X8_prices 0 = .ok (.iload_n 1, 1) := by decide +kernel
theorem d_X8_prices_1 : dec m_X8_prices 1 = .ok (.invokestatic 99, 3) := by decide +kernel
theorem d_X8_prices_4 : dec m_X8_prices 4 = .ok (.ifCond .eq 12, 3) := by decide +kernel
theorem d_X8_prices_7 : dec m_X8_prices 7 = .ok (.iload_n 2, 1) := by decide +kernel
theorem d_X8_prices_8 : dec m_X8_prices 8 = .ok (.ifCond .lt 8, 3) := by decide +kernel
theorem d_X8_prices_11 : dec m_X8_prices 11 = .ok (.iload_n 2, 1) := by decide +kernel
theorem d_X8_prices_12 : dec m_X8_prices 12 = .ok (.iconst 2, 1) := by decide +kernel
theorem d_X8_prices_13 : dec m_X8_prices 13 = .ok (.if_icmp .le 5, 3) := by decide +kernel
theorem d_X8_prices_16 : dec m_X8_prices 16 = .ok (.iconst (-1), 1) := by decide +kernel
theorem d_X8_prices_17 : dec m_X8_prices 17 = .ok (.ireturn, 1) := by decide +kernel
theorem d_X8_prices_18 : dec m_X8_prices 18 = .ok (.aload_n 0, 1) := by decide +kernel
theorem d_X8_prices_19 : dec m_X8_prices 19 = .ok (.iload_n 1, 1) := by decide +kernel
theorem d_X8_prices_20 : dec m_X8_prices 20 = .ok (.invokevirtual 154, 3) := by decide +kernel
theorem d_X8_prices_23 : dec m_X8_prices 23 = .ok (.aload_n 0, 1) := by decide +kernel
theorem d_X8_prices_24 : dec m_X8_prices 24 = .ok (.getfield 47, 3) := by decide +kernel
theorem d_X8_prices_27 : dec m_X8_prices 27 = .ok (.getfield 223, 3) := by decide +kernel
theorem d_X8_prices_30 : dec m_X8_prices 30 = .ok (.ifCond .ne 6, 3) := by decide +kernel
theorem d_X8_prices_33 : dec m_X8_prices 33 = .ok (.bipush (-2), 2) := by decide +kernel
theorem d_X8_prices_35 : dec m_X8_prices 35 = .ok (.ireturn, 1) := by decide +kernel
theorem d_X8_prices_36 : dec m_X8_prices 36 = .ok (.iload_n 2, 1) := by decide +kernel
theorem d_X8_prices_37 : dec m_X8_prices 37 = .ok (.lookupswitch 43 #[(0, 27), (1, 35)], 27) := by decide +kernel
theorem d_X8_prices_64 : dec m_X8_prices 64 = .ok (.aload_n 0, 1) := by decide +kernel
theorem d_X8_prices_65 : dec m_X8_prices 65 = .ok (.getfield 47, 3) := by decide +kernel
theorem d_X8_prices_68 : dec m_X8_prices 68 = .ok (.invokevirtual 351, 3) := by decide +kernel
theorem d_X8_prices_71 : dec m_X8_prices 71 = .ok (.ireturn, 1) := by decide +kernel
theorem d_X8_prices_72 : dec m_X8_prices 72 = .ok (.aload_n 0, 1) := by decide +kernel
theorem d_X8_prices_73 : dec m_X8_prices 73 = .ok (.getfield 47, 3) := by decide +kernel
theorem d_X8_prices_76 : dec m_X8_prices 76 = .ok (.invokevirtual 354, 3) := by decide +kernel
theorem d_X8_prices_79 : dec m_X8_prices 79 = .ok (.ireturn, 1) := by decide +kernel
theorem d_X8_prices_80 : dec m_X8_prices 80 = .ok (.aload_n 0, 1) := by decide +kernel
theorem d_X8_prices_81 : dec m_X8_prices 81 = .ok (.getfield 47, 3) := by decide +kernel
theorem d_X8_prices_84 : dec m_X8_prices 84 = .ok (.invokevirtual 354, 3) := by decide +kernel
theorem d_X8_prices_87 : dec m_X8_prices 87 = .ok (.aload_n 0, 1) := by decide +kernel
theorem d_X8_prices_88 : dec m_X8_prices 88 = .ok (.getfield 47, 3) := by decide +kernel
theorem d_X8_prices_91 : dec m_X8_prices 91 = .ok (.invokevirtual 351, 3) := by decide +kernel
theorem d_X8_prices_94 : dec m_X8_prices 94 = .ok (.isub, 1) := by decide +kernel
theorem d_X8_prices_95 : dec m_X8_prices 95 = .ok (.iconst 1, 1) := by decide +kernel
theorem d_X8_prices_96 : dec m_X8_prices 96 = .ok (.iadd, 1) := by decide +kernel
theorem d_X8_prices_97 : dec m_X8_prices 97 = .ok (.ireturn, 1) := by decide +kernel
theorem d_X8_bar_0 : dec m_X8_bar 0 = .ok (.aload_n 0, 1) := by decide +kernel
theorem d_X8_bar_1 : dec m_X8_bar 1 = .ok (.getfield 12, 3) := by decide +kernel
theorem d_X8_bar_4 : dec m_X8_bar 4 = .ok (.iload_n 1, 1) := by decide +kernel
theorem d_X8_bar_5 : dec m_X8_bar 5 = .ok (.invokevirtual 110, 3) := by decide +kernel
theorem d_X8_bar_8 : dec m_X8_bar 8 = .ok (.ifCond .ne 6, 3) := by decide +kernel
theorem d_X8_bar_11 : dec m_X8_bar 11 = .ok (.ldc 195, 2) := by decide +kernel
theorem d_X8_bar_13 : dec m_X8_bar 13 = .ok (.ireturn, 1) := by decide +kernel
theorem d_X8_bar_14 : dec m_X8_bar 14 = .ok (.aload_n 0, 1) := by decide +kernel
theorem d_X8_bar_15 : dec m_X8_bar 15 = .ok (.aload_n 0, 1) := by decide +kernel
theorem d_X8_bar_16 : dec m_X8_bar 16 = .ok (.getfield 12, 3) := by decide +kernel
theorem d_X8_bar_19 : dec m_X8_bar 19 = .ok (.iload_n 1, 1) := by decide +kernel
theorem d_X8_bar_20 : dec m_X8_bar 20 = .ok (.invokevirtual 196, 3) := by decide +kernel
theorem d_X8_bar_23 : dec m_X8_bar 23 = .ok (.iload_n 1, 1) := by decide +kernel
theorem d_X8_bar_24 : dec m_X8_bar 24 = .ok (.invokestatic 255, 3) := by decide +kernel
theorem d_X8_bar_27 : dec m_X8_bar 27 = .ok (.invokevirtual 258, 3) := by decide +kernel
theorem d_X8_bar_30 : dec m_X8_bar 30 = .ok (.aload_n 0, 1) := by decide +kernel
theorem d_X8_bar_31 : dec m_X8_bar 31 = .ok (.getfield 12, 3) := by decide +kernel
theorem d_X8_bar_34 : dec m_X8_bar 34 = .ok (.iload_n 1, 1) := by decide +kernel
theorem d_X8_bar_35 : dec m_X8_bar 35 = .ok (.invokevirtual 160, 3) := by decide +kernel
theorem d_X8_bar_38 : dec m_X8_bar 38 = .ok (.istore_n 2, 1) := by decide +kernel
theorem d_X8_bar_39 : dec m_X8_bar 39 = .ok (.sipush (-500), 3) := by decide +kernel
theorem d_X8_bar_42 : dec m_X8_bar 42 = .ok (.istore_n 3, 1) := by decide +kernel
theorem d_X8_bar_43 : dec m_X8_bar 43 = .ok (.iload_n 3, 1) := by decide +kernel
theorem d_X8_bar_44 : dec m_X8_bar 44 = .ok (.sipush 500, 3) := by decide +kernel
theorem d_X8_bar_47 : dec m_X8_bar 47 = .ok (.if_icmp .gt 43, 3) := by decide +kernel
theorem d_X8_bar_50 : dec m_X8_bar 50 = .ok (.iload_n 2, 1) := by decide +kernel
theorem d_X8_bar_51 : dec m_X8_bar 51 = .ok (.ifCond .eq 8, 3) := by decide +kernel
theorem d_X8_bar_54 : dec m_X8_bar 54 = .ok (.iload_n 3, 1) := by decide +kernel
theorem d_X8_bar_55 : dec m_X8_bar 55 = .ok (.ineg, 1) := by decide +kernel
theorem d_X8_bar_56 : dec m_X8_bar 56 = .ok (.goto 4, 3) := by decide +kernel
theorem d_X8_bar_59 : dec m_X8_bar 59 = .ok (.iload_n 3, 1) := by decide +kernel
theorem d_X8_bar_60 : dec m_X8_bar 60 = .ok (.istore 4, 2) := by decide +kernel
theorem d_X8_bar_62 : dec m_X8_bar 62 = .ok (.aload_n 0, 1) := by decide +kernel
theorem d_X8_bar_63 : dec m_X8_bar 63 = .ok (.iload_n 1, 1) := by decide +kernel
theorem d_X8_bar_64 : dec m_X8_bar 64 = .ok (.iload 4, 2) := by decide +kernel
theorem d_X8_bar_66 : dec m_X8_bar 66 = .ok (.invokevirtual 357, 3) := by decide +kernel
theorem d_X8_bar_69 : dec m_X8_bar 69 = .ok (.aload_n 0, 1) := by decide +kernel
theorem d_X8_bar_70 : dec m_X8_bar 70 = .ok (.getfield 47, 3) := by decide +kernel
theorem d_X8_bar_73 : dec m_X8_bar 73 = .ok (.iload_n 2, 1) := by decide +kernel
theorem d_X8_bar_74 : dec m_X8_bar 74 = .ok (.iload_n 1, 1) := by decide +kernel
theorem d_X8_bar_75 : dec m_X8_bar 75 = .ok (.invokevirtual 163, 3) := by decide +kernel
theorem d_X8_bar_78 : dec m_X8_bar 78 = .ok (.ifCond .le 6, 3) := by decide +kernel
theorem d_X8_bar_81 : dec m_X8_bar 81 = .ok (.iload 4, 2) := by decide +kernel
theorem d_X8_bar_83 : dec m_X8_bar 83 = .ok (.ireturn, 1) := by decide +kernel
theorem d_X8_bar_84 : dec m_X8_bar 84 = .ok (.iinc 3 1, 3) := by decide +kernel
theorem d_X8_bar_87 : dec m_X8_bar 87 = .ok (.goto (-44), 3) := by decide +kernel
theorem d_X8_bar_90 : dec m_X8_bar 90 = .ok (.sipush (-1000), 3) := by decide +kernel
theorem d_X8_bar_93 : dec m_X8_bar 93 = .ok (.ireturn, 1) := by decide +kernel
theorem d_X8_helps_0 : dec m_X8_helps 0 = .ok (.aload_n 0, 1) := by decide +kernel
theorem d_X8_helps_1 : dec m_X8_helps 1 = .ok (.iload_n 1, 1) := by decide +kernel
theorem d_X8_helps_2 : dec m_X8_helps 2 = .ok (.iload_n 2, 1) := by decide +kernel
theorem d_X8_helps_3 : dec m_X8_helps 3 = .ok (.invokevirtual 360, 3) := by decide +kernel
theorem d_X8_helps_6 : dec m_X8_helps 6 = .ok (.ifCond .ne 6, 3) := by decide +kernel
theorem d_X8_helps_9 : dec m_X8_helps 9 = .ok (.ldc 195, 2) := by decide +kernel
theorem d_X8_helps_11 : dec m_X8_helps 11 = .ok (.ireturn, 1) := by decide +kernel
theorem d_X8_helps_12 : dec m_X8_helps 12 = .ok (.aload_n 0, 1) := by decide +kernel
theorem d_X8_helps_13 : dec m_X8_helps 13 = .ok (.getfield 12, 3) := by decide +kernel
theorem d_X8_helps_16 : dec m_X8_helps 16 = .ok (.iload_n 1, 1) := by decide +kernel
theorem d_X8_helps_17 : dec m_X8_helps 17 = .ok (.invokevirtual 196, 3) := by decide +kernel
theorem d_X8_helps_20 : dec m_X8_helps 20 = .ok (.istore_n 3, 1) := by decide +kernel
theorem d_X8_helps_21 : dec m_X8_helps 21 = .ok (.aload_n 0, 1) := by decide +kernel
theorem d_X8_helps_22 : dec m_X8_helps 22 = .ok (.iload_n 3, 1) := by decide +kernel
theorem d_X8_helps_23 : dec m_X8_helps 23 = .ok (.invokevirtual 154, 3) := by decide +kernel
theorem d_X8_helps_26 : dec m_X8_helps 26 = .ok (.aload_n 0, 1) := by decide +kernel
theorem d_X8_helps_27 : dec m_X8_helps 27 = .ok (.getfield 47, 3) := by decide +kernel
theorem d_X8_helps_30 : dec m_X8_helps 30 = .ok (.aload_n 0, 1) := by decide +kernel
theorem d_X8_helps_31 : dec m_X8_helps 31 = .ok (.getfield 12, 3) := by decide +kernel
theorem d_X8_helps_34 : dec m_X8_helps 34 = .ok (.iload_n 1, 1) := by decide +kernel
theorem d_X8_helps_35 : dec m_X8_helps 35 = .ok (.invokevirtual 251, 3) := by decide +kernel
theorem d_X8_helps_38 : dec m_X8_helps 38 = .ok (.istore 4, 2) := by decide +kernel
theorem d_X8_helps_40 : dec m_X8_helps 40 = .ok (.aload_n 0, 1) := by decide +kernel
theorem d_X8_helps_41 : dec m_X8_helps 41 = .ok (.getfield 47, 3) := by decide +kernel
theorem d_X8_helps_44 : dec m_X8_helps 44 = .ok (.aload_n 0, 1) := by decide +kernel
theorem d_X8_helps_45 : dec m_X8_helps 45 = .ok (.getfield 12, 3) := by decide +kernel
theorem d_X8_helps_48 : dec m_X8_helps 48 = .ok (.iload_n 3, 1) := by decide +kernel
theorem d_X8_helps_49 : dec m_X8_helps 49 = .ok (.invokestatic 255, 3) := by decide +kernel
theorem d_X8_helps_52 : dec m_X8_helps 52 = .ok (.iload_n 2, 1) := by decide +kernel
theorem d_X8_helps_53 : dec m_X8_helps 53 = .ok (.invokestatic 255, 3) := by decide +kernel
theorem d_X8_helps_56 : dec m_X8_helps 56 = .ok (.invokevirtual 289, 3) := by decide +kernel
theorem d_X8_helps_59 : dec m_X8_helps 59 = .ok (.aload_n 0, 1) := by decide +kernel
theorem d_X8_helps_60 : dec m_X8_helps 60 = .ok (.getfield 47, 3) := by decide +kernel
theorem d_X8_helps_63 : dec m_X8_helps 63 = .ok (.aload_n 0, 1) := by decide +kernel
theorem d_X8_helps_64 : dec m_X8_helps 64 = .ok (.getfield 12, 3) := by decide +kernel
theorem d_X8_helps_67 : dec m_X8_helps 67 = .ok (.getfield 145, 3) := by decide +kernel
theorem d_X8_helps_70 : dec m_X8_helps 70 = .ok (.aload_n 0, 1) := by decide +kernel
theorem d_X8_helps_71 : dec m_X8_helps 71 = .ok (.getfield 12, 3) := by decide +kernel
theorem d_X8_helps_74 : dec m_X8_helps 74 = .ok (.getfield 151, 3) := by decide +kernel
theorem d_X8_helps_77 : dec m_X8_helps 77 = .ok (.invokevirtual 293, 3) := by decide +kernel
theorem d_X8_helps_80 : dec m_X8_helps 80 = .ok (.aload_n 0, 1) := by decide +kernel
theorem d_X8_helps_81 : dec m_X8_helps 81 = .ok (.getfield 47, 3) := by decide +kernel
theorem d_X8_helps_84 : dec m_X8_helps 84 = .ok (.aload_n 0, 1) := by decide +kernel
theorem d_X8_helps_85 : dec m_X8_helps 85 = .ok (.getfield 12, 3) := by decide +kernel
theorem d_X8_helps_88 : dec m_X8_helps 88 = .ok (.iload_n 1, 1) := by decide +kernel
theorem d_X8_helps_89 : dec m_X8_helps 89 = .ok (.invokevirtual 251, 3) := by decide +kernel
theorem d_X8_helps_92 : dec m_X8_helps 92 = .ok (.iload 4, 2) := by decide +kernel
theorem d_X8_helps_94 : dec m_X8_helps 94 = .ok (.isub, 1) := by decide +kernel
theorem d_X8_helps_95 : dec m_X8_helps 95 = .ok (.ireturn, 1) := by decide +kernel
theorem d_X8_winner_0 : dec m_X8_winner 0 = .ok (.iload_n 1, 1) := by decide +kernel
theorem d_X8_winner_1 : dec m_X8_winner 1 = .ok (.invokestatic 99, 3) := by decide +kernel
theorem d_X8_winner_4 : dec m_X8_winner 4 = .ok (.ifCond .ne 6, 3) := by decide +kernel
theorem d_X8_winner_7 : dec m_X8_winner 7 = .ok (.ldc 195, 2) := by decide +kernel
theorem d_X8_winner_9 : dec m_X8_winner 9 = .ok (.ireturn, 1) := by decide +kernel
theorem d_X8_winner_10 : dec m_X8_winner 10 = .ok (.aload_n 0, 1) := by decide +kernel
theorem d_X8_winner_11 : dec m_X8_winner 11 = .ok (.iload_n 1, 1) := by decide +kernel
theorem d_X8_winner_12 : dec m_X8_winner 12 = .ok (.invokevirtual 363, 3) := by decide +kernel
theorem d_X8_winner_15 : dec m_X8_winner 15 = .ok (.iload_n 2, 1) := by decide +kernel
theorem d_X8_winner_16 : dec m_X8_winner 16 = .ok (.tableswitch 69 0 2 #[28, 52, 61], 28) := by decide +kernel
theorem d_X8_winner_44 : dec m_X8_winner 44 = .ok (.aload_n 0, 1) := by decide +kernel
theorem d_X8_winner_45 : dec m_X8_winner 45 = .ok (.getfield 57, 3) := by decide +kernel
theorem d_X8_winner_48 : dec m_X8_winner 48 = .ok (.getfield 366, 3) := by decide +kernel
theorem d_X8_winner_51 : dec m_X8_winner 51 = .ok (.ifCond .le 14, 3) := by decide +kernel
theorem d_X8_winner_54 : dec m_X8_winner 54 = .ok (.aload_n 0, 1) := by decide +kernel
theorem d_X8_winner_55 : dec m_X8_winner 55 = .ok (.getfield 57, 3) := by decide +kernel
