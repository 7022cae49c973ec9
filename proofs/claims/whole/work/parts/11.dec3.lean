set_option maxRecDepth 100000
theorem d_X9_tempted_42 : dec m_X9_tempted 42 = .ok (.iload 5, 2) := by decide +kernel
theorem d_X9_tempted_44 : dec m_X9_tempted 44 = .ok (.ineg, 1) := by decide +kernel
theorem d_X9_tempted_45 : dec m_X9_tempted 45 = .ok (.istore 6, 2) := by decide +kernel
theorem d_X9_tempted_47 : dec m_X9_tempted 47 = .ok (.iload 6, 2) := by decide +kernel
theorem d_X9_tempted_49 : dec m_X9_tempted 49 = .ok (.iload 5, 2) := by decide +kernel
theorem d_X9_tempted_51 : dec m_X9_tempted 51 = .ok (.if_icmp .gt 41, 3) := by decide +kernel
theorem d_X9_tempted_54 : dec m_X9_tempted 54 = .ok (.aload_n 0, 1) := by decide +kernel
theorem d_X9_tempted_55 : dec m_X9_tempted 55 = .ok (.iload_n 1, 1) := by decide +kernel
theorem d_X9_tempted_56 : dec m_X9_tempted 56 = .ok (.iload 6, 2) := by decide +kernel
theorem d_X9_tempted_58 : dec m_X9_tempted 58 = .ok (.invokevirtual 211, 3) := by decide +kernel
theorem d_X9_tempted_61 : dec m_X9_tempted 61 = .ok (.istore 7, 2) := by decide +kernel
theorem d_X9_tempted_63 : dec m_X9_tempted 63 = .ok (.iload 7, 2) := by decide +kernel
theorem d_X9_tempted_65 : dec m_X9_tempted 65 = .ok (.iload 4, 2) := by decide +kernel
theorem d_X9_tempted_67 : dec m_X9_tempted 67 = .ok (.if_icmp .gt 6, 3) := by decide +kernel
theorem d_X9_tempted_70 : dec m_X9_tempted 70 = .ok (.goto 10, 3) := by decide +kernel
theorem d_X9_tempted_73 : dec m_X9_tempted 73 = .ok (.iload 7, 2) := by decide +kernel
theorem d_X9_tempted_75 : dec m_X9_tempted 75 = .ok (.istore 4, 2) := by decide +kernel
theorem d_X9_tempted_77 : dec m_X9_tempted 77 = .ok (.iload 6, 2) := by decide +kernel
theorem d_X9_tempted_79 : dec m_X9_tempted 79 = .ok (.istore_n 3, 1) := by decide +kernel
theorem d_X9_tempted_80 : dec m_X9_tempted 80 = .ok (.iload 6, 2) := by decide +kernel
theorem d_X9_tempted_82 : dec m_X9_tempted 82 = .ok (.iconst 2, 1) := by decide +kernel
theorem d_X9_tempted_83 : dec m_X9_tempted 83 = .ok (.iload 5, 2) := by decide +kernel
theorem d_X9_tempted_85 : dec m_X9_tempted 85 = .ok (.imul, 1) := by decide +kernel
theorem d_X9_tempted_86 : dec m_X9_tempted 86 = .ok (.iadd, 1) := by decide +kernel
theorem d_X9_tempted_87 : dec m_X9_tempted 87 = .ok (.istore 6, 2) := by decide +kernel
theorem d_X9_tempted_89 : dec m_X9_tempted 89 = .ok (.goto (-42), 3) := by decide +kernel
theorem d_X9_tempted_92 : dec m_X9_tempted 92 = .ok (.iinc 5 1, 3) := by decide +kernel
theorem d_X9_tempted_95 : dec m_X9_tempted 95 = .ok (.goto (-61), 3) := by decide +kernel
theorem d_X9_tempted_98 : dec m_X9_tempted 98 = .ok (.iload_n 2, 1) := by decide +kernel
theorem d_X9_tempted_99 : dec m_X9_tempted 99 = .ok (.ifCond .ne 8, 3) := by decide +kernel
theorem d_X9_tempted_102 : dec m_X9_tempted 102 = .ok (.iload 4, 2) := by decide +kernel
theorem d_X9_tempted_104 : dec m_X9_tempted 104 = .ok (.goto 4, 3) := by decide +kernel
theorem d_X9_tempted_107 : dec m_X9_tempted 107 = .ok (.iload_n 3, 1) := by decide +kernel
theorem d_X9_tempted_108 : dec m_X9_tempted 108 = .ok (.ireturn, 1) := by decide +kernel
theorem d_X9_isDoneBy_0 : dec m_X9_isDoneBy 0 = .ok (.aload_n 0, 1) := by decide +kernel
theorem d_X9_isDoneBy_1 : dec m_X9_isDoneBy 1 = .ok (.iconst 1, 1) := by decide +kernel
theorem d_X9_isDoneBy_2 : dec m_X9_isDoneBy 2 = .ok (.iload_n 1, 1) := by decide +kernel
theorem d_X9_isDoneBy_3 : dec m_X9_isDoneBy 3 = .ok (.ishl, 1) := by decide +kernel
theorem d_X9_isDoneBy_4 : dec m_X9_isDoneBy 4 = .ok (.putfield 92, 3) := by decide +kernel
theorem d_X9_isDoneBy_7 : dec m_X9_isDoneBy 7 = .ok (.aload_n 0, 1) := by decide +kernel
theorem d_X9_isDoneBy_8 : dec m_X9_isDoneBy 8 = .ok (.iload_n 2, 1) := by decide +kernel
theorem d_X9_isDoneBy_9 : dec m_X9_isDoneBy 9 = .ok (.putfield 100, 3) := by decide +kernel
theorem d_X9_isDoneBy_12 : dec m_X9_isDoneBy 12 = .ok (.aload_n 0, 1) := by decide +kernel
theorem d_X9_isDoneBy_13 : dec m_X9_isDoneBy 13 = .ok (.aload_n 0, 1) := by decide +kernel
theorem d_X9_isDoneBy_14 : dec m_X9_isDoneBy 14 = .ok (.iload_n 1, 1) := by decide +kernel
theorem d_X9_isDoneBy_15 : dec m_X9_isDoneBy 15 = .ok (.iconst 1, 1) := by decide +kernel
theorem d_X9_isDoneBy_16 : dec m_X9_isDoneBy 16 = .ok (.invokevirtual 88, 3) := by decide +kernel
theorem d_X9_isDoneBy_19 : dec m_X9_isDoneBy 19 = .ok (.invokevirtual 180, 3) := by decide +kernel
theorem d_X9_isDoneBy_22 : dec m_X9_isDoneBy 22 = .ok (.aload_n 0, 1) := by decide +kernel
theorem d_X9_isDoneBy_23 : dec m_X9_isDoneBy 23 = .ok (.iload_n 1, 1) := by decide +kernel
theorem d_X9_isDoneBy_24 : dec m_X9_isDoneBy 24 = .ok (.invokevirtual 170, 3) := by decide +kernel
theorem d_X9_isDoneBy_27 : dec m_X9_isDoneBy 27 = .ok (.ifCond .le 7, 3) := by decide +kernel
theorem d_X9_isDoneBy_30 : dec m_X9_isDoneBy 30 = .ok (.iconst 1, 1) := by decide +kernel
theorem d_X9_isDoneBy_31 : dec m_X9_isDoneBy 31 = .ok (.goto 4, 3) := by decide +kernel
theorem d_X9_isDoneBy_34 : dec m_X9_isDoneBy 34 = .ok (.iconst 0, 1) := by decide +kernel
theorem d_X9_isDoneBy_35 : dec m_X9_isDoneBy 35 = .ok (.istore_n 3, 1) := by decide +kernel
theorem d_X9_isDoneBy_36 : dec m_X9_isDoneBy 36 = .ok (.aload_n 0, 1) := by decide +kernel
theorem d_X9_isDoneBy_37 : dec m_X9_isDoneBy 37 = .ok (.iconst 0, 1) := by decide +kernel
theorem d_X9_isDoneBy_38 : dec m_X9_isDoneBy 38 = .ok (.putfield 92, 3) := by decide +kernel
theorem d_X9_isDoneBy_41 : dec m_X9_isDoneBy 41 = .ok (.iload_n 3, 1) := by decide +kernel
theorem d_X9_isDoneBy_42 : dec m_X9_isDoneBy 42 = .ok (.ireturn, 1) := by decide +kernel
theorem d_X9_bar_0 : dec m_X9_bar 0 = .ok (.aload_n 0, 1) := by decide +kernel
theorem d_X9_bar_1 : dec m_X9_bar 1 = .ok (.iload_n 1, 1) := by decide +kernel
theorem d_X9_bar_2 : dec m_X9_bar 2 = .ok (.invokevirtual 189, 3) := by decide +kernel
theorem d_X9_bar_5 : dec m_X9_bar 5 = .ok (.ifCond .ne 6, 3) := by decide +kernel
theorem d_X9_bar_8 : dec m_X9_bar 8 = .ok (.ldc 192, 2) := by decide +kernel
theorem d_X9_bar_10 : dec m_X9_bar 10 = .ok (.ireturn, 1) := by decide +kernel
theorem d_X9_bar_11 : dec m_X9_bar 11 = .ok (.aload_n 0, 1) := by decide +kernel
theorem d_X9_bar_12 : dec m_X9_bar 12 = .ok (.iload_n 1, 1) := by decide +kernel
theorem d_X9_bar_13 : dec m_X9_bar 13 = .ok (.invokevirtual 122, 3) := by decide +kernel
theorem d_X9_bar_16 : dec m_X9_bar 16 = .ok (.ifCond .eq 7, 3) := by decide +kernel
theorem d_X9_bar_19 : dec m_X9_bar 19 = .ok (.iconst (-1), 1) := by decide +kernel
theorem d_X9_bar_20 : dec m_X9_bar 20 = .ok (.goto 4, 3) := by decide +kernel
theorem d_X9_bar_23 : dec m_X9_bar 23 = .ok (.iconst 1, 1) := by decide +kernel
theorem d_X9_bar_24 : dec m_X9_bar 24 = .ok (.istore_n 2, 1) := by decide +kernel
theorem d_X9_bar_25 : dec m_X9_bar 25 = .ok (.sipush (-500), 3) := by decide +kernel
theorem d_X9_bar_28 : dec m_X9_bar 28 = .ok (.iload_n 2, 1) := by decide +kernel
theorem d_X9_bar_29 : dec m_X9_bar 29 = .ok (.imul, 1) := by decide +kernel
theorem d_X9_bar_30 : dec m_X9_bar 30 = .ok (.istore_n 3, 1) := by decide +kernel
theorem d_X9_bar_31 : dec m_X9_bar 31 = .ok (.iload_n 3, 1) := by decide +kernel
theorem d_X9_bar_32 : dec m_X9_bar 32 = .ok (.i2l, 1) := by decide +kernel
theorem d_X9_bar_33 : dec m_X9_bar 33 = .ok (.ldc2_w 207, 3) := by decide +kernel
theorem d_X9_bar_36 : dec m_X9_bar 36 = .ok (.ldc2_w 209, 3) := by decide +kernel
theorem d_X9_bar_39 : dec m_X9_bar 39 = .ok (.invokestatic 82, 3) := by decide +kernel
theorem d_X9_bar_42 : dec m_X9_bar 42 = .ok (.ifCond .eq 21, 3) := by decide +kernel
theorem d_X9_bar_45 : dec m_X9_bar 45 = .ok (.aload_n 0, 1) := by decide +kernel
theorem d_X9_bar_46 : dec m_X9_bar 46 = .ok (.iload_n 1, 1) := by decide +kernel
theorem d_X9_bar_47 : dec m_X9_bar 47 = .ok (.iload_n 3, 1) := by decide +kernel
theorem d_X9_bar_48 : dec m_X9_bar 48 = .ok (.invokevirtual 214, 3) := by decide +kernel
theorem d_X9_bar_51 : dec m_X9_bar 51 = .ok (.ifCond .eq 5, 3) := by decide +kernel
theorem d_X9_bar_54 : dec m_X9_bar 54 = .ok (.iload_n 3, 1) := by decide +kernel
theorem d_X9_bar_55 : dec m_X9_bar 55 = .ok (.ireturn, 1) := by decide +kernel
theorem d_X9_bar_56 : dec m_X9_bar 56 = .ok (.iload_n 3, 1) := by decide +kernel
theorem d_X9_bar_57 : dec m_X9_bar 57 = .ok (.iload_n 2, 1) := by decide +kernel
theorem d_X9_bar_58 : dec m_X9_bar 58 = .ok (.iadd, 1) := by decide +kernel
theorem d_X9_bar_59 : dec m_X9_bar 59 = .ok (.istore_n 3, 1) := by decide +kernel
theorem d_X9_bar_60 : dec m_X9_bar 60 = .ok (.goto (-29), 3) := by decide +kernel
theorem d_X9_bar_63 : dec m_X9_bar 63 = .ok (.sipush (-1000), 3) := by decide +kernel
theorem d_X9_bar_66 : dec m_X9_bar 66 = .ok (.ireturn, 1) := by decide +kernel
theorem d_X9_missed_0 : dec m_X9_missed 0 = .ok (.aload_n 0, 1) := by decide +kernel
theorem d_X9_missed_1 : dec m_X9_missed 1 = .ok (.iload_n 1, 1) := by decide +kernel
theorem d_X9_missed_2 : dec m_X9_missed 2 = .ok (.invokevirtual 189, 3) := by decide +kernel
theorem d_X9_missed_5 : dec m_X9_missed 5 = .ok (.ifCond .ne 5, 3) := by decide +kernel
theorem d_X9_missed_8 : dec m_X9_missed 8 = .ok (.iconst (-1), 1) := by decide +kernel
theorem d_X9_missed_9 : dec m_X9_missed 9 = .ok (.ireturn, 1) := by decide +kernel
theorem d_X9_missed_10 : dec m_X9_missed 10 = .ok (.aload_n 0, 1) := by decide +kernel
theorem d_X9_missed_11 : dec m_X9_missed 11 = .ok (.iload_n 1, 1) := by decide +kernel
theorem d_X9_missed_12 : dec m_X9_missed 12 = .ok (.iconst 1, 1) := by decide +kernel
theorem d_X9_missed_13 : dec m_X9_missed 13 = .ok (.invokevirtual 88, 3) := by decide +kernel
theorem d_X9_missed_16 : dec m_X9_missed 16 = .ok (.istore_n 2, 1) := by decide +kernel
theorem d_X9_missed_17 : dec m_X9_missed 17 = .ok (.aload_n 0, 1) := by decide +kernel
theorem d_X9_missed_18 : dec m_X9_missed 18 = .ok (.iconst 1, 1) := by decide +kernel
theorem d_X9_missed_19 : dec m_X9_missed 19 = .ok (.iload_n 2, 1) := by decide +kernel
theorem d_X9_missed_20 : dec m_X9_missed 20 = .ok (.ishl, 1) := by decide +kernel
theorem d_X9_missed_21 : dec m_X9_missed 21 = .ok (.invokevirtual 143, 3) := by decide +kernel
theorem d_X9_missed_24 : dec m_X9_missed 24 = .ok (.aload_n 0, 1) := by decide +kernel
theorem d_X9_missed_25 : dec m_X9_missed 25 = .ok (.iload_n 2, 1) := by decide +kernel
theorem d_X9_missed_26 : dec m_X9_missed 26 = .ok (.iload_n 1, 1) := by decide +kernel
theorem d_X9_missed_27 : dec m_X9_missed 27 = .ok (.invokevirtual 173, 3) := by decide +kernel
theorem d_X9_missed_30 : dec m_X9_missed 30 = .ok (.isub, 1) := by decide +kernel
theorem d_X9_missed_31 : dec m_X9_missed 31 = .ok (.ireturn, 1) := by decide +kernel
theorem d_X9_helps_0 : dec m_X9_helps 0 = .ok (.aload_n 0, 1) := by decide +kernel
theorem d_X9_helps_1 : dec m_X9_helps 1 = .ok (.iload_n 1, 1) := by decide +kernel
theorem d_X9_helps_2 : dec m_X9_helps 2 = .ok (.invokevirtual 189, 3) := by decide +kernel
theorem d_X9_helps_5 : dec m_X9_helps 5 = .ok (.ifCond .eq 31, 3) := by decide +kernel
theorem d_X9_helps_8 : dec m_X9_helps 8 = .ok (.aload_n 0, 1) := by decide +kernel
theorem d_X9_helps_9 : dec m_X9_helps 9 = .ok (.iload_n 2, 1) := by decide +kernel
theorem d_X9_helps_10 : dec m_X9_helps 10 = .ok (.invokevirtual 189, 3) := by decide +kernel
theorem d_X9_helps_13 : dec m_X9_helps 13 = .ok (.ifCond .eq 23, 3) := by decide +kernel
theorem d_X9_helps_16 : dec m_X9_helps 16 = .ok (.iload_n 1, 1) := by decide +kernel
theorem d_X9_helps_17 : dec m_X9_helps 17 = .ok (.iload_n 2, 1) := by decide +kernel
theorem d_X9_helps_18 : dec m_X9_helps 18 = .ok (.if_icmp .eq 18, 3) := by decide +kernel
theorem d_X9_helps_21 : dec m_X9_helps 21 = .ok (.aload_n 0, 1) := by decide +kernel
theorem d_X9_helps_22 : dec m_X9_helps 22 = .ok (.iload_n 1, 1) := by decide +kernel
theorem d_X9_helps_23 : dec m_X9_helps 23 = .ok (.iconst 1, 1) := by decide +kernel
theorem d_X9_helps_24 : dec m_X9_helps 24 = .ok (.invokevirtual 88, 3) := by decide +kernel
theorem d_X9_helps_27 : dec m_X9_helps 27 = .ok (.aload_n 0, 1) := by decide +kernel
theorem d_X9_helps_28 : dec m_X9_helps 28 = .ok (.iload_n 2, 1) := by decide +kernel
theorem d_X9_helps_29 : dec m_X9_helps 29 = .ok (.iconst 1, 1) := by decide +kernel
theorem d_X9_helps_30 : dec m_X9_helps 30 = .ok (.invokevirtual 88, 3) := by decide +kernel
theorem d_X9_helps_33 : dec m_X9_helps 33 = .ok (.if_icmp .eq 6, 3) := by decide +kernel
theorem d_X9_helps_36 : dec m_X9_helps 36 = .ok (.ldc 192, 2) := by decide +kernel
theorem d_X9_helps_38 : dec m_X9_helps 38 = .ok (.ireturn, 1) := by decide +kernel
theorem d_X9_helps_39 : dec m_X9_helps 39 = .ok (.aload_n 0, 1) := by decide +kernel
theorem d_X9_helps_40 : dec m_X9_helps 40 = .ok (.iload_n 1, 1) := by decide +kernel
theorem d_X9_helps_41 : dec m_X9_helps 41 = .ok (.invokevirtual 204, 3) := by decide +kernel
theorem d_X9_helps_44 : dec m_X9_helps 44 = .ok (.istore_n 3, 1) := by decide +kernel
theorem d_X9_helps_45 : dec m_X9_helps 45 = .ok (.aload_n 0, 1) := by decide +kernel
theorem d_X9_helps_46 : dec m_X9_helps 46 = .ok (.iconst 1, 1) := by decide +kernel
theorem d_X9_helps_47 : dec m_X9_helps 47 = .ok (.iload_n 2, 1) := by decide +kernel
theorem d_X9_helps_48 : dec m_X9_helps 48 = .ok (.ishl, 1) := by decide +kernel
theorem d_X9_helps_49 : dec m_X9_helps 49 = .ok (.putfield 107, 3) := by decide +kernel
theorem d_X9_helps_52 : dec m_X9_helps 52 = .ok (.aload_n 0, 1) := by decide +kernel
theorem d_X9_helps_53 : dec m_X9_helps 53 = .ok (.iload_n 1, 1) := by decide +kernel
theorem d_X9_helps_54 : dec m_X9_helps 54 = .ok (.invokevirtual 204, 3) := by decide +kernel
theorem d_X9_helps_57 : dec m_X9_helps 57 = .ok (.istore 4, 2) := by decide +kernel
theorem d_X9_helps_59 : dec m_X9_helps 59 = .ok (.aload_n 0, 1) := by decide +kernel
theorem d_X9_helps_60 : dec m_X9_helps 60 = .ok (.iconst 0, 1) := by decide +kernel
theorem d_X9_helps_61 : dec m_X9_helps 61 = .ok (.putfield 107, 3) := by decide +kernel
theorem d_X9_helps_64 : dec m_X9_helps 64 = .ok (.iload 4, 2) := by decide +kernel
theorem d_X9_helps_66 : dec m_X9_helps 66 = .ok (.iload_n 3, 1) := by decide +kernel
theorem d_X9_helps_67 : dec m_X9_helps 67 = .ok (.isub, 1) := by decide +kernel
theorem d_X9_helps_68 : dec m_X9_helps 68 = .ok (.ireturn, 1) := by decide +kernel
theorem d_X9_pactBy_0 : dec m_X9_pactBy 0 = .ok (.aload_n 0, 1) := by decide +kernel
theorem d_X9_pactBy_1 : dec m_X9_pactBy 1 = .ok (.iconst 1, 1) := by decide +kernel
theorem d_X9_pactBy_2 : dec m_X9_pactBy 2 = .ok (.iload_n 1, 1) := by decide +kernel
theorem d_X9_pactBy_3 : dec m_X9_pactBy 3 = .ok (.ishl, 1) := by decide +kernel
theorem d_X9_pactBy_4 : dec m_X9_pactBy 4 = .ok (.iconst 1, 1) := by decide +kernel
theorem d_X9_pactBy_5 : dec m_X9_pactBy 5 = .ok (.iload_n 2, 1) := by decide +kernel
theorem d_X9_pactBy_6 : dec m_X9_pactBy 6 = .ok (.ishl, 1) := by decide +kernel
theorem d_X9_pactBy_7 : dec m_X9_pactBy 7 = .ok (.ior, 1) := by decide +kernel
theorem d_X9_pactBy_8 : dec m_X9_pactBy 8 = .ok (.putfield 92, 3) := by decide +kernel
theorem d_X9_pactBy_11 : dec m_X9_pactBy 11 = .ok (.aload_n 0, 1) := by decide +kernel
theorem d_X9_pactBy_12 : dec m_X9_pactBy 12 = .ok (.iload_n 3, 1) := by decide +kernel
theorem d_X9_pactBy_13 : dec m_X9_pactBy 13 = .ok (.putfield 100, 3) := by decide +kernel
theorem d_X9_pactBy_16 : dec m_X9_pactBy 16 = .ok (.aload_n 0, 1) := by decide +kernel
theorem d_X9_pactBy_17 : dec m_X9_pactBy 17 = .ok (.iload_n 1, 1) := by decide +kernel
theorem d_X9_pactBy_18 : dec m_X9_pactBy 18 = .ok (.invokevirtual 204, 3) := by decide +kernel
theorem d_X9_pactBy_21 : dec m_X9_pactBy 21 = .ok (.aload_n 0, 1) := by decide +kernel
theorem d_X9_pactBy_22 : dec m_X9_pactBy 22 = .ok (.iload_n 2, 1) := by decide +kernel
theorem d_X9_pactBy_23 : dec m_X9_pactBy 23 = .ok (.invokevirtual 204, 3) := by decide +kernel
theorem d_X9_pactBy_26 : dec m_X9_pactBy 26 = .ok (.iadd, 1) := by decide +kernel
theorem d_X9_pactBy_27 : dec m_X9_pactBy 27 = .ok (.istore 4, 2) := by decide +kernel
theorem d_X9_pactBy_29 : dec m_X9_pactBy 29 = .ok (.aload_n 0, 1) := by decide +kernel
theorem d_X9_pactBy_30 : dec m_X9_pactBy 30 = .ok (.iconst 0, 1) := by decide +kernel
theorem d_X9_pactBy_31 : dec m_X9_pactBy 31 = .ok (.putfield 92, 3) := by decide +kernel
theorem d_X9_pactBy_34 : dec m_X9_pactBy 34 = .ok (.iload 4, 2) := by decide +kernel
theorem d_X9_pactBy_36 : dec m_X9_pactBy 36 = .ok (.ireturn, 1) := by decide +kernel
theorem d_X9_pact_0 : dec m_X9_pact 0 = .ok (.aload_n 0, 1) := by decide +kernel
theorem d_X9_pact_1 : dec m_X9_pact 1 = .ok (.iload_n 1, 1) := by decide +kernel
theorem d_X9_pact_2 : dec m_X9_pact 2 = .ok (.invokevirtual 189, 3) := by decide +kernel
theorem d_X9_pact_5 : dec m_X9_pact 5 = .ok (.ifCond .eq 43, 3) := by decide +kernel
theorem d_X9_pact_8 : dec m_X9_pact 8 = .ok (.aload_n 0, 1) := by decide +kernel
theorem d_X9_pact_9 : dec m_X9_pact 9 = .ok (.iload_n 2, 1) := by decide +kernel
theorem d_X9_pact_10 : dec m_X9_pact 10 = .ok (.invokevirtual 189, 3) := by decide +kernel
theorem d_X9_pact_13 : dec m_X9_pact 13 = .ok (.ifCond .eq 35, 3) := by decide +kernel
theorem d_X9_pact_16 : dec m_X9_pact 16 = .ok (.iload_n 1, 1) := by decide +kernel
theorem d_X9_pact_17 : dec m_X9_pact 17 = .ok (.iload_n 2, 1) := by decide +kernel
theorem d_X9_pact_18 : dec m_X9_pact 18 = .ok (.if_icmp .eq 30, 3) := by decide +kernel
theorem d_X9_pact_21 : dec m_X9_pact 21 = .ok (.aload_n 0, 1) := by decide +kernel
theorem d_X9_pact_22 : dec m_X9_pact 22 = .ok (.iload_n 1, 1) := by decide +kernel
theorem d_X9_pact_23 : dec m_X9_pact 23 = .ok (.iconst 1, 1) := by decide +kernel
theorem d_X9_pact_24 : dec m_X9_pact 24 = .ok (.invokevirtual 88, 3) := by decide +kernel
theorem d_X9_pact_27 : dec m_X9_pact 27 = .ok (.aload_n 0, 1) := by decide +kernel
theorem d_X9_pact_28 : dec m_X9_pact 28 = .ok (.iload_n 2, 1) := by decide +kernel
theorem d_X9_pact_29 : dec m_X9_pact 29 = .ok (.iconst 1, 1) := by decide +kernel
theorem d_X9_pact_30 : dec m_X9_pact 30 = .ok (.invokevirtual 88, 3) := by decide +kernel
theorem d_X9_pact_33 : dec m_X9_pact 33 = .ok (.if_icmp .ne 15, 3) := by decide +kernel
theorem d_X9_pact_36 : dec m_X9_pact 36 = .ok (.iload_n 3, 1) := by decide +kernel
theorem d_X9_pact_37 : dec m_X9_pact 37 = .ok (.i2l, 1) := by decide +kernel
theorem d_X9_pact_38 : dec m_X9_pact 38 = .ok (.lconst 0, 1) := by decide +kernel
theorem d_X9_pact_39 : dec m_X9_pact 39 = .ok (.ldc2_w 217, 3) := by decide +kernel
theorem d_X9_pact_42 : dec m_X9_pact 42 = .ok (.invokestatic 82, 3) := by decide +kernel
theorem d_X9_pact_45 : dec m_X9_pact 45 = .ok (.ifCond .ne 6, 3) := by decide +kernel
theorem d_X9_pact_48 : dec m_X9_pact 48 = .ok (.ldc 192, 2) := by decide +kernel
theorem d_X9_pact_50 : dec m_X9_pact 50 = .ok (.ireturn, 1) := by decide +kernel
theorem d_X9_pact_51 : dec m_X9_pact 51 = .ok (.aload_n 0, 1) := by decide +kernel
theorem d_X9_pact_52 : dec m_X9_pact 52 = .ok (.iload_n 1, 1) := by decide +kernel
theorem d_X9_pact_53 : dec m_X9_pact 53 = .ok (.iload_n 2, 1) := by decide +kernel
theorem d_X9_pact_54 : dec m_X9_pact 54 = .ok (.iconst 0, 1) := by decide +kernel
theorem d_X9_pact_55 : dec m_X9_pact 55 = .ok (.invokevirtual 219, 3) := by decide +kernel
theorem d_X9_pact_58 : dec m_X9_pact 58 = .ok (.istore 4, 2) := by decide +kernel
theorem d_X9_pact_60 : dec m_X9_pact 60 = .ok (.iconst 0, 1) := by decide +kernel
theorem d_X9_pact_61 : dec m_X9_pact 61 = .ok (.istore 5, 2) := by decide +kernel
theorem d_X9_pact_63 : dec m_X9_pact 63 = .ok (.iload 4, 2) := by decide +kernel
theorem d_X9_pact_65 : dec m_X9_pact 65 = .ok (.istore 6, 2) := by decide +kernel
theorem d_X9_pact_67 : dec m_X9_pact 67 = .ok (.iconst 1, 1) := by decide +kernel
theorem d_X9_pact_68 : dec m_X9_pact 68 = .ok (.istore 7, 2) := by decide +kernel
theorem d_X9_pact_70 : dec m_X9_pact 70 = .ok (.iload 7, 2) := by decide +kernel
theorem d_X9_pact_72 : dec m_X9_pact 72 = .ok (.bipush 100, 2) := by decide +kernel
theorem d_X9_pact_74 : dec m_X9_pact 74 = .ok (.if_icmp .gt 61, 3) := by decide +kernel
theorem d_X9_pact_77 : dec m_X9_pact 77 = .ok (.iload 7, 2) := by decide +kernel
theorem d_X9_pact_79 : dec m_X9_pact 79 = .ok (.ineg, 1) := by decide +kernel
theorem d_X9_pact_80 : dec m_X9_pact 80 = .ok (.istore 8, 2) := by decide +kernel
theorem d_X9_pact_82 : dec m_X9_pact 82 = .ok (.iload 8, 2) := by decide +kernel
theorem d_X9_pact_84 : dec m_X9_pact 84 = .ok (.iload 7, 2) := by decide +kernel
theorem d_X9_pact_86 : dec m_X9_pact 86 = .ok (.if_icmp .gt 43, 3) := by decide +kernel
theorem d_X9_pact_89 : dec m_X9_pact 89 = .ok (.aload_n 0, 1) := by decide +kernel
theorem d_X9_pact_90 : dec m_X9_pact 90 = .ok (.iload_n 1, 1) := by decide +kernel
theorem d_X9_pact_91 : dec m_X9_pact 91 = .ok (.iload_n 2, 1) := by decide +kernel
theorem d_X9_pact_92 : dec m_X9_pact 92 = .ok (.iload 8, 2) := by decide +kernel
theorem d_X9_pact_94 : dec m_X9_pact 94 = .ok (.invokevirtual 219, 3) := by decide +kernel
theorem d_X9_pact_97 : dec m_X9_pact 97 = .ok (.istore 9, 2) := by decide +kernel
theorem d_X9_pact_99 : dec m_X9_pact 99 = .ok (.iload 9, 2) := by decide +kernel
theorem d_X9_pact_101 : dec m_X9_pact 101 = .ok (.iload 6, 2) := by decide +kernel
theorem d_X9_pact_103 : dec m_X9_pact 103 = .ok (.if_icmp .gt 6, 3) := by decide +kernel
theorem d_X9_pact_106 : dec m_X9_pact 106 = .ok (.goto 11, 3) := by decide +kernel
theorem d_X9_pact_109 : dec m_X9_pact 109 = .ok (.iload 9, 2) := by decide +kernel
theorem d_X9_pact_111 : dec m_X9_pact 111 = .ok (.istore 6, 2) := by decide +kernel
theorem d_X9_pact_113 : dec m_X9_pact 113 = .ok (.iload 8, 2) := by decide +kernel
theorem d_X9_pact_115 : dec m_X9_pact 115 = .ok (.istore 5, 2) := by decide +kernel
theorem d_X9_pact_117 : dec m_X9_pact 117 = .ok (.iload 8, 2) := by decide +kernel
theorem d_X9_pact_119 : dec m_X9_pact 119 = .ok (.iconst 2, 1) := by decide +kernel
theorem d_X9_pact_120 : dec m_X9_pact 120 = .ok (.iload 7, 2) := by decide +kernel
theorem d_X9_pact_122 : dec m_X9_pact 122 = .ok (.imul, 1) := by decide +kernel
theorem d_X9_pact_123 : dec m_X9_pact 123 = .ok (.iadd, 1) := by decide +kernel
theorem d_X9_pact_124 : dec m_X9_pact 124 = .ok (.istore 8, 2) := by decide +kernel
theorem d_X9_pact_126 : dec m_X9_pact 126 = .ok (.goto (-44), 3) := by decide +kernel
theorem d_X9_pact_129 : dec m_X9_pact 129 = .ok (.iinc 7 1, 3) := by decide +kernel
theorem d_X9_pact_132 : dec m_X9_pact 132 = .ok (.goto (-62), 3) := by decide +kernel
theorem d_X9_pact_135 : dec m_X9_pact 135 = .ok (.iload_n 3, 1) := by decide +kernel
theorem d_X9_pact_136 : dec m_X9_pact 136 = .ok (.ifCond .ne 8, 3) := by decide +kernel
theorem d_X9_pact_139 : dec m_X9_pact 139 = .ok (.iload 6, 2) := by decide +kernel
theorem d_X9_pact_141 : dec m_X9_pact 141 = .ok (.goto 18, 3) := by decide +kernel
theorem d_X9_pact_144 : dec m_X9_pact 144 = .ok (.iload_n 3, 1) := by decide +kernel
theorem d_X9_pact_145 : dec m_X9_pact 145 = .ok (.iconst 1, 1) := by decide +kernel
theorem d_X9_pact_146 : dec m_X9_pact 146 = .ok (.if_icmp .ne 8, 3) := by decide +kernel
theorem d_X9_pact_149 : dec m_X9_pact 149 = .ok (.iload 5, 2) := by decide +kernel
theorem d_X9_pact_151 : dec m_X9_pact 151 = .ok (.goto 8, 3) := by decide +kernel
theorem d_X9_pact_154 : dec m_X9_pact 154 = .ok (.iload 6, 2) := by decide +kernel
theorem d_X9_pact_156 : dec m_X9_pact 156 = .ok (.iload 4, 2) := by decide +kernel
theorem d_X9_pact_158 : dec m_X9_pact 158 = .ok (.isub, 1) := by decide +kernel
theorem d_X9_pact_159 : dec m_X9_pact 159 = .ok (.ireturn, 1) := by decide +kernel
theorem d_X9_moved_0 : dec m_X9_moved 0 = .ok (.aload_n 0, 1) := by decide +kernel
theorem d_X9_moved_1 : dec m_X9_moved 1 = .ok (.iload_n 1, 1) := by decide +kernel
theorem d_X9_moved_2 : dec m_X9_moved 2 = .ok (.invokevirtual 189, 3) := by decide +kernel
theorem d_X9_moved_5 : dec m_X9_moved 5 = .ok (.ifCond .eq 13, 3) := by decide +kernel
theorem d_X9_moved_8 : dec m_X9_moved 8 = .ok (.iload_n 2, 1) := by decide +kernel
theorem d_X9_moved_9 : dec m_X9_moved 9 = .ok (.i2l, 1) := by decide +kernel
theorem d_X9_moved_10 : dec m_X9_moved 10 = .ok (.lconst 0, 1) := by decide +kernel
theorem d_X9_moved_11 : dec m_X9_moved 11 = .ok (.lconst 1, 1) := by decide +kernel
theorem d_X9_moved_12 : dec m_X9_moved 12 = .ok (.invokestatic 82, 3) := by decide +kernel
theorem d_X9_moved_15 : dec m_X9_moved 15 = .ok (.ifCond .ne 6, 3) := by decide +kernel
theorem d_X9_moved_18 : dec m_X9_moved 18 = .ok (.ldc 192, 2) := by decide +kernel
theorem d_X9_moved_20 : dec m_X9_moved 20 = .ok (.ireturn, 1) := by decide +kernel
theorem d_X9_moved_21 : dec m_X9_moved 21 = .ok (.aload_n 0, 1) := by decide +kernel
theorem d_X9_moved_22 : dec m_X9_moved 22 = .ok (.iload_n 1, 1) := by decide +kernel
theorem d_X9_moved_23 : dec m_X9_moved 23 = .ok (.iconst 1, 1) := by decide +kernel
theorem d_X9_moved_24 : dec m_X9_moved 24 = .ok (.invokevirtual 88, 3) := by decide +kernel
theorem d_X9_moved_27 : dec m_X9_moved 27 = .ok (.istore_n 3, 1) := by decide +kernel
theorem d_X9_moved_28 : dec m_X9_moved 28 = .ok (.iload_n 3, 1) := by decide +kernel
theorem d_X9_moved_29 : dec m_X9_moved 29 = .ok (.istore 4, 2) := by decide +kernel
theorem d_X9_moved_31 : dec m_X9_moved 31 = .ok (.aload_n 0, 1) := by decide +kernel
theorem d_X9_moved_32 : dec m_X9_moved 32 = .ok (.iload_n 1, 1) := by decide +kernel
theorem d_X9_moved_33 : dec m_X9_moved 33 = .ok (.invokevirtual 204, 3) := by decide +kernel
theorem d_X9_moved_36 : dec m_X9_moved 36 = .ok (.istore 5, 2) := by decide +kernel
theorem d_X9_moved_38 : dec m_X9_moved 38 = .ok (.iconst 0, 1) := by decide +kernel
theorem d_X9_moved_39 : dec m_X9_moved 39 = .ok (.istore 6, 2) := by decide +kernel
theorem d_X9_moved_41 : dec m_X9_moved 41 = .ok (.iload 6, 2) := by decide +kernel
theorem d_X9_moved_43 : dec m_X9_moved 43 = .ok (.iconst 4, 1) := by decide +kernel
theorem d_X9_moved_44 : dec m_X9_moved 44 = .ok (.if_icmp .ge 47, 3) := by decide +kernel
theorem d_X9_moved_47 : dec m_X9_moved 47 = .ok (.aload_n 0, 1) := by decide +kernel
theorem d_X9_moved_48 : dec m_X9_moved 48 = .ok (.getfield 7, 3) := by decide +kernel
theorem d_X9_moved_51 : dec m_X9_moved 51 = .ok (.bipush 9, 2) := by decide +kernel
theorem d_X9_moved_53 : dec m_X9_moved 53 = .ok (.iload_n 1, 1) := by decide +kernel
theorem d_X9_moved_54 : dec m_X9_moved 54 = .ok (.imul, 1) := by decide +kernel
theorem d_X9_moved_55 : dec m_X9_moved 55 = .ok (.iconst 1, 1) := by decide +kernel
theorem d_X9_moved_56 : dec m_X9_moved 56 = .ok (.iadd, 1) := by decide +kernel
theorem d_X9_moved_57 : dec m_X9_moved 57 = .ok (.iload 6, 2) := by decide +kernel
theorem d_X9_moved_59 : dec m_X9_moved 59 = .ok (.iastore, 1) := by decide +kernel
theorem d_X9_moved_60 : dec m_X9_moved 60 = .ok (.aload_n 0, 1) := by decide +kernel
theorem d_X9_moved_61 : dec m_X9_moved 61 = .ok (.iload_n 1, 1) := by decide +kernel
theorem d_X9_moved_62 : dec m_X9_moved 62 = .ok (.invokevirtual 204, 3) := by decide +kernel
theorem d_X9_moved_65 : dec m_X9_moved 65 = .ok (.istore 7, 2) := by decide +kernel
theorem d_X9_moved_67 : dec m_X9_moved 67 = .ok (.iload 7, 2) := by decide +kernel
theorem d_X9_moved_69 : dec m_X9_moved 69 = .ok (.iload 5, 2) := by decide +kernel
theorem d_X9_moved_71 : dec m_X9_moved 71 = .ok (.if_icmp .gt 6, 3) := by decide +kernel
theorem d_X9_moved_74 : dec m_X9_moved 74 = .ok (.goto 11, 3) := by decide +kernel
theorem d_X9_moved_77 : dec m_X9_moved 77 = .ok (.iload 7, 2) := by decide +kernel
theorem d_X9_moved_79 : dec m_X9_moved 79 = .ok (.istore 5, 2) := by decide +kernel
theorem d_X9_moved_81 : dec m_X9_moved 81 = .ok (.iload 6, 2) := by decide +kernel
theorem d_X9_moved_83 : dec m_X9_moved 83 = .ok (.istore 4, 2) := by decide +kernel
theorem d_X9_moved_85 : dec m_X9_moved 85 = .ok (.iinc 6 1, 3) := by decide +kernel
theorem d_X9_moved_88 : dec m_X9_moved 88 = .ok (.goto (-47), 3) := by decide +kernel
theorem d_X9_moved_91 : dec m_X9_moved 91 = .ok (.aload_n 0, 1) := by decide +kernel
theorem d_X9_moved_92 : dec m_X9_moved 92 = .ok (.getfield 7, 3) := by decide +kernel
theorem d_X9_moved_95 : dec m_X9_moved 95 = .ok (.bipush 9, 2) := by decide +kernel
theorem d_X9_moved_97 : dec m_X9_moved 97 = .ok (.iload_n 1, 1) := by decide +kernel
theorem d_X9_moved_98 : dec m_X9_moved 98 = .ok (.imul, 1) := by decide +kernel
theorem d_X9_moved_99 : dec m_X9_moved 99 = .ok (.iconst 1, 1) := by decide +kernel
theorem d_X9_moved_100 : dec m_X9_moved 100 = .ok (.iadd, 1) := by decide +kernel
theorem d_X9_moved_101 : dec m_X9_moved 101 = .ok (.iload_n 3, 1) := by decide +kernel
theorem d_X9_moved_102 : dec m_X9_moved 102 = .ok (.iastore, 1) := by decide +kernel
theorem d_X9_moved_103 : dec m_X9_moved 103 = .ok (.iload_n 2, 1) := by decide +kernel
theorem d_X9_moved_104 : dec m_X9_moved 104 = .ok (.ifCond .ne 8, 3) := by decide +kernel
theorem d_X9_moved_107 : dec m_X9_moved 107 = .ok (.iload 4, 2) := by decide +kernel
theorem d_X9_moved_109 : dec m_X9_moved 109 = .ok (.goto 5, 3) := by decide +kernel
theorem d_X9_moved_112 : dec m_X9_moved 112 = .ok (.iload 5, 2) := by decide +kernel
theorem d_X9_moved_114 : dec m_X9_moved 114 = .ok (.ireturn, 1) := by decide +kernel
theorem d_X9_laysRanks_0 : dec m_X9_laysRanks 0 = .ok (.aload_n 0, 1) := by decide +kernel
theorem d_X9_laysRanks_1 : dec m_X9_laysRanks 1 = .ok (.iconst 0, 1) := by decide +kernel
theorem d_X9_laysRanks_2 : dec m_X9_laysRanks 2 = .ok (.putfield 223, 3) := by decide +kernel
theorem d_X9_laysRanks_5 : dec m_X9_laysRanks 5 = .ok (.iconst 0, 1) := by decide +kernel
theorem d_X9_laysRanks_6 : dec m_X9_laysRanks 6 = .ok (.istore_n 2, 1) := by decide +kernel
theorem d_X9_laysRanks_7 : dec m_X9_laysRanks 7 = .ok (.iload_n 2, 1) := by decide +kernel
theorem d_X9_laysRanks_8 : dec m_X9_laysRanks 8 = .ok (.aload_n 0, 1) := by decide +kernel
theorem d_X9_laysRanks_9 : dec m_X9_laysRanks 9 = .ok (.invokevirtual 78, 3) := by decide +kernel
theorem d_X9_laysRanks_12 : dec m_X9_laysRanks 12 = .ok (.if_icmp .ge 116, 3) := by decide +kernel
theorem d_X9_laysRanks_15 : dec m_X9_laysRanks 15 = .ok (.aload_n 0, 1) := by decide +kernel
theorem d_X9_laysRanks_16 : dec m_X9_laysRanks 16 = .ok (.iload_n 2, 1) := by decide +kernel
theorem d_X9_laysRanks_17 : dec m_X9_laysRanks 17 = .ok (.iconst 1, 1) := by decide +kernel
theorem d_X9_laysRanks_18 : dec m_X9_laysRanks 18 = .ok (.invokevirtual 88, 3) := by decide +kernel
theorem d_X9_laysRanks_21 : dec m_X9_laysRanks 21 = .ok (.iload_n 1, 1) := by decide +kernel
theorem d_X9_laysRanks_22 : dec m_X9_laysRanks 22 = .ok (.if_icmp .eq 6, 3) := by decide +kernel
theorem d_X9_laysRanks_25 : dec m_X9_laysRanks 25 = .ok (.goto 97, 3) := by decide +kernel
theorem d_X9_laysRanks_28 : dec m_X9_laysRanks 28 = .ok (.aload_n 0, 1) := by decide +kernel
theorem d_X9_laysRanks_29 : dec m_X9_laysRanks 29 = .ok (.iload_n 2, 1) := by decide +kernel
theorem d_X9_laysRanks_30 : dec m_X9_laysRanks 30 = .ok (.invokevirtual 204, 3) := by decide +kernel
theorem d_X9_laysRanks_33 : dec m_X9_laysRanks 33 = .ok (.istore_n 3, 1) := by decide +kernel
theorem d_X9_laysRanks_34 : dec m_X9_laysRanks 34 = .ok (.aload_n 0, 1) := by decide +kernel
theorem d_X9_laysRanks_35 : dec m_X9_laysRanks 35 = .ok (.getfield 223, 3) := by decide +kernel
theorem d_X9_laysRanks_38 : dec m_X9_laysRanks 38 = .ok (.istore 4, 2) := by decide +kernel
theorem d_X9_laysRanks_40 : dec m_X9_laysRanks 40 = .ok (.iload 4, 2) := by decide +kernel
theorem d_X9_laysRanks_42 : dec m_X9_laysRanks 42 = .ok (.ifCond .le 54, 3) := by decide +kernel
theorem d_X9_laysRanks_45 : dec m_X9_laysRanks 45 = .ok (.aload_n 0, 1) := by decide +kernel
theorem d_X9_laysRanks_46 : dec m_X9_laysRanks 46 = .ok (.getfield 44, 3) := by decide +kernel
theorem d_X9_laysRanks_49 : dec m_X9_laysRanks 49 = .ok (.iload 4, 2) := by decide +kernel
theorem d_X9_laysRanks_51 : dec m_X9_laysRanks 51 = .ok (.iconst 1, 1) := by decide +kernel
theorem d_X9_laysRanks_52 : dec m_X9_laysRanks 52 = .ok (.isub, 1) := by decide +kernel
theorem d_X9_laysRanks_53 : dec m_X9_laysRanks 53 = .ok (.iaload, 1) := by decide +kernel
theorem d_X9_laysRanks_54 : dec m_X9_laysRanks 54 = .ok (.iload_n 3, 1) := by decide +kernel
theorem d_X9_laysRanks_55 : dec m_X9_laysRanks 55 = .ok (.if_icmp .ge 41, 3) := by decide +kernel
theorem d_X9_laysRanks_58 : dec m_X9_laysRanks 58 = .ok (.aload_n 0, 1) := by decide +kernel
theorem d_X9_laysRanks_59 : dec m_X9_laysRanks 59 = .ok (.getfield 44, 3) := by decide +kernel
theorem d_X9_laysRanks_62 : dec m_X9_laysRanks 62 = .ok (.iload 4, 2) := by decide +kernel
theorem d_X9_laysRanks_64 : dec m_X9_laysRanks 64 = .ok (.aload_n 0, 1) := by decide +kernel
theorem d_X9_laysRanks_65 : dec m_X9_laysRanks 65 = .ok (.getfield 44, 3) := by decide +kernel
theorem d_X9_laysRanks_68 : dec m_X9_laysRanks 68 = .ok (.iload 4, 2) := by decide +kernel
theorem d_X9_laysRanks_70 : dec m_X9_laysRanks 70 = .ok (.iconst 1, 1) := by decide +kernel
theorem d_X9_laysRanks_71 : dec m_X9_laysRanks 71 = .ok (.isub, 1) := by decide +kernel
theorem d_X9_laysRanks_72 : dec m_X9_laysRanks 72 = .ok (.iaload, 1) := by decide +kernel
theorem d_X9_laysRanks_73 : dec m_X9_laysRanks 73 = .ok (.iastore, 1) := by decide +kernel
theorem d_X9_laysRanks_74 : dec m_X9_laysRanks 74 = .ok (.aload_n 0, 1) := by decide +kernel
theorem d_X9_laysRanks_75 : dec m_X9_laysRanks 75 = .ok (.getfield 41, 3) := by decide +kernel
theorem d_X9_laysRanks_78 : dec m_X9_laysRanks 78 = .ok (.iload 4, 2) := by decide +kernel
theorem d_X9_laysRanks_80 : dec m_X9_laysRanks 80 = .ok (.aload_n 0, 1) := by decide +kernel
theorem d_X9_laysRanks_81 : dec m_X9_laysRanks 81 = .ok (.getfield 41, 3) := by decide +kernel
theorem d_X9_laysRanks_84 : dec m_X9_laysRanks 84 = .ok (.iload 4, 2) := by decide +kernel
theorem d_X9_laysRanks_86 : dec m_X9_laysRanks 86 = .ok (.iconst 1, 1) := by decide +kernel
theorem d_X9_laysRanks_87 : dec m_X9_laysRanks 87 = .ok (.isub, 1) := by decide +kernel
theorem d_X9_laysRanks_88 : dec m_X9_laysRanks 88 = .ok (.iaload, 1) := by decide +kernel
theorem d_X9_laysRanks_89 : dec m_X9_laysRanks 89 = .ok (.iastore, 1) := by decide +kernel
theorem d_X9_laysRanks_90 : dec m_X9_laysRanks 90 = .ok (.iinc 4 (-1), 3) := by decide +kernel
theorem d_X9_laysRanks_93 : dec m_X9_laysRanks 93 = .ok (.goto (-53), 3) := by decide +kernel
theorem d_X9_laysRanks_96 : dec m_X9_laysRanks 96 = .ok (.aload_n 0, 1) := by decide +kernel
theorem d_X9_laysRanks_97 : dec m_X9_laysRanks 97 = .ok (.getfield 44, 3) := by decide +kernel
theorem d_X9_laysRanks_100 : dec m_X9_laysRanks 100 = .ok (.iload 4, 2) := by decide +kernel
theorem d_X9_laysRanks_102 : dec m_X9_laysRanks 102 = .ok (.iload_n 3, 1) := by decide +kernel
theorem d_X9_laysRanks_103 : dec m_X9_laysRanks 103 = .ok (.iastore, 1) := by decide +kernel
theorem d_X9_laysRanks_104 : dec m_X9_laysRanks 104 = .ok (.aload_n 0, 1) := by decide +kernel
theorem d_X9_laysRanks_105 : dec m_X9_laysRanks 105 = .ok (.getfield 41, 3) := by decide +kernel
theorem d_X9_laysRanks_108 : dec m_X9_laysRanks 108 = .ok (.iload 4, 2) := by decide +kernel
theorem d_X9_laysRanks_110 : dec m_X9_laysRanks 110 = .ok (.iload_n 2, 1) := by decide +kernel
theorem d_X9_laysRanks_111 : dec m_X9_laysRanks 111 = .ok (.iastore, 1) := by decide +kernel
theorem d_X9_laysRanks_112 : dec m_X9_laysRanks 112 = .ok (.aload_n 0, 1) := by decide +kernel
theorem d_X9_laysRanks_113 : dec m_X9_laysRanks 113 = .ok (.dup, 1) := by decide +kernel
theorem d_X9_laysRanks_114 : dec m_X9_laysRanks 114 = .ok (.getfield 223, 3) := by decide +kernel
theorem d_X9_laysRanks_117 : dec m_X9_laysRanks 117 = .ok (.iconst 1, 1) := by decide +kernel
theorem d_X9_laysRanks_118 : dec m_X9_laysRanks 118 = .ok (.iadd, 1) := by decide +kernel
theorem d_X9_laysRanks_119 : dec m_X9_laysRanks 119 = .ok (.putfield 223, 3) := by decide +kernel
theorem d_X9_laysRanks_122 : dec m_X9_laysRanks 122 = .ok (.iinc 2 1, 3) := by decide +kernel
theorem d_X9_laysRanks_125 : dec m_X9_laysRanks 125 = .ok (.goto (-118), 3) := by decide +kernel
theorem d_X9_laysRanks_128 : dec m_X9_laysRanks 128 = .ok (.return_, 1) := by decide +kernel
theorem d_X9_ranked_0 : dec m_X9_ranked 0 = .ok (.iload_n 1, 1) := by decide +kernel
theorem d_X9_ranked_1 : dec m_X9_ranked 1 = .ok (.invokestatic 195, 3) := by decide +kernel
theorem d_X9_ranked_4 : dec m_X9_ranked 4 = .ok (.ifCond .eq 8, 3) := by decide +kernel
theorem d_X9_ranked_7 : dec m_X9_ranked 7 = .ok (.iload_n 2, 1) := by decide +kernel
theorem d_X9_ranked_8 : dec m_X9_ranked 8 = .ok (.iconst (-1), 1) := by decide +kernel
theorem d_X9_ranked_9 : dec m_X9_ranked 9 = .ok (.if_icmp .ge 5, 3) := by decide +kernel
theorem d_X9_ranked_12 : dec m_X9_ranked 12 = .ok (.iconst (-1), 1) := by decide +kernel
theorem d_X9_ranked_13 : dec m_X9_ranked 13 = .ok (.ireturn, 1) := by decide +kernel
theorem d_X9_ranked_14 : dec m_X9_ranked 14 = .ok (.aload_n 0, 1) := by decide +kernel
theorem d_X9_ranked_15 : dec m_X9_ranked 15 = .ok (.iload_n 1, 1) := by decide +kernel
theorem d_X9_ranked_16 : dec m_X9_ranked 16 = .ok (.invokevirtual 226, 3) := by decide +kernel
theorem d_X9_ranked_19 : dec m_X9_ranked 19 = .ok (.iload_n 2, 1) := by decide +kernel
theorem d_X9_ranked_20 : dec m_X9_ranked 20 = .ok (.iconst (-1), 1) := by decide +kernel
theorem d_X9_ranked_21 : dec m_X9_ranked 21 = .ok (.if_icmp .ne 10, 3) := by decide +kernel
theorem d_X9_ranked_24 : dec m_X9_ranked 24 = .ok (.aload_n 0, 1) := by decide +kernel
theorem d_X9_ranked_25 : dec m_X9_ranked 25 = .ok (.getfield 223, 3) := by decide +kernel
theorem d_X9_ranked_28 : dec m_X9_ranked 28 = .ok (.goto 22, 3) := by decide +kernel
theorem d_X9_ranked_31 : dec m_X9_ranked 31 = .ok (.iload_n 2, 1) := by decide +kernel
theorem d_X9_ranked_32 : dec m_X9_ranked 32 = .ok (.aload_n 0, 1) := by decide +kernel
theorem d_X9_ranked_33 : dec m_X9_ranked 33 = .ok (.getfield 223, 3) := by decide +kernel
theorem d_X9_ranked_36 : dec m_X9_ranked 36 = .ok (.if_icmp .ge 12, 3) := by decide +kernel
theorem d_X9_ranked_39 : dec m_X9_ranked 39 = .ok (.aload_n 0, 1) := by decide +kernel
theorem d_X9_ranked_40 : dec m_X9_ranked 40 = .ok (.getfield 41, 3) := by decide +kernel
theorem d_X9_ranked_43 : dec m_X9_ranked 43 = .ok (.iload_n 2, 1) := by decide +kernel
theorem d_X9_ranked_44 : dec m_X9_ranked 44 = .ok (.iaload, 1) := by decide +kernel
theorem d_X9_ranked_45 : dec m_X9_ranked 45 = .ok (.goto 5, 3) := by decide +kernel
theorem d_X9_ranked_48 : dec m_X9_ranked 48 = .ok (.bipush (-2), 2) := by decide +kernel
theorem d_X9_ranked_50 : dec m_X9_ranked 50 = .ok (.ireturn, 1) := by decide +kernel
theorem d_X9_skim_0 : dec m_X9_skim 0 = .ok (.iload_n 1, 1) := by decide +kernel
theorem d_X9_skim_1 : dec m_X9_skim 1 = .ok (.invokestatic 195, 3) := by decide +kernel
theorem d_X9_skim_4 : dec m_X9_skim 4 = .ok (.ifCond .eq 25, 3) := by decide +kernel
theorem d_X9_skim_7 : dec m_X9_skim 7 = .ok (.iload_n 2, 1) := by decide +kernel
theorem d_X9_skim_8 : dec m_X9_skim 8 = .ok (.i2l, 1) := by decide +kernel
theorem d_X9_skim_9 : dec m_X9_skim 9 = .ok (.lconst 0, 1) := by decide +kernel
theorem d_X9_skim_10 : dec m_X9_skim 10 = .ok (.ldc2_w 229, 3) := by decide +kernel
theorem d_X9_skim_13 : dec m_X9_skim 13 = .ok (.invokestatic 82, 3) := by decide +kernel
theorem d_X9_skim_16 : dec m_X9_skim 16 = .ok (.ifCond .eq 13, 3) := by decide +kernel
theorem d_X9_skim_19 : dec m_X9_skim 19 = .ok (.iload_n 3, 1) := by decide +kernel
theorem d_X9_skim_20 : dec m_X9_skim 20 = .ok (.i2l, 1) := by decide +kernel
theorem d_X9_skim_21 : dec m_X9_skim 21 = .ok (.lconst 0, 1) := by decide +kernel
theorem d_X9_skim_22 : dec m_X9_skim 22 = .ok (.lconst 1, 1) := by decide +kernel
theorem d_X9_skim_23 : dec m_X9_skim 23 = .ok (.invokestatic 82, 3) := by decide +kernel
theorem d_X9_skim_26 : dec m_X9_skim 26 = .ok (.ifCond .ne 5, 3) := by decide +kernel
theorem d_X9_skim_29 : dec m_X9_skim 29 = .ok (.iconst (-1), 1) := by decide +kernel
theorem d_X9_skim_30 : dec m_X9_skim 30 = .ok (.ireturn, 1) := by decide +kernel
theorem d_X9_skim_31 : dec m_X9_skim 31 = .ok (.aload_n 0, 1) := by decide +kernel
theorem d_X9_skim_32 : dec m_X9_skim 32 = .ok (.iload_n 1, 1) := by decide +kernel
theorem d_X9_skim_33 : dec m_X9_skim 33 = .ok (.invokevirtual 226, 3) := by decide +kernel
theorem d_X9_skim_36 : dec m_X9_skim 36 = .ok (.iconst 0, 1) := by decide +kernel
theorem d_X9_skim_37 : dec m_X9_skim 37 = .ok (.istore 4, 2) := by decide +kernel
theorem d_X9_skim_39 : dec m_X9_skim 39 = .ok (.iload 4, 2) := by decide +kernel
theorem d_X9_skim_41 : dec m_X9_skim 41 = .ok (.iload_n 2, 1) := by decide +kernel
theorem d_X9_skim_42 : dec m_X9_skim 42 = .ok (.if_icmp .ge 36, 3) := by decide +kernel
theorem d_X9_skim_45 : dec m_X9_skim 45 = .ok (.iload 4, 2) := by decide +kernel
theorem d_X9_skim_47 : dec m_X9_skim 47 = .ok (.aload_n 0, 1) := by decide +kernel
theorem d_X9_skim_48 : dec m_X9_skim 48 = .ok (.getfield 223, 3) := by decide +kernel
theorem d_X9_skim_51 : dec m_X9_skim 51 = .ok (.if_icmp .ge 27, 3) := by decide +kernel
theorem d_X9_skim_54 : dec m_X9_skim 54 = .ok (.aload_n 0, 1) := by decide +kernel
theorem d_X9_skim_55 : dec m_X9_skim 55 = .ok (.dup, 1) := by decide +kernel
theorem d_X9_skim_56 : dec m_X9_skim 56 = .ok (.getfield 107, 3) := by decide +kernel
theorem d_X9_skim_59 : dec m_X9_skim 59 = .ok (.iconst 1, 1) := by decide +kernel
theorem d_X9_skim_60 : dec m_X9_skim 60 = .ok (.aload_n 0, 1) := by decide +kernel
theorem d_X9_skim_61 : dec m_X9_skim 61 = .ok (.getfield 41, 3) := by decide +kernel
theorem d_X9_skim_64 : dec m_X9_skim 64 = .ok (.iload 4, 2) := by decide +kernel
theorem d_X9_skim_66 : dec m_X9_skim 66 = .ok (.iaload, 1) := by decide +kernel
theorem d_X9_skim_67 : dec m_X9_skim 67 = .ok (.ishl, 1) := by decide +kernel
theorem d_X9_skim_68 : dec m_X9_skim 68 = .ok (.ior, 1) := by decide +kernel
theorem d_X9_skim_69 : dec m_X9_skim 69 = .ok (.putfield 107, 3) := by decide +kernel
theorem d_X9_skim_72 : dec m_X9_skim 72 = .ok (.iinc 4 1, 3) := by decide +kernel
theorem d_X9_skim_75 : dec m_X9_skim 75 = .ok (.goto (-36), 3) := by decide +kernel
theorem d_X9_skim_78 : dec m_X9_skim 78 = .ok (.aload_n 0, 1) := by decide +kernel
theorem d_X9_skim_79 : dec m_X9_skim 79 = .ok (.iconst 1, 1) := by decide +kernel
theorem d_X9_skim_80 : dec m_X9_skim 80 = .ok (.iload_n 1, 1) := by decide +kernel
theorem d_X9_skim_81 : dec m_X9_skim 81 = .ok (.ishl, 1) := by decide +kernel
theorem d_X9_skim_82 : dec m_X9_skim 82 = .ok (.invokevirtual 139, 3) := by decide +kernel
theorem d_X9_skim_85 : dec m_X9_skim 85 = .ok (.aload_n 0, 1) := by decide +kernel
theorem d_X9_skim_86 : dec m_X9_skim 86 = .ok (.iconst 0, 1) := by decide +kernel
theorem d_X9_skim_87 : dec m_X9_skim 87 = .ok (.putfield 107, 3) := by decide +kernel
theorem d_X9_skim_90 : dec m_X9_skim 90 = .ok (.iload_n 3, 1) := by decide +kernel
theorem d_X9_skim_91 : dec m_X9_skim 91 = .ok (.ifCond .ne 10, 3) := by decide +kernel
theorem d_X9_skim_94 : dec m_X9_skim 94 = .ok (.aload_n 0, 1) := by decide +kernel
theorem d_X9_skim_95 : dec m_X9_skim 95 = .ok (.getfield 133, 3) := by decide +kernel
theorem d_X9_skim_98 : dec m_X9_skim 98 = .ok (.goto 7, 3) := by decide +kernel
theorem d_X9_skim_101 : dec m_X9_skim 101 = .ok (.aload_n 0, 1) := by decide +kernel
theorem d_X9_skim_102 : dec m_X9_skim 102 = .ok (.getfield 136, 3) := by decide +kernel
theorem d_X9_skim_105 : dec m_X9_skim 105 = .ok (.ireturn, 1) := by decide +kernel
theorem d_X9_wantedAt_0 : dec m_X9_wantedAt 0 = .ok (.iconst 0, 1) := by decide +kernel
theorem d_X9_wantedAt_1 : dec m_X9_wantedAt 1 = .ok (.istore_n 2, 1) := by decide +kernel
theorem d_X9_wantedAt_2 : dec m_X9_wantedAt 2 = .ok (.iload_n 2, 1) := by decide +kernel
theorem d_X9_wantedAt_3 : dec m_X9_wantedAt 3 = .ok (.aload_n 0, 1) := by decide +kernel
theorem d_X9_wantedAt_4 : dec m_X9_wantedAt 4 = .ok (.getfield 113, 3) := by decide +kernel
theorem d_X9_wantedAt_7 : dec m_X9_wantedAt 7 = .ok (.if_icmp .ge 19, 3) := by decide +kernel
theorem d_X9_wantedAt_10 : dec m_X9_wantedAt 10 = .ok (.aload_n 0, 1) := by decide +kernel
theorem d_X9_wantedAt_11 : dec m_X9_wantedAt 11 = .ok (.getfield 29, 3) := by decide +kernel
theorem d_X9_wantedAt_14 : dec m_X9_wantedAt 14 = .ok (.iload_n 2, 1) := by decide +kernel
theorem d_X9_wantedAt_15 : dec m_X9_wantedAt 15 = .ok (.iaload, 1) := by decide +kernel
theorem d_X9_wantedAt_16 : dec m_X9_wantedAt 16 = .ok (.iload_n 1, 1) := by decide +kernel
theorem d_X9_wantedAt_17 : dec m_X9_wantedAt 17 = .ok (.if_icmp .lt 9, 3) := by decide +kernel
theorem d_X9_wantedAt_20 : dec m_X9_wantedAt 20 = .ok (.iinc 2 1, 3) := by decide +kernel
theorem d_X9_wantedAt_23 : dec m_X9_wantedAt 23 = .ok (.goto (-21), 3) := by decide +kernel
theorem d_X9_wantedAt_26 : dec m_X9_wantedAt 26 = .ok (.iload_n 2, 1) := by decide +kernel
theorem d_X9_wantedAt_27 : dec m_X9_wantedAt 27 = .ok (.ireturn, 1) := by decide +kernel
theorem d_X9_hadAt_0 : dec m_X9_hadAt 0 = .ok (.iconst 0, 1) := by decide +kernel
theorem d_X9_hadAt_1 : dec m_X9_hadAt 1 = .ok (.istore_n 2, 1) := by decide +kernel
theorem d_X9_hadAt_2 : dec m_X9_hadAt 2 = .ok (.iload_n 2, 1) := by decide +kernel
theorem d_X9_hadAt_3 : dec m_X9_hadAt 3 = .ok (.aload_n 0, 1) := by decide +kernel
theorem d_X9_hadAt_4 : dec m_X9_hadAt 4 = .ok (.getfield 116, 3) := by decide +kernel
theorem d_X9_hadAt_7 : dec m_X9_hadAt 7 = .ok (.if_icmp .ge 19, 3) := by decide +kernel
theorem d_X9_hadAt_10 : dec m_X9_hadAt 10 = .ok (.aload_n 0, 1) := by decide +kernel
theorem d_X9_hadAt_11 : dec m_X9_hadAt 11 = .ok (.getfield 38, 3) := by decide +kernel
theorem d_X9_hadAt_14 : dec m_X9_hadAt 14 = .ok (.iload_n 2, 1) := by decide +kernel
theorem d_X9_hadAt_15 : dec m_X9_hadAt 15 = .ok (.iaload, 1) := by decide +kernel
theorem d_X9_hadAt_16 : dec m_X9_hadAt 16 = .ok (.iload_n 1, 1) := by decide +kernel
theorem d_X9_hadAt_17 : dec m_X9_hadAt 17 = .ok (.if_icmp .gt 9, 3) := by decide +kernel
theorem d_X9_hadAt_20 : dec m_X9_hadAt 20 = .ok (.iinc 2 1, 3) := by decide +kernel
theorem d_X9_hadAt_23 : dec m_X9_hadAt 23 = .ok (.goto (-21), 3) := by decide +kernel
theorem d_X9_hadAt_26 : dec m_X9_hadAt 26 = .ok (.iload_n 2, 1) := by decide +kernel
theorem d_X9_hadAt_27 : dec m_X9_hadAt 27 = .ok (.ireturn, 1) := by decide +kernel
theorem d_X9_livelyAt_0 : dec m_X9_livelyAt 0 = .ok (.aload_n 0, 1) := by decide +kernel
theorem d_X9_livelyAt_1 : dec m_X9_livelyAt 1 = .ok (.iload_n 1, 1) := by decide +kernel
theorem d_X9_livelyAt_2 : dec m_X9_livelyAt 2 = .ok (.invokevirtual 231, 3) := by decide +kernel
theorem d_X9_livelyAt_5 : dec m_X9_livelyAt 5 = .ok (.istore_n 2, 1) := by decide +kernel
theorem d_X9_livelyAt_6 : dec m_X9_livelyAt 6 = .ok (.aload_n 0, 1) := by decide +kernel
theorem d_X9_livelyAt_7 : dec m_X9_livelyAt 7 = .ok (.iload_n 1, 1) := by decide +kernel
theorem d_X9_livelyAt_8 : dec m_X9_livelyAt 8 = .ok (.invokevirtual 234, 3) := by decide +kernel
theorem d_X9_livelyAt_11 : dec m_X9_livelyAt 11 = .ok (.istore_n 3, 1) := by decide +kernel
theorem d_X9_livelyAt_12 : dec m_X9_livelyAt 12 = .ok (.iload_n 2, 1) := by decide +kernel
theorem d_X9_livelyAt_13 : dec m_X9_livelyAt 13 = .ok (.iload_n 3, 1) := by decide +kernel
theorem d_X9_livelyAt_14 : dec m_X9_livelyAt 14 = .ok (.if_icmp .ge 7, 3) := by decide +kernel
theorem d_X9_livelyAt_17 : dec m_X9_livelyAt 17 = .ok (.iload_n 2, 1) := by decide +kernel
theorem d_X9_livelyAt_18 : dec m_X9_livelyAt 18 = .ok (.goto 4, 3) := by decide +kernel
theorem d_X9_livelyAt_21 : dec m_X9_livelyAt 21 = .ok (.iload_n 3, 1) := by decide +kernel
theorem d_X9_livelyAt_22 : dec m_X9_livelyAt 22 = .ok (.ireturn, 1) := by decide +kernel
theorem d_X9_demand_0 : dec m_X9_demand 0 = .ok (.iload_n 1, 1) := by decide +kernel
theorem d_X9_demand_1 : dec m_X9_demand 1 = .ok (.invokestatic 195, 3) := by decide +kernel
theorem d_X9_demand_4 : dec m_X9_demand 4 = .ok (.ifCond .eq 27, 3) := by decide +kernel
theorem d_X9_demand_7 : dec m_X9_demand 7 = .ok (.iload_n 2, 1) := by decide +kernel
theorem d_X9_demand_8 : dec m_X9_demand 8 = .ok (.i2l, 1) := by decide +kernel
theorem d_X9_demand_9 : dec m_X9_demand 9 = .ok (.lconst 0, 1) := by decide +kernel
theorem d_X9_demand_10 : dec m_X9_demand 10 = .ok (.ldc2_w 237, 3) := by decide +kernel
theorem d_X9_demand_13 : dec m_X9_demand 13 = .ok (.invokestatic 82, 3) := by decide +kernel
theorem d_X9_demand_16 : dec m_X9_demand 16 = .ok (.ifCond .eq 15, 3) := by decide +kernel
theorem d_X9_demand_19 : dec m_X9_demand 19 = .ok (.iload_n 3, 1) := by decide +kernel
theorem d_X9_demand_20 : dec m_X9_demand 20 = .ok (.i2l, 1) := by decide +kernel
theorem d_X9_demand_21 : dec m_X9_demand 21 = .ok (.lconst 0, 1) := by decide +kernel
theorem d_X9_demand_22 : dec m_X9_demand 22 = .ok (.ldc2_w 217, 3) := by decide +kernel
theorem d_X9_demand_25 : dec m_X9_demand 25 = .ok (.invokestatic 82, 3) := by decide +kernel
theorem d_X9_demand_28 : dec m_X9_demand 28 = .ok (.ifCond .ne 5, 3) := by decide +kernel
theorem d_X9_demand_31 : dec m_X9_demand 31 = .ok (.iconst (-1), 1) := by decide +kernel
theorem d_X9_demand_32 : dec m_X9_demand 32 = .ok (.ireturn, 1) := by decide +kernel
theorem d_X9_demand_33 : dec m_X9_demand 33 = .ok (.aload_n 0, 1) := by decide +kernel
theorem d_X9_demand_34 : dec m_X9_demand 34 = .ok (.iconst 1, 1) := by decide +kernel
theorem d_X9_demand_35 : dec m_X9_demand 35 = .ok (.iload_n 1, 1) := by decide +kernel
theorem d_X9_demand_36 : dec m_X9_demand 36 = .ok (.ishl, 1) := by decide +kernel
theorem d_X9_demand_37 : dec m_X9_demand 37 = .ok (.invokevirtual 139, 3) := by decide +kernel
theorem d_X9_demand_40 : dec m_X9_demand 40 = .ok (.iload_n 3, 1) := by decide +kernel
theorem d_X9_demand_41 : dec m_X9_demand 41 = .ok (.ifCond .ne 11, 3) := by decide +kernel
theorem d_X9_demand_44 : dec m_X9_demand 44 = .ok (.aload_n 0, 1) := by decide +kernel
theorem d_X9_demand_45 : dec m_X9_demand 45 = .ok (.iload_n 2, 1) := by decide +kernel
theorem d_X9_demand_46 : dec m_X9_demand 46 = .ok (.invokevirtual 231, 3) := by decide +kernel
theorem d_X9_demand_49 : dec m_X9_demand 49 = .ok (.goto 21, 3) := by decide +kernel
theorem d_X9_demand_52 : dec m_X9_demand 52 = .ok (.iload_n 3, 1) := by decide +kernel
theorem d_X9_demand_53 : dec m_X9_demand 53 = .ok (.iconst 1, 1) := by decide +kernel
theorem d_X9_demand_54 : dec m_X9_demand 54 = .ok (.if_icmp .ne 11, 3) := by decide +kernel
theorem d_X9_demand_57 : dec m_X9_demand 57 = .ok (.aload_n 0, 1) := by decide +kernel
theorem d_X9_demand_58 : dec m_X9_demand 58 = .ok (.iload_n 2, 1) := by decide +kernel
theorem d_X9_demand_59 : dec m_X9_demand 59 = .ok (.invokevirtual 234, 3) := by decide +kernel
theorem d_X9_demand_62 : dec m_X9_demand 62 = .ok (.goto 8, 3) := by decide +kernel
theorem d_X9_demand_65 : dec m_X9_demand 65 = .ok (.aload_n 0, 1) := by decide +kernel
theorem d_X9_demand_66 : dec m_X9_demand 66 = .ok (.iload_n 2, 1) := by decide +kernel
theorem d_X9_demand_67 : dec m_X9_demand 67 = .ok (.invokevirtual 239, 3) := by decide +kernel
theorem d_X9_demand_70 : dec m_X9_demand 70 = .ok (.ireturn, 1) := by decide +kernel
theorem d_X9_lively_0 : dec m_X9_lively 0 = .ok (.iload_n 1, 1) := by decide +kernel
theorem d_X9_lively_1 : dec m_X9_lively 1 = .ok (.invokestatic 195, 3) := by decide +kernel
theorem d_X9_lively_4 : dec m_X9_lively 4 = .ok (.ifCond .eq 15, 3) := by decide +kernel
theorem d_X9_lively_7 : dec m_X9_lively 7 = .ok (.iload_n 2, 1) := by decide +kernel
theorem d_X9_lively_8 : dec m_X9_lively 8 = .ok (.i2l, 1) := by decide +kernel
theorem d_X9_lively_9 : dec m_X9_lively 9 = .ok (.lconst 0, 1) := by decide +kernel
theorem d_X9_lively_10 : dec m_X9_lively 10 = .ok (.ldc2_w 217, 3) := by decide +kernel
theorem d_X9_lively_13 : dec m_X9_lively 13 = .ok (.invokestatic 82, 3) := by decide +kernel
theorem d_X9_lively_16 : dec m_X9_lively 16 = .ok (.ifCond .ne 5, 3) := by decide +kernel
theorem d_X9_lively_19 : dec m_X9_lively 19 = .ok (.iconst (-1), 1) := by decide +kernel
theorem d_X9_lively_20 : dec m_X9_lively 20 = .ok (.ireturn, 1) := by decide +kernel
theorem d_X9_lively_21 : dec m_X9_lively 21 = .ok (.aload_n 0, 1) := by decide +kernel
theorem d_X9_lively_22 : dec m_X9_lively 22 = .ok (.iconst 1, 1) := by decide +kernel
theorem d_X9_lively_23 : dec m_X9_lively 23 = .ok (.iload_n 1, 1) := by decide +kernel
theorem d_X9_lively_24 : dec m_X9_lively 24 = .ok (.ishl, 1) := by decide +kernel
theorem d_X9_lively_25 : dec m_X9_lively 25 = .ok (.invokevirtual 139, 3) := by decide +kernel
theorem d_X9_lively_28 : dec m_X9_lively 28 = .ok (.iconst (-1), 1) := by decide +kernel
theorem d_X9_lively_29 : dec m_X9_lively 29 = .ok (.istore_n 3, 1) := by decide +kernel
theorem d_X9_lively_30 : dec m_X9_lively 30 = .ok (.iconst 0, 1) := by decide +kernel
theorem d_X9_lively_31 : dec m_X9_lively 31 = .ok (.istore 4, 2) := by decide +kernel
theorem d_X9_lively_33 : dec m_X9_lively 33 = .ok (.iconst 0, 1) := by decide +kernel
theorem d_X9_lively_34 : dec m_X9_lively 34 = .ok (.istore 5, 2) := by decide +kernel
theorem d_X9_lively_36 : dec m_X9_lively 36 = .ok (.iconst 0, 1) := by decide +kernel
theorem d_X9_lively_37 : dec m_X9_lively 37 = .ok (.istore 6, 2) := by decide +kernel
theorem d_X9_lively_39 : dec m_X9_lively 39 = .ok (.iload 6, 2) := by decide +kernel
theorem d_X9_lively_41 : dec m_X9_lively 41 = .ok (.sipush 10499, 3) := by decide +kernel
theorem d_X9_lively_44 : dec m_X9_lively 44 = .ok (.if_icmp .gt 40, 3) := by decide +kernel
theorem d_X9_lively_47 : dec m_X9_lively 47 = .ok (.aload_n 0, 1) := by decide +kernel
theorem d_X9_lively_48 : dec m_X9_lively 48 = .ok (.iload 6, 2) := by decide +kernel
theorem d_X9_lively_50 : dec m_X9_lively 50 = .ok (.invokevirtual 239, 3) := by decide +kernel
theorem d_X9_lively_53 : dec m_X9_lively 53 = .ok (.istore 7, 2) := by decide +kernel
theorem d_X9_lively_55 : dec m_X9_lively 55 = .ok (.iload 7, 2) := by decide +kernel
theorem d_X9_lively_57 : dec m_X9_lively 57 = .ok (.iload_n 3, 1) := by decide +kernel
theorem d_X9_lively_58 : dec m_X9_lively 58 = .ok (.if_icmp .le 10, 3) := by decide +kernel
theorem d_X9_lively_61 : dec m_X9_lively 61 = .ok (.iload 7, 2) := by decide +kernel
theorem d_X9_lively_63 : dec m_X9_lively 63 = .ok (.istore_n 3, 1) := by decide +kernel
theorem d_X9_lively_64 : dec m_X9_lively 64 = .ok (.iload 6, 2) := by decide +kernel
theorem d_X9_lively_66 : dec m_X9_lively 66 = .ok (.istore 4, 2) := by decide +kernel
theorem d_X9_lively_68 : dec m_X9_lively 68 = .ok (.iload 7, 2) := by decide +kernel
theorem d_X9_lively_70 : dec m_X9_lively 70 = .ok (.iload_n 3, 1) := by decide +kernel
theorem d_X9_lively_71 : dec m_X9_lively 71 = .ok (.if_icmp .ne 7, 3) := by decide +kernel
theorem d_X9_lively_74 : dec m_X9_lively 74 = .ok (.iload 6, 2) := by decide +kernel
theorem d_X9_lively_76 : dec m_X9_lively 76 = .ok (.istore 5, 2) := by decide +kernel
theorem d_X9_lively_78 : dec m_X9_lively 78 = .ok (.iinc 6 1, 3) := by decide +kernel
theorem d_X9_lively_81 : dec m_X9_lively 81 = .ok (.goto (-42), 3) := by decide +kernel
theorem d_X9_lively_84 : dec m_X9_lively 84 = .ok (.iload_n 2, 1) := by decide +kernel
theorem d_X9_lively_85 : dec m_X9_lively 85 = .ok (.ifCond .ne 8, 3) := by decide +kernel
theorem d_X9_lively_88 : dec m_X9_lively 88 = .ok (.iload 4, 2) := by decide +kernel
theorem d_X9_lively_90 : dec m_X9_lively 90 = .ok (.goto 14, 3) := by decide +kernel
theorem d_X9_lively_93 : dec m_X9_lively 93 = .ok (.iload_n 2, 1) := by decide +kernel
theorem d_X9_lively_94 : dec m_X9_lively 94 = .ok (.iconst 1, 1) := by decide +kernel
theorem d_X9_lively_95 : dec m_X9_lively 95 = .ok (.if_icmp .ne 8, 3) := by decide +kernel
theorem d_X9_lively_98 : dec m_X9_lively 98 = .ok (.iload 5, 2) := by decide +kernel
theorem d_X9_lively_100 : dec m_X9_lively 100 = .ok (.goto 4, 3) := by decide +kernel
theorem d_X9_lively_103 : dec m_X9_lively 103 = .ok (.iload_n 3, 1) := by decide +kernel
theorem d_X9_lively_104 : dec m_X9_lively 104 = .ok (.ireturn, 1) := by decide +kernel
theorem d_X9_winner_0 : dec m_X9_winner 0 = .ok (.iload_n 1, 1) := by decide +kernel
theorem d_X9_winner_1 : dec m_X9_winner 1 = .ok (.invokestatic 195, 3) := by decide +kernel
theorem d_X9_winner_4 : dec m_X9_winner 4 = .ok (.ifCond .eq 15, 3) := by decide +kernel
theorem d_X9_winner_7 : dec m_X9_winner 7 = .ok (.iload_n 2, 1) := by decide +kernel
theorem d_X9_winner_8 : dec m_X9_winner 8 = .ok (.i2l, 1) := by decide +kernel
theorem d_X9_winner_9 : dec m_X9_winner 9 = .ok (.lconst 0, 1) := by decide +kernel
theorem d_X9_winner_10 : dec m_X9_winner 10 = .ok (.ldc2_w 217, 3) := by decide +kernel
theorem d_X9_winner_13 : dec m_X9_winner 13 = .ok (.invokestatic 82, 3) := by decide +kernel
theorem d_X9_winner_16 : dec m_X9_winner 16 = .ok (.ifCond .ne 6, 3) := by decide +kernel
theorem d_X9_winner_19 : dec m_X9_winner 19 = .ok (.ldc 192, 2) := by decide +kernel
theorem d_X9_winner_21 : dec m_X9_winner 21 = .ok (.ireturn, 1) := by decide +kernel
theorem d_X9_winner_22 : dec m_X9_winner 22 = .ok (.bipush (-2), 2) := by decide +kernel
theorem d_X9_winner_24 : dec m_X9_winner 24 = .ok (.istore_n 3, 1) := by decide +kernel
theorem d_X9_winner_25 : dec m_X9_winner 25 = .ok (.iconst 0, 1) := by decide +kernel
theorem d_X9_winner_26 : dec m_X9_winner 26 = .ok (.istore 4, 2) := by decide +kernel
theorem d_X9_winner_28 : dec m_X9_winner 28 = .ok (.iconst 0, 1) := by decide +kernel
theorem d_X9_winner_29 : dec m_X9_winner 29 = .ok (.istore 5, 2) := by decide +kernel
theorem d_X9_winner_31 : dec m_X9_winner 31 = .ok (.iconst 0, 1) := by decide +kernel
theorem d_X9_winner_32 : dec m_X9_winner 32 = .ok (.istore 6, 2) := by decide +kernel
theorem d_X9_winner_34 : dec m_X9_winner 34 = .ok (.iload 6, 2) := by decide +kernel
theorem d_X9_winner_36 : dec m_X9_winner 36 = .ok (.aload_n 0, 1) := by decide +kernel
theorem d_X9_winner_37 : dec m_X9_winner 37 = .ok (.invokevirtual 78, 3) := by decide +kernel
theorem d_X9_winner_40 : dec m_X9_winner 40 = .ok (.if_icmp .ge 69, 3) := by decide +kernel
theorem d_X9_winner_43 : dec m_X9_winner 43 = .ok (.aload_n 0, 1) := by decide +kernel
theorem d_X9_winner_44 : dec m_X9_winner 44 = .ok (.iload 6, 2) := by decide +kernel
theorem d_X9_winner_46 : dec m_X9_winner 46 = .ok (.iconst 1, 1) := by decide +kernel
theorem d_X9_winner_47 : dec m_X9_winner 47 = .ok (.invokevirtual 88, 3) := by decide +kernel
theorem d_X9_winner_50 : dec m_X9_winner 50 = .ok (.iload_n 1, 1) := by decide +kernel
theorem d_X9_winner_51 : dec m_X9_winner 51 = .ok (.if_icmp .eq 6, 3) := by decide +kernel
theorem d_X9_winner_54 : dec m_X9_winner 54 = .ok (.goto 49, 3) := by decide +kernel
theorem d_X9_winner_57 : dec m_X9_winner 57 = .ok (.aload_n 0, 1) := by decide +kernel
theorem d_X9_winner_58 : dec m_X9_winner 58 = .ok (.iload 6, 2) := by decide +kernel
theorem d_X9_winner_60 : dec m_X9_winner 60 = .ok (.invokevirtual 204, 3) := by decide +kernel
theorem d_X9_winner_63 : dec m_X9_winner 63 = .ok (.istore 7, 2) := by decide +kernel
theorem d_X9_winner_65 : dec m_X9_winner 65 = .ok (.iload 5, 2) := by decide +kernel
theorem d_X9_winner_67 : dec m_X9_winner 67 = .ok (.iload 7, 2) := by decide +kernel
theorem d_X9_winner_69 : dec m_X9_winner 69 = .ok (.ifCond .le 7, 3) := by decide +kernel
theorem d_X9_winner_72 : dec m_X9_winner 72 = .ok (.iconst 1, 1) := by decide +kernel
theorem d_X9_winner_73 : dec m_X9_winner 73 = .ok (.goto 4, 3) := by decide +kernel
theorem d_X9_winner_76 : dec m_X9_winner 76 = .ok (.iconst 0, 1) := by decide +kernel
theorem d_X9_winner_77 : dec m_X9_winner 77 = .ok (.iadd, 1) := by decide +kernel
theorem d_X9_winner_78 : dec m_X9_winner 78 = .ok (.istore 5, 2) := by decide +kernel
theorem d_X9_winner_80 : dec m_X9_winner 80 = .ok (.iload_n 3, 1) := by decide +kernel
theorem d_X9_winner_81 : dec m_X9_winner 81 = .ok (.bipush (-2), 2) := by decide +kernel
theorem d_X9_winner_83 : dec m_X9_winner 83 = .ok (.if_icmp .eq 13, 3) := by decide +kernel
theorem d_X9_winner_86 : dec m_X9_winner 86 = .ok (.iload 7, 2) := by decide +kernel
theorem d_X9_winner_88 : dec m_X9_winner 88 = .ok (.iload 4, 2) := by decide +kernel
theorem d_X9_winner_90 : dec m_X9_winner 90 = .ok (.if_icmp .gt 6, 3) := by decide +kernel
theorem d_X9_winner_93 : dec m_X9_winner 93 = .ok (.goto 10, 3) := by decide +kernel
theorem d_X9_winner_96 : dec m_X9_winner 96 = .ok (.iload 6, 2) := by decide +kernel
theorem d_X9_winner_98 : dec m_X9_winner 98 = .ok (.istore_n 3, 1) := by decide +kernel
theorem d_X9_winner_99 : dec m_X9_winner 99 = .ok (.iload 7, 2) := by decide +kernel
theorem d_X9_winner_101 : dec m_X9_winner 101 = .ok (.istore 4, 2) := by decide +kernel
theorem d_X9_winner_103 : dec m_X9_winner 103 = .ok (.iinc 6 1, 3) := by decide +kernel
theorem d_X9_winner_106 : dec m_X9_winner 106 = .ok (.goto (-72), 3) := by decide +kernel
theorem d_X9_winner_109 : dec m_X9_winner 109 = .ok (.iload_n 2, 1) := by decide +kernel
theorem d_X9_winner_110 : dec m_X9_winner 110 = .ok (.iconst 2, 1) := by decide +kernel
theorem d_X9_winner_111 : dec m_X9_winner 111 = .ok (.if_icmp .ne 6, 3) := by decide +kernel
theorem d_X9_winner_114 : dec m_X9_winner 114 = .ok (.iload 5, 2) := by decide +kernel
theorem d_X9_winner_116 : dec m_X9_winner 116 = .ok (.ireturn, 1) := by decide +kernel
theorem d_X9_winner_117 : dec m_X9_winner 117 = .ok (.iload_n 2, 1) := by decide +kernel
theorem d_X9_winner_118 : dec m_X9_winner 118 = .ok (.ifCond .ne 7, 3) := by decide +kernel
theorem d_X9_winner_121 : dec m_X9_winner 121 = .ok (.iload_n 3, 1) := by decide +kernel
theorem d_X9_winner_122 : dec m_X9_winner 122 = .ok (.goto 5, 3) := by decide +kernel
theorem d_X9_winner_125 : dec m_X9_winner 125 = .ok (.iload 4, 2) := by decide +kernel
theorem d_X9_winner_127 : dec m_X9_winner 127 = .ok (.ireturn, 1) := by decide +kernel
theorem d_X9_open_0 : dec m_X9_open 0 = .ok (.iload_n 1, 1) := by decide +kernel
theorem d_X9_open_1 : dec m_X9_open 1 = .ok (.invokestatic 195, 3) := by decide +kernel
theorem d_X9_open_4 : dec m_X9_open 4 = .ok (.ifCond .eq 15, 3) := by decide +kernel
theorem d_X9_open_7 : dec m_X9_open 7 = .ok (.iload_n 2, 1) := by decide +kernel
theorem d_X9_open_8 : dec m_X9_open 8 = .ok (.i2l, 1) := by decide +kernel
theorem d_X9_open_9 : dec m_X9_open 9 = .ok (.lconst 0, 1) := by decide +kernel
theorem d_X9_open_10 : dec m_X9_open 10 = .ok (.ldc2_w 86, 3) := by decide +kernel
theorem d_X9_open_13 : dec m_X9_open 13 = .ok (.invokestatic 82, 3) := by decide +kernel
theorem d_X9_open_16 : dec m_X9_open 16 = .ok (.ifCond .ne 5, 3) := by decide +kernel
theorem d_X9_open_19 : dec m_X9_open 19 = .ok (.iconst (-1), 1) := by decide +kernel
theorem d_X9_open_20 : dec m_X9_open 20 = .ok (.ireturn, 1) := by decide +kernel
theorem d_X9_open_21 : dec m_X9_open 21 = .ok (.aload_n 0, 1) := by decide +kernel
theorem d_X9_open_22 : dec m_X9_open 22 = .ok (.iload_n 1, 1) := by decide +kernel
theorem d_X9_open_23 : dec m_X9_open 23 = .ok (.invokevirtual 180, 3) := by decide +kernel
theorem d_X9_open_26 : dec m_X9_open 26 = .ok (.iconst 0, 1) := by decide +kernel
theorem d_X9_open_27 : dec m_X9_open 27 = .ok (.istore_n 3, 1) := by decide +kernel
theorem d_X9_open_28 : dec m_X9_open 28 = .ok (.aload_n 0, 1) := by decide +kernel
theorem d_X9_open_29 : dec m_X9_open 29 = .ok (.getfield 146, 3) := by decide +kernel
theorem d_X9_open_32 : dec m_X9_open 32 = .ok (.istore 4, 2) := by decide +kernel
theorem d_X9_open_34 : dec m_X9_open 34 = .ok (.iload 4, 2) := by decide +kernel
theorem d_X9_open_36 : dec m_X9_open 36 = .ok (.aload_n 0, 1) := by decide +kernel
theorem d_X9_open_37 : dec m_X9_open 37 = .ok (.getfield 113, 3) := by decide +kernel
theorem d_X9_open_40 : dec m_X9_open 40 = .ok (.if_icmp .ge 55, 3) := by decide +kernel
theorem d_X9_open_43 : dec m_X9_open 43 = .ok (.aload_n 0, 1) := by decide +kernel
theorem d_X9_open_44 : dec m_X9_open 44 = .ok (.getfield 146, 3) := by decide +kernel
theorem d_X9_open_47 : dec m_X9_open 47 = .ok (.istore 5, 2) := by decide +kernel
theorem d_X9_open_49 : dec m_X9_open 49 = .ok (.iload 5, 2) := by decide +kernel
theorem d_X9_open_51 : dec m_X9_open 51 = .ok (.aload_n 0, 1) := by decide +kernel
theorem d_X9_open_52 : dec m_X9_open 52 = .ok (.getfield 116, 3) := by decide +kernel
theorem d_X9_open_55 : dec m_X9_open 55 = .ok (.if_icmp .ge 34, 3) := by decide +kernel
theorem d_X9_open_58 : dec m_X9_open 58 = .ok (.iload_n 3, 1) := by decide +kernel
theorem d_X9_open_59 : dec m_X9_open 59 = .ok (.aload_n 0, 1) := by decide +kernel
theorem d_X9_open_60 : dec m_X9_open 60 = .ok (.getfield 29, 3) := by decide +kernel
theorem d_X9_open_63 : dec m_X9_open 63 = .ok (.iload 4, 2) := by decide +kernel
theorem d_X9_open_65 : dec m_X9_open 65 = .ok (.iaload, 1) := by decide +kernel
theorem d_X9_open_66 : dec m_X9_open 66 = .ok (.aload_n 0, 1) := by decide +kernel
theorem d_X9_open_67 : dec m_X9_open 67 = .ok (.getfield 38, 3) := by decide +kernel
theorem d_X9_open_70 : dec m_X9_open 70 = .ok (.iload 5, 2) := by decide +kernel
theorem d_X9_open_72 : dec m_X9_open 72 = .ok (.iaload, 1) := by decide +kernel
theorem d_X9_open_73 : dec m_X9_open 73 = .ok (.if_icmp .le 7, 3) := by decide +kernel
theorem d_X9_open_76 : dec m_X9_open 76 = .ok (.iconst 1, 1) := by decide +kernel
theorem d_X9_open_77 : dec m_X9_open 77 = .ok (.goto 4, 3) := by decide +kernel
theorem d_X9_open_80 : dec m_X9_open 80 = .ok (.iconst 0, 1) := by decide +kernel
theorem d_X9_open_81 : dec m_X9_open 81 = .ok (.iadd, 1) := by decide +kernel
theorem d_X9_open_82 : dec m_X9_open 82 = .ok (.istore_n 3, 1) := by decide +kernel
theorem d_X9_open_83 : dec m_X9_open 83 = .ok (.iinc 5 1, 3) := by decide +kernel
theorem d_X9_open_86 : dec m_X9_open 86 = .ok (.goto (-37), 3) := by decide +kernel
theorem d_X9_open_89 : dec m_X9_open 89 = .ok (.iinc 4 1, 3) := by decide +kernel
theorem d_X9_open_92 : dec m_X9_open 92 = .ok (.goto (-58), 3) := by decide +kernel
theorem d_X9_open_95 : dec m_X9_open 95 = .ok (.iload_n 2, 1) := by decide +kernel
theorem d_X9_open_96 : dec m_X9_open 96 = .ok (.ifCond .ne 5, 3) := by decide +kernel
theorem d_X9_open_99 : dec m_X9_open 99 = .ok (.iload_n 3, 1) := by decide +kernel
theorem d_X9_open_100 : dec m_X9_open 100 = .ok (.ireturn, 1) := by decide +kernel
theorem d_X9_open_101 : dec m_X9_open 101 = .ok (.iload_n 2, 1) := by decide +kernel
theorem d_X9_open_102 : dec m_X9_open 102 = .ok (.iconst 1, 1) := by decide +kernel
theorem d_X9_open_103 : dec m_X9_open 103 = .ok (.if_icmp .ne 31, 3) := by decide +kernel
theorem d_X9_open_106 : dec m_X9_open 106 = .ok (.iload_n 3, 1) := by decide +kernel
theorem d_X9_open_107 : dec m_X9_open 107 = .ok (.ifCond .ne 7, 3) := by decide +kernel
theorem d_X9_open_110 : dec m_X9_open 110 = .ok (.iconst 0, 1) := by decide +kernel
theorem d_X9_open_111 : dec m_X9_open 111 = .ok (.goto 22, 3) := by decide +kernel
theorem d_X9_open_114 : dec m_X9_open 114 = .ok (.aload_n 0, 1) := by decide +kernel
theorem d_X9_open_115 : dec m_X9_open 115 = .ok (.getfield 29, 3) := by decide +kernel
theorem d_X9_open_118 : dec m_X9_open 118 = .ok (.aload_n 0, 1) := by decide +kernel
theorem d_X9_open_119 : dec m_X9_open 119 = .ok (.getfield 146, 3) := by decide +kernel
theorem d_X9_open_122 : dec m_X9_open 122 = .ok (.iaload, 1) := by decide +kernel
theorem d_X9_open_123 : dec m_X9_open 123 = .ok (.aload_n 0, 1) := by decide +kernel
theorem d_X9_open_124 : dec m_X9_open 124 = .ok (.getfield 38, 3) := by decide +kernel
theorem d_X9_open_127 : dec m_X9_open 127 = .ok (.aload_n 0, 1) := by decide +kernel
theorem d_X9_open_128 : dec m_X9_open 128 = .ok (.getfield 146, 3) := by decide +kernel
theorem d_X9_open_131 : dec m_X9_open 131 = .ok (.iaload, 1) := by decide +kernel
theorem d_X9_open_132 : dec m_X9_open 132 = .ok (.isub, 1) := by decide +kernel
theorem d_X9_open_133 : dec m_X9_open 133 = .ok (.ireturn, 1) := by decide +kernel
theorem d_X9_open_134 : dec m_X9_open 134 = .ok (.iload_n 3, 1) := by decide +kernel
theorem d_X9_open_135 : dec m_X9_open 135 = .ok (.ifCond .ne 6, 3) := by decide +kernel
theorem d_X9_open_138 : dec m_X9_open 138 = .ok (.bipush (-2), 2) := by decide +kernel
theorem d_X9_open_140 : dec m_X9_open 140 = .ok (.ireturn, 1) := by decide +kernel
theorem d_X9_open_141 : dec m_X9_open 141 = .ok (.iload_n 2, 1) := by decide +kernel
theorem d_X9_open_142 : dec m_X9_open 142 = .ok (.iconst 2, 1) := by decide +kernel
theorem d_X9_open_143 : dec m_X9_open 143 = .ok (.if_icmp .ne 15, 3) := by decide +kernel
theorem d_X9_open_146 : dec m_X9_open 146 = .ok (.aload_n 0, 1) := by decide +kernel
theorem d_X9_open_147 : dec m_X9_open 147 = .ok (.getfield 23, 3) := by decide +kernel
theorem d_X9_open_150 : dec m_X9_open 150 = .ok (.aload_n 0, 1) := by decide +kernel
theorem d_X9_open_151 : dec m_X9_open 151 = .ok (.getfield 146, 3) := by decide +kernel
theorem d_X9_open_154 : dec m_X9_open 154 = .ok (.iaload, 1) := by decide +kernel
theorem d_X9_open_155 : dec m_X9_open 155 = .ok (.goto 12, 3) := by decide +kernel
theorem d_X9_open_158 : dec m_X9_open 158 = .ok (.aload_n 0, 1) := by decide +kernel
theorem d_X9_open_159 : dec m_X9_open 159 = .ok (.getfield 32, 3) := by decide +kernel
theorem d_X9_open_162 : dec m_X9_open 162 = .ok (.aload_n 0, 1) := by decide +kernel
theorem d_X9_open_163 : dec m_X9_open 163 = .ok (.getfield 146, 3) := by decide +kernel
theorem d_X9_open_166 : dec m_X9_open 166 = .ok (.iaload, 1) := by decide +kernel
theorem d_X9_open_167 : dec m_X9_open 167 = .ok (.ireturn, 1) := by decide +kernel
theorem d_X9_match_0 : dec m_X9_match 0 = .ok (.iload_n 1, 1) := by decide +kernel
theorem d_X9_match_1 : dec m_X9_match 1 = .ok (.invokestatic 195, 3) := by decide +kernel
theorem d_X9_match_4 : dec m_X9_match 4 = .ok (.ifCond .ne 5, 3) := by decide +kernel
theorem d_X9_match_7 : dec m_X9_match 7 = .ok (.iconst (-1), 1) := by decide +kernel
theorem d_X9_match_8 : dec m_X9_match 8 = .ok (.ireturn, 1) := by decide +kernel
theorem d_X9_match_9 : dec m_X9_match 9 = .ok (.aload_n 0, 1) := by decide +kernel
theorem d_X9_match_10 : dec m_X9_match 10 = .ok (.iload_n 1, 1) := by decide +kernel
theorem d_X9_match_11 : dec m_X9_match 11 = .ok (.invokevirtual 180, 3) := by decide +kernel
theorem d_X9_match_14 : dec m_X9_match 14 = .ok (.iload_n 2, 1) := by decide +kernel
theorem d_X9_match_15 : dec m_X9_match 15 = .ok (.iconst (-1), 1) := by decide +kernel
theorem d_X9_match_16 : dec m_X9_match 16 = .ok (.if_icmp .ne 12, 3) := by decide +kernel
theorem d_X9_match_19 : dec m_X9_match 19 = .ok (.iload_n 3, 1) := by decide +kernel
theorem d_X9_match_20 : dec m_X9_match 20 = .ok (.ifCond .ne 8, 3) := by decide +kernel
theorem d_X9_match_23 : dec m_X9_match 23 = .ok (.aload_n 0, 1) := by decide +kernel
theorem d_X9_match_24 : dec m_X9_match 24 = .ok (.getfield 146, 3) := by decide +kernel
theorem d_X9_match_27 : dec m_X9_match 27 = .ok (.ireturn, 1) := by decide +kernel
theorem d_X9_match_28 : dec m_X9_match 28 = .ok (.iload_n 2, 1) := by decide +kernel
theorem d_X9_match_29 : dec m_X9_match 29 = .ok (.i2l, 1) := by decide +kernel
theorem d_X9_match_30 : dec m_X9_match 30 = .ok (.lconst 0, 1) := by decide +kernel
theorem d_X9_match_31 : dec m_X9_match 31 = .ok (.aload_n 0, 1) := by decide +kernel
theorem d_X9_match_32 : dec m_X9_match 32 = .ok (.getfield 146, 3) := by decide +kernel
theorem d_X9_match_35 : dec m_X9_match 35 = .ok (.iconst 1, 1) := by decide +kernel
theorem d_X9_match_36 : dec m_X9_match 36 = .ok (.isub, 1) := by decide +kernel
theorem d_X9_match_37 : dec m_X9_match 37 = .ok (.i2l, 1) := by decide +kernel
theorem d_X9_match_38 : dec m_X9_match 38 = .ok (.invokestatic 82, 3) := by decide +kernel
theorem d_X9_match_41 : dec m_X9_match 41 = .ok (.ifCond .ne 5, 3) := by decide +kernel
theorem d_X9_match_44 : dec m_X9_match 44 = .ok (.iconst (-1), 1) := by decide +kernel
theorem d_X9_match_45 : dec m_X9_match 45 = .ok (.ireturn, 1) := by decide +kernel
theorem d_X9_match_46 : dec m_X9_match 46 = .ok (.iload_n 3, 1) := by decide +kernel
theorem d_X9_match_47 : dec m_X9_match 47 = .ok (.tableswitch 57 0 3 #[29, 36, 43, 50], 29) := by decide +kernel
theorem d_X9_match_76 : dec m_X9_match 76 = .ok (.aload_n 0, 1) := by decide +kernel
theorem d_X9_match_77 : dec m_X9_match 77 = .ok (.getfield 23, 3) := by decide +kernel
theorem d_X9_match_80 : dec m_X9_match 80 = .ok (.iload_n 2, 1) := by decide +kernel
theorem d_X9_match_81 : dec m_X9_match 81 = .ok (.iaload, 1) := by decide +kernel
theorem d_X9_match_82 : dec m_X9_match 82 = .ok (.ireturn, 1) := by decide +kernel
theorem d_X9_match_83 : dec m_X9_match 83 = .ok (.aload_n 0, 1) := by decide +kernel
theorem d_X9_match_84 : dec m_X9_match 84 = .ok (.getfield 26, 3) := by decide +kernel
theorem d_X9_match_87 : dec m_X9_match 87 = .ok (.iload_n 2, 1) := by decide +kernel
theorem d_X9_match_88 : dec m_X9_match 88 = .ok (.iaload, 1) := by decide +kernel
theorem d_X9_match_89 : dec m_X9_match 89 = .ok (.ireturn, 1) := by decide +kernel
theorem d_X9_match_90 : dec m_X9_match 90 = .ok (.aload_n 0, 1) := by decide +kernel
theorem d_X9_match_91 : dec m_X9_match 91 = .ok (.getfield 32, 3) := by decide +kernel
theorem d_X9_match_94 : dec m_X9_match 94 = .ok (.iload_n 2, 1) := by decide +kernel
theorem d_X9_match_95 : dec m_X9_match 95 = .ok (.iaload, 1) := by decide +kernel
theorem d_X9_match_96 : dec m_X9_match 96 = .ok (.ireturn, 1) := by decide +kernel
theorem d_X9_match_97 : dec m_X9_match 97 = .ok (.aload_n 0, 1) := by decide +kernel
theorem d_X9_match_98 : dec m_X9_match 98 = .ok (.getfield 35, 3) := by decide +kernel
theorem d_X9_match_101 : dec m_X9_match 101 = .ok (.iload_n 2, 1) := by decide +kernel
theorem d_X9_match_102 : dec m_X9_match 102 = .ok (.iaload, 1) := by decide +kernel
theorem d_X9_match_103 : dec m_X9_match 103 = .ok (.ireturn, 1) := by decide +kernel
theorem d_X9_match_104 : dec m_X9_match 104 = .ok (.iconst (-1), 1) := by decide +kernel
theorem d_X9_match_105 : dec m_X9_match 105 = .ok (.ireturn, 1) := by decide +kernel
theorem d_X9_shared_0 : dec m_X9_shared 0 = .ok (.lload_n 0, 1) := by decide +kernel
theorem d_X9_shared_1 : dec m_X9_shared 1 = .ok (.lstore 4, 2) := by decide +kernel
theorem d_X9_shared_3 : dec m_X9_shared 3 = .ok (.lload_n 2, 1) := by decide +kernel
theorem d_X9_shared_4 : dec m_X9_shared 4 = .ok (.lstore 6, 2) := by decide +kernel
theorem d_X9_shared_6 : dec m_X9_shared 6 = .ok (.lload 6, 2) := by decide +kernel
theorem d_X9_shared_8 : dec m_X9_shared 8 = .ok (.lconst 0, 1) := by decide +kernel
theorem d_X9_shared_9 : dec m_X9_shared 9 = .ok (.lcmp, 1) := by decide +kernel
theorem d_X9_shared_10 : dec m_X9_shared 10 = .ok (.ifCond .le 21, 3) := by decide +kernel
theorem d_X9_shared_13 : dec m_X9_shared 13 = .ok (.lload 4, 2) := by decide +kernel
theorem d_X9_shared_15 : dec m_X9_shared 15 = .ok (.lload 6, 2) := by decide +kernel
theorem d_X9_shared_17 : dec m_X9_shared 17 = .ok (.lrem, 1) := by decide +kernel
theorem d_X9_shared_18 : dec m_X9_shared 18 = .ok (.lstore 8, 2) := by decide +kernel
theorem d_X9_shared_20 : dec m_X9_shared 20 = .ok (.lload 6, 2) := by decide +kernel
theorem d_X9_shared_22 : dec m_X9_shared 22 = .ok (.lstore 4, 2) := by decide +kernel
theorem d_X9_shared_24 : dec m_X9_shared 24 = .ok (.lload 8, 2) := by decide +kernel
theorem d_X9_shared_26 : dec m_X9_shared 26 = .ok (.lstore 6, 2) := by decide +kernel
theorem d_X9_shared_28 : dec m_X9_shared 28 = .ok (.goto (-22), 3) := by decide +kernel
theorem d_X9_shared_31 : dec m_X9_shared 31 = .ok (.lload 4, 2) := by decide +kernel
theorem d_X9_shared_33 : dec m_X9_shared 33 = .ok (.lreturn, 1) := by decide +kernel
theorem d_X9_times_0 : dec m_X9_times 0 = .ok (.lload_n 0, 1) := by decide +kernel
theorem d_X9_times_1 : dec m_X9_times 1 = .ok (.lconst 0, 1) := by decide +kernel
theorem d_X9_times_2 : dec m_X9_times 2 = .ok (.lcmp, 1) := by decide +kernel
theorem d_X9_times_3 : dec m_X9_times 3 = .ok (.ifCond .lt 19, 3) := by decide +kernel
theorem d_X9_times_6 : dec m_X9_times 6 = .ok (.lload_n 2, 1) := by decide +kernel
theorem d_X9_times_7 : dec m_X9_times 7 = .ok (.lconst 0, 1) := by decide +kernel
theorem d_X9_times_8 : dec m_X9_times 8 = .ok (.lcmp, 1) := by decide +kernel
theorem d_X9_times_9 : dec m_X9_times 9 = .ok (.ifCond .lt 13, 3) := by decide +kernel
theorem d_X9_times_12 : dec m_X9_times 12 = .ok (.lload_n 0, 1) := by decide +kernel
theorem d_X9_times_13 : dec m_X9_times 13 = .ok (.ldc2_w 242, 3) := by decide +kernel
theorem d_X9_times_16 : dec m_X9_times 16 = .ok (.lload_n 2, 1) := by decide +kernel
theorem d_X9_times_17 : dec m_X9_times 17 = .ok (.ldiv, 1) := by decide +kernel
theorem d_X9_times_18 : dec m_X9_times 18 = .ok (.lcmp, 1) := by decide +kernel
theorem d_X9_times_19 : dec m_X9_times 19 = .ok (.ifCond .le 9, 3) := by decide +kernel
theorem d_X9_times_22 : dec m_X9_times 22 = .ok (.ldc2_w 244, 3) := by decide +kernel
theorem d_X9_times_25 : dec m_X9_times 25 = .ok (.goto 6, 3) := by decide +kernel
theorem d_X9_times_28 : dec m_X9_times 28 = .ok (.lload_n 0, 1) := by decide +kernel
theorem d_X9_times_29 : dec m_X9_times 29 = .ok (.lload_n 2, 1) := by decide +kernel
theorem d_X9_times_30 : dec m_X9_times 30 = .ok (.lmul, 1) := by decide +kernel
theorem d_X9_times_31 : dec m_X9_times 31 = .ok (.lreturn, 1) := by decide +kernel
theorem d_X9_choose_0 : dec m_X9_choose 0 = .ok (.iload_n 1, 1) := by decide +kernel
theorem d_X9_choose_1 : dec m_X9_choose 1 = .ok (.iload_n 0, 1) := by decide +kernel
theorem d_X9_choose_2 : dec m_X9_choose 2 = .ok (.iload_n 1, 1) := by decide +kernel
theorem d_X9_choose_3 : dec m_X9_choose 3 = .ok (.isub, 1) := by decide +kernel
theorem d_X9_choose_4 : dec m_X9_choose 4 = .ok (.if_icmp .ge 7, 3) := by decide +kernel
theorem d_X9_choose_7 : dec m_X9_choose 7 = .ok (.iload_n 1, 1) := by decide +kernel
theorem d_X9_choose_8 : dec m_X9_choose 8 = .ok (.goto 6, 3) := by decide +kernel
theorem d_X9_choose_11 : dec m_X9_choose 11 = .ok (.iload_n 0, 1) := by decide +kernel
theorem d_X9_choose_12 : dec m_X9_choose 12 = .ok (.iload_n 1, 1) := by decide +kernel
theorem d_X9_choose_13 : dec m_X9_choose 13 = .ok (.isub, 1) := by decide +kernel
theorem d_X9_choose_14 : dec m_X9_choose 14 = .ok (.istore_n 2, 1) := by decide +kernel
theorem d_X9_choose_15 : dec m_X9_choose 15 = .ok (.lconst 1, 1) := by decide +kernel
theorem d_X9_choose_16 : dec m_X9_choose 16 = .ok (.lstore_n 3, 1) := by decide +kernel
theorem d_X9_choose_17 : dec m_X9_choose 17 = .ok (.iconst 1, 1) := by decide +kernel
theorem d_X9_choose_18 : dec m_X9_choose 18 = .ok (.istore 5, 2) := by decide +kernel
theorem d_X9_choose_20 : dec m_X9_choose 20 = .ok (.iload 5, 2) := by decide +kernel
theorem d_X9_choose_22 : dec m_X9_choose 22 = .ok (.iload_n 2, 1) := by decide +kernel
theorem d_X9_choose_23 : dec m_X9_choose 23 = .ok (.if_icmp .gt 50, 3) := by decide +kernel
theorem d_X9_choose_26 : dec m_X9_choose 26 = .ok (.lload_n 3, 1) := by decide +kernel
theorem d_X9_choose_27 : dec m_X9_choose 27 = .ok (.iload 5, 2) := by decide +kernel
theorem d_X9_choose_29 : dec m_X9_choose 29 = .ok (.i2l, 1) := by decide +kernel
theorem d_X9_choose_30 : dec m_X9_choose 30 = .ok (.invokestatic 246, 3) := by decide +kernel
theorem d_X9_choose_33 : dec m_X9_choose 33 = .ok (.lstore 6, 2) := by decide +kernel
theorem d_X9_choose_35 : dec m_X9_choose 35 = .ok (.lload_n 3, 1) := by decide +kernel
theorem d_X9_choose_36 : dec m_X9_choose 36 = .ok (.lload 6, 2) := by decide +kernel
theorem d_X9_choose_38 : dec m_X9_choose 38 = .ok (.ldiv, 1) := by decide +kernel
theorem d_X9_choose_39 : dec m_X9_choose 39 = .ok (.iload_n 0, 1) := by decide +kernel
theorem d_X9_choose_40 : dec m_X9_choose 40 = .ok (.iload_n 2, 1) := by decide +kernel
theorem d_X9_choose_41 : dec m_X9_choose 41 = .ok (.isub, 1) := by decide +kernel
theorem d_X9_choose_42 : dec m_X9_choose 42 = .ok (.iload 5, 2) := by decide +kernel
theorem d_X9_choose_44 : dec m_X9_choose 44 = .ok (.iadd, 1) := by decide +kernel
theorem d_X9_choose_45 : dec m_X9_choose 45 = .ok (.i2l, 1) := by decide +kernel
theorem d_X9_choose_46 : dec m_X9_choose 46 = .ok (.iload 5, 2) := by decide +kernel
theorem d_X9_choose_48 : dec m_X9_choose 48 = .ok (.i2l, 1) := by decide +kernel
theorem d_X9_choose_49 : dec m_X9_choose 49 = .ok (.lload 6, 2) := by decide +kernel
theorem d_X9_choose_51 : dec m_X9_choose 51 = .ok (.ldiv, 1) := by decide +kernel
theorem d_X9_choose_52 : dec m_X9_choose 52 = .ok (.ldiv, 1) := by decide +kernel
theorem d_X9_choose_53 : dec m_X9_choose 53 = .ok (.invokestatic 250, 3) := by decide +kernel
theorem d_X9_choose_56 : dec m_X9_choose 56 = .ok (.lstore_n 3, 1) := by decide +kernel
theorem d_X9_choose_57 : dec m_X9_choose 57 = .ok (.lload_n 3, 1) := by decide +kernel
theorem d_X9_choose_58 : dec m_X9_choose 58 = .ok (.lconst 0, 1) := by decide +kernel
theorem d_X9_choose_59 : dec m_X9_choose 59 = .ok (.lcmp, 1) := by decide +kernel
theorem d_X9_choose_60 : dec m_X9_choose 60 = .ok (.ifCond .ge 7, 3) := by decide +kernel
theorem d_X9_choose_63 : dec m_X9_choose 63 = .ok (.ldc2_w 244, 3) := by decide +kernel
theorem d_X9_choose_66 : dec m_X9_choose 66 = .ok (.lreturn, 1) := by decide +kernel
theorem d_X9_choose_67 : dec m_X9_choose 67 = .ok (.iinc 5 1, 3) := by decide +kernel
theorem d_X9_choose_70 : dec m_X9_choose 70 = .ok (.goto (-50), 3) := by decide +kernel
theorem d_X9_choose_73 : dec m_X9_choose 73 = .ok (.lload_n 3, 1) := by decide +kernel
theorem d_X9_choose_74 : dec m_X9_choose 74 = .ok (.lreturn, 1) := by decide +kernel
theorem d_X9_tied_0 : dec m_X9_tied 0 = .ok (.iconst 0, 1) := by decide +kernel
theorem d_X9_tied_1 : dec m_X9_tied 1 = .ok (.istore_n 3, 1) := by decide +kernel
theorem d_X9_tied_2 : dec m_X9_tied 2 = .ok (.iconst 0, 1) := by decide +kernel
theorem d_X9_tied_3 : dec m_X9_tied 3 = .ok (.istore 4, 2) := by decide +kernel
theorem d_X9_tied_5 : dec m_X9_tied 5 = .ok (.iconst 0, 1) := by decide +kernel
theorem d_X9_tied_6 : dec m_X9_tied 6 = .ok (.istore 5, 2) := by decide +kernel
theorem d_X9_tied_8 : dec m_X9_tied 8 = .ok (.iload 5, 2) := by decide +kernel
theorem d_X9_tied_10 : dec m_X9_tied 10 = .ok (.iload_n 2, 1) := by decide +kernel
theorem d_X9_tied_11 : dec m_X9_tied 11 = .ok (.if_icmp .ge 49, 3) := by decide +kernel
theorem d_X9_tied_14 : dec m_X9_tied 14 = .ok (.aload_n 1, 1) := by decide +kernel
theorem d_X9_tied_15 : dec m_X9_tied 15 = .ok (.iload 5, 2) := by decide +kernel
theorem d_X9_tied_17 : dec m_X9_tied 17 = .ok (.iaload, 1) := by decide +kernel
theorem d_X9_tied_18 : dec m_X9_tied 18 = .ok (.aload_n 1, 1) := by decide +kernel
theorem d_X9_tied_19 : dec m_X9_tied 19 = .ok (.aload_n 0, 1) := by decide +kernel
theorem d_X9_tied_20 : dec m_X9_tied 20 = .ok (.getfield 133, 3) := by decide +kernel
theorem d_X9_tied_23 : dec m_X9_tied 23 = .ok (.iconst 1, 1) := by decide +kernel
theorem d_X9_tied_24 : dec m_X9_tied 24 = .ok (.isub, 1) := by decide +kernel
theorem d_X9_tied_25 : dec m_X9_tied 25 = .ok (.iaload, 1) := by decide +kernel
theorem d_X9_tied_26 : dec m_X9_tied 26 = .ok (.if_icmp .eq 6, 3) := by decide +kernel
theorem d_X9_tied_29 : dec m_X9_tied 29 = .ok (.goto 25, 3) := by decide +kernel
theorem d_X9_tied_32 : dec m_X9_tied 32 = .ok (.iinc 3 1, 3) := by decide +kernel
theorem d_X9_tied_35 : dec m_X9_tied 35 = .ok (.iload 4, 2) := by decide +kernel
theorem d_X9_tied_37 : dec m_X9_tied 37 = .ok (.iload 5, 2) := by decide +kernel
theorem d_X9_tied_39 : dec m_X9_tied 39 = .ok (.aload_n 0, 1) := by decide +kernel
theorem d_X9_tied_40 : dec m_X9_tied 40 = .ok (.getfield 133, 3) := by decide +kernel
theorem d_X9_tied_43 : dec m_X9_tied 43 = .ok (.if_icmp .ge 7, 3) := by decide +kernel
theorem d_X9_tied_46 : dec m_X9_tied 46 = .ok (.iconst 1, 1) := by decide +kernel
theorem d_X9_tied_47 : dec m_X9_tied 47 = .ok (.goto 4, 3) := by decide +kernel
theorem d_X9_tied_50 : dec m_X9_tied 50 = .ok (.iconst 0, 1) := by decide +kernel
theorem d_X9_tied_51 : dec m_X9_tied 51 = .ok (.iadd, 1) := by decide +kernel
theorem d_X9_tied_52 : dec m_X9_tied 52 = .ok (.istore 4, 2) := by decide +kernel
theorem d_X9_tied_54 : dec m_X9_tied 54 = .ok (.iinc 5 1, 3) := by decide +kernel
theorem d_X9_tied_57 : dec m_X9_tied 57 = .ok (.goto (-49), 3) := by decide +kernel
theorem d_X9_tied_60 : dec m_X9_tied 60 = .ok (.iload_n 3, 1) := by decide +kernel
theorem d_X9_tied_61 : dec m_X9_tied 61 = .ok (.iload 4, 2) := by decide +kernel
theorem d_X9_tied_63 : dec m_X9_tied 63 = .ok (.invokestatic 253, 3) := by decide +kernel
theorem d_X9_tied_66 : dec m_X9_tied 66 = .ok (.lreturn, 1) := by decide +kernel
theorem d_X9_ties_0 : dec m_X9_ties 0 = .ok (.iload_n 1, 1) := by decide +kernel
theorem d_X9_ties_1 : dec m_X9_ties 1 = .ok (.invokestatic 195, 3) := by decide +kernel
theorem d_X9_ties_4 : dec m_X9_ties 4 = .ok (.ifCond .ne 7, 3) := by decide +kernel
theorem d_X9_ties_7 : dec m_X9_ties 7 = .ok (.ldc2_w 244, 3) := by decide +kernel
theorem d_X9_ties_10 : dec m_X9_ties 10 = .ok (.lreturn, 1) := by decide +kernel
theorem d_X9_ties_11 : dec m_X9_ties 11 = .ok (.aload_n 0, 1) := by decide +kernel
theorem d_X9_ties_12 : dec m_X9_ties 12 = .ok (.iconst 1, 1) := by decide +kernel
theorem d_X9_ties_13 : dec m_X9_ties 13 = .ok (.iload_n 1, 1) := by decide +kernel
theorem d_X9_ties_14 : dec m_X9_ties 14 = .ok (.ishl, 1) := by decide +kernel
theorem d_X9_ties_15 : dec m_X9_ties 15 = .ok (.invokevirtual 139, 3) := by decide +kernel
theorem d_X9_ties_18 : dec m_X9_ties 18 = .ok (.aload_n 0, 1) := by decide +kernel
theorem d_X9_ties_19 : dec m_X9_ties 19 = .ok (.getfield 133, 3) := by decide +kernel
theorem d_X9_ties_22 : dec m_X9_ties 22 = .ok (.ifCond .ne 5, 3) := by decide +kernel
theorem d_X9_ties_25 : dec m_X9_ties 25 = .ok (.lconst 1, 1) := by decide +kernel
theorem d_X9_ties_26 : dec m_X9_ties 26 = .ok (.lreturn, 1) := by decide +kernel
theorem d_X9_ties_27 : dec m_X9_ties 27 = .ok (.aload_n 0, 1) := by decide +kernel
theorem d_X9_ties_28 : dec m_X9_ties 28 = .ok (.aload_n 0, 1) := by decide +kernel
theorem d_X9_ties_29 : dec m_X9_ties 29 = .ok (.getfield 29, 3) := by decide +kernel
theorem d_X9_ties_32 : dec m_X9_ties 32 = .ok (.aload_n 0, 1) := by decide +kernel
theorem d_X9_ties_33 : dec m_X9_ties 33 = .ok (.getfield 113, 3) := by decide +kernel
theorem d_X9_ties_36 : dec m_X9_ties 36 = .ok (.invokevirtual 257, 3) := by decide +kernel
theorem d_X9_ties_39 : dec m_X9_ties 39 = .ok (.lstore_n 2, 1) := by decide +kernel
theorem d_X9_ties_40 : dec m_X9_ties 40 = .ok (.aload_n 0, 1) := by decide +kernel
theorem d_X9_ties_41 : dec m_X9_ties 41 = .ok (.aload_n 0, 1) := by decide +kernel
theorem d_X9_ties_42 : dec m_X9_ties 42 = .ok (.getfield 38, 3) := by decide +kernel
theorem d_X9_ties_45 : dec m_X9_ties 45 = .ok (.aload_n 0, 1) := by decide +kernel
theorem d_X9_ties_46 : dec m_X9_ties 46 = .ok (.getfield 116, 3) := by decide +kernel
theorem d_X9_ties_49 : dec m_X9_ties 49 = .ok (.invokevirtual 257, 3) := by decide +kernel
theorem d_X9_ties_52 : dec m_X9_ties 52 = .ok (.lstore 4, 2) := by decide +kernel
theorem d_X9_ties_54 : dec m_X9_ties 54 = .ok (.lload_n 2, 1) := by decide +kernel
theorem d_X9_ties_55 : dec m_X9_ties 55 = .ok (.lconst 0, 1) := by decide +kernel
theorem d_X9_ties_56 : dec m_X9_ties 56 = .ok (.lcmp, 1) := by decide +kernel
theorem d_X9_ties_57 : dec m_X9_ties 57 = .ok (.ifCond .lt 10, 3) := by decide +kernel
theorem d_X9_ties_60 : dec m_X9_ties 60 = .ok (.lload 4, 2) := by decide +kernel
theorem d_X9_ties_62 : dec m_X9_ties 62 = .ok (.lconst 0, 1) := by decide +kernel
theorem d_X9_ties_63 : dec m_X9_ties 63 = .ok (.lcmp, 1) := by decide +kernel
theorem d_X9_ties_64 : dec m_X9_ties 64 = .ok (.ifCond .ge 7, 3) := by decide +kernel
theorem d_X9_ties_67 : dec m_X9_ties 67 = .ok (.ldc2_w 261, 3) := by decide +kernel
theorem d_X9_ties_70 : dec m_X9_ties 70 = .ok (.lreturn, 1) := by decide +kernel
theorem d_X9_ties_71 : dec m_X9_ties 71 = .ok (.lload_n 2, 1) := by decide +kernel
theorem d_X9_ties_72 : dec m_X9_ties 72 = .ok (.lload 4, 2) := by decide +kernel
theorem d_X9_ties_74 : dec m_X9_ties 74 = .ok (.invokestatic 250, 3) := by decide +kernel
theorem d_X9_ties_77 : dec m_X9_ties 77 = .ok (.lstore 6, 2) := by decide +kernel
theorem d_X9_ties_79 : dec m_X9_ties 79 = .ok (.lload 6, 2) := by decide +kernel
theorem d_X9_ties_81 : dec m_X9_ties 81 = .ok (.lconst 0, 1) := by decide +kernel
theorem d_X9_ties_82 : dec m_X9_ties 82 = .ok (.lcmp, 1) := by decide +kernel
theorem d_X9_ties_83 : dec m_X9_ties 83 = .ok (.ifCond .ge 9, 3) := by decide +kernel
theorem d_X9_ties_86 : dec m_X9_ties 86 = .ok (.ldc2_w 261, 3) := by decide +kernel
theorem d_X9_ties_89 : dec m_X9_ties 89 = .ok (.goto 5, 3) := by decide +kernel
theorem d_X9_ties_92 : dec m_X9_ties 92 = .ok (.lload 6, 2) := by decide +kernel
theorem d_X9_ties_94 : dec m_X9_ties 94 = .ok (.lreturn, 1) := by decide +kernel
theorem d_X9_under_0 : dec m_X9_under 0 = .ok (.iload_n 1, 1) := by decide +kernel
theorem d_X9_under_1 : dec m_X9_under 1 = .ok (.invokestatic 195, 3) := by decide +kernel
theorem d_X9_under_4 : dec m_X9_under 4 = .ok (.ifCond .eq 27, 3) := by decide +kernel
theorem d_X9_under_7 : dec m_X9_under 7 = .ok (.iload_n 2, 1) := by decide +kernel
theorem d_X9_under_8 : dec m_X9_under 8 = .ok (.i2l, 1) := by decide +kernel
theorem d_X9_under_9 : dec m_X9_under 9 = .ok (.lconst 0, 1) := by decide +kernel
theorem d_X9_under_10 : dec m_X9_under 10 = .ok (.ldc2_w 86, 3) := by decide +kernel
theorem d_X9_under_13 : dec m_X9_under 13 = .ok (.invokestatic 82, 3) := by decide +kernel
theorem d_X9_under_16 : dec m_X9_under 16 = .ok (.ifCond .eq 15, 3) := by decide +kernel
theorem d_X9_under_19 : dec m_X9_under 19 = .ok (.iload_n 3, 1) := by decide +kernel
theorem d_X9_under_20 : dec m_X9_under 20 = .ok (.i2l, 1) := by decide +kernel
theorem d_X9_under_21 : dec m_X9_under 21 = .ok (.lconst 0, 1) := by decide +kernel
theorem d_X9_under_22 : dec m_X9_under 22 = .ok (.ldc2_w 217, 3) := by decide +kernel
theorem d_X9_under_25 : dec m_X9_under 25 = .ok (.invokestatic 82, 3) := by decide +kernel
theorem d_X9_under_28 : dec m_X9_under 28 = .ok (.ifCond .ne 6, 3) := by decide +kernel
theorem d_X9_under_31 : dec m_X9_under 31 = .ok (.ldc 192, 2) := by decide +kernel
theorem d_X9_under_33 : dec m_X9_under 33 = .ok (.ireturn, 1) := by decide +kernel
theorem d_X9_under_34 : dec m_X9_under 34 = .ok (.aload_n 0, 1) := by decide +kernel
theorem d_X9_under_35 : dec m_X9_under 35 = .ok (.getfield 7, 3) := by decide +kernel
theorem d_X9_under_38 : dec m_X9_under 38 = .ok (.sipush 182, 3) := by decide +kernel
theorem d_X9_under_41 : dec m_X9_under 41 = .ok (.iaload, 1) := by decide +kernel
theorem d_X9_under_42 : dec m_X9_under 42 = .ok (.istore 4, 2) := by decide +kernel
theorem d_X9_under_44 : dec m_X9_under 44 = .ok (.aload_n 0, 1) := by decide +kernel
theorem d_X9_under_45 : dec m_X9_under 45 = .ok (.getfield 7, 3) := by decide +kernel
theorem d_X9_under_48 : dec m_X9_under 48 = .ok (.sipush 182, 3) := by decide +kernel
theorem d_X9_under_51 : dec m_X9_under 51 = .ok (.iload_n 2, 1) := by decide +kernel
theorem d_X9_under_52 : dec m_X9_under 52 = .ok (.iastore, 1) := by decide +kernel
theorem d_X9_under_53 : dec m_X9_under 53 = .ok (.aload_n 0, 1) := by decide +kernel
theorem d_X9_under_54 : dec m_X9_under 54 = .ok (.iload_n 1, 1) := by decide +kernel
theorem d_X9_under_55 : dec m_X9_under 55 = .ok (.iload_n 3, 1) := by decide +kernel
theorem d_X9_under_56 : dec m_X9_under 56 = .ok (.ifCond .ne 7, 3) := by decide +kernel
theorem d_X9_under_59 : dec m_X9_under 59 = .ok (.iconst 2, 1) := by decide +kernel
theorem d_X9_under_60 : dec m_X9_under 60 = .ok (.goto 14, 3) := by decide +kernel
theorem d_X9_under_63 : dec m_X9_under 63 = .ok (.iload_n 3, 1) := by decide +kernel
theorem d_X9_under_64 : dec m_X9_under 64 = .ok (.iconst 1, 1) := by decide +kernel
theorem d_X9_under_65 : dec m_X9_under 65 = .ok (.if_icmp .ne 7, 3) := by decide +kernel
theorem d_X9_under_68 : dec m_X9_under 68 = .ok (.iconst 5, 1) := by decide +kernel
theorem d_X9_under_69 : dec m_X9_under 69 = .ok (.goto 5, 3) := by decide +kernel
theorem d_X9_under_72 : dec m_X9_under 72 = .ok (.bipush 6, 2) := by decide +kernel
theorem d_X9_under_74 : dec m_X9_under 74 = .ok (.invokevirtual 263, 3) := by decide +kernel
theorem d_X9_under_77 : dec m_X9_under 77 = .ok (.istore 5, 2) := by decide +kernel
theorem d_X9_under_79 : dec m_X9_under 79 = .ok (.aload_n 0, 1) := by decide +kernel
theorem d_X9_under_80 : dec m_X9_under 80 = .ok (.getfield 7, 3) := by decide +kernel
theorem d_X9_under_83 : dec m_X9_under 83 = .ok (.sipush 182, 3) := by decide +kernel
theorem d_X9_under_86 : dec m_X9_under 86 = .ok (.iload 4, 2) := by decide +kernel
theorem d_X9_under_88 : dec m_X9_under 88 = .ok (.iastore, 1) := by decide +kernel
theorem d_X9_under_89 : dec m_X9_under 89 = .ok (.iload 5, 2) := by decide +kernel
theorem d_X9_under_91 : dec m_X9_under 91 = .ok (.ireturn, 1) := by decide +kernel
theorem d_X9_feeing_0 : dec m_X9_feeing 0 = .ok (.iload_n 1, 1) := by decide +kernel
theorem d_X9_feeing_1 : dec m_X9_feeing 1 = .ok (.invokestatic 195, 3) := by decide +kernel
theorem d_X9_feeing_4 : dec m_X9_feeing 4 = .ok (.ifCond .eq 25, 3) := by decide +kernel
theorem d_X9_feeing_7 : dec m_X9_feeing 7 = .ok (.iload_n 2, 1) := by decide +kernel
theorem d_X9_feeing_8 : dec m_X9_feeing 8 = .ok (.i2l, 1) := by decide +kernel
theorem d_X9_feeing_9 : dec m_X9_feeing 9 = .ok (.lconst 0, 1) := by decide +kernel
theorem d_X9_feeing_10 : dec m_X9_feeing 10 = .ok (.ldc2_w 209, 3) := by decide +kernel
theorem d_X9_feeing_13 : dec m_X9_feeing 13 = .ok (.invokestatic 82, 3) := by decide +kernel
theorem d_X9_feeing_16 : dec m_X9_feeing 16 = .ok (.ifCond .eq 13, 3) := by decide +kernel
theorem d_X9_feeing_19 : dec m_X9_feeing 19 = .ok (.iload_n 3, 1) := by decide +kernel
theorem d_X9_feeing_20 : dec m_X9_feeing 20 = .ok (.i2l, 1) := by decide +kernel
theorem d_X9_feeing_21 : dec m_X9_feeing 21 = .ok (.lconst 0, 1) := by decide +kernel
theorem d_X9_feeing_22 : dec m_X9_feeing 22 = .ok (.lconst 1, 1) := by decide +kernel
theorem d_X9_feeing_23 : dec m_X9_feeing 23 = .ok (.invokestatic 82, 3) := by decide +kernel
theorem d_X9_feeing_26 : dec m_X9_feeing 26 = .ok (.ifCond .ne 6, 3) := by decide +kernel
theorem d_X9_feeing_29 : dec m_X9_feeing 29 = .ok (.ldc 192, 2) := by decide +kernel
theorem d_X9_feeing_31 : dec m_X9_feeing 31 = .ok (.ireturn, 1) := by decide +kernel
theorem d_X9_feeing_32 : dec m_X9_feeing 32 = .ok (.aload_n 0, 1) := by decide +kernel
theorem d_X9_feeing_33 : dec m_X9_feeing 33 = .ok (.getfield 7, 3) := by decide +kernel
theorem d_X9_feeing_36 : dec m_X9_feeing 36 = .ok (.sipush 181, 3) := by decide +kernel
theorem d_X9_feeing_39 : dec m_X9_feeing 39 = .ok (.iaload, 1) := by decide +kernel
theorem d_X9_feeing_40 : dec m_X9_feeing 40 = .ok (.istore 4, 2) := by decide +kernel
theorem d_X9_feeing_42 : dec m_X9_feeing 42 = .ok (.aload_n 0, 1) := by decide +kernel
theorem d_X9_feeing_43 : dec m_X9_feeing 43 = .ok (.getfield 7, 3) := by decide +kernel
theorem d_X9_feeing_46 : dec m_X9_feeing 46 = .ok (.sipush 181, 3) := by decide +kernel
theorem d_X9_feeing_49 : dec m_X9_feeing 49 = .ok (.iload_n 2, 1) := by decide +kernel
theorem d_X9_feeing_50 : dec m_X9_feeing 50 = .ok (.iastore, 1) := by decide +kernel
theorem d_X9_feeing_51 : dec m_X9_feeing 51 = .ok (.aload_n 0, 1) := by decide +kernel
theorem d_X9_feeing_52 : dec m_X9_feeing 52 = .ok (.iload_n 1, 1) := by decide +kernel
theorem d_X9_feeing_53 : dec m_X9_feeing 53 = .ok (.iload_n 3, 1) := by decide +kernel
theorem d_X9_feeing_54 : dec m_X9_feeing 54 = .ok (.ifCond .ne 7, 3) := by decide +kernel
theorem d_X9_feeing_57 : dec m_X9_feeing 57 = .ok (.iconst 0, 1) := by decide +kernel
theorem d_X9_feeing_58 : dec m_X9_feeing 58 = .ok (.goto 4, 3) := by decide +kernel
theorem d_X9_feeing_61 : dec m_X9_feeing 61 = .ok (.iconst 5, 1) := by decide +kernel
theorem d_X9_feeing_62 : dec m_X9_feeing 62 = .ok (.invokevirtual 263, 3) := by decide +kernel
theorem d_X9_feeing_65 : dec m_X9_feeing 65 = .ok (.istore 5, 2) := by decide +kernel
theorem d_X9_feeing_67 : dec m_X9_feeing 67 = .ok (.aload_n 0, 1) := by decide +kernel
theorem d_X9_feeing_68 : dec m_X9_feeing 68 = .ok (.getfield 7, 3) := by decide +kernel
theorem d_X9_feeing_71 : dec m_X9_feeing 71 = .ok (.sipush 181, 3) := by decide +kernel
theorem d_X9_feeing_74 : dec m_X9_feeing 74 = .ok (.iload 4, 2) := by decide +kernel
theorem d_X9_feeing_76 : dec m_X9_feeing 76 = .ok (.iastore, 1) := by decide +kernel
theorem d_X9_feeing_77 : dec m_X9_feeing 77 = .ok (.iload 5, 2) := by decide +kernel
theorem d_X9_feeing_79 : dec m_X9_feeing 79 = .ok (.ireturn, 1) := by decide +kernel
theorem d_X9_bestFee_0 : dec m_X9_bestFee 0 = .ok (.iload_n 1, 1) := by decide +kernel
theorem d_X9_bestFee_1 : dec m_X9_bestFee 1 = .ok (.i2l, 1) := by decide +kernel
theorem d_X9_bestFee_2 : dec m_X9_bestFee 2 = .ok (.lconst 0, 1) := by decide +kernel
theorem d_X9_bestFee_3 : dec m_X9_bestFee 3 = .ok (.lconst 1, 1) := by decide +kernel
theorem d_X9_bestFee_4 : dec m_X9_bestFee 4 = .ok (.invokestatic 82, 3) := by decide +kernel
theorem d_X9_bestFee_7 : dec m_X9_bestFee 7 = .ok (.ifCond .ne 5, 3) := by decide +kernel
theorem d_X9_bestFee_10 : dec m_X9_bestFee 10 = .ok (.iconst (-1), 1) := by decide +kernel
theorem d_X9_bestFee_11 : dec m_X9_bestFee 11 = .ok (.ireturn, 1) := by decide +kernel
theorem d_X9_bestFee_12 : dec m_X9_bestFee 12 = .ok (.aload_n 0, 1) := by decide +kernel
theorem d_X9_bestFee_13 : dec m_X9_bestFee 13 = .ok (.getfield 7, 3) := by decide +kernel
theorem d_X9_bestFee_16 : dec m_X9_bestFee 16 = .ok (.sipush 181, 3) := by decide +kernel
theorem d_X9_bestFee_19 : dec m_X9_bestFee 19 = .ok (.iaload, 1) := by decide +kernel
theorem d_X9_bestFee_20 : dec m_X9_bestFee 20 = .ok (.istore_n 2, 1) := by decide +kernel
theorem d_X9_bestFee_21 : dec m_X9_bestFee 21 = .ok (.iconst (-1), 1) := by decide +kernel
theorem d_X9_bestFee_22 : dec m_X9_bestFee 22 = .ok (.istore_n 3, 1) := by decide +kernel
theorem d_X9_bestFee_23 : dec m_X9_bestFee 23 = .ok (.iconst 0, 1) := by decide +kernel
theorem d_X9_bestFee_24 : dec m_X9_bestFee 24 = .ok (.istore 4, 2) := by decide +kernel
theorem d_X9_bestFee_26 : dec m_X9_bestFee 26 = .ok (.iconst 0, 1) := by decide +kernel
theorem d_X9_bestFee_27 : dec m_X9_bestFee 27 = .ok (.istore 5, 2) := by decide +kernel
theorem d_X9_bestFee_29 : dec m_X9_bestFee 29 = .ok (.iload 5, 2) := by decide +kernel
theorem d_X9_bestFee_31 : dec m_X9_bestFee 31 = .ok (.sipush 500, 3) := by decide +kernel
theorem d_X9_bestFee_34 : dec m_X9_bestFee 34 = .ok (.if_icmp .gt 70, 3) := by decide +kernel
theorem d_X9_bestFee_37 : dec m_X9_bestFee 37 = .ok (.aload_n 0, 1) := by decide +kernel
theorem d_X9_bestFee_38 : dec m_X9_bestFee 38 = .ok (.getfield 7, 3) := by decide +kernel
theorem d_X9_bestFee_41 : dec m_X9_bestFee 41 = .ok (.sipush 181, 3) := by decide +kernel
theorem d_X9_bestFee_44 : dec m_X9_bestFee 44 = .ok (.iload 5, 2) := by decide +kernel
theorem d_X9_bestFee_46 : dec m_X9_bestFee 46 = .ok (.iastore, 1) := by decide +kernel
theorem d_X9_bestFee_47 : dec m_X9_bestFee 47 = .ok (.iconst 0, 1) := by decide +kernel
theorem d_X9_bestFee_48 : dec m_X9_bestFee 48 = .ok (.istore 6, 2) := by decide +kernel
theorem d_X9_bestFee_50 : dec m_X9_bestFee 50 = .ok (.iconst 0, 1) := by decide +kernel
theorem d_X9_bestFee_51 : dec m_X9_bestFee 51 = .ok (.istore 7, 2) := by decide +kernel
theorem d_X9_bestFee_53 : dec m_X9_bestFee 53 = .ok (.iload 7, 2) := by decide +kernel
theorem d_X9_bestFee_55 : dec m_X9_bestFee 55 = .ok (.iconst 4, 1) := by decide +kernel
theorem d_X9_bestFee_56 : dec m_X9_bestFee 56 = .ok (.if_icmp .ge 20, 3) := by decide +kernel
theorem d_X9_bestFee_59 : dec m_X9_bestFee 59 = .ok (.iload 6, 2) := by decide +kernel
theorem d_X9_bestFee_61 : dec m_X9_bestFee 61 = .ok (.aload_n 0, 1) := by decide +kernel
theorem d_X9_bestFee_62 : dec m_X9_bestFee 62 = .ok (.iload 7, 2) := by decide +kernel
theorem d_X9_bestFee_64 : dec m_X9_bestFee 64 = .ok (.invokevirtual 266, 3) := by decide +kernel
theorem d_X9_bestFee_67 : dec m_X9_bestFee 67 = .ok (.iadd, 1) := by decide +kernel
theorem d_X9_bestFee_68 : dec m_X9_bestFee 68 = .ok (.istore 6, 2) := by decide +kernel
theorem d_X9_bestFee_70 : dec m_X9_bestFee 70 = .ok (.iinc 7 1, 3) := by decide +kernel
theorem d_X9_bestFee_73 : dec m_X9_bestFee 73 = .ok (.goto (-20), 3) := by decide +kernel
theorem d_X9_bestFee_76 : dec m_X9_bestFee 76 = .ok (.iload_n 3, 1) := by decide +kernel
theorem d_X9_bestFee_77 : dec m_X9_bestFee 77 = .ok (.iconst (-1), 1) := by decide +kernel
theorem d_X9_bestFee_78 : dec m_X9_bestFee 78 = .ok (.if_icmp .eq 13, 3) := by decide +kernel
theorem d_X9_bestFee_81 : dec m_X9_bestFee 81 = .ok (.iload 6, 2) := by decide +kernel
theorem d_X9_bestFee_83 : dec m_X9_bestFee 83 = .ok (.iload 4, 2) := by decide +kernel
theorem d_X9_bestFee_85 : dec m_X9_bestFee 85 = .ok (.if_icmp .gt 6, 3) := by decide +kernel
theorem d_X9_bestFee_88 : dec m_X9_bestFee 88 = .ok (.goto 10, 3) := by decide +kernel
theorem d_X9_bestFee_91 : dec m_X9_bestFee 91 = .ok (.iload 5, 2) := by decide +kernel
theorem d_X9_bestFee_93 : dec m_X9_bestFee 93 = .ok (.istore_n 3, 1) := by decide +kernel
theorem d_X9_bestFee_94 : dec m_X9_bestFee 94 = .ok (.iload 6, 2) := by decide +kernel
theorem d_X9_bestFee_96 : dec m_X9_bestFee 96 = .ok (.istore 4, 2) := by decide +kernel
theorem d_X9_bestFee_98 : dec m_X9_bestFee 98 = .ok (.iinc 5 1, 3) := by decide +kernel
theorem d_X9_bestFee_101 : dec m_X9_bestFee 101 = .ok (.goto (-72), 3) := by decide +kernel
theorem d_X9_bestFee_104 : dec m_X9_bestFee 104 = .ok (.aload_n 0, 1) := by decide +kernel
theorem d_X9_bestFee_105 : dec m_X9_bestFee 105 = .ok (.getfield 7, 3) := by decide +kernel
theorem d_X9_bestFee_108 : dec m_X9_bestFee 108 = .ok (.sipush 181, 3) := by decide +kernel
theorem d_X9_bestFee_111 : dec m_X9_bestFee 111 = .ok (.iload_n 2, 1) := by decide +kernel
theorem d_X9_bestFee_112 : dec m_X9_bestFee 112 = .ok (.iastore, 1) := by decide +kernel
theorem d_X9_bestFee_113 : dec m_X9_bestFee 113 = .ok (.iload_n 1, 1) := by decide +kernel
theorem d_X9_bestFee_114 : dec m_X9_bestFee 114 = .ok (.ifCond .ne 7, 3) := by decide +kernel
theorem d_X9_bestFee_117 : dec m_X9_bestFee 117 = .ok (.iload_n 3, 1) := by decide +kernel
theorem d_X9_bestFee_118 : dec m_X9_bestFee 118 = .ok (.goto 5, 3) := by decide +kernel
theorem d_X9_bestFee_121 : dec m_X9_bestFee 121 = .ok (.iload 4, 2) := by decide +kernel
theorem d_X9_bestFee_123 : dec m_X9_bestFee 123 = .ok (.ireturn, 1) := by decide +kernel
theorem d_X9_laysSums_0 : dec m_X9_laysSums 0 = .ok (.aload_n 0, 1) := by decide +kernel
theorem d_X9_laysSums_1 : dec m_X9_laysSums 1 = .ok (.iconst 1, 1) := by decide +kernel
theorem d_X9_laysSums_2 : dec m_X9_laysSums 2 = .ok (.iload_n 1, 1) := by decide +kernel
theorem d_X9_laysSums_3 : dec m_X9_laysSums 3 = .ok (.ishl, 1) := by decide +kernel
theorem d_X9_laysSums_4 : dec m_X9_laysSums 4 = .ok (.invokevirtual 139, 3) := by decide +kernel
theorem d_X9_laysSums_7 : dec m_X9_laysSums 7 = .ok (.aload_n 0, 1) := by decide +kernel
theorem d_X9_laysSums_8 : dec m_X9_laysSums 8 = .ok (.getfield 59, 3) := by decide +kernel
theorem d_X9_laysSums_11 : dec m_X9_laysSums 11 = .ok (.iconst 0, 1) := by decide +kernel
theorem d_X9_laysSums_12 : dec m_X9_laysSums 12 = .ok (.iconst 0, 1) := by decide +kernel
theorem d_X9_laysSums_13 : dec m_X9_laysSums 13 = .ok (.iastore, 1) := by decide +kernel
theorem d_X9_laysSums_14 : dec m_X9_laysSums 14 = .ok (.aload_n 0, 1) := by decide +kernel
theorem d_X9_laysSums_15 : dec m_X9_laysSums 15 = .ok (.getfield 62, 3) := by decide +kernel
theorem d_X9_laysSums_18 : dec m_X9_laysSums 18 = .ok (.iconst 0, 1) := by decide +kernel
theorem d_X9_laysSums_19 : dec m_X9_laysSums 19 = .ok (.iconst 0, 1) := by decide +kernel
theorem d_X9_laysSums_20 : dec m_X9_laysSums 20 = .ok (.iastore, 1) := by decide +kernel
theorem d_X9_laysSums_21 : dec m_X9_laysSums 21 = .ok (.iconst 0, 1) := by decide +kernel
theorem d_X9_laysSums_22 : dec m_X9_laysSums 22 = .ok (.istore_n 2, 1) := by decide +kernel
theorem d_X9_laysSums_23 : dec m_X9_laysSums 23 = .ok (.iload_n 2, 1) := by decide +kernel
theorem d_X9_laysSums_24 : dec m_X9_laysSums 24 = .ok (.aload_n 0, 1) := by decide +kernel
theorem d_X9_laysSums_25 : dec m_X9_laysSums 25 = .ok (.getfield 113, 3) := by decide +kernel
theorem d_X9_laysSums_28 : dec m_X9_laysSums 28 = .ok (.if_icmp .ge 30, 3) := by decide +kernel
theorem d_X9_laysSums_31 : dec m_X9_laysSums 31 = .ok (.aload_n 0, 1) := by decide +kernel
theorem d_X9_laysSums_32 : dec m_X9_laysSums 32 = .ok (.getfield 59, 3) := by decide +kernel
theorem d_X9_laysSums_35 : dec m_X9_laysSums 35 = .ok (.iload_n 2, 1) := by decide +kernel
theorem d_X9_laysSums_36 : dec m_X9_laysSums 36 = .ok (.iconst 1, 1) := by decide +kernel
theorem d_X9_laysSums_37 : dec m_X9_laysSums 37 = .ok (.iadd, 1) := by decide +kernel
theorem d_X9_laysSums_38 : dec m_X9_laysSums 38 = .ok (.aload_n 0, 1) := by decide +kernel
theorem d_X9_laysSums_39 : dec m_X9_laysSums 39 = .ok (.getfield 59, 3) := by decide +kernel
theorem d_X9_laysSums_42 : dec m_X9_laysSums 42 = .ok (.iload_n 2, 1) := by decide +kernel
theorem d_X9_laysSums_43 : dec m_X9_laysSums 43 = .ok (.iaload, 1) := by decide +kernel
theorem d_X9_laysSums_44 : dec m_X9_laysSums 44 = .ok (.aload_n 0, 1) := by decide +kernel
theorem d_X9_laysSums_45 : dec m_X9_laysSums 45 = .ok (.getfield 29, 3) := by decide +kernel
theorem d_X9_laysSums_48 : dec m_X9_laysSums 48 = .ok (.iload_n 2, 1) := by decide +kernel
theorem d_X9_laysSums_49 : dec m_X9_laysSums 49 = .ok (.iaload, 1) := by decide +kernel
theorem d_X9_laysSums_50 : dec m_X9_laysSums 50 = .ok (.iadd, 1) := by decide +kernel
theorem d_X9_laysSums_51 : dec m_X9_laysSums 51 = .ok (.iastore, 1) := by decide +kernel
theorem d_X9_laysSums_52 : dec m_X9_laysSums 52 = .ok (.iinc 2 1, 3) := by decide +kernel
theorem d_X9_laysSums_55 : dec m_X9_laysSums 55 = .ok (.goto (-32), 3) := by decide +kernel
theorem d_X9_laysSums_58 : dec m_X9_laysSums 58 = .ok (.iconst 0, 1) := by decide +kernel
theorem d_X9_laysSums_59 : dec m_X9_laysSums 59 = .ok (.istore_n 2, 1) := by decide +kernel
theorem d_X9_laysSums_60 : dec m_X9_laysSums 60 = .ok (.iload_n 2, 1) := by decide +kernel
theorem d_X9_laysSums_61 : dec m_X9_laysSums 61 = .ok (.aload_n 0, 1) := by decide +kernel
theorem d_X9_laysSums_62 : dec m_X9_laysSums 62 = .ok (.getfield 116, 3) := by decide +kernel
theorem d_X9_laysSums_65 : dec m_X9_laysSums 65 = .ok (.if_icmp .ge 30, 3) := by decide +kernel
theorem d_X9_laysSums_68 : dec m_X9_laysSums 68 = .ok (.aload_n 0, 1) := by decide +kernel
theorem d_X9_laysSums_69 : dec m_X9_laysSums 69 = .ok (.getfield 62, 3) := by decide +kernel
theorem d_X9_laysSums_72 : dec m_X9_laysSums 72 = .ok (.iload_n 2, 1) := by decide +kernel
theorem d_X9_laysSums_73 : dec m_X9_laysSums 73 = .ok (.iconst 1, 1) := by decide +kernel
theorem d_X9_laysSums_74 : dec m_X9_laysSums 74 = .ok (.iadd, 1) := by decide +kernel
theorem d_X9_laysSums_75 : dec m_X9_laysSums 75 = .ok (.aload_n 0, 1) := by decide +kernel
theorem d_X9_laysSums_76 : dec m_X9_laysSums 76 = .ok (.getfield 62, 3) := by decide +kernel
theorem d_X9_laysSums_79 : dec m_X9_laysSums 79 = .ok (.iload_n 2, 1) := by decide +kernel
theorem d_X9_laysSums_80 : dec m_X9_laysSums 80 = .ok (.iaload, 1) := by decide +kernel
theorem d_X9_laysSums_81 : dec m_X9_laysSums 81 = .ok (.aload_n 0, 1) := by decide +kernel
theorem d_X9_laysSums_82 : dec m_X9_laysSums 82 = .ok (.getfield 38, 3) := by decide +kernel
theorem d_X9_laysSums_85 : dec m_X9_laysSums 85 = .ok (.iload_n 2, 1) := by decide +kernel
theorem d_X9_laysSums_86 : dec m_X9_laysSums 86 = .ok (.iaload, 1) := by decide +kernel
theorem d_X9_laysSums_87 : dec m_X9_laysSums 87 = .ok (.iadd, 1) := by decide +kernel
theorem d_X9_laysSums_88 : dec m_X9_laysSums 88 = .ok (.iastore, 1) := by decide +kernel
theorem d_X9_laysSums_89 : dec m_X9_laysSums 89 = .ok (.iinc 2 1, 3) := by decide +kernel
theorem d_X9_laysSums_92 : dec m_X9_laysSums 92 = .ok (.goto (-32), 3) := by decide +kernel
theorem d_X9_laysSums_95 : dec m_X9_laysSums 95 = .ok (.return_, 1) := by decide +kernel
theorem d_X9_tries_0 : dec m_X9_tries 0 = .ok (.iload_n 1, 1) := by decide +kernel
theorem d_X9_tries_1 : dec m_X9_tries 1 = .ok (.iload_n 3, 1) := by decide +kernel
theorem d_X9_tries_2 : dec m_X9_tries 2 = .ok (.iadd, 1) := by decide +kernel
theorem d_X9_tries_3 : dec m_X9_tries 3 = .ok (.iload_n 2, 1) := by decide +kernel
theorem d_X9_tries_4 : dec m_X9_tries 4 = .ok (.isub, 1) := by decide +kernel
theorem d_X9_tries_5 : dec m_X9_tries 5 = .ok (.istore 4, 2) := by decide +kernel
theorem d_X9_tries_7 : dec m_X9_tries 7 = .ok (.aload_n 0, 1) := by decide +kernel
theorem d_X9_tries_8 : dec m_X9_tries 8 = .ok (.getfield 47, 3) := by decide +kernel
theorem d_X9_tries_11 : dec m_X9_tries 11 = .ok (.iload_n 1, 1) := by decide +kernel
theorem d_X9_tries_12 : dec m_X9_tries 12 = .ok (.iaload, 1) := by decide +kernel
theorem d_X9_tries_13 : dec m_X9_tries 13 = .ok (.aload_n 0, 1) := by decide +kernel
theorem d_X9_tries_14 : dec m_X9_tries 14 = .ok (.getfield 59, 3) := by decide +kernel
theorem d_X9_tries_17 : dec m_X9_tries 17 = .ok (.iload_n 2, 1) := by decide +kernel
theorem d_X9_tries_18 : dec m_X9_tries 18 = .ok (.iaload, 1) := by decide +kernel
theorem d_X9_tries_19 : dec m_X9_tries 19 = .ok (.iadd, 1) := by decide +kernel
theorem d_X9_tries_20 : dec m_X9_tries 20 = .ok (.aload_n 0, 1) := by decide +kernel
theorem d_X9_tries_21 : dec m_X9_tries 21 = .ok (.getfield 62, 3) := by decide +kernel
theorem d_X9_tries_24 : dec m_X9_tries 24 = .ok (.iload_n 3, 1) := by decide +kernel
theorem d_X9_tries_25 : dec m_X9_tries 25 = .ok (.iaload, 1) := by decide +kernel
theorem d_X9_tries_26 : dec m_X9_tries 26 = .ok (.isub, 1) := by decide +kernel
theorem d_X9_tries_27 : dec m_X9_tries 27 = .ok (.istore 5, 2) := by decide +kernel
theorem d_X9_tries_29 : dec m_X9_tries 29 = .ok (.aload_n 0, 1) := by decide +kernel
theorem d_X9_tries_30 : dec m_X9_tries 30 = .ok (.getfield 50, 3) := by decide +kernel
theorem d_X9_tries_33 : dec m_X9_tries 33 = .ok (.iload_n 1, 1) := by decide +kernel
theorem d_X9_tries_34 : dec m_X9_tries 34 = .ok (.iaload, 1) := by decide +kernel
theorem d_X9_tries_35 : dec m_X9_tries 35 = .ok (.iload_n 2, 1) := by decide +kernel
theorem d_X9_tries_36 : dec m_X9_tries 36 = .ok (.iadd, 1) := by decide +kernel
theorem d_X9_tries_37 : dec m_X9_tries 37 = .ok (.istore 6, 2) := by decide +kernel
theorem d_X9_tries_39 : dec m_X9_tries 39 = .ok (.aload_n 0, 1) := by decide +kernel
theorem d_X9_tries_40 : dec m_X9_tries 40 = .ok (.getfield 56, 3) := by decide +kernel
theorem d_X9_tries_43 : dec m_X9_tries 43 = .ok (.iload 4, 2) := by decide +kernel
theorem d_X9_tries_45 : dec m_X9_tries 45 = .ok (.iaload, 1) := by decide +kernel
theorem d_X9_tries_46 : dec m_X9_tries 46 = .ok (.iconst (-1), 1) := by decide +kernel
theorem d_X9_tries_47 : dec m_X9_tries 47 = .ok (.if_icmp .eq 40, 3) := by decide +kernel
theorem d_X9_tries_50 : dec m_X9_tries 50 = .ok (.iload 5, 2) := by decide +kernel
theorem d_X9_tries_52 : dec m_X9_tries 52 = .ok (.aload_n 0, 1) := by decide +kernel
theorem d_X9_tries_53 : dec m_X9_tries 53 = .ok (.getfield 53, 3) := by decide +kernel
theorem d_X9_tries_56 : dec m_X9_tries 56 = .ok (.iload 4, 2) := by decide +kernel
theorem d_X9_tries_58 : dec m_X9_tries 58 = .ok (.iaload, 1) := by decide +kernel
theorem d_X9_tries_59 : dec m_X9_tries 59 = .ok (.if_icmp .lt 27, 3) := by decide +kernel
theorem d_X9_tries_62 : dec m_X9_tries 62 = .ok (.iload 5, 2) := by decide +kernel
theorem d_X9_tries_64 : dec m_X9_tries 64 = .ok (.aload_n 0, 1) := by decide +kernel
theorem d_X9_tries_65 : dec m_X9_tries 65 = .ok (.getfield 53, 3) := by decide +kernel
theorem d_X9_tries_68 : dec m_X9_tries 68 = .ok (.iload 4, 2) := by decide +kernel
theorem d_X9_tries_70 : dec m_X9_tries 70 = .ok (.iaload, 1) := by decide +kernel
theorem d_X9_tries_71 : dec m_X9_tries 71 = .ok (.if_icmp .ne 16, 3) := by decide +kernel
theorem d_X9_tries_74 : dec m_X9_tries 74 = .ok (.iload 6, 2) := by decide +kernel
theorem d_X9_tries_76 : dec m_X9_tries 76 = .ok (.aload_n 0, 1) := by decide +kernel
theorem d_X9_tries_77 : dec m_X9_tries 77 = .ok (.getfield 56, 3) := by decide +kernel
theorem d_X9_tries_80 : dec m_X9_tries 80 = .ok (.iload 4, 2) := by decide +kernel
theorem d_X9_tries_82 : dec m_X9_tries 82 = .ok (.iaload, 1) := by decide +kernel
theorem d_X9_tries_83 : dec m_X9_tries 83 = .ok (.if_icmp .lt 4, 3) := by decide +kernel
theorem d_X9_tries_86 : dec m_X9_tries 86 = .ok (.return_, 1) := by decide +kernel
theorem d_X9_tries_87 : dec m_X9_tries 87 = .ok (.aload_n 0, 1) := by decide +kernel
theorem d_X9_tries_88 : dec m_X9_tries 88 = .ok (.getfield 53, 3) := by decide +kernel
theorem d_X9_tries_91 : dec m_X9_tries 91 = .ok (.iload 4, 2) := by decide +kernel
theorem d_X9_tries_93 : dec m_X9_tries 93 = .ok (.iload 5, 2) := by decide +kernel
theorem d_X9_tries_95 : dec m_X9_tries 95 = .ok (.iastore, 1) := by decide +kernel
theorem d_X9_tries_96 : dec m_X9_tries 96 = .ok (.aload_n 0, 1) := by decide +kernel
theorem d_X9_tries_97 : dec m_X9_tries 97 = .ok (.getfield 56, 3) := by decide +kernel
theorem d_X9_tries_100 : dec m_X9_tries 100 = .ok (.iload 4, 2) := by decide +kernel
theorem d_X9_tries_102 : dec m_X9_tries 102 = .ok (.iload 6, 2) := by decide +kernel
theorem d_X9_tries_104 : dec m_X9_tries 104 = .ok (.iastore, 1) := by decide +kernel
theorem d_X9_tries_105 : dec m_X9_tries 105 = .ok (.return_, 1) := by decide +kernel
theorem d_X9_goesOnBy_0 : dec m_X9_goesOnBy 0 = .ok (.aload_n 0, 1) := by decide +kernel
theorem d_X9_goesOnBy_1 : dec m_X9_goesOnBy 1 = .ok (.iload_n 1, 1) := by decide +kernel
theorem d_X9_goesOnBy_2 : dec m_X9_goesOnBy 2 = .ok (.invokevirtual 269, 3) := by decide +kernel
theorem d_X9_goesOnBy_5 : dec m_X9_goesOnBy 5 = .ok (.iconst 0, 1) := by decide +kernel
theorem d_X9_goesOnBy_6 : dec m_X9_goesOnBy 6 = .ok (.istore_n 2, 1) := by decide +kernel
theorem d_X9_goesOnBy_7 : dec m_X9_goesOnBy 7 = .ok (.iload_n 2, 1) := by decide +kernel
theorem d_X9_goesOnBy_8 : dec m_X9_goesOnBy 8 = .ok (.bipush 80, 2) := by decide +kernel
theorem d_X9_goesOnBy_10 : dec m_X9_goesOnBy 10 = .ok (.if_icmp .gt 16, 3) := by decide +kernel
theorem d_X9_goesOnBy_13 : dec m_X9_goesOnBy 13 = .ok (.aload_n 0, 1) := by decide +kernel
theorem d_X9_goesOnBy_14 : dec m_X9_goesOnBy 14 = .ok (.getfield 56, 3) := by decide +kernel
theorem d_X9_goesOnBy_17 : dec m_X9_goesOnBy 17 = .ok (.iload_n 2, 1) := by decide +kernel
theorem d_X9_goesOnBy_18 : dec m_X9_goesOnBy 18 = .ok (.iconst (-1), 1) := by decide +kernel
theorem d_X9_goesOnBy_19 : dec m_X9_goesOnBy 19 = .ok (.iastore, 1) := by decide +kernel
theorem d_X9_goesOnBy_20 : dec m_X9_goesOnBy 20 = .ok (.iinc 2 1, 3) := by decide +kernel
theorem d_X9_goesOnBy_23 : dec m_X9_goesOnBy 23 = .ok (.goto (-16), 3) := by decide +kernel
theorem d_X9_goesOnBy_26 : dec m_X9_goesOnBy 26 = .ok (.iconst 0, 1) := by decide +kernel
theorem d_X9_goesOnBy_27 : dec m_X9_goesOnBy 27 = .ok (.istore_n 2, 1) := by decide +kernel
theorem d_X9_goesOnBy_28 : dec m_X9_goesOnBy 28 = .ok (.iload_n 2, 1) := by decide +kernel
theorem d_X9_goesOnBy_29 : dec m_X9_goesOnBy 29 = .ok (.bipush 80, 2) := by decide +kernel
theorem d_X9_goesOnBy_31 : dec m_X9_goesOnBy 31 = .ok (.if_icmp .gt 80, 3) := by decide +kernel
theorem d_X9_goesOnBy_34 : dec m_X9_goesOnBy 34 = .ok (.aload_n 0, 1) := by decide +kernel
theorem d_X9_goesOnBy_35 : dec m_X9_goesOnBy 35 = .ok (.getfield 50, 3) := by decide +kernel
theorem d_X9_goesOnBy_38 : dec m_X9_goesOnBy 38 = .ok (.iload_n 2, 1) := by decide +kernel
theorem d_X9_goesOnBy_39 : dec m_X9_goesOnBy 39 = .ok (.iaload, 1) := by decide +kernel
theorem d_X9_goesOnBy_40 : dec m_X9_goesOnBy 40 = .ok (.iconst (-1), 1) := by decide +kernel
theorem d_X9_goesOnBy_41 : dec m_X9_goesOnBy 41 = .ok (.if_icmp .ne 6, 3) := by decide +kernel
theorem d_X9_goesOnBy_44 : dec m_X9_goesOnBy 44 = .ok (.goto 61, 3) := by decide +kernel
theorem d_X9_goesOnBy_47 : dec m_X9_goesOnBy 47 = .ok (.iconst 0, 1) := by decide +kernel
theorem d_X9_goesOnBy_48 : dec m_X9_goesOnBy 48 = .ok (.istore_n 3, 1) := by decide +kernel
theorem d_X9_goesOnBy_49 : dec m_X9_goesOnBy 49 = .ok (.iload_n 3, 1) := by decide +kernel
theorem d_X9_goesOnBy_50 : dec m_X9_goesOnBy 50 = .ok (.aload_n 0, 1) := by decide +kernel
theorem d_X9_goesOnBy_51 : dec m_X9_goesOnBy 51 = .ok (.getfield 116, 3) := by decide +kernel
theorem d_X9_goesOnBy_54 : dec m_X9_goesOnBy 54 = .ok (.if_icmp .gt 51, 3) := by decide +kernel
theorem d_X9_goesOnBy_57 : dec m_X9_goesOnBy 57 = .ok (.iload_n 2, 1) := by decide +kernel
theorem d_X9_goesOnBy_58 : dec m_X9_goesOnBy 58 = .ok (.iload_n 3, 1) := by decide +kernel
theorem d_X9_goesOnBy_59 : dec m_X9_goesOnBy 59 = .ok (.iadd, 1) := by decide +kernel
theorem d_X9_goesOnBy_60 : dec m_X9_goesOnBy 60 = .ok (.bipush 80, 2) := by decide +kernel
theorem d_X9_goesOnBy_62 : dec m_X9_goesOnBy 62 = .ok (.if_icmp .gt 43, 3) := by decide +kernel
theorem d_X9_goesOnBy_65 : dec m_X9_goesOnBy 65 = .ok (.iconst 0, 1) := by decide +kernel
theorem d_X9_goesOnBy_66 : dec m_X9_goesOnBy 66 = .ok (.istore 4, 2) := by decide +kernel
theorem d_X9_goesOnBy_68 : dec m_X9_goesOnBy 68 = .ok (.iload 4, 2) := by decide +kernel
theorem d_X9_goesOnBy_70 : dec m_X9_goesOnBy 70 = .ok (.aload_n 0, 1) := by decide +kernel
theorem d_X9_goesOnBy_71 : dec m_X9_goesOnBy 71 = .ok (.getfield 113, 3) := by decide +kernel
theorem d_X9_goesOnBy_74 : dec m_X9_goesOnBy 74 = .ok (.if_icmp .gt 25, 3) := by decide +kernel
theorem d_X9_goesOnBy_77 : dec m_X9_goesOnBy 77 = .ok (.iload 4, 2) := by decide +kernel
theorem d_X9_goesOnBy_79 : dec m_X9_goesOnBy 79 = .ok (.iload_n 2, 1) := by decide +kernel
theorem d_X9_goesOnBy_80 : dec m_X9_goesOnBy 80 = .ok (.iload_n 3, 1) := by decide +kernel
theorem d_X9_goesOnBy_81 : dec m_X9_goesOnBy 81 = .ok (.iadd, 1) := by decide +kernel
theorem d_X9_goesOnBy_82 : dec m_X9_goesOnBy 82 = .ok (.if_icmp .gt 17, 3) := by decide +kernel
theorem d_X9_goesOnBy_85 : dec m_X9_goesOnBy 85 = .ok (.aload_n 0, 1) := by decide +kernel
theorem d_X9_goesOnBy_86 : dec m_X9_goesOnBy 86 = .ok (.iload_n 2, 1) := by decide +kernel
theorem d_X9_goesOnBy_87 : dec m_X9_goesOnBy 87 = .ok (.iload 4, 2) := by decide +kernel
theorem d_X9_goesOnBy_89 : dec m_X9_goesOnBy 89 = .ok (.iload_n 3, 1) := by decide +kernel
theorem d_X9_goesOnBy_90 : dec m_X9_goesOnBy 90 = .ok (.invokevirtual 272, 3) := by decide +kernel
theorem d_X9_goesOnBy_93 : dec m_X9_goesOnBy 93 = .ok (.iinc 4 1, 3) := by decide +kernel
theorem d_X9_goesOnBy_96 : dec m_X9_goesOnBy 96 = .ok (.goto (-28), 3) := by decide +kernel
theorem d_X9_goesOnBy_99 : dec m_X9_goesOnBy 99 = .ok (.iinc 3 1, 3) := by decide +kernel
theorem d_X9_goesOnBy_102 : dec m_X9_goesOnBy 102 = .ok (.goto (-53), 3) := by decide +kernel
theorem d_X9_goesOnBy_105 : dec m_X9_goesOnBy 105 = .ok (.iinc 2 1, 3) := by decide +kernel
theorem d_X9_goesOnBy_108 : dec m_X9_goesOnBy 108 = .ok (.goto (-80), 3) := by decide +kernel
theorem d_X9_goesOnBy_111 : dec m_X9_goesOnBy 111 = .ok (.iconst 0, 1) := by decide +kernel
theorem d_X9_goesOnBy_112 : dec m_X9_goesOnBy 112 = .ok (.istore_n 2, 1) := by decide +kernel
theorem d_X9_goesOnBy_113 : dec m_X9_goesOnBy 113 = .ok (.iload_n 2, 1) := by decide +kernel
theorem d_X9_goesOnBy_114 : dec m_X9_goesOnBy 114 = .ok (.bipush 80, 2) := by decide +kernel
theorem d_X9_goesOnBy_116 : dec m_X9_goesOnBy 116 = .ok (.if_icmp .gt 33, 3) := by decide +kernel
theorem d_X9_goesOnBy_119 : dec m_X9_goesOnBy 119 = .ok (.aload_n 0, 1) := by decide +kernel
theorem d_X9_goesOnBy_120 : dec m_X9_goesOnBy 120 = .ok (.getfield 47, 3) := by decide +kernel
theorem d_X9_goesOnBy_123 : dec m_X9_goesOnBy 123 = .ok (.iload_n 2, 1) := by decide +kernel
theorem d_X9_goesOnBy_124 : dec m_X9_goesOnBy 124 = .ok (.aload_n 0, 1) := by decide +kernel
theorem d_X9_goesOnBy_125 : dec m_X9_goesOnBy 125 = .ok (.getfield 53, 3) := by decide +kernel
theorem d_X9_goesOnBy_128 : dec m_X9_goesOnBy 128 = .ok (.iload_n 2, 1) := by decide +kernel
theorem d_X9_goesOnBy_129 : dec m_X9_goesOnBy 129 = .ok (.iaload, 1) := by decide +kernel
theorem d_X9_goesOnBy_130 : dec m_X9_goesOnBy 130 = .ok (.iastore, 1) := by decide +kernel
theorem d_X9_goesOnBy_131 : dec m_X9_goesOnBy 131 = .ok (.aload_n 0, 1) := by decide +kernel
theorem d_X9_goesOnBy_132 : dec m_X9_goesOnBy 132 = .ok (.getfield 50, 3) := by decide +kernel
theorem d_X9_goesOnBy_135 : dec m_X9_goesOnBy 135 = .ok (.iload_n 2, 1) := by decide +kernel
theorem d_X9_goesOnBy_136 : dec m_X9_goesOnBy 136 = .ok (.aload_n 0, 1) := by decide +kernel
theorem d_X9_goesOnBy_137 : dec m_X9_goesOnBy 137 = .ok (.getfield 56, 3) := by decide +kernel
theorem d_X9_goesOnBy_140 : dec m_X9_goesOnBy 140 = .ok (.iload_n 2, 1) := by decide +kernel
theorem d_X9_goesOnBy_141 : dec m_X9_goesOnBy 141 = .ok (.iaload, 1) := by decide +kernel
theorem d_X9_goesOnBy_142 : dec m_X9_goesOnBy 142 = .ok (.iastore, 1) := by decide +kernel
theorem d_X9_goesOnBy_143 : dec m_X9_goesOnBy 143 = .ok (.iinc 2 1, 3) := by decide +kernel
theorem d_X9_goesOnBy_146 : dec m_X9_goesOnBy 146 = .ok (.goto (-33), 3) := by decide +kernel
theorem d_X9_goesOnBy_149 : dec m_X9_goesOnBy 149 = .ok (.return_, 1) := by decide +kernel
theorem d_X9_worthOfAll_0 : dec m_X9_worthOfAll 0 = .ok (.iconst 0, 1) := by decide +kernel
theorem d_X9_worthOfAll_1 : dec m_X9_worthOfAll 1 = .ok (.istore_n 1, 1) := by decide +kernel
theorem d_X9_worthOfAll_2 : dec m_X9_worthOfAll 2 = .ok (.iconst 0, 1) := by decide +kernel
theorem d_X9_worthOfAll_3 : dec m_X9_worthOfAll 3 = .ok (.istore_n 2, 1) := by decide +kernel
theorem d_X9_worthOfAll_4 : dec m_X9_worthOfAll 4 = .ok (.iload_n 2, 1) := by decide +kernel
theorem d_X9_worthOfAll_5 : dec m_X9_worthOfAll 5 = .ok (.iconst 4, 1) := by decide +kernel
theorem d_X9_worthOfAll_6 : dec m_X9_worthOfAll 6 = .ok (.if_icmp .ge 19, 3) := by decide +kernel
theorem d_X9_worthOfAll_9 : dec m_X9_worthOfAll 9 = .ok (.iload_n 1, 1) := by decide +kernel
theorem d_X9_worthOfAll_10 : dec m_X9_worthOfAll 10 = .ok (.aload_n 0, 1) := by decide +kernel
theorem d_X9_worthOfAll_11 : dec m_X9_worthOfAll 11 = .ok (.iconst 1, 1) := by decide +kernel
theorem d_X9_worthOfAll_12 : dec m_X9_worthOfAll 12 = .ok (.iload_n 2, 1) := by decide +kernel
theorem d_X9_worthOfAll_13 : dec m_X9_worthOfAll 13 = .ok (.ishl, 1) := by decide +kernel
theorem d_X9_worthOfAll_14 : dec m_X9_worthOfAll 14 = .ok (.invokevirtual 143, 3) := by decide +kernel
theorem d_X9_worthOfAll_17 : dec m_X9_worthOfAll 17 = .ok (.iadd, 1) := by decide +kernel
theorem d_X9_worthOfAll_18 : dec m_X9_worthOfAll 18 = .ok (.istore_n 1, 1) := by decide +kernel
theorem d_X9_worthOfAll_19 : dec m_X9_worthOfAll 19 = .ok (.iinc 2 1, 3) := by decide +kernel
theorem d_X9_worthOfAll_22 : dec m_X9_worthOfAll 22 = .ok (.goto (-18), 3) := by decide +kernel
theorem d_X9_worthOfAll_25 : dec m_X9_worthOfAll 25 = .ok (.iload_n 1, 1) := by decide +kernel
theorem d_X9_worthOfAll_26 : dec m_X9_worthOfAll 26 = .ok (.ireturn, 1) := by decide +kernel
theorem d_X9_served_0 : dec m_X9_served 0 = .ok (.iload_n 1, 1) := by decide +kernel
theorem d_X9_served_1 : dec m_X9_served 1 = .ok (.i2l, 1) := by decide +kernel
theorem d_X9_served_2 : dec m_X9_served 2 = .ok (.lconst 0, 1) := by decide +kernel
theorem d_X9_served_3 : dec m_X9_served 3 = .ok (.ldc2_w 217, 3) := by decide +kernel
theorem d_X9_served_6 : dec m_X9_served 6 = .ok (.invokestatic 82, 3) := by decide +kernel
theorem d_X9_served_9 : dec m_X9_served 9 = .ok (.ifCond .ne 5, 3) := by decide +kernel
theorem d_X9_served_12 : dec m_X9_served 12 = .ok (.iconst (-1), 1) := by decide +kernel
theorem d_X9_served_13 : dec m_X9_served 13 = .ok (.ireturn, 1) := by decide +kernel
theorem d_X9_served_14 : dec m_X9_served 14 = .ok (.iconst 0, 1) := by decide +kernel
theorem d_X9_served_15 : dec m_X9_served 15 = .ok (.istore_n 2, 1) := by decide +kernel
theorem d_X9_served_16 : dec m_X9_served 16 = .ok (.iload_n 2, 1) := by decide +kernel
theorem d_X9_served_17 : dec m_X9_served 17 = .ok (.bipush 80, 2) := by decide +kernel
theorem d_X9_served_19 : dec m_X9_served 19 = .ok (.if_icmp .gt 16, 3) := by decide +kernel
theorem d_X9_served_22 : dec m_X9_served 22 = .ok (.aload_n 0, 1) := by decide +kernel
theorem d_X9_served_23 : dec m_X9_served 23 = .ok (.getfield 50, 3) := by decide +kernel
theorem d_X9_served_26 : dec m_X9_served 26 = .ok (.iload_n 2, 1) := by decide +kernel
theorem d_X9_served_27 : dec m_X9_served 27 = .ok (.iconst (-1), 1) := by decide +kernel
theorem d_X9_served_28 : dec m_X9_served 28 = .ok (.iastore, 1) := by decide +kernel
theorem d_X9_served_29 : dec m_X9_served 29 = .ok (.iinc 2 1, 3) := by decide +kernel
theorem d_X9_served_32 : dec m_X9_served 32 = .ok (.goto (-16), 3) := by decide +kernel
theorem d_X9_served_35 : dec m_X9_served 35 = .ok (.aload_n 0, 1) := by decide +kernel
theorem d_X9_served_36 : dec m_X9_served 36 = .ok (.getfield 47, 3) := by decide +kernel
theorem d_X9_served_39 : dec m_X9_served 39 = .ok (.iconst 0, 1) := by decide +kernel
theorem d_X9_served_40 : dec m_X9_served 40 = .ok (.iconst 0, 1) := by decide +kernel
theorem d_X9_served_41 : dec m_X9_served 41 = .ok (.iastore, 1) := by decide +kernel
theorem d_X9_served_42 : dec m_X9_served 42 = .ok (.aload_n 0, 1) := by decide +kernel
theorem d_X9_served_43 : dec m_X9_served 43 = .ok (.getfield 50, 3) := by decide +kernel
theorem d_X9_served_46 : dec m_X9_served 46 = .ok (.iconst 0, 1) := by decide +kernel
theorem d_X9_served_47 : dec m_X9_served 47 = .ok (.iconst 0, 1) := by decide +kernel
theorem d_X9_served_48 : dec m_X9_served 48 = .ok (.iastore, 1) := by decide +kernel
theorem d_X9_served_49 : dec m_X9_served 49 = .ok (.iconst 0, 1) := by decide +kernel
theorem d_X9_served_50 : dec m_X9_served 50 = .ok (.istore_n 2, 1) := by decide +kernel
theorem d_X9_served_51 : dec m_X9_served 51 = .ok (.iload_n 2, 1) := by decide +kernel
theorem d_X9_served_52 : dec m_X9_served 52 = .ok (.iconst 4, 1) := by decide +kernel
theorem d_X9_served_53 : dec m_X9_served 53 = .ok (.if_icmp .ge 14, 3) := by decide +kernel
theorem d_X9_served_56 : dec m_X9_served 56 = .ok (.aload_n 0, 1) := by decide +kernel
theorem d_X9_served_57 : dec m_X9_served 57 = .ok (.iload_n 2, 1) := by decide +kernel
theorem d_X9_served_58 : dec m_X9_served 58 = .ok (.invokevirtual 276, 3) := by decide +kernel
theorem d_X9_served_61 : dec m_X9_served 61 = .ok (.iinc 2 1, 3) := by decide +kernel
theorem d_X9_served_64 : dec m_X9_served 64 = .ok (.goto (-13), 3) := by decide +kernel
theorem d_X9_served_67 : dec m_X9_served 67 = .ok (.aload_n 0, 1) := by decide +kernel
theorem d_X9_served_68 : dec m_X9_served 68 = .ok (.getfield 47, 3) := by decide +kernel
theorem d_X9_served_71 : dec m_X9_served 71 = .ok (.iconst 0, 1) := by decide +kernel
theorem d_X9_served_72 : dec m_X9_served 72 = .ok (.iaload, 1) := by decide +kernel
theorem d_X9_served_73 : dec m_X9_served 73 = .ok (.istore_n 2, 1) := by decide +kernel
theorem d_X9_served_74 : dec m_X9_served 74 = .ok (.aload_n 0, 1) := by decide +kernel
theorem d_X9_served_75 : dec m_X9_served 75 = .ok (.getfield 50, 3) := by decide +kernel
theorem d_X9_served_78 : dec m_X9_served 78 = .ok (.iconst 0, 1) := by decide +kernel
theorem d_X9_served_79 : dec m_X9_served 79 = .ok (.iaload, 1) := by decide +kernel
theorem d_X9_served_80 : dec m_X9_served 80 = .ok (.istore_n 3, 1) := by decide +kernel
theorem d_X9_served_81 : dec m_X9_served 81 = .ok (.iload_n 1, 1) := by decide +kernel
theorem d_X9_served_82 : dec m_X9_served 82 = .ok (.ifCond .ne 7, 3) := by decide +kernel
theorem d_X9_served_85 : dec m_X9_served 85 = .ok (.iload_n 2, 1) := by decide +kernel
theorem d_X9_served_86 : dec m_X9_served 86 = .ok (.goto 18, 3) := by decide +kernel
theorem d_X9_served_89 : dec m_X9_served 89 = .ok (.iload_n 1, 1) := by decide +kernel
theorem d_X9_served_90 : dec m_X9_served 90 = .ok (.iconst 1, 1) := by decide +kernel
theorem d_X9_served_91 : dec m_X9_served 91 = .ok (.if_icmp .ne 7, 3) := by decide +kernel
theorem d_X9_served_94 : dec m_X9_served 94 = .ok (.iload_n 3, 1) := by decide +kernel
theorem d_X9_served_95 : dec m_X9_served 95 = .ok (.goto 9, 3) := by decide +kernel
theorem d_X9_served_98 : dec m_X9_served 98 = .ok (.iload_n 2, 1) := by decide +kernel
theorem d_X9_served_99 : dec m_X9_served 99 = .ok (.aload_n 0, 1) := by decide +kernel
theorem d_X9_served_100 : dec m_X9_served 100 = .ok (.invokevirtual 279, 3) := by decide +kernel
theorem d_X9_served_103 : dec m_X9_served 103 = .ok (.isub, 1) := by decide +kernel
theorem d_X9_served_104 : dec m_X9_served 104 = .ok (.ireturn, 1) := by decide +kernel
theorem d_X9_bitsOf_0 : dec m_X9_bitsOf 0 = .ok (.lload_n 2, 1) := by decide +kernel
theorem d_X9_bitsOf_1 : dec m_X9_bitsOf 1 = .ok (.lconst 0, 1) := by decide +kernel
theorem d_X9_bitsOf_2 : dec m_X9_bitsOf 2 = .ok (.lcmp, 1) := by decide +kernel
theorem d_X9_bitsOf_3 : dec m_X9_bitsOf 3 = .ok (.ifCond .ne 7, 3) := by decide +kernel
theorem d_X9_bitsOf_6 : dec m_X9_bitsOf 6 = .ok (.ldc2_w 282, 3) := by decide +kernel
theorem d_X9_bitsOf_9 : dec m_X9_bitsOf 9 = .ok (.lreturn, 1) := by decide +kernel
theorem d_X9_bitsOf_10 : dec m_X9_bitsOf 10 = .ok (.lload_n 0, 1) := by decide +kernel
theorem d_X9_bitsOf_11 : dec m_X9_bitsOf 11 = .ok (.lconst 0, 1) := by decide +kernel
theorem d_X9_bitsOf_12 : dec m_X9_bitsOf 12 = .ok (.lcmp, 1) := by decide +kernel
theorem d_X9_bitsOf_13 : dec m_X9_bitsOf 13 = .ok (.ifCond .ne 5, 3) := by decide +kernel
theorem d_X9_bitsOf_16 : dec m_X9_bitsOf 16 = .ok (.lconst 0, 1) := by decide +kernel
theorem d_X9_bitsOf_17 : dec m_X9_bitsOf 17 = .ok (.lreturn, 1) := by decide +kernel
theorem d_X9_bitsOf_18 : dec m_X9_bitsOf 18 = .ok (.lload_n 0, 1) := by decide +kernel
theorem d_X9_bitsOf_19 : dec m_X9_bitsOf 19 = .ok (.lstore 4, 2) := by decide +kernel
theorem d_X9_bitsOf_21 : dec m_X9_bitsOf 21 = .ok (.sipush 1023, 3) := by decide +kernel
theorem d_X9_bitsOf_24 : dec m_X9_bitsOf 24 = .ok (.istore 6, 2) := by decide +kernel
theorem d_X9_bitsOf_26 : dec m_X9_bitsOf 26 = .ok (.lload 4, 2) := by decide +kernel
theorem d_X9_bitsOf_28 : dec m_X9_bitsOf 28 = .ok (.lload_n 2, 1) := by decide +kernel
theorem d_X9_bitsOf_29 : dec m_X9_bitsOf 29 = .ok (.lcmp, 1) := by decide +kernel
theorem d_X9_bitsOf_30 : dec m_X9_bitsOf 30 = .ok (.ifCond .ge 17, 3) := by decide +kernel
theorem d_X9_bitsOf_33 : dec m_X9_bitsOf 33 = .ok (.lload 4, 2) := by decide +kernel
theorem d_X9_bitsOf_35 : dec m_X9_bitsOf 35 = .ok (.ldc2_w 217, 3) := by decide +kernel
theorem d_X9_bitsOf_38 : dec m_X9_bitsOf 38 = .ok (.lmul, 1) := by decide +kernel
theorem d_X9_bitsOf_39 : dec m_X9_bitsOf 39 = .ok (.lstore 4, 2) := by decide +kernel
theorem d_X9_bitsOf_41 : dec m_X9_bitsOf 41 = .ok (.iinc 6 (-1), 3) := by decide +kernel
theorem d_X9_bitsOf_44 : dec m_X9_bitsOf 44 = .ok (.goto (-18), 3) := by decide +kernel
theorem d_X9_bitsOf_47 : dec m_X9_bitsOf 47 = .ok (.lconst 0, 1) := by decide +kernel
theorem d_X9_bitsOf_48 : dec m_X9_bitsOf 48 = .ok (.lstore 7, 2) := by decide +kernel
theorem d_X9_bitsOf_50 : dec m_X9_bitsOf 50 = .ok (.iconst 0, 1) := by decide +kernel
theorem d_X9_bitsOf_51 : dec m_X9_bitsOf 51 = .ok (.istore 9, 2) := by decide +kernel
theorem d_X9_bitsOf_53 : dec m_X9_bitsOf 53 = .ok (.iload 9, 2) := by decide +kernel
theorem d_X9_bitsOf_55 : dec m_X9_bitsOf 55 = .ok (.bipush 53, 2) := by decide +kernel
theorem d_X9_bitsOf_57 : dec m_X9_bitsOf 57 = .ok (.if_icmp .ge 62, 3) := by decide +kernel
theorem d_X9_bitsOf_60 : dec m_X9_bitsOf 60 = .ok (.lload 4, 2) := by decide +kernel
theorem d_X9_bitsOf_62 : dec m_X9_bitsOf 62 = .ok (.lload_n 2, 1) := by decide +kernel
theorem d_X9_bitsOf_63 : dec m_X9_bitsOf 63 = .ok (.lcmp, 1) := by decide +kernel
theorem d_X9_bitsOf_64 : dec m_X9_bitsOf 64 = .ok (.ifCond .lt 7, 3) := by decide +kernel
theorem d_X9_bitsOf_67 : dec m_X9_bitsOf 67 = .ok (.iconst 1, 1) := by decide +kernel
theorem d_X9_bitsOf_68 : dec m_X9_bitsOf 68 = .ok (.goto 4, 3) := by decide +kernel
theorem d_X9_bitsOf_71 : dec m_X9_bitsOf 71 = .ok (.iconst 0, 1) := by decide +kernel
theorem d_X9_bitsOf_72 : dec m_X9_bitsOf 72 = .ok (.istore 10, 2) := by decide +kernel
theorem d_X9_bitsOf_74 : dec m_X9_bitsOf 74 = .ok (.ldc2_w 217, 3) := by decide +kernel
theorem d_X9_bitsOf_77 : dec m_X9_bitsOf 77 = .ok (.lload 7, 2) := by decide +kernel
theorem d_X9_bitsOf_79 : dec m_X9_bitsOf 79 = .ok (.lmul, 1) := by decide +kernel
theorem d_X9_bitsOf_80 : dec m_X9_bitsOf 80 = .ok (.iload 10, 2) := by decide +kernel
theorem d_X9_bitsOf_82 : dec m_X9_bitsOf 82 = .ok (.ifCond .eq 7, 3) := by decide +kernel
theorem d_X9_bitsOf_85 : dec m_X9_bitsOf 85 = .ok (.lconst 1, 1) := by decide +kernel
theorem d_X9_bitsOf_86 : dec m_X9_bitsOf 86 = .ok (.goto 4, 3) := by decide +kernel
theorem d_X9_bitsOf_89 : dec m_X9_bitsOf 89 = .ok (.lconst 0, 1) := by decide +kernel
theorem d_X9_bitsOf_90 : dec m_X9_bitsOf 90 = .ok (.ladd, 1) := by decide +kernel
theorem d_X9_bitsOf_91 : dec m_X9_bitsOf 91 = .ok (.lstore 7, 2) := by decide +kernel
theorem d_X9_bitsOf_93 : dec m_X9_bitsOf 93 = .ok (.ldc2_w 217, 3) := by decide +kernel
theorem d_X9_bitsOf_96 : dec m_X9_bitsOf 96 = .ok (.iload 10, 2) := by decide +kernel
theorem d_X9_bitsOf_98 : dec m_X9_bitsOf 98 = .ok (.ifCond .eq 10, 3) := by decide +kernel
theorem d_X9_bitsOf_101 : dec m_X9_bitsOf 101 = .ok (.lload 4, 2) := by decide +kernel
theorem d_X9_bitsOf_103 : dec m_X9_bitsOf 103 = .ok (.lload_n 2, 1) := by decide +kernel
theorem d_X9_bitsOf_104 : dec m_X9_bitsOf 104 = .ok (.lsub, 1) := by decide +kernel
theorem d_X9_bitsOf_105 : dec m_X9_bitsOf 105 = .ok (.goto 5, 3) := by decide +kernel
theorem d_X9_bitsOf_108 : dec m_X9_bitsOf 108 = .ok (.lload 4, 2) := by decide +kernel
theorem d_X9_bitsOf_110 : dec m_X9_bitsOf 110 = .ok (.lmul, 1) := by decide +kernel
theorem d_X9_bitsOf_111 : dec m_X9_bitsOf 111 = .ok (.lstore 4, 2) := by decide +kernel
theorem d_X9_bitsOf_113 : dec m_X9_bitsOf 113 = .ok (.iinc 9 1, 3) := by decide +kernel
theorem d_X9_bitsOf_116 : dec m_X9_bitsOf 116 = .ok (.goto (-63), 3) := by decide +kernel
theorem d_X9_bitsOf_119 : dec m_X9_bitsOf 119 = .ok (.lload 4, 2) := by decide +kernel
theorem d_X9_bitsOf_121 : dec m_X9_bitsOf 121 = .ok (.lload_n 2, 1) := by decide +kernel
theorem d_X9_bitsOf_122 : dec m_X9_bitsOf 122 = .ok (.lcmp, 1) := by decide +kernel
theorem d_X9_bitsOf_123 : dec m_X9_bitsOf 123 = .ok (.ifCond .gt 21, 3) := by decide +kernel
theorem d_X9_bitsOf_126 : dec m_X9_bitsOf 126 = .ok (.lload 4, 2) := by decide +kernel
theorem d_X9_bitsOf_128 : dec m_X9_bitsOf 128 = .ok (.lload_n 2, 1) := by decide +kernel
theorem d_X9_bitsOf_129 : dec m_X9_bitsOf 129 = .ok (.lcmp, 1) := by decide +kernel
theorem d_X9_bitsOf_130 : dec m_X9_bitsOf 130 = .ok (.ifCond .ne 20, 3) := by decide +kernel
theorem d_X9_bitsOf_133 : dec m_X9_bitsOf 133 = .ok (.lload 7, 2) := by decide +kernel
theorem d_X9_bitsOf_135 : dec m_X9_bitsOf 135 = .ok (.ldc2_w 217, 3) := by decide +kernel
theorem d_X9_bitsOf_138 : dec m_X9_bitsOf 138 = .ok (.lrem, 1) := by decide +kernel
theorem d_X9_bitsOf_139 : dec m_X9_bitsOf 139 = .ok (.lconst 1, 1) := by decide +kernel
theorem d_X9_bitsOf_140 : dec m_X9_bitsOf 140 = .ok (.lcmp, 1) := by decide +kernel
theorem d_X9_bitsOf_141 : dec m_X9_bitsOf 141 = .ok (.ifCond .ne 9, 3) := by decide +kernel
theorem d_X9_bitsOf_144 : dec m_X9_bitsOf 144 = .ok (.lload 7, 2) := by decide +kernel
theorem d_X9_bitsOf_146 : dec m_X9_bitsOf 146 = .ok (.lconst 1, 1) := by decide +kernel
theorem d_X9_bitsOf_147 : dec m_X9_bitsOf 147 = .ok (.ladd, 1) := by decide +kernel
theorem d_X9_bitsOf_148 : dec m_X9_bitsOf 148 = .ok (.lstore 7, 2) := by decide +kernel
theorem d_X9_bitsOf_150 : dec m_X9_bitsOf 150 = .ok (.lload 7, 2) := by decide +kernel
theorem d_X9_bitsOf_152 : dec m_X9_bitsOf 152 = .ok (.ldc2_w 284, 3) := by decide +kernel
theorem d_X9_bitsOf_155 : dec m_X9_bitsOf 155 = .ok (.lcmp, 1) := by decide +kernel
theorem d_X9_bitsOf_156 : dec m_X9_bitsOf 156 = .ok (.ifCond .ne 14, 3) := by decide +kernel
theorem d_X9_bitsOf_159 : dec m_X9_bitsOf 159 = .ok (.lload 7, 2) := by decide +kernel
theorem d_X9_bitsOf_161 : dec m_X9_bitsOf 161 = .ok (.ldc2_w 217, 3) := by decide +kernel
theorem d_X9_bitsOf_164 : dec m_X9_bitsOf 164 = .ok (.ldiv, 1) := by decide +kernel
theorem d_X9_bitsOf_165 : dec m_X9_bitsOf 165 = .ok (.lstore 7, 2) := by decide +kernel
theorem d_X9_bitsOf_167 : dec m_X9_bitsOf 167 = .ok (.iinc 6 1, 3) := by decide +kernel
theorem d_X9_bitsOf_170 : dec m_X9_bitsOf 170 = .ok (.iload 6, 2) := by decide +kernel
theorem d_X9_bitsOf_172 : dec m_X9_bitsOf 172 = .ok (.i2l, 1) := by decide +kernel
theorem d_X9_bitsOf_173 : dec m_X9_bitsOf 173 = .ok (.bipush 52, 2) := by decide +kernel
theorem d_X9_bitsOf_175 : dec m_X9_bitsOf 175 = .ok (.lshl, 1) := by decide +kernel
theorem d_X9_bitsOf_176 : dec m_X9_bitsOf 176 = .ok (.lload 7, 2) := by decide +kernel
theorem d_X9_bitsOf_178 : dec m_X9_bitsOf 178 = .ok (.ladd, 1) := by decide +kernel
theorem d_X9_bitsOf_179 : dec m_X9_bitsOf 179 = .ok (.ldc2_w 286, 3) := by decide +kernel
theorem d_X9_bitsOf_182 : dec m_X9_bitsOf 182 = .ok (.lsub, 1) := by decide +kernel
theorem d_X9_bitsOf_183 : dec m_X9_bitsOf 183 = .ok (.lreturn, 1) := by decide +kernel
theorem d_X9_share_0 : dec m_X9_share 0 = .ok (.iconst 0, 1) := by decide +kernel
theorem d_X9_share_1 : dec m_X9_share 1 = .ok (.istore_n 1, 1) := by decide +kernel
theorem d_X9_share_2 : dec m_X9_share 2 = .ok (.iconst 0, 1) := by decide +kernel
theorem d_X9_share_3 : dec m_X9_share 3 = .ok (.istore_n 2, 1) := by decide +kernel
theorem d_X9_share_4 : dec m_X9_share 4 = .ok (.iconst 0, 1) := by decide +kernel
theorem d_X9_share_5 : dec m_X9_share 5 = .ok (.istore_n 3, 1) := by decide +kernel
theorem d_X9_share_6 : dec m_X9_share 6 = .ok (.iload_n 3, 1) := by decide +kernel
theorem d_X9_share_7 : dec m_X9_share 7 = .ok (.iconst 4, 1) := by decide +kernel
theorem d_X9_share_8 : dec m_X9_share 8 = .ok (.if_icmp .ge 28, 3) := by decide +kernel
theorem d_X9_share_11 : dec m_X9_share 11 = .ok (.aload_n 0, 1) := by decide +kernel
theorem d_X9_share_12 : dec m_X9_share 12 = .ok (.iload_n 3, 1) := by decide +kernel
theorem d_X9_share_13 : dec m_X9_share 13 = .ok (.invokevirtual 180, 3) := by decide +kernel
theorem d_X9_share_16 : dec m_X9_share 16 = .ok (.iload_n 1, 1) := by decide +kernel
theorem d_X9_share_17 : dec m_X9_share 17 = .ok (.aload_n 0, 1) := by decide +kernel
theorem d_X9_share_18 : dec m_X9_share 18 = .ok (.invokevirtual 201, 3) := by decide +kernel
theorem d_X9_share_21 : dec m_X9_share 21 = .ok (.iadd, 1) := by decide +kernel
theorem d_X9_share_22 : dec m_X9_share 22 = .ok (.istore_n 1, 1) := by decide +kernel
theorem d_X9_share_23 : dec m_X9_share 23 = .ok (.iload_n 2, 1) := by decide +kernel
theorem d_X9_share_24 : dec m_X9_share 24 = .ok (.aload_n 0, 1) := by decide +kernel
theorem d_X9_share_25 : dec m_X9_share 25 = .ok (.getfield 136, 3) := by decide +kernel
theorem d_X9_share_28 : dec m_X9_share 28 = .ok (.iadd, 1) := by decide +kernel
theorem d_X9_share_29 : dec m_X9_share 29 = .ok (.istore_n 2, 1) := by decide +kernel
theorem d_X9_share_30 : dec m_X9_share 30 = .ok (.iinc 3 1, 3) := by decide +kernel
theorem d_X9_share_33 : dec m_X9_share 33 = .ok (.goto (-27), 3) := by decide +kernel
theorem d_X9_share_36 : dec m_X9_share 36 = .ok (.iload_n 1, 1) := by decide +kernel
theorem d_X9_share_37 : dec m_X9_share 37 = .ok (.i2l, 1) := by decide +kernel
theorem d_X9_share_38 : dec m_X9_share 38 = .ok (.iload_n 2, 1) := by decide +kernel
theorem d_X9_share_39 : dec m_X9_share 39 = .ok (.i2l, 1) := by decide +kernel
theorem d_X9_share_40 : dec m_X9_share 40 = .ok (.invokestatic 288, 3) := by decide +kernel
theorem d_X9_share_43 : dec m_X9_share 43 = .ok (.lreturn, 1) := by decide +kernel
theorem d_X9_audit_0 : dec m_X9_audit 0 = .ok (.iconst 0, 1) := by decide +kernel
theorem d_X9_audit_1 : dec m_X9_audit 1 = .ok (.istore_n 2, 1) := by decide +kernel
theorem d_X9_audit_2 : dec m_X9_audit 2 = .ok (.bipush (-2), 2) := by decide +kernel
theorem d_X9_audit_4 : dec m_X9_audit 4 = .ok (.istore_n 3, 1) := by decide +kernel
theorem d_X9_audit_5 : dec m_X9_audit 5 = .ok (.iconst 0, 1) := by decide +kernel
theorem d_X9_audit_6 : dec m_X9_audit 6 = .ok (.istore 4, 2) := by decide +kernel
theorem d_X9_audit_8 : dec m_X9_audit 8 = .ok (.iload 4, 2) := by decide +kernel
theorem d_X9_audit_10 : dec m_X9_audit 10 = .ok (.aload_n 0, 1) := by decide +kernel
theorem d_X9_audit_11 : dec m_X9_audit 11 = .ok (.invokevirtual 78, 3) := by decide +kernel
theorem d_X9_audit_14 : dec m_X9_audit 14 = .ok (.if_icmp .ge 47, 3) := by decide +kernel
theorem d_X9_audit_17 : dec m_X9_audit 17 = .ok (.iload_n 2, 1) := by decide +kernel
theorem d_X9_audit_18 : dec m_X9_audit 18 = .ok (.aload_n 0, 1) := by decide +kernel
theorem d_X9_audit_19 : dec m_X9_audit 19 = .ok (.iload 4, 2) := by decide +kernel
theorem d_X9_audit_21 : dec m_X9_audit 21 = .ok (.bipush 7, 2) := by decide +kernel
theorem d_X9_audit_23 : dec m_X9_audit 23 = .ok (.invokevirtual 88, 3) := by decide +kernel
theorem d_X9_audit_26 : dec m_X9_audit 26 = .ok (.iadd, 1) := by decide +kernel
theorem d_X9_audit_27 : dec m_X9_audit 27 = .ok (.istore_n 2, 1) := by decide +kernel
theorem d_X9_audit_28 : dec m_X9_audit 28 = .ok (.iload_n 3, 1) := by decide +kernel
theorem d_X9_audit_29 : dec m_X9_audit 29 = .ok (.bipush (-2), 2) := by decide +kernel
theorem d_X9_audit_31 : dec m_X9_audit 31 = .ok (.if_icmp .eq 21, 3) := by decide +kernel
theorem d_X9_audit_34 : dec m_X9_audit 34 = .ok (.aload_n 0, 1) := by decide +kernel
theorem d_X9_audit_35 : dec m_X9_audit 35 = .ok (.iload 4, 2) := by decide +kernel
theorem d_X9_audit_37 : dec m_X9_audit 37 = .ok (.bipush 7, 2) := by decide +kernel
theorem d_X9_audit_39 : dec m_X9_audit 39 = .ok (.invokevirtual 88, 3) := by decide +kernel
theorem d_X9_audit_42 : dec m_X9_audit 42 = .ok (.aload_n 0, 1) := by decide +kernel
theorem d_X9_audit_43 : dec m_X9_audit 43 = .ok (.iload_n 3, 1) := by decide +kernel
theorem d_X9_audit_44 : dec m_X9_audit 44 = .ok (.bipush 7, 2) := by decide +kernel
theorem d_X9_audit_46 : dec m_X9_audit 46 = .ok (.invokevirtual 88, 3) := by decide +kernel
theorem d_X9_audit_49 : dec m_X9_audit 49 = .ok (.if_icmp .le 6, 3) := by decide +kernel
theorem d_X9_audit_52 : dec m_X9_audit 52 = .ok (.iload 4, 2) := by decide +kernel
theorem d_X9_audit_54 : dec m_X9_audit 54 = .ok (.istore_n 3, 1) := by decide +kernel
theorem d_X9_audit_55 : dec m_X9_audit 55 = .ok (.iinc 4 1, 3) := by decide +kernel
theorem d_X9_audit_58 : dec m_X9_audit 58 = .ok (.goto (-50), 3) := by decide +kernel
theorem d_X9_audit_61 : dec m_X9_audit 61 = .ok (.iload_n 1, 1) := by decide +kernel
theorem d_X9_audit_62 : dec m_X9_audit 62 = .ok (.tableswitch 78 0 5 #[38, 47, 49, 58, 60, 69], 38) := by decide +kernel
theorem d_X9_audit_100 : dec m_X9_audit 100 = .ok (.aload_n 0, 1) := by decide +kernel
theorem d_X9_audit_101 : dec m_X9_audit 101 = .ok (.getfield 7, 3) := by decide +kernel
theorem d_X9_audit_104 : dec m_X9_audit 104 = .ok (.sipush 183, 3) := by decide +kernel
theorem d_X9_audit_107 : dec m_X9_audit 107 = .ok (.iaload, 1) := by decide +kernel
theorem d_X9_audit_108 : dec m_X9_audit 108 = .ok (.ireturn, 1) := by decide +kernel
theorem d_X9_audit_109 : dec m_X9_audit 109 = .ok (.iload_n 2, 1) := by decide +kernel
theorem d_X9_audit_110 : dec m_X9_audit 110 = .ok (.ireturn, 1) := by decide +kernel
theorem d_X9_audit_111 : dec m_X9_audit 111 = .ok (.aload_n 0, 1) := by decide +kernel
theorem d_X9_audit_112 : dec m_X9_audit 112 = .ok (.getfield 7, 3) := by decide +kernel
theorem d_X9_audit_115 : dec m_X9_audit 115 = .ok (.sipush 184, 3) := by decide +kernel
theorem d_X9_audit_118 : dec m_X9_audit 118 = .ok (.iaload, 1) := by decide +kernel
theorem d_X9_audit_119 : dec m_X9_audit 119 = .ok (.ireturn, 1) := by decide +kernel
theorem d_X9_audit_120 : dec m_X9_audit 120 = .ok (.iload_n 3, 1) := by decide +kernel
theorem d_X9_audit_121 : dec m_X9_audit 121 = .ok (.ireturn, 1) := by decide +kernel
theorem d_X9_audit_122 : dec m_X9_audit 122 = .ok (.aload_n 0, 1) := by decide +kernel
theorem d_X9_audit_123 : dec m_X9_audit 123 = .ok (.getfield 7, 3) := by decide +kernel
theorem d_X9_audit_126 : dec m_X9_audit 126 = .ok (.sipush 186, 3) := by decide +kernel
theorem d_X9_audit_129 : dec m_X9_audit 129 = .ok (.iaload, 1) := by decide +kernel
theorem d_X9_audit_130 : dec m_X9_audit 130 = .ok (.ireturn, 1) := by decide +kernel
theorem d_X9_audit_131 : dec m_X9_audit 131 = .ok (.aload_n 0, 1) := by decide +kernel
theorem d_X9_audit_132 : dec m_X9_audit 132 = .ok (.getfield 7, 3) := by decide +kernel
theorem d_X9_audit_135 : dec m_X9_audit 135 = .ok (.sipush 185, 3) := by decide +kernel
theorem d_X9_audit_138 : dec m_X9_audit 138 = .ok (.iaload, 1) := by decide +kernel
theorem d_X9_audit_139 : dec m_X9_audit 139 = .ok (.ireturn, 1) := by decide +kernel
theorem d_X9_audit_140 : dec m_X9_audit 140 = .ok (.ldc 192, 2) := by decide +kernel
theorem d_X9_audit_142 : dec m_X9_audit 142 = .ok (.ireturn, 1) := by decide +kernel
theorem d_X9_entry_0 : dec m_X9_entry 0 = .ok (.iload_n 2, 1) := by decide +kernel
theorem d_X9_entry_1 : dec m_X9_entry 1 = .ok (.invokestatic 195, 3) := by decide +kernel
theorem d_X9_entry_4 : dec m_X9_entry 4 = .ok (.ifCond .ne 5, 3) := by decide +kernel
theorem d_X9_entry_7 : dec m_X9_entry 7 = .ok (.iconst (-1), 1) := by decide +kernel
theorem d_X9_entry_8 : dec m_X9_entry 8 = .ok (.ireturn, 1) := by decide +kernel
theorem d_X9_entry_9 : dec m_X9_entry 9 = .ok (.aload_n 0, 1) := by decide +kernel
theorem d_X9_entry_10 : dec m_X9_entry 10 = .ok (.iconst 1, 1) := by decide +kernel
theorem d_X9_entry_11 : dec m_X9_entry 11 = .ok (.iload_n 2, 1) := by decide +kernel
theorem d_X9_entry_12 : dec m_X9_entry 12 = .ok (.ishl, 1) := by decide +kernel
theorem d_X9_entry_13 : dec m_X9_entry 13 = .ok (.invokevirtual 139, 3) := by decide +kernel
theorem d_X9_entry_16 : dec m_X9_entry 16 = .ok (.aload_n 0, 1) := by decide +kernel
theorem d_X9_entry_17 : dec m_X9_entry 17 = .ok (.getfield 133, 3) := by decide +kernel
theorem d_X9_entry_20 : dec m_X9_entry 20 = .ok (.istore_n 3, 1) := by decide +kernel
theorem d_X9_entry_21 : dec m_X9_entry 21 = .ok (.iload_n 1, 1) := by decide +kernel
theorem d_X9_entry_22 : dec m_X9_entry 22 = .ok (.ifCond .eq 65, 3) := by decide +kernel
theorem d_X9_entry_25 : dec m_X9_entry 25 = .ok (.iload_n 3, 1) := by decide +kernel
theorem d_X9_entry_26 : dec m_X9_entry 26 = .ok (.aload_n 0, 1) := by decide +kernel
theorem d_X9_entry_27 : dec m_X9_entry 27 = .ok (.getfield 113, 3) := by decide +kernel
theorem d_X9_entry_30 : dec m_X9_entry 30 = .ok (.if_icmp .eq 24, 3) := by decide +kernel
theorem d_X9_entry_33 : dec m_X9_entry 33 = .ok (.iload_n 3, 1) := by decide +kernel
theorem d_X9_entry_34 : dec m_X9_entry 34 = .ok (.ifCond .le 23, 3) := by decide +kernel
theorem d_X9_entry_37 : dec m_X9_entry 37 = .ok (.aload_n 0, 1) := by decide +kernel
theorem d_X9_entry_38 : dec m_X9_entry 38 = .ok (.getfield 29, 3) := by decide +kernel
theorem d_X9_entry_41 : dec m_X9_entry 41 = .ok (.iload_n 3, 1) := by decide +kernel
theorem d_X9_entry_42 : dec m_X9_entry 42 = .ok (.iaload, 1) := by decide +kernel
theorem d_X9_entry_43 : dec m_X9_entry 43 = .ok (.aload_n 0, 1) := by decide +kernel
theorem d_X9_entry_44 : dec m_X9_entry 44 = .ok (.getfield 38, 3) := by decide +kernel
theorem d_X9_entry_47 : dec m_X9_entry 47 = .ok (.iload_n 3, 1) := by decide +kernel
theorem d_X9_entry_48 : dec m_X9_entry 48 = .ok (.iconst 1, 1) := by decide +kernel
theorem d_X9_entry_49 : dec m_X9_entry 49 = .ok (.isub, 1) := by decide +kernel
theorem d_X9_entry_50 : dec m_X9_entry 50 = .ok (.iaload, 1) := by decide +kernel
theorem d_X9_entry_51 : dec m_X9_entry 51 = .ok (.if_icmp .ge 6, 3) := by decide +kernel
theorem d_X9_entry_54 : dec m_X9_entry 54 = .ok (.bipush (-2), 2) := by decide +kernel
theorem d_X9_entry_56 : dec m_X9_entry 56 = .ok (.ireturn, 1) := by decide +kernel
theorem d_X9_entry_57 : dec m_X9_entry 57 = .ok (.aload_n 0, 1) := by decide +kernel
theorem d_X9_entry_58 : dec m_X9_entry 58 = .ok (.getfield 29, 3) := by decide +kernel
theorem d_X9_entry_61 : dec m_X9_entry 61 = .ok (.iload_n 3, 1) := by decide +kernel
theorem d_X9_entry_62 : dec m_X9_entry 62 = .ok (.iaload, 1) := by decide +kernel
theorem d_X9_entry_63 : dec m_X9_entry 63 = .ok (.aload_n 0, 1) := by decide +kernel
theorem d_X9_entry_64 : dec m_X9_entry 64 = .ok (.getfield 7, 3) := by decide +kernel
theorem d_X9_entry_67 : dec m_X9_entry 67 = .ok (.sipush 181, 3) := by decide +kernel
theorem d_X9_entry_70 : dec m_X9_entry 70 = .ok (.iaload, 1) := by decide +kernel
theorem d_X9_entry_71 : dec m_X9_entry 71 = .ok (.isub, 1) := by decide +kernel
theorem d_X9_entry_72 : dec m_X9_entry 72 = .ok (.istore 4, 2) := by decide +kernel
theorem d_X9_entry_74 : dec m_X9_entry 74 = .ok (.iload 4, 2) := by decide +kernel
theorem d_X9_entry_76 : dec m_X9_entry 76 = .ok (.ifCond .ge 8, 3) := by decide +kernel
theorem d_X9_entry_79 : dec m_X9_entry 79 = .ok (.bipush (-2), 2) := by decide +kernel
theorem d_X9_entry_81 : dec m_X9_entry 81 = .ok (.goto 5, 3) := by decide +kernel
theorem d_X9_entry_84 : dec m_X9_entry 84 = .ok (.iload 4, 2) := by decide +kernel
theorem d_X9_entry_86 : dec m_X9_entry 86 = .ok (.ireturn, 1) := by decide +kernel
theorem d_X9_entry_87 : dec m_X9_entry 87 = .ok (.iload_n 3, 1) := by decide +kernel
theorem d_X9_entry_88 : dec m_X9_entry 88 = .ok (.aload_n 0, 1) := by decide +kernel
theorem d_X9_entry_89 : dec m_X9_entry 89 = .ok (.getfield 116, 3) := by decide +kernel
theorem d_X9_entry_92 : dec m_X9_entry 92 = .ok (.if_icmp .eq 24, 3) := by decide +kernel
theorem d_X9_entry_95 : dec m_X9_entry 95 = .ok (.iload_n 3, 1) := by decide +kernel
theorem d_X9_entry_96 : dec m_X9_entry 96 = .ok (.ifCond .le 23, 3) := by decide +kernel
theorem d_X9_entry_99 : dec m_X9_entry 99 = .ok (.aload_n 0, 1) := by decide +kernel
theorem d_X9_entry_100 : dec m_X9_entry 100 = .ok (.getfield 29, 3) := by decide +kernel
theorem d_X9_entry_103 : dec m_X9_entry 103 = .ok (.iload_n 3, 1) := by decide +kernel
theorem d_X9_entry_104 : dec m_X9_entry 104 = .ok (.iconst 1, 1) := by decide +kernel
theorem d_X9_entry_105 : dec m_X9_entry 105 = .ok (.isub, 1) := by decide +kernel
theorem d_X9_entry_106 : dec m_X9_entry 106 = .ok (.iaload, 1) := by decide +kernel
theorem d_X9_entry_107 : dec m_X9_entry 107 = .ok (.aload_n 0, 1) := by decide +kernel
theorem d_X9_entry_108 : dec m_X9_entry 108 = .ok (.getfield 38, 3) := by decide +kernel
theorem d_X9_entry_111 : dec m_X9_entry 111 = .ok (.iload_n 3, 1) := by decide +kernel
theorem d_X9_entry_112 : dec m_X9_entry 112 = .ok (.iaload, 1) := by decide +kernel
theorem d_X9_entry_113 : dec m_X9_entry 113 = .ok (.if_icmp .ge 6, 3) := by decide +kernel
theorem d_X9_entry_116 : dec m_X9_entry 116 = .ok (.bipush (-2), 2) := by decide +kernel
theorem d_X9_entry_118 : dec m_X9_entry 118 = .ok (.ireturn, 1) := by decide +kernel
theorem d_X9_entry_119 : dec m_X9_entry 119 = .ok (.aload_n 0, 1) := by decide +kernel
theorem d_X9_entry_120 : dec m_X9_entry 120 = .ok (.getfield 38, 3) := by decide +kernel
theorem d_X9_entry_123 : dec m_X9_entry 123 = .ok (.iload_n 3, 1) := by decide +kernel
theorem d_X9_entry_124 : dec m_X9_entry 124 = .ok (.iaload, 1) := by decide +kernel
theorem d_X9_entry_125 : dec m_X9_entry 125 = .ok (.sipush 9999, 3) := by decide +kernel
theorem d_X9_entry_128 : dec m_X9_entry 128 = .ok (.if_icmp .le 8, 3) := by decide +kernel
theorem d_X9_entry_131 : dec m_X9_entry 131 = .ok (.bipush (-2), 2) := by decide +kernel
theorem d_X9_entry_133 : dec m_X9_entry 133 = .ok (.goto 9, 3) := by decide +kernel
theorem d_X9_entry_136 : dec m_X9_entry 136 = .ok (.aload_n 0, 1) := by decide +kernel
theorem d_X9_entry_137 : dec m_X9_entry 137 = .ok (.getfield 38, 3) := by decide +kernel
theorem d_X9_entry_140 : dec m_X9_entry 140 = .ok (.iload_n 3, 1) := by decide +kernel
theorem d_X9_entry_141 : dec m_X9_entry 141 = .ok (.iaload, 1) := by decide +kernel
theorem d_X9_entry_142 : dec m_X9_entry 142 = .ok (.ireturn, 1) := by decide +kernel
theorem d_X9_merged_0 : dec m_X9_merged 0 = .ok (.iload_n 1, 1) := by decide +kernel
theorem d_X9_merged_1 : dec m_X9_merged 1 = .ok (.invokestatic 195, 3) := by decide +kernel
theorem d_X9_merged_4 : dec m_X9_merged 4 = .ok (.ifCond .eq 27, 3) := by decide +kernel
theorem d_X9_merged_7 : dec m_X9_merged 7 = .ok (.iload_n 2, 1) := by decide +kernel
theorem d_X9_merged_8 : dec m_X9_merged 8 = .ok (.invokestatic 195, 3) := by decide +kernel
theorem d_X9_merged_11 : dec m_X9_merged 11 = .ok (.ifCond .eq 20, 3) := by decide +kernel
theorem d_X9_merged_14 : dec m_X9_merged 14 = .ok (.iload_n 1, 1) := by decide +kernel
theorem d_X9_merged_15 : dec m_X9_merged 15 = .ok (.iload_n 2, 1) := by decide +kernel
theorem d_X9_merged_16 : dec m_X9_merged 16 = .ok (.if_icmp .eq 15, 3) := by decide +kernel
theorem d_X9_merged_19 : dec m_X9_merged 19 = .ok (.iload_n 3, 1) := by decide +kernel
theorem d_X9_merged_20 : dec m_X9_merged 20 = .ok (.i2l, 1) := by decide +kernel
theorem d_X9_merged_21 : dec m_X9_merged 21 = .ok (.lconst 0, 1) := by decide +kernel
theorem d_X9_merged_22 : dec m_X9_merged 22 = .ok (.ldc2_w 217, 3) := by decide +kernel
theorem d_X9_merged_25 : dec m_X9_merged 25 = .ok (.invokestatic 82, 3) := by decide +kernel
theorem d_X9_merged_28 : dec m_X9_merged 28 = .ok (.ifCond .ne 5, 3) := by decide +kernel
theorem d_X9_merged_31 : dec m_X9_merged 31 = .ok (.iconst (-1), 1) := by decide +kernel
theorem d_X9_merged_32 : dec m_X9_merged 32 = .ok (.ireturn, 1) := by decide +kernel
theorem d_X9_merged_33 : dec m_X9_merged 33 = .ok (.aload_n 0, 1) := by decide +kernel
theorem d_X9_merged_34 : dec m_X9_merged 34 = .ok (.iconst 1, 1) := by decide +kernel
theorem d_X9_merged_35 : dec m_X9_merged 35 = .ok (.iload_n 1, 1) := by decide +kernel
theorem d_X9_merged_36 : dec m_X9_merged 36 = .ok (.ishl, 1) := by decide +kernel
theorem d_X9_merged_37 : dec m_X9_merged 37 = .ok (.invokevirtual 143, 3) := by decide +kernel
theorem d_X9_merged_40 : dec m_X9_merged 40 = .ok (.aload_n 0, 1) := by decide +kernel
theorem d_X9_merged_41 : dec m_X9_merged 41 = .ok (.iconst 1, 1) := by decide +kernel
theorem d_X9_merged_42 : dec m_X9_merged 42 = .ok (.iload_n 2, 1) := by decide +kernel
theorem d_X9_merged_43 : dec m_X9_merged 43 = .ok (.ishl, 1) := by decide +kernel
theorem d_X9_merged_44 : dec m_X9_merged 44 = .ok (.invokevirtual 143, 3) := by decide +kernel
theorem d_X9_merged_47 : dec m_X9_merged 47 = .ok (.iadd, 1) := by decide +kernel
theorem d_X9_merged_48 : dec m_X9_merged 48 = .ok (.istore 4, 2) := by decide +kernel
theorem d_X9_merged_50 : dec m_X9_merged 50 = .ok (.aload_n 0, 1) := by decide +kernel
theorem d_X9_merged_51 : dec m_X9_merged 51 = .ok (.iconst 1, 1) := by decide +kernel
theorem d_X9_merged_52 : dec m_X9_merged 52 = .ok (.iload_n 1, 1) := by decide +kernel
theorem d_X9_merged_53 : dec m_X9_merged 53 = .ok (.ishl, 1) := by decide +kernel
theorem d_X9_merged_54 : dec m_X9_merged 54 = .ok (.iconst 1, 1) := by decide +kernel
theorem d_X9_merged_55 : dec m_X9_merged 55 = .ok (.iload_n 2, 1) := by decide +kernel
theorem d_X9_merged_56 : dec m_X9_merged 56 = .ok (.ishl, 1) := by decide +kernel
theorem d_X9_merged_57 : dec m_X9_merged 57 = .ok (.ior, 1) := by decide +kernel
theorem d_X9_merged_58 : dec m_X9_merged 58 = .ok (.invokevirtual 139, 3) := by decide +kernel
theorem d_X9_merged_61 : dec m_X9_merged 61 = .ok (.iload_n 3, 1) := by decide +kernel
theorem d_X9_merged_62 : dec m_X9_merged 62 = .ok (.ifCond .ne 10, 3) := by decide +kernel
theorem d_X9_merged_65 : dec m_X9_merged 65 = .ok (.aload_n 0, 1) := by decide +kernel
theorem d_X9_merged_66 : dec m_X9_merged 66 = .ok (.getfield 133, 3) := by decide +kernel
theorem d_X9_merged_69 : dec m_X9_merged 69 = .ok (.goto 22, 3) := by decide +kernel
theorem d_X9_merged_72 : dec m_X9_merged 72 = .ok (.iload_n 3, 1) := by decide +kernel
theorem d_X9_merged_73 : dec m_X9_merged 73 = .ok (.iconst 1, 1) := by decide +kernel
theorem d_X9_merged_74 : dec m_X9_merged 74 = .ok (.if_icmp .ne 10, 3) := by decide +kernel
theorem d_X9_merged_77 : dec m_X9_merged 77 = .ok (.aload_n 0, 1) := by decide +kernel
theorem d_X9_merged_78 : dec m_X9_merged 78 = .ok (.getfield 136, 3) := by decide +kernel
theorem d_X9_merged_81 : dec m_X9_merged 81 = .ok (.goto 10, 3) := by decide +kernel
theorem d_X9_merged_84 : dec m_X9_merged 84 = .ok (.aload_n 0, 1) := by decide +kernel
theorem d_X9_merged_85 : dec m_X9_merged 85 = .ok (.getfield 136, 3) := by decide +kernel
theorem d_X9_merged_88 : dec m_X9_merged 88 = .ok (.iload 4, 2) := by decide +kernel
theorem d_X9_merged_90 : dec m_X9_merged 90 = .ok (.isub, 1) := by decide +kernel
theorem d_X9_merged_91 : dec m_X9_merged 91 = .ok (.ireturn, 1) := by decide +kernel
theorem d_X9_prices_0 : dec m_X9_prices 0 = .ok (.iload_n 1, 1) := by decide +kernel
theorem d_X9_prices_1 : dec m_X9_prices 1 = .ok (.invokestatic 195, 3) := by decide +kernel
theorem d_X9_prices_4 : dec m_X9_prices 4 = .ok (.ifCond .eq 15, 3) := by decide +kernel
theorem d_X9_prices_7 : dec m_X9_prices 7 = .ok (.iload_n 2, 1) := by decide +kernel
theorem d_X9_prices_8 : dec m_X9_prices 8 = .ok (.i2l, 1) := by decide +kernel
theorem d_X9_prices_9 : dec m_X9_prices 9 = .ok (.lconst 0, 1) := by decide +kernel
theorem d_X9_prices_10 : dec m_X9_prices 10 = .ok (.ldc2_w 217, 3) := by decide +kernel
theorem d_X9_prices_13 : dec m_X9_prices 13 = .ok (.invokestatic 82, 3) := by decide +kernel
theorem d_X9_prices_16 : dec m_X9_prices 16 = .ok (.ifCond .ne 5, 3) := by decide +kernel
theorem d_X9_prices_19 : dec m_X9_prices 19 = .ok (.iconst (-1), 1) := by decide +kernel
theorem d_X9_prices_20 : dec m_X9_prices 20 = .ok (.ireturn, 1) := by decide +kernel
theorem d_X9_prices_21 : dec m_X9_prices 21 = .ok (.aload_n 0, 1) := by decide +kernel
theorem d_X9_prices_22 : dec m_X9_prices 22 = .ok (.iconst 1, 1) := by decide +kernel
theorem d_X9_prices_23 : dec m_X9_prices 23 = .ok (.iload_n 1, 1) := by decide +kernel
theorem d_X9_prices_24 : dec m_X9_prices 24 = .ok (.ishl, 1) := by decide +kernel
theorem d_X9_prices_25 : dec m_X9_prices 25 = .ok (.invokevirtual 139, 3) := by decide +kernel
theorem d_X9_prices_28 : dec m_X9_prices 28 = .ok (.aload_n 0, 1) := by decide +kernel
theorem d_X9_prices_29 : dec m_X9_prices 29 = .ok (.getfield 133, 3) := by decide +kernel
theorem d_X9_prices_32 : dec m_X9_prices 32 = .ok (.ifCond .ne 6, 3) := by decide +kernel
theorem d_X9_prices_35 : dec m_X9_prices 35 = .ok (.bipush (-2), 2) := by decide +kernel
theorem d_X9_prices_37 : dec m_X9_prices 37 = .ok (.ireturn, 1) := by decide +kernel
theorem d_X9_prices_38 : dec m_X9_prices 38 = .ok (.aload_n 0, 1) := by decide +kernel
theorem d_X9_prices_39 : dec m_X9_prices 39 = .ok (.getfield 38, 3) := by decide +kernel
theorem d_X9_prices_42 : dec m_X9_prices 42 = .ok (.aload_n 0, 1) := by decide +kernel
theorem d_X9_prices_43 : dec m_X9_prices 43 = .ok (.getfield 133, 3) := by decide +kernel
theorem d_X9_prices_46 : dec m_X9_prices 46 = .ok (.iconst 1, 1) := by decide +kernel
theorem d_X9_prices_47 : dec m_X9_prices 47 = .ok (.isub, 1) := by decide +kernel
theorem d_X9_prices_48 : dec m_X9_prices 48 = .ok (.iaload, 1) := by decide +kernel
theorem d_X9_prices_49 : dec m_X9_prices 49 = .ok (.istore_n 3, 1) := by decide +kernel
theorem d_X9_prices_50 : dec m_X9_prices 50 = .ok (.aload_n 0, 1) := by decide +kernel
theorem d_X9_prices_51 : dec m_X9_prices 51 = .ok (.getfield 29, 3) := by decide +kernel
theorem d_X9_prices_54 : dec m_X9_prices 54 = .ok (.aload_n 0, 1) := by decide +kernel
theorem d_X9_prices_55 : dec m_X9_prices 55 = .ok (.getfield 133, 3) := by decide +kernel
theorem d_X9_prices_58 : dec m_X9_prices 58 = .ok (.iconst 1, 1) := by decide +kernel
theorem d_X9_prices_59 : dec m_X9_prices 59 = .ok (.isub, 1) := by decide +kernel
theorem d_X9_prices_60 : dec m_X9_prices 60 = .ok (.iaload, 1) := by decide +kernel
theorem d_X9_prices_61 : dec m_X9_prices 61 = .ok (.istore 4, 2) := by decide +kernel
theorem d_X9_prices_63 : dec m_X9_prices 63 = .ok (.aload_n 0, 1) := by decide +kernel
theorem d_X9_prices_64 : dec m_X9_prices 64 = .ok (.getfield 133, 3) := by decide +kernel
theorem d_X9_prices_67 : dec m_X9_prices 67 = .ok (.aload_n 0, 1) := by decide +kernel
theorem d_X9_prices_68 : dec m_X9_prices 68 = .ok (.getfield 113, 3) := by decide +kernel
theorem d_X9_prices_71 : dec m_X9_prices 71 = .ok (.if_icmp .ge 26, 3) := by decide +kernel
theorem d_X9_prices_74 : dec m_X9_prices 74 = .ok (.aload_n 0, 1) := by decide +kernel
theorem d_X9_prices_75 : dec m_X9_prices 75 = .ok (.getfield 29, 3) := by decide +kernel
theorem d_X9_prices_78 : dec m_X9_prices 78 = .ok (.aload_n 0, 1) := by decide +kernel
theorem d_X9_prices_79 : dec m_X9_prices 79 = .ok (.getfield 133, 3) := by decide +kernel
theorem d_X9_prices_82 : dec m_X9_prices 82 = .ok (.iaload, 1) := by decide +kernel
theorem d_X9_prices_83 : dec m_X9_prices 83 = .ok (.iload_n 3, 1) := by decide +kernel
theorem d_X9_prices_84 : dec m_X9_prices 84 = .ok (.if_icmp .le 13, 3) := by decide +kernel
theorem d_X9_prices_87 : dec m_X9_prices 87 = .ok (.aload_n 0, 1) := by decide +kernel
theorem d_X9_prices_88 : dec m_X9_prices 88 = .ok (.getfield 29, 3) := by decide +kernel
theorem d_X9_prices_91 : dec m_X9_prices 91 = .ok (.aload_n 0, 1) := by decide +kernel
theorem d_X9_prices_92 : dec m_X9_prices 92 = .ok (.getfield 133, 3) := by decide +kernel
theorem d_X9_prices_95 : dec m_X9_prices 95 = .ok (.iaload, 1) := by decide +kernel
theorem d_X9_prices_96 : dec m_X9_prices 96 = .ok (.istore_n 3, 1) := by decide +kernel
theorem d_X9_prices_97 : dec m_X9_prices 97 = .ok (.aload_n 0, 1) := by decide +kernel
theorem d_X9_prices_98 : dec m_X9_prices 98 = .ok (.getfield 133, 3) := by decide +kernel
theorem d_X9_prices_101 : dec m_X9_prices 101 = .ok (.aload_n 0, 1) := by decide +kernel
theorem d_X9_prices_102 : dec m_X9_prices 102 = .ok (.getfield 116, 3) := by decide +kernel
theorem d_X9_prices_105 : dec m_X9_prices 105 = .ok (.if_icmp .ge 28, 3) := by decide +kernel
theorem d_X9_prices_108 : dec m_X9_prices 108 = .ok (.aload_n 0, 1) := by decide +kernel
theorem d_X9_prices_109 : dec m_X9_prices 109 = .ok (.getfield 38, 3) := by decide +kernel
theorem d_X9_prices_112 : dec m_X9_prices 112 = .ok (.aload_n 0, 1) := by decide +kernel
theorem d_X9_prices_113 : dec m_X9_prices 113 = .ok (.getfield 133, 3) := by decide +kernel
theorem d_X9_prices_116 : dec m_X9_prices 116 = .ok (.iaload, 1) := by decide +kernel
theorem d_X9_prices_117 : dec m_X9_prices 117 = .ok (.iload 4, 2) := by decide +kernel
theorem d_X9_prices_119 : dec m_X9_prices 119 = .ok (.if_icmp .ge 14, 3) := by decide +kernel
theorem d_X9_prices_122 : dec m_X9_prices 122 = .ok (.aload_n 0, 1) := by decide +kernel
theorem d_X9_prices_123 : dec m_X9_prices 123 = .ok (.getfield 38, 3) := by decide +kernel
theorem d_X9_prices_126 : dec m_X9_prices 126 = .ok (.aload_n 0, 1) := by decide +kernel
theorem d_X9_prices_127 : dec m_X9_prices 127 = .ok (.getfield 133, 3) := by decide +kernel
theorem d_X9_prices_130 : dec m_X9_prices 130 = .ok (.iaload, 1) := by decide +kernel
theorem d_X9_prices_131 : dec m_X9_prices 131 = .ok (.istore 4, 2) := by decide +kernel
theorem d_X9_prices_133 : dec m_X9_prices 133 = .ok (.iload_n 2, 1) := by decide +kernel
theorem d_X9_prices_134 : dec m_X9_prices 134 = .ok (.ifCond .ne 7, 3) := by decide +kernel
theorem d_X9_prices_137 : dec m_X9_prices 137 = .ok (.iload_n 3, 1) := by decide +kernel
theorem d_X9_prices_138 : dec m_X9_prices 138 = .ok (.goto 19, 3) := by decide +kernel
theorem d_X9_prices_141 : dec m_X9_prices 141 = .ok (.iload_n 2, 1) := by decide +kernel
theorem d_X9_prices_142 : dec m_X9_prices 142 = .ok (.iconst 1, 1) := by decide +kernel
theorem d_X9_prices_143 : dec m_X9_prices 143 = .ok (.if_icmp .ne 8, 3) := by decide +kernel
theorem d_X9_prices_146 : dec m_X9_prices 146 = .ok (.iload 4, 2) := by decide +kernel
theorem d_X9_prices_148 : dec m_X9_prices 148 = .ok (.goto 9, 3) := by decide +kernel
theorem d_X9_prices_151 : dec m_X9_prices 151 = .ok (.iload 4, 2) := by decide +kernel
theorem d_X9_prices_153 : dec m_X9_prices 153 = .ok (.iload_n 3, 1) := by decide +kernel
theorem d_X9_prices_154 : dec m_X9_prices 154 = .ok (.isub, 1) := by decide +kernel
theorem d_X9_prices_155 : dec m_X9_prices 155 = .ok (.iconst 1, 1) := by decide +kernel
theorem d_X9_prices_156 : dec m_X9_prices 156 = .ok (.iadd, 1) := by decide +kernel
theorem d_X9_prices_157 : dec m_X9_prices 157 = .ok (.ireturn, 1) := by decide +kernel
theorem d_X9_shelves_0 : dec m_X9_shelves 0 = .ok (.aload_n 0, 1) := by decide +kernel
theorem d_X9_shelves_1 : dec m_X9_shelves 1 = .ok (.getfield 19, 3) := by decide +kernel
theorem d_X9_shelves_4 : dec m_X9_shelves 4 = .ok (.iconst 0, 1) := by decide +kernel
theorem d_X9_shelves_5 : dec m_X9_shelves 5 = .ok (.baload, 1) := by decide +kernel
theorem d_X9_shelves_6 : dec m_X9_shelves 6 = .ok (.ifCond .eq 7, 3) := by decide +kernel
theorem d_X9_shelves_9 : dec m_X9_shelves 9 = .ok (.iconst 1, 1) := by decide +kernel
theorem d_X9_shelves_10 : dec m_X9_shelves 10 = .ok (.goto 4, 3) := by decide +kernel
theorem d_X9_shelves_13 : dec m_X9_shelves 13 = .ok (.iconst 0, 1) := by decide +kernel
theorem d_X9_shelves_14 : dec m_X9_shelves 14 = .ok (.aload_n 0, 1) := by decide +kernel
theorem d_X9_shelves_15 : dec m_X9_shelves 15 = .ok (.getfield 19, 3) := by decide +kernel
