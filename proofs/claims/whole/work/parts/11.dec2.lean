set_option maxRecDepth 100000
theorem d_X8_winner_58 : dec m_X8_winner 58 = .ok (.iconst 0, 1) := by decide +kernel
theorem d_X8_winner_59 : dec m_X8_winner 59 = .ok (.invokevirtual 367, 3) := by decide +kernel
theorem d_X8_winner_62 : dec m_X8_winner 62 = .ok (.goto 5, 3) := by decide +kernel
theorem d_X8_winner_65 : dec m_X8_winner 65 = .ok (.bipush (-2), 2) := by decide +kernel
theorem d_X8_winner_67 : dec m_X8_winner 67 = .ok (.ireturn, 1) := by decide +kernel
theorem d_X8_winner_68 : dec m_X8_winner 68 = .ok (.aload_n 0, 1) := by decide +kernel
theorem d_X8_winner_69 : dec m_X8_winner 69 = .ok (.getfield 57, 3) := by decide +kernel
theorem d_X8_winner_72 : dec m_X8_winner 72 = .ok (.iconst 0, 1) := by decide +kernel
theorem d_X8_winner_73 : dec m_X8_winner 73 = .ok (.invokevirtual 369, 3) := by decide +kernel
theorem d_X8_winner_76 : dec m_X8_winner 76 = .ok (.ireturn, 1) := by decide +kernel
theorem d_X8_winner_77 : dec m_X8_winner 77 = .ok (.aload_n 0, 1) := by decide +kernel
theorem d_X8_winner_78 : dec m_X8_winner 78 = .ok (.getfield 57, 3) := by decide +kernel
theorem d_X8_winner_81 : dec m_X8_winner 81 = .ok (.invokevirtual 372, 3) := by decide +kernel
theorem d_X8_winner_84 : dec m_X8_winner 84 = .ok (.ireturn, 1) := by decide +kernel
theorem d_X8_winner_85 : dec m_X8_winner 85 = .ok (.ldc 195, 2) := by decide +kernel
theorem d_X8_winner_87 : dec m_X8_winner 87 = .ok (.ireturn, 1) := by decide +kernel
theorem d_X8_demand_0 : dec m_X8_demand 0 = .ok (.iload_n 1, 1) := by decide +kernel
theorem d_X8_demand_1 : dec m_X8_demand 1 = .ok (.invokestatic 99, 3) := by decide +kernel
theorem d_X8_demand_4 : dec m_X8_demand 4 = .ok (.ifCond .eq 23, 3) := by decide +kernel
theorem d_X8_demand_7 : dec m_X8_demand 7 = .ok (.iload_n 2, 1) := by decide +kernel
theorem d_X8_demand_8 : dec m_X8_demand 8 = .ok (.ifCond .lt 19, 3) := by decide +kernel
theorem d_X8_demand_11 : dec m_X8_demand 11 = .ok (.iload_n 2, 1) := by decide +kernel
theorem d_X8_demand_12 : dec m_X8_demand 12 = .ok (.sipush 10499, 3) := by decide +kernel
theorem d_X8_demand_15 : dec m_X8_demand 15 = .ok (.if_icmp .gt 12, 3) := by decide +kernel
theorem d_X8_demand_18 : dec m_X8_demand 18 = .ok (.iload_n 3, 1) := by decide +kernel
theorem d_X8_demand_19 : dec m_X8_demand 19 = .ok (.ifCond .lt 8, 3) := by decide +kernel
theorem d_X8_demand_22 : dec m_X8_demand 22 = .ok (.iload_n 3, 1) := by decide +kernel
theorem d_X8_demand_23 : dec m_X8_demand 23 = .ok (.iconst 2, 1) := by decide +kernel
theorem d_X8_demand_24 : dec m_X8_demand 24 = .ok (.if_icmp .le 5, 3) := by decide +kernel
theorem d_X8_demand_27 : dec m_X8_demand 27 = .ok (.iconst (-1), 1) := by decide +kernel
theorem d_X8_demand_28 : dec m_X8_demand 28 = .ok (.ireturn, 1) := by decide +kernel
theorem d_X8_demand_29 : dec m_X8_demand 29 = .ok (.aload_n 0, 1) := by decide +kernel
theorem d_X8_demand_30 : dec m_X8_demand 30 = .ok (.iload_n 1, 1) := by decide +kernel
theorem d_X8_demand_31 : dec m_X8_demand 31 = .ok (.invokevirtual 154, 3) := by decide +kernel
theorem d_X8_demand_34 : dec m_X8_demand 34 = .ok (.aload_n 0, 1) := by decide +kernel
theorem d_X8_demand_35 : dec m_X8_demand 35 = .ok (.getfield 47, 3) := by decide +kernel
theorem d_X8_demand_38 : dec m_X8_demand 38 = .ok (.iload_n 2, 1) := by decide +kernel
theorem d_X8_demand_39 : dec m_X8_demand 39 = .ok (.invokevirtual 375, 3) := by decide +kernel
theorem d_X8_demand_42 : dec m_X8_demand 42 = .ok (.istore 4, 2) := by decide +kernel
theorem d_X8_demand_44 : dec m_X8_demand 44 = .ok (.aload_n 0, 1) := by decide +kernel
theorem d_X8_demand_45 : dec m_X8_demand 45 = .ok (.getfield 47, 3) := by decide +kernel
theorem d_X8_demand_48 : dec m_X8_demand 48 = .ok (.iload_n 2, 1) := by decide +kernel
theorem d_X8_demand_49 : dec m_X8_demand 49 = .ok (.invokevirtual 378, 3) := by decide +kernel
theorem d_X8_demand_52 : dec m_X8_demand 52 = .ok (.istore 5, 2) := by decide +kernel
theorem d_X8_demand_54 : dec m_X8_demand 54 = .ok (.iload_n 3, 1) := by decide +kernel
theorem d_X8_demand_55 : dec m_X8_demand 55 = .ok (.iconst 2, 1) := by decide +kernel
theorem d_X8_demand_56 : dec m_X8_demand 56 = .ok (.if_icmp .ne 11, 3) := by decide +kernel
theorem d_X8_demand_59 : dec m_X8_demand 59 = .ok (.iload 4, 2) := by decide +kernel
theorem d_X8_demand_61 : dec m_X8_demand 61 = .ok (.iload 5, 2) := by decide +kernel
theorem d_X8_demand_63 : dec m_X8_demand 63 = .ok (.invokestatic 381, 3) := by decide +kernel
theorem d_X8_demand_66 : dec m_X8_demand 66 = .ok (.ireturn, 1) := by decide +kernel
theorem d_X8_demand_67 : dec m_X8_demand 67 = .ok (.iload_n 3, 1) := by decide +kernel
theorem d_X8_demand_68 : dec m_X8_demand 68 = .ok (.ifCond .ne 8, 3) := by decide +kernel
theorem d_X8_demand_71 : dec m_X8_demand 71 = .ok (.iload 4, 2) := by decide +kernel
theorem d_X8_demand_73 : dec m_X8_demand 73 = .ok (.goto 5, 3) := by decide +kernel
theorem d_X8_demand_76 : dec m_X8_demand 76 = .ok (.iload 5, 2) := by decide +kernel
theorem d_X8_demand_78 : dec m_X8_demand 78 = .ok (.ireturn, 1) := by decide +kernel
theorem d_X8_lively_0 : dec m_X8_lively 0 = .ok (.iload_n 1, 1) := by decide +kernel
theorem d_X8_lively_1 : dec m_X8_lively 1 = .ok (.invokestatic 99, 3) := by decide +kernel
theorem d_X8_lively_4 : dec m_X8_lively 4 = .ok (.ifCond .eq 12, 3) := by decide +kernel
theorem d_X8_lively_7 : dec m_X8_lively 7 = .ok (.iload_n 2, 1) := by decide +kernel
theorem d_X8_lively_8 : dec m_X8_lively 8 = .ok (.ifCond .lt 8, 3) := by decide +kernel
theorem d_X8_lively_11 : dec m_X8_lively 11 = .ok (.iload_n 2, 1) := by decide +kernel
theorem d_X8_lively_12 : dec m_X8_lively 12 = .ok (.iconst 2, 1) := by decide +kernel
theorem d_X8_lively_13 : dec m_X8_lively 13 = .ok (.if_icmp .le 5, 3) := by decide +kernel
theorem d_X8_lively_16 : dec m_X8_lively 16 = .ok (.iconst (-1), 1) := by decide +kernel
theorem d_X8_lively_17 : dec m_X8_lively 17 = .ok (.ireturn, 1) := by decide +kernel
theorem d_X8_lively_18 : dec m_X8_lively 18 = .ok (.aload_n 0, 1) := by decide +kernel
theorem d_X8_lively_19 : dec m_X8_lively 19 = .ok (.iload_n 1, 1) := by decide +kernel
theorem d_X8_lively_20 : dec m_X8_lively 20 = .ok (.invokevirtual 154, 3) := by decide +kernel
theorem d_X8_lively_23 : dec m_X8_lively 23 = .ok (.aload_n 0, 1) := by decide +kernel
theorem d_X8_lively_24 : dec m_X8_lively 24 = .ok (.getfield 47, 3) := by decide +kernel
theorem d_X8_lively_27 : dec m_X8_lively 27 = .ok (.getfield 223, 3) := by decide +kernel
theorem d_X8_lively_30 : dec m_X8_lively 30 = .ok (.ifCond .le 7, 3) := by decide +kernel
theorem d_X8_lively_33 : dec m_X8_lively 33 = .ok (.iconst 1, 1) := by decide +kernel
theorem d_X8_lively_34 : dec m_X8_lively 34 = .ok (.goto 4, 3) := by decide +kernel
theorem d_X8_lively_37 : dec m_X8_lively 37 = .ok (.iconst 0, 1) := by decide +kernel
theorem d_X8_lively_38 : dec m_X8_lively 38 = .ok (.istore_n 3, 1) := by decide +kernel
theorem d_X8_lively_39 : dec m_X8_lively 39 = .ok (.iload_n 2, 1) := by decide +kernel
theorem d_X8_lively_40 : dec m_X8_lively 40 = .ok (.lookupswitch 62 #[(0, 28), (1, 44)], 28) := by decide +kernel
theorem d_X8_lively_68 : dec m_X8_lively 68 = .ok (.iload_n 3, 1) := by decide +kernel
theorem d_X8_lively_69 : dec m_X8_lively 69 = .ok (.ifCond .eq 13, 3) := by decide +kernel
theorem d_X8_lively_72 : dec m_X8_lively 72 = .ok (.aload_n 0, 1) := by decide +kernel
theorem d_X8_lively_73 : dec m_X8_lively 73 = .ok (.getfield 47, 3) := by decide +kernel
theorem d_X8_lively_76 : dec m_X8_lively 76 = .ok (.invokevirtual 245, 3) := by decide +kernel
theorem d_X8_lively_79 : dec m_X8_lively 79 = .ok (.goto 4, 3) := by decide +kernel
theorem d_X8_lively_82 : dec m_X8_lively 82 = .ok (.iconst 0, 1) := by decide +kernel
theorem d_X8_lively_83 : dec m_X8_lively 83 = .ok (.ireturn, 1) := by decide +kernel
theorem d_X8_lively_84 : dec m_X8_lively 84 = .ok (.iload_n 3, 1) := by decide +kernel
theorem d_X8_lively_85 : dec m_X8_lively 85 = .ok (.ifCond .eq 13, 3) := by decide +kernel
theorem d_X8_lively_88 : dec m_X8_lively 88 = .ok (.aload_n 0, 1) := by decide +kernel
theorem d_X8_lively_89 : dec m_X8_lively 89 = .ok (.getfield 47, 3) := by decide +kernel
theorem d_X8_lively_92 : dec m_X8_lively 92 = .ok (.invokevirtual 242, 3) := by decide +kernel
theorem d_X8_lively_95 : dec m_X8_lively 95 = .ok (.goto 6, 3) := by decide +kernel
theorem d_X8_lively_98 : dec m_X8_lively 98 = .ok (.sipush 10499, 3) := by decide +kernel
theorem d_X8_lively_101 : dec m_X8_lively 101 = .ok (.ireturn, 1) := by decide +kernel
theorem d_X8_lively_102 : dec m_X8_lively 102 = .ok (.aload_n 0, 1) := by decide +kernel
theorem d_X8_lively_103 : dec m_X8_lively 103 = .ok (.getfield 47, 3) := by decide +kernel
theorem d_X8_lively_106 : dec m_X8_lively 106 = .ok (.getfield 223, 3) := by decide +kernel
theorem d_X8_lively_109 : dec m_X8_lively 109 = .ok (.ireturn, 1) := by decide +kernel
theorem d_X8_pact_0 : dec m_X8_pact 0 = .ok (.aload_n 0, 1) := by decide +kernel
theorem d_X8_pact_1 : dec m_X8_pact 1 = .ok (.iload_n 1, 1) := by decide +kernel
theorem d_X8_pact_2 : dec m_X8_pact 2 = .ok (.iload_n 2, 1) := by decide +kernel
theorem d_X8_pact_3 : dec m_X8_pact 3 = .ok (.invokevirtual 360, 3) := by decide +kernel
theorem d_X8_pact_6 : dec m_X8_pact 6 = .ok (.ifCond .eq 12, 3) := by decide +kernel
theorem d_X8_pact_9 : dec m_X8_pact 9 = .ok (.iload_n 3, 1) := by decide +kernel
theorem d_X8_pact_10 : dec m_X8_pact 10 = .ok (.ifCond .lt 8, 3) := by decide +kernel
theorem d_X8_pact_13 : dec m_X8_pact 13 = .ok (.iload_n 3, 1) := by decide +kernel
theorem d_X8_pact_14 : dec m_X8_pact 14 = .ok (.iconst 2, 1) := by decide +kernel
theorem d_X8_pact_15 : dec m_X8_pact 15 = .ok (.if_icmp .le 6, 3) := by decide +kernel
theorem d_X8_pact_18 : dec m_X8_pact 18 = .ok (.ldc 195, 2) := by decide +kernel
theorem d_X8_pact_20 : dec m_X8_pact 20 = .ok (.ireturn, 1) := by decide +kernel
theorem d_X8_pact_21 : dec m_X8_pact 21 = .ok (.aload_n 0, 1) := by decide +kernel
theorem d_X8_pact_22 : dec m_X8_pact 22 = .ok (.aload_n 0, 1) := by decide +kernel
theorem d_X8_pact_23 : dec m_X8_pact 23 = .ok (.getfield 12, 3) := by decide +kernel
theorem d_X8_pact_26 : dec m_X8_pact 26 = .ok (.iload_n 1, 1) := by decide +kernel
theorem d_X8_pact_27 : dec m_X8_pact 27 = .ok (.invokevirtual 196, 3) := by decide +kernel
theorem d_X8_pact_30 : dec m_X8_pact 30 = .ok (.iload_n 1, 1) := by decide +kernel
theorem d_X8_pact_31 : dec m_X8_pact 31 = .ok (.invokestatic 255, 3) := by decide +kernel
theorem d_X8_pact_34 : dec m_X8_pact 34 = .ok (.iload_n 2, 1) := by decide +kernel
theorem d_X8_pact_35 : dec m_X8_pact 35 = .ok (.invokestatic 255, 3) := by decide +kernel
theorem d_X8_pact_38 : dec m_X8_pact 38 = .ok (.ior, 1) := by decide +kernel
theorem d_X8_pact_39 : dec m_X8_pact 39 = .ok (.invokevirtual 258, 3) := by decide +kernel
theorem d_X8_pact_42 : dec m_X8_pact 42 = .ok (.aload_n 0, 1) := by decide +kernel
theorem d_X8_pact_43 : dec m_X8_pact 43 = .ok (.iload_n 1, 1) := by decide +kernel
theorem d_X8_pact_44 : dec m_X8_pact 44 = .ok (.iload_n 2, 1) := by decide +kernel
theorem d_X8_pact_45 : dec m_X8_pact 45 = .ok (.iconst 0, 1) := by decide +kernel
theorem d_X8_pact_46 : dec m_X8_pact 46 = .ok (.invokevirtual 386, 3) := by decide +kernel
theorem d_X8_pact_49 : dec m_X8_pact 49 = .ok (.istore 4, 2) := by decide +kernel
theorem d_X8_pact_51 : dec m_X8_pact 51 = .ok (.iload 4, 2) := by decide +kernel
theorem d_X8_pact_53 : dec m_X8_pact 53 = .ok (.istore 5, 2) := by decide +kernel
theorem d_X8_pact_55 : dec m_X8_pact 55 = .ok (.iconst 0, 1) := by decide +kernel
theorem d_X8_pact_56 : dec m_X8_pact 56 = .ok (.istore 6, 2) := by decide +kernel
theorem d_X8_pact_58 : dec m_X8_pact 58 = .ok (.iconst 1, 1) := by decide +kernel
theorem d_X8_pact_59 : dec m_X8_pact 59 = .ok (.istore 7, 2) := by decide +kernel
theorem d_X8_pact_61 : dec m_X8_pact 61 = .ok (.iload 7, 2) := by decide +kernel
theorem d_X8_pact_63 : dec m_X8_pact 63 = .ok (.sipush 200, 3) := by decide +kernel
theorem d_X8_pact_66 : dec m_X8_pact 66 = .ok (.if_icmp .gt 41, 3) := by decide +kernel
theorem d_X8_pact_69 : dec m_X8_pact 69 = .ok (.iload 7, 2) := by decide +kernel
theorem d_X8_pact_71 : dec m_X8_pact 71 = .ok (.invokestatic 264, 3) := by decide +kernel
theorem d_X8_pact_74 : dec m_X8_pact 74 = .ok (.istore 8, 2) := by decide +kernel
theorem d_X8_pact_76 : dec m_X8_pact 76 = .ok (.aload_n 0, 1) := by decide +kernel
theorem d_X8_pact_77 : dec m_X8_pact 77 = .ok (.iload_n 1, 1) := by decide +kernel
theorem d_X8_pact_78 : dec m_X8_pact 78 = .ok (.iload_n 2, 1) := by decide +kernel
theorem d_X8_pact_79 : dec m_X8_pact 79 = .ok (.iload 8, 2) := by decide +kernel
theorem d_X8_pact_81 : dec m_X8_pact 81 = .ok (.invokevirtual 386, 3) := by decide +kernel
theorem d_X8_pact_84 : dec m_X8_pact 84 = .ok (.istore 9, 2) := by decide +kernel
theorem d_X8_pact_86 : dec m_X8_pact 86 = .ok (.iload 9, 2) := by decide +kernel
theorem d_X8_pact_88 : dec m_X8_pact 88 = .ok (.iload 5, 2) := by decide +kernel
theorem d_X8_pact_90 : dec m_X8_pact 90 = .ok (.if_icmp .le 11, 3) := by decide +kernel
theorem d_X8_pact_93 : dec m_X8_pact 93 = .ok (.iload 9, 2) := by decide +kernel
theorem d_X8_pact_95 : dec m_X8_pact 95 = .ok (.istore 5, 2) := by decide +kernel
theorem d_X8_pact_97 : dec m_X8_pact 97 = .ok (.iload 8, 2) := by decide +kernel
theorem d_X8_pact_99 : dec m_X8_pact 99 = .ok (.istore 6, 2) := by decide +kernel
theorem d_X8_pact_101 : dec m_X8_pact 101 = .ok (.iinc 7 1, 3) := by decide +kernel
theorem d_X8_pact_104 : dec m_X8_pact 104 = .ok (.goto (-43), 3) := by decide +kernel
theorem d_X8_pact_107 : dec m_X8_pact 107 = .ok (.iload_n 3, 1) := by decide +kernel
theorem d_X8_pact_108 : dec m_X8_pact 108 = .ok (.iconst 1, 1) := by decide +kernel
theorem d_X8_pact_109 : dec m_X8_pact 109 = .ok (.if_icmp .ne 6, 3) := by decide +kernel
theorem d_X8_pact_112 : dec m_X8_pact 112 = .ok (.iload 6, 2) := by decide +kernel
theorem d_X8_pact_114 : dec m_X8_pact 114 = .ok (.ireturn, 1) := by decide +kernel
theorem d_X8_pact_115 : dec m_X8_pact 115 = .ok (.iload_n 3, 1) := by decide +kernel
theorem d_X8_pact_116 : dec m_X8_pact 116 = .ok (.ifCond .ne 8, 3) := by decide +kernel
theorem d_X8_pact_119 : dec m_X8_pact 119 = .ok (.iload 5, 2) := by decide +kernel
theorem d_X8_pact_121 : dec m_X8_pact 121 = .ok (.goto 8, 3) := by decide +kernel
theorem d_X8_pact_124 : dec m_X8_pact 124 = .ok (.iload 5, 2) := by decide +kernel
theorem d_X8_pact_126 : dec m_X8_pact 126 = .ok (.iload 4, 2) := by decide +kernel
theorem d_X8_pact_128 : dec m_X8_pact 128 = .ok (.isub, 1) := by decide +kernel
theorem d_X8_pact_129 : dec m_X8_pact 129 = .ok (.ireturn, 1) := by decide +kernel
theorem d_X8_moved_0 : dec m_X8_moved 0 = .ok (.aload_n 0, 1) := by decide +kernel
theorem d_X8_moved_1 : dec m_X8_moved 1 = .ok (.getfield 12, 3) := by decide +kernel
theorem d_X8_moved_4 : dec m_X8_moved 4 = .ok (.iload_n 1, 1) := by decide +kernel
theorem d_X8_moved_5 : dec m_X8_moved 5 = .ok (.invokevirtual 110, 3) := by decide +kernel
theorem d_X8_moved_8 : dec m_X8_moved 8 = .ok (.ifCond .eq 10, 3) := by decide +kernel
theorem d_X8_moved_11 : dec m_X8_moved 11 = .ok (.iload_n 2, 1) := by decide +kernel
theorem d_X8_moved_12 : dec m_X8_moved 12 = .ok (.invokestatic 248, 3) := by decide +kernel
theorem d_X8_moved_15 : dec m_X8_moved 15 = .ok (.ifCond .ne 6, 3) := by decide +kernel
theorem d_X8_moved_18 : dec m_X8_moved 18 = .ok (.ldc 195, 2) := by decide +kernel
theorem d_X8_moved_20 : dec m_X8_moved 20 = .ok (.ireturn, 1) := by decide +kernel
theorem d_X8_moved_21 : dec m_X8_moved 21 = .ok (.aload_n 0, 1) := by decide +kernel
theorem d_X8_moved_22 : dec m_X8_moved 22 = .ok (.getfield 12, 3) := by decide +kernel
theorem d_X8_moved_25 : dec m_X8_moved 25 = .ok (.iload_n 1, 1) := by decide +kernel
theorem d_X8_moved_26 : dec m_X8_moved 26 = .ok (.invokevirtual 196, 3) := by decide +kernel
theorem d_X8_moved_29 : dec m_X8_moved 29 = .ok (.istore_n 3, 1) := by decide +kernel
theorem d_X8_moved_30 : dec m_X8_moved 30 = .ok (.aload_n 0, 1) := by decide +kernel
theorem d_X8_moved_31 : dec m_X8_moved 31 = .ok (.iload_n 3, 1) := by decide +kernel
theorem d_X8_moved_32 : dec m_X8_moved 32 = .ok (.iload_n 1, 1) := by decide +kernel
theorem d_X8_moved_33 : dec m_X8_moved 33 = .ok (.invokestatic 255, 3) := by decide +kernel
theorem d_X8_moved_36 : dec m_X8_moved 36 = .ok (.invokevirtual 258, 3) := by decide +kernel
theorem d_X8_moved_39 : dec m_X8_moved 39 = .ok (.aload_n 0, 1) := by decide +kernel
theorem d_X8_moved_40 : dec m_X8_moved 40 = .ok (.iload_n 1, 1) := by decide +kernel
theorem d_X8_moved_41 : dec m_X8_moved 41 = .ok (.iconst 0, 1) := by decide +kernel
theorem d_X8_moved_42 : dec m_X8_moved 42 = .ok (.invokevirtual 261, 3) := by decide +kernel
theorem d_X8_moved_45 : dec m_X8_moved 45 = .ok (.istore 4, 2) := by decide +kernel
theorem d_X8_moved_47 : dec m_X8_moved 47 = .ok (.iconst 0, 1) := by decide +kernel
theorem d_X8_moved_48 : dec m_X8_moved 48 = .ok (.istore 5, 2) := by decide +kernel
theorem d_X8_moved_50 : dec m_X8_moved 50 = .ok (.iload 5, 2) := by decide +kernel
theorem d_X8_moved_52 : dec m_X8_moved 52 = .ok (.iconst 4, 1) := by decide +kernel
theorem d_X8_moved_53 : dec m_X8_moved 53 = .ok (.if_icmp .ge 41, 3) := by decide +kernel
theorem d_X8_moved_56 : dec m_X8_moved 56 = .ok (.aload_n 0, 1) := by decide +kernel
theorem d_X8_moved_57 : dec m_X8_moved 57 = .ok (.iload 5, 2) := by decide +kernel
theorem d_X8_moved_59 : dec m_X8_moved 59 = .ok (.iload_n 1, 1) := by decide +kernel
theorem d_X8_moved_60 : dec m_X8_moved 60 = .ok (.invokestatic 255, 3) := by decide +kernel
theorem d_X8_moved_63 : dec m_X8_moved 63 = .ok (.invokevirtual 258, 3) := by decide +kernel
theorem d_X8_moved_66 : dec m_X8_moved 66 = .ok (.aload_n 0, 1) := by decide +kernel
theorem d_X8_moved_67 : dec m_X8_moved 67 = .ok (.iload_n 1, 1) := by decide +kernel
theorem d_X8_moved_68 : dec m_X8_moved 68 = .ok (.iconst 0, 1) := by decide +kernel
theorem d_X8_moved_69 : dec m_X8_moved 69 = .ok (.invokevirtual 261, 3) := by decide +kernel
theorem d_X8_moved_72 : dec m_X8_moved 72 = .ok (.istore 6, 2) := by decide +kernel
theorem d_X8_moved_74 : dec m_X8_moved 74 = .ok (.iload 6, 2) := by decide +kernel
theorem d_X8_moved_76 : dec m_X8_moved 76 = .ok (.iload 4, 2) := by decide +kernel
theorem d_X8_moved_78 : dec m_X8_moved 78 = .ok (.if_icmp .le 10, 3) := by decide +kernel
theorem d_X8_moved_81 : dec m_X8_moved 81 = .ok (.iload 6, 2) := by decide +kernel
theorem d_X8_moved_83 : dec m_X8_moved 83 = .ok (.istore 4, 2) := by decide +kernel
theorem d_X8_moved_85 : dec m_X8_moved 85 = .ok (.iload 5, 2) := by decide +kernel
theorem d_X8_moved_87 : dec m_X8_moved 87 = .ok (.istore_n 3, 1) := by decide +kernel
theorem d_X8_moved_88 : dec m_X8_moved 88 = .ok (.iinc 5 1, 3) := by decide +kernel
theorem d_X8_moved_91 : dec m_X8_moved 91 = .ok (.goto (-41), 3) := by decide +kernel
theorem d_X8_moved_94 : dec m_X8_moved 94 = .ok (.iload_n 2, 1) := by decide +kernel
theorem d_X8_moved_95 : dec m_X8_moved 95 = .ok (.ifCond .ne 7, 3) := by decide +kernel
theorem d_X8_moved_98 : dec m_X8_moved 98 = .ok (.iload_n 3, 1) := by decide +kernel
theorem d_X8_moved_99 : dec m_X8_moved 99 = .ok (.goto 5, 3) := by decide +kernel
theorem d_X8_moved_102 : dec m_X8_moved 102 = .ok (.iload 4, 2) := by decide +kernel
theorem d_X8_moved_104 : dec m_X8_moved 104 = .ok (.ireturn, 1) := by decide +kernel
theorem d_X8_ranked_0 : dec m_X8_ranked 0 = .ok (.iload_n 1, 1) := by decide +kernel
theorem d_X8_ranked_1 : dec m_X8_ranked 1 = .ok (.invokestatic 99, 3) := by decide +kernel
theorem d_X8_ranked_4 : dec m_X8_ranked 4 = .ok (.ifCond .eq 8, 3) := by decide +kernel
theorem d_X8_ranked_7 : dec m_X8_ranked 7 = .ok (.iload_n 2, 1) := by decide +kernel
theorem d_X8_ranked_8 : dec m_X8_ranked 8 = .ok (.iconst (-1), 1) := by decide +kernel
theorem d_X8_ranked_9 : dec m_X8_ranked 9 = .ok (.if_icmp .ge 5, 3) := by decide +kernel
theorem d_X8_ranked_12 : dec m_X8_ranked 12 = .ok (.iconst (-1), 1) := by decide +kernel
theorem d_X8_ranked_13 : dec m_X8_ranked 13 = .ok (.ireturn, 1) := by decide +kernel
theorem d_X8_ranked_14 : dec m_X8_ranked 14 = .ok (.aload_n 0, 1) := by decide +kernel
theorem d_X8_ranked_15 : dec m_X8_ranked 15 = .ok (.iload_n 1, 1) := by decide +kernel
theorem d_X8_ranked_16 : dec m_X8_ranked 16 = .ok (.invokevirtual 363, 3) := by decide +kernel
theorem d_X8_ranked_19 : dec m_X8_ranked 19 = .ok (.iload_n 2, 1) := by decide +kernel
theorem d_X8_ranked_20 : dec m_X8_ranked 20 = .ok (.iconst (-1), 1) := by decide +kernel
theorem d_X8_ranked_21 : dec m_X8_ranked 21 = .ok (.if_icmp .ne 11, 3) := by decide +kernel
theorem d_X8_ranked_24 : dec m_X8_ranked 24 = .ok (.aload_n 0, 1) := by decide +kernel
theorem d_X8_ranked_25 : dec m_X8_ranked 25 = .ok (.getfield 57, 3) := by decide +kernel
theorem d_X8_ranked_28 : dec m_X8_ranked 28 = .ok (.getfield 366, 3) := by decide +kernel
theorem d_X8_ranked_31 : dec m_X8_ranked 31 = .ok (.ireturn, 1) := by decide +kernel
theorem d_X8_ranked_32 : dec m_X8_ranked 32 = .ok (.iload_n 2, 1) := by decide +kernel
theorem d_X8_ranked_33 : dec m_X8_ranked 33 = .ok (.aload_n 0, 1) := by decide +kernel
theorem d_X8_ranked_34 : dec m_X8_ranked 34 = .ok (.getfield 57, 3) := by decide +kernel
theorem d_X8_ranked_37 : dec m_X8_ranked 37 = .ok (.getfield 366, 3) := by decide +kernel
theorem d_X8_ranked_40 : dec m_X8_ranked 40 = .ok (.if_icmp .ge 14, 3) := by decide +kernel
theorem d_X8_ranked_43 : dec m_X8_ranked 43 = .ok (.aload_n 0, 1) := by decide +kernel
theorem d_X8_ranked_44 : dec m_X8_ranked 44 = .ok (.getfield 57, 3) := by decide +kernel
theorem d_X8_ranked_47 : dec m_X8_ranked 47 = .ok (.iload_n 2, 1) := by decide +kernel
theorem d_X8_ranked_48 : dec m_X8_ranked 48 = .ok (.invokevirtual 367, 3) := by decide +kernel
theorem d_X8_ranked_51 : dec m_X8_ranked 51 = .ok (.goto 5, 3) := by decide +kernel
theorem d_X8_ranked_54 : dec m_X8_ranked 54 = .ok (.bipush (-2), 2) := by decide +kernel
theorem d_X8_ranked_56 : dec m_X8_ranked 56 = .ok (.ireturn, 1) := by decide +kernel
theorem d_X8_skim_0 : dec m_X8_skim 0 = .ok (.iload_n 1, 1) := by decide +kernel
theorem d_X8_skim_1 : dec m_X8_skim 1 = .ok (.invokestatic 99, 3) := by decide +kernel
theorem d_X8_skim_4 : dec m_X8_skim 4 = .ok (.ifCond .eq 20, 3) := by decide +kernel
theorem d_X8_skim_7 : dec m_X8_skim 7 = .ok (.iload_n 2, 1) := by decide +kernel
theorem d_X8_skim_8 : dec m_X8_skim 8 = .ok (.ifCond .lt 16, 3) := by decide +kernel
theorem d_X8_skim_11 : dec m_X8_skim 11 = .ok (.iload_n 2, 1) := by decide +kernel
theorem d_X8_skim_12 : dec m_X8_skim 12 = .ok (.bipush 20, 2) := by decide +kernel
theorem d_X8_skim_14 : dec m_X8_skim 14 = .ok (.if_icmp .gt 10, 3) := by decide +kernel
theorem d_X8_skim_17 : dec m_X8_skim 17 = .ok (.iload_n 3, 1) := by decide +kernel
theorem d_X8_skim_18 : dec m_X8_skim 18 = .ok (.invokestatic 248, 3) := by decide +kernel
theorem d_X8_skim_21 : dec m_X8_skim 21 = .ok (.ifCond .ne 5, 3) := by decide +kernel
theorem d_X8_skim_24 : dec m_X8_skim 24 = .ok (.iconst (-1), 1) := by decide +kernel
theorem d_X8_skim_25 : dec m_X8_skim 25 = .ok (.ireturn, 1) := by decide +kernel
theorem d_X8_skim_26 : dec m_X8_skim 26 = .ok (.aload_n 0, 1) := by decide +kernel
theorem d_X8_skim_27 : dec m_X8_skim 27 = .ok (.iload_n 1, 1) := by decide +kernel
theorem d_X8_skim_28 : dec m_X8_skim 28 = .ok (.invokevirtual 363, 3) := by decide +kernel
theorem d_X8_skim_31 : dec m_X8_skim 31 = .ok (.aload_n 0, 1) := by decide +kernel
theorem d_X8_skim_32 : dec m_X8_skim 32 = .ok (.iload_n 1, 1) := by decide +kernel
theorem d_X8_skim_33 : dec m_X8_skim 33 = .ok (.invokestatic 255, 3) := by decide +kernel
theorem d_X8_skim_36 : dec m_X8_skim 36 = .ok (.aload_n 0, 1) := by decide +kernel
theorem d_X8_skim_37 : dec m_X8_skim 37 = .ok (.getfield 57, 3) := by decide +kernel
theorem d_X8_skim_40 : dec m_X8_skim 40 = .ok (.iload_n 2, 1) := by decide +kernel
theorem d_X8_skim_41 : dec m_X8_skim 41 = .ok (.invokevirtual 390, 3) := by decide +kernel
theorem d_X8_skim_44 : dec m_X8_skim 44 = .ok (.invokevirtual 348, 3) := by decide +kernel
theorem d_X8_skim_47 : dec m_X8_skim 47 = .ok (.istore 4, 2) := by decide +kernel
theorem d_X8_skim_49 : dec m_X8_skim 49 = .ok (.iload_n 3, 1) := by decide +kernel
theorem d_X8_skim_50 : dec m_X8_skim 50 = .ok (.ifCond .ne 13, 3) := by decide +kernel
theorem d_X8_skim_53 : dec m_X8_skim 53 = .ok (.aload_n 0, 1) := by decide +kernel
theorem d_X8_skim_54 : dec m_X8_skim 54 = .ok (.getfield 47, 3) := by decide +kernel
theorem d_X8_skim_57 : dec m_X8_skim 57 = .ok (.getfield 223, 3) := by decide +kernel
theorem d_X8_skim_60 : dec m_X8_skim 60 = .ok (.goto 5, 3) := by decide +kernel
theorem d_X8_skim_63 : dec m_X8_skim 63 = .ok (.iload 4, 2) := by decide +kernel
theorem d_X8_skim_65 : dec m_X8_skim 65 = .ok (.ireturn, 1) := by decide +kernel
theorem d_X8_count_0 : dec m_X8_count 0 = .ok (.iload_n 1, 1) := by decide +kernel
theorem d_X8_count_1 : dec m_X8_count 1 = .ok (.tableswitch 117 0 8 #[51, 59, 67, 75, 83, 91, 99, 107, 112], 51) := by decide +kernel
theorem d_X8_count_52 : dec m_X8_count 52 = .ok (.aload_n 0, 1) := by decide +kernel
theorem d_X8_count_53 : dec m_X8_count 53 = .ok (.getfield 12, 3) := by decide +kernel
theorem d_X8_count_56 : dec m_X8_count 56 = .ok (.getfield 98, 3) := by decide +kernel
theorem d_X8_count_59 : dec m_X8_count 59 = .ok (.ireturn, 1) := by decide +kernel
theorem d_X8_count_60 : dec m_X8_count 60 = .ok (.aload_n 0, 1) := by decide +kernel
theorem d_X8_count_61 : dec m_X8_count 61 = .ok (.getfield 12, 3) := by decide +kernel
theorem d_X8_count_64 : dec m_X8_count 64 = .ok (.invokevirtual 393, 3) := by decide +kernel
theorem d_X8_count_67 : dec m_X8_count 67 = .ok (.ireturn, 1) := by decide +kernel
theorem d_X8_count_68 : dec m_X8_count 68 = .ok (.aload_n 0, 1) := by decide +kernel
theorem d_X8_count_69 : dec m_X8_count 69 = .ok (.getfield 12, 3) := by decide +kernel
theorem d_X8_count_72 : dec m_X8_count 72 = .ok (.getfield 145, 3) := by decide +kernel
theorem d_X8_count_75 : dec m_X8_count 75 = .ok (.ireturn, 1) := by decide +kernel
theorem d_X8_count_76 : dec m_X8_count 76 = .ok (.aload_n 0, 1) := by decide +kernel
theorem d_X8_count_77 : dec m_X8_count 77 = .ok (.getfield 12, 3) := by decide +kernel
theorem d_X8_count_80 : dec m_X8_count 80 = .ok (.getfield 151, 3) := by decide +kernel
theorem d_X8_count_83 : dec m_X8_count 83 = .ok (.ireturn, 1) := by decide +kernel
theorem d_X8_count_84 : dec m_X8_count 84 = .ok (.aload_n 0, 1) := by decide +kernel
theorem d_X8_count_85 : dec m_X8_count 85 = .ok (.getfield 26, 3) := by decide +kernel
theorem d_X8_count_88 : dec m_X8_count 88 = .ok (.getfield 396, 3) := by decide +kernel
theorem d_X8_count_91 : dec m_X8_count 91 = .ok (.ireturn, 1) := by decide +kernel
theorem d_X8_count_92 : dec m_X8_count 92 = .ok (.aload_n 0, 1) := by decide +kernel
theorem d_X8_count_93 : dec m_X8_count 93 = .ok (.getfield 19, 3) := by decide +kernel
theorem d_X8_count_96 : dec m_X8_count 96 = .ok (.getfield 76, 3) := by decide +kernel
theorem d_X8_count_99 : dec m_X8_count 99 = .ok (.ireturn, 1) := by decide +kernel
theorem d_X8_count_100 : dec m_X8_count 100 = .ok (.aload_n 0, 1) := by decide +kernel
theorem d_X8_count_101 : dec m_X8_count 101 = .ok (.getfield 33, 3) := by decide +kernel
theorem d_X8_count_104 : dec m_X8_count 104 = .ok (.getfield 397, 3) := by decide +kernel
theorem d_X8_count_107 : dec m_X8_count 107 = .ok (.ireturn, 1) := by decide +kernel
theorem d_X8_count_108 : dec m_X8_count 108 = .ok (.aload_n 0, 1) := by decide +kernel
theorem d_X8_count_109 : dec m_X8_count 109 = .ok (.invokevirtual 400, 3) := by decide +kernel
theorem d_X8_count_112 : dec m_X8_count 112 = .ok (.ireturn, 1) := by decide +kernel
theorem d_X8_count_113 : dec m_X8_count 113 = .ok (.aload_n 0, 1) := by decide +kernel
theorem d_X8_count_114 : dec m_X8_count 114 = .ok (.invokevirtual 308, 3) := by decide +kernel
theorem d_X8_count_117 : dec m_X8_count 117 = .ok (.ireturn, 1) := by decide +kernel
theorem d_X8_count_118 : dec m_X8_count 118 = .ok (.iconst (-1), 1) := by decide +kernel
theorem d_X8_count_119 : dec m_X8_count 119 = .ok (.ireturn, 1) := by decide +kernel
theorem d_X8_isGrade_0 : dec m_X8_isGrade 0 = .ok (.iload_n 0, 1) := by decide +kernel
theorem d_X8_isGrade_1 : dec m_X8_isGrade 1 = .ok (.ifCond .lt 12, 3) := by decide +kernel
theorem d_X8_isGrade_4 : dec m_X8_isGrade 4 = .ok (.iload_n 0, 1) := by decide +kernel
theorem d_X8_isGrade_5 : dec m_X8_isGrade 5 = .ok (.iconst 4, 1) := by decide +kernel
theorem d_X8_isGrade_6 : dec m_X8_isGrade 6 = .ok (.if_icmp .ge 7, 3) := by decide +kernel
theorem d_X8_isGrade_9 : dec m_X8_isGrade 9 = .ok (.iconst 1, 1) := by decide +kernel
theorem d_X8_isGrade_10 : dec m_X8_isGrade 10 = .ok (.goto 4, 3) := by decide +kernel
theorem d_X8_isGrade_13 : dec m_X8_isGrade 13 = .ok (.iconst 0, 1) := by decide +kernel
theorem d_X8_isGrade_14 : dec m_X8_isGrade 14 = .ok (.ireturn, 1) := by decide +kernel
theorem d_X8_isValue_0 : dec m_X8_isValue 0 = .ok (.iload_n 0, 1) := by decide +kernel
theorem d_X8_isValue_1 : dec m_X8_isValue 1 = .ok (.ifCond .lt 14, 3) := by decide +kernel
theorem d_X8_isValue_4 : dec m_X8_isValue 4 = .ok (.iload_n 0, 1) := by decide +kernel
theorem d_X8_isValue_5 : dec m_X8_isValue 5 = .ok (.sipush 9999, 3) := by decide +kernel
theorem d_X8_isValue_8 : dec m_X8_isValue 8 = .ok (.if_icmp .gt 7, 3) := by decide +kernel
theorem d_X8_isValue_11 : dec m_X8_isValue 11 = .ok (.iconst 1, 1) := by decide +kernel
theorem d_X8_isValue_12 : dec m_X8_isValue 12 = .ok (.goto 4, 3) := by decide +kernel
theorem d_X8_isValue_15 : dec m_X8_isValue 15 = .ok (.iconst 0, 1) := by decide +kernel
theorem d_X8_isValue_16 : dec m_X8_isValue 16 = .ok (.ireturn, 1) := by decide +kernel
theorem d_X8_isFee_0 : dec m_X8_isFee 0 = .ok (.iload_n 0, 1) := by decide +kernel
theorem d_X8_isFee_1 : dec m_X8_isFee 1 = .ok (.ifCond .lt 14, 3) := by decide +kernel
theorem d_X8_isFee_4 : dec m_X8_isFee 4 = .ok (.iload_n 0, 1) := by decide +kernel
theorem d_X8_isFee_5 : dec m_X8_isFee 5 = .ok (.sipush 500, 3) := by decide +kernel
theorem d_X8_isFee_8 : dec m_X8_isFee 8 = .ok (.if_icmp .gt 7, 3) := by decide +kernel
theorem d_X8_isFee_11 : dec m_X8_isFee 11 = .ok (.iconst 1, 1) := by decide +kernel
theorem d_X8_isFee_12 : dec m_X8_isFee 12 = .ok (.goto 4, 3) := by decide +kernel
theorem d_X8_isFee_15 : dec m_X8_isFee 15 = .ok (.iconst 0, 1) := by decide +kernel
theorem d_X8_isFee_16 : dec m_X8_isFee 16 = .ok (.ireturn, 1) := by decide +kernel
theorem d_X8_isLaw_0 : dec m_X8_isLaw 0 = .ok (.iload_n 0, 1) := by decide +kernel
theorem d_X8_isLaw_1 : dec m_X8_isLaw 1 = .ok (.ifCond .lt 12, 3) := by decide +kernel
theorem d_X8_isLaw_4 : dec m_X8_isLaw 4 = .ok (.iload_n 0, 1) := by decide +kernel
theorem d_X8_isLaw_5 : dec m_X8_isLaw 5 = .ok (.iconst 3, 1) := by decide +kernel
theorem d_X8_isLaw_6 : dec m_X8_isLaw 6 = .ok (.if_icmp .gt 7, 3) := by decide +kernel
theorem d_X8_isLaw_9 : dec m_X8_isLaw 9 = .ok (.iconst 1, 1) := by decide +kernel
theorem d_X8_isLaw_10 : dec m_X8_isLaw 10 = .ok (.goto 4, 3) := by decide +kernel
theorem d_X8_isLaw_13 : dec m_X8_isLaw 13 = .ok (.iconst 0, 1) := by decide +kernel
theorem d_X8_isLaw_14 : dec m_X8_isLaw 14 = .ok (.ireturn, 1) := by decide +kernel
theorem d_X8_isShelf_0 : dec m_X8_isShelf 0 = .ok (.iload_n 0, 1) := by decide +kernel
theorem d_X8_isShelf_1 : dec m_X8_isShelf 1 = .ok (.ifCond .lt 12, 3) := by decide +kernel
theorem d_X8_isShelf_4 : dec m_X8_isShelf 4 = .ok (.iload_n 0, 1) := by decide +kernel
theorem d_X8_isShelf_5 : dec m_X8_isShelf 5 = .ok (.iconst 2, 1) := by decide +kernel
theorem d_X8_isShelf_6 : dec m_X8_isShelf 6 = .ok (.if_icmp .ge 7, 3) := by decide +kernel
theorem d_X8_isShelf_9 : dec m_X8_isShelf 9 = .ok (.iconst 1, 1) := by decide +kernel
theorem d_X8_isShelf_10 : dec m_X8_isShelf 10 = .ok (.goto 4, 3) := by decide +kernel
theorem d_X8_isShelf_13 : dec m_X8_isShelf 13 = .ok (.iconst 0, 1) := by decide +kernel
theorem d_X8_isShelf_14 : dec m_X8_isShelf 14 = .ok (.ireturn, 1) := by decide +kernel
theorem d_X8_isZeroOrOne_0 : dec m_X8_isZeroOrOne 0 = .ok (.iload_n 0, 1) := by decide +kernel
theorem d_X8_isZeroOrOne_1 : dec m_X8_isZeroOrOne 1 = .ok (.ifCond .eq 8, 3) := by decide +kernel
theorem d_X8_isZeroOrOne_4 : dec m_X8_isZeroOrOne 4 = .ok (.iload_n 0, 1) := by decide +kernel
theorem d_X8_isZeroOrOne_5 : dec m_X8_isZeroOrOne 5 = .ok (.iconst 1, 1) := by decide +kernel
theorem d_X8_isZeroOrOne_6 : dec m_X8_isZeroOrOne 6 = .ok (.if_icmp .ne 7, 3) := by decide +kernel
theorem d_X8_isZeroOrOne_9 : dec m_X8_isZeroOrOne 9 = .ok (.iconst 1, 1) := by decide +kernel
theorem d_X8_isZeroOrOne_10 : dec m_X8_isZeroOrOne 10 = .ok (.goto 4, 3) := by decide +kernel
theorem d_X8_isZeroOrOne_13 : dec m_X8_isZeroOrOne 13 = .ok (.iconst 0, 1) := by decide +kernel
theorem d_X8_isZeroOrOne_14 : dec m_X8_isZeroOrOne 14 = .ok (.ireturn, 1) := by decide +kernel
theorem d_X8_bit_0 : dec m_X8_bit 0 = .ok (.iconst 1, 1) := by decide +kernel
theorem d_X8_bit_1 : dec m_X8_bit 1 = .ok (.iload_n 0, 1) := by decide +kernel
theorem d_X8_bit_2 : dec m_X8_bit 2 = .ok (.ishl, 1) := by decide +kernel
theorem d_X8_bit_3 : dec m_X8_bit 3 = .ok (.ireturn, 1) := by decide +kernel
theorem d_X8_lawWord_0 : dec m_X8_lawWord 0 = .ok (.iload_n 0, 1) := by decide +kernel
theorem d_X8_lawWord_1 : dec m_X8_lawWord 1 = .ok (.tableswitch 39 1 3 #[27, 31, 35], 27) := by decide +kernel
theorem d_X8_lawWord_28 : dec m_X8_lawWord 28 = .ok (.ldc_w 403, 3) := by decide +kernel
theorem d_X8_lawWord_31 : dec m_X8_lawWord 31 = .ok (.areturn, 1) := by decide +kernel
theorem d_X8_lawWord_32 : dec m_X8_lawWord 32 = .ok (.ldc_w 405, 3) := by decide +kernel
theorem d_X8_lawWord_35 : dec m_X8_lawWord 35 = .ok (.areturn, 1) := by decide +kernel
theorem d_X8_lawWord_36 : dec m_X8_lawWord 36 = .ok (.ldc_w 407, 3) := by decide +kernel
theorem d_X8_lawWord_39 : dec m_X8_lawWord 39 = .ok (.areturn, 1) := by decide +kernel
theorem d_X8_lawWord_40 : dec m_X8_lawWord 40 = .ok (.ldc_w 409, 3) := by decide +kernel
theorem d_X8_lawWord_43 : dec m_X8_lawWord 43 = .ok (.areturn, 1) := by decide +kernel
theorem d_X8_nearestToZero_0 : dec m_X8_nearestToZero 0 = .ok (.iload_n 0, 1) := by decide +kernel
theorem d_X8_nearestToZero_1 : dec m_X8_nearestToZero 1 = .ok (.iconst 2, 1) := by decide +kernel
theorem d_X8_nearestToZero_2 : dec m_X8_nearestToZero 2 = .ok (.irem, 1) := by decide +kernel
theorem d_X8_nearestToZero_3 : dec m_X8_nearestToZero 3 = .ok (.ifCond .ne 9, 3) := by decide +kernel
theorem d_X8_nearestToZero_6 : dec m_X8_nearestToZero 6 = .ok (.iload_n 0, 1) := by decide +kernel
theorem d_X8_nearestToZero_7 : dec m_X8_nearestToZero 7 = .ok (.iconst 2, 1) := by decide +kernel
theorem d_X8_nearestToZero_8 : dec m_X8_nearestToZero 8 = .ok (.idiv, 1) := by decide +kernel
theorem d_X8_nearestToZero_9 : dec m_X8_nearestToZero 9 = .ok (.goto 9, 3) := by decide +kernel
theorem d_X8_nearestToZero_12 : dec m_X8_nearestToZero 12 = .ok (.iload_n 0, 1) := by decide +kernel
theorem d_X8_nearestToZero_13 : dec m_X8_nearestToZero 13 = .ok (.iconst 1, 1) := by decide +kernel
theorem d_X8_nearestToZero_14 : dec m_X8_nearestToZero 14 = .ok (.iadd, 1) := by decide +kernel
theorem d_X8_nearestToZero_15 : dec m_X8_nearestToZero 15 = .ok (.ineg, 1) := by decide +kernel
theorem d_X8_nearestToZero_16 : dec m_X8_nearestToZero 16 = .ok (.iconst 2, 1) := by decide +kernel
theorem d_X8_nearestToZero_17 : dec m_X8_nearestToZero 17 = .ok (.idiv, 1) := by decide +kernel
theorem d_X8_nearestToZero_18 : dec m_X8_nearestToZero 18 = .ok (.ireturn, 1) := by decide +kernel
theorem d_X8_areTwoOfOneGrade_0 : dec m_X8_areTwoOfOneGrade 0 = .ok (.aload_n 0, 1) := by decide +kernel
theorem d_X8_areTwoOfOneGrade_1 : dec m_X8_areTwoOfOneGrade 1 = .ok (.getfield 12, 3) := by decide +kernel
theorem d_X8_areTwoOfOneGrade_4 : dec m_X8_areTwoOfOneGrade 4 = .ok (.iload_n 1, 1) := by decide +kernel
theorem d_X8_areTwoOfOneGrade_5 : dec m_X8_areTwoOfOneGrade 5 = .ok (.invokevirtual 110, 3) := by decide +kernel
theorem d_X8_areTwoOfOneGrade_8 : dec m_X8_areTwoOfOneGrade 8 = .ok (.ifCond .eq 42, 3) := by decide +kernel
theorem d_X8_areTwoOfOneGrade_11 : dec m_X8_areTwoOfOneGrade 11 = .ok (.aload_n 0, 1) := by decide +kernel
theorem d_X8_areTwoOfOneGrade_12 : dec m_X8_areTwoOfOneGrade 12 = .ok (.getfield 12, 3) := by decide +kernel
theorem d_X8_areTwoOfOneGrade_15 : dec m_X8_areTwoOfOneGrade 15 = .ok (.iload_n 2, 1) := by decide +kernel
theorem d_X8_areTwoOfOneGrade_16 : dec m_X8_areTwoOfOneGrade 16 = .ok (.invokevirtual 110, 3) := by decide +kernel
theorem d_X8_areTwoOfOneGrade_19 : dec m_X8_areTwoOfOneGrade 19 = .ok (.ifCond .eq 31, 3) := by decide +kernel
theorem d_X8_areTwoOfOneGrade_22 : dec m_X8_areTwoOfOneGrade 22 = .ok (.iload_n 1, 1) := by decide +kernel
theorem d_X8_areTwoOfOneGrade_23 : dec m_X8_areTwoOfOneGrade 23 = .ok (.iload_n 2, 1) := by decide +kernel
theorem d_X8_areTwoOfOneGrade_24 : dec m_X8_areTwoOfOneGrade 24 = .ok (.if_icmp .eq 26, 3) := by decide +kernel
theorem d_X8_areTwoOfOneGrade_27 : dec m_X8_areTwoOfOneGrade 27 = .ok (.aload_n 0, 1) := by decide +kernel
theorem d_X8_areTwoOfOneGrade_28 : dec m_X8_areTwoOfOneGrade 28 = .ok (.getfield 12, 3) := by decide +kernel
theorem d_X8_areTwoOfOneGrade_31 : dec m_X8_areTwoOfOneGrade 31 = .ok (.iload_n 1, 1) := by decide +kernel
theorem d_X8_areTwoOfOneGrade_32 : dec m_X8_areTwoOfOneGrade 32 = .ok (.invokevirtual 196, 3) := by decide +kernel
theorem d_X8_areTwoOfOneGrade_35 : dec m_X8_areTwoOfOneGrade 35 = .ok (.aload_n 0, 1) := by decide +kernel
theorem d_X8_areTwoOfOneGrade_36 : dec m_X8_areTwoOfOneGrade 36 = .ok (.getfield 12, 3) := by decide +kernel
theorem d_X8_areTwoOfOneGrade_39 : dec m_X8_areTwoOfOneGrade 39 = .ok (.iload_n 2, 1) := by decide +kernel
theorem d_X8_areTwoOfOneGrade_40 : dec m_X8_areTwoOfOneGrade 40 = .ok (.invokevirtual 196, 3) := by decide +kernel
theorem d_X8_areTwoOfOneGrade_43 : dec m_X8_areTwoOfOneGrade 43 = .ok (.if_icmp .ne 7, 3) := by decide +kernel
theorem d_X8_areTwoOfOneGrade_46 : dec m_X8_areTwoOfOneGrade 46 = .ok (.iconst 1, 1) := by decide +kernel
theorem d_X8_areTwoOfOneGrade_47 : dec m_X8_areTwoOfOneGrade 47 = .ok (.goto 4, 3) := by decide +kernel
theorem d_X8_areTwoOfOneGrade_50 : dec m_X8_areTwoOfOneGrade 50 = .ok (.iconst 0, 1) := by decide +kernel
theorem d_X8_areTwoOfOneGrade_51 : dec m_X8_areTwoOfOneGrade 51 = .ok (.ireturn, 1) := by decide +kernel
theorem d_X8_settleGrade_0 : dec m_X8_settleGrade 0 = .ok (.aload_n 0, 1) := by decide +kernel
theorem d_X8_settleGrade_1 : dec m_X8_settleGrade 1 = .ok (.getfield 47, 3) := by decide +kernel
theorem d_X8_settleGrade_4 : dec m_X8_settleGrade 4 = .ok (.aload_n 0, 1) := by decide +kernel
theorem d_X8_settleGrade_5 : dec m_X8_settleGrade 5 = .ok (.getfield 12, 3) := by decide +kernel
theorem d_X8_settleGrade_8 : dec m_X8_settleGrade 8 = .ok (.iload_n 1, 1) := by decide +kernel
theorem d_X8_settleGrade_9 : dec m_X8_settleGrade 9 = .ok (.invokestatic 255, 3) := by decide +kernel
theorem d_X8_settleGrade_12 : dec m_X8_settleGrade 12 = .ok (.iconst 0, 1) := by decide +kernel
theorem d_X8_settleGrade_13 : dec m_X8_settleGrade 13 = .ok (.invokevirtual 289, 3) := by decide +kernel
theorem d_X8_settleGrade_16 : dec m_X8_settleGrade 16 = .ok (.aload_n 0, 1) := by decide +kernel
theorem d_X8_settleGrade_17 : dec m_X8_settleGrade 17 = .ok (.getfield 47, 3) := by decide +kernel
theorem d_X8_settleGrade_20 : dec m_X8_settleGrade 20 = .ok (.aload_n 0, 1) := by decide +kernel
theorem d_X8_settleGrade_21 : dec m_X8_settleGrade 21 = .ok (.getfield 12, 3) := by decide +kernel
theorem d_X8_settleGrade_24 : dec m_X8_settleGrade 24 = .ok (.getfield 145, 3) := by decide +kernel
theorem d_X8_settleGrade_27 : dec m_X8_settleGrade 27 = .ok (.aload_n 0, 1) := by decide +kernel
theorem d_X8_settleGrade_28 : dec m_X8_settleGrade 28 = .ok (.getfield 12, 3) := by decide +kernel
theorem d_X8_settleGrade_31 : dec m_X8_settleGrade 31 = .ok (.getfield 151, 3) := by decide +kernel
theorem d_X8_settleGrade_34 : dec m_X8_settleGrade 34 = .ok (.invokevirtual 293, 3) := by decide +kernel
theorem d_X8_settleGrade_37 : dec m_X8_settleGrade 37 = .ok (.return_, 1) := by decide +kernel
theorem d_X8_worthOf_0 : dec m_X8_worthOf 0 = .ok (.aload_n 0, 1) := by decide +kernel
theorem d_X8_worthOf_1 : dec m_X8_worthOf 1 = .ok (.getfield 47, 3) := by decide +kernel
theorem d_X8_worthOf_4 : dec m_X8_worthOf 4 = .ok (.aload_n 0, 1) := by decide +kernel
theorem d_X8_worthOf_5 : dec m_X8_worthOf 5 = .ok (.getfield 12, 3) := by decide +kernel
theorem d_X8_worthOf_8 : dec m_X8_worthOf 8 = .ok (.iload_n 1, 1) := by decide +kernel
theorem d_X8_worthOf_9 : dec m_X8_worthOf 9 = .ok (.iload_n 2, 1) := by decide +kernel
theorem d_X8_worthOf_10 : dec m_X8_worthOf 10 = .ok (.invokevirtual 289, 3) := by decide +kernel
theorem d_X8_worthOf_13 : dec m_X8_worthOf 13 = .ok (.aload_n 0, 1) := by decide +kernel
theorem d_X8_worthOf_14 : dec m_X8_worthOf 14 = .ok (.getfield 47, 3) := by decide +kernel
theorem d_X8_worthOf_17 : dec m_X8_worthOf 17 = .ok (.aload_n 0, 1) := by decide +kernel
theorem d_X8_worthOf_18 : dec m_X8_worthOf 18 = .ok (.getfield 12, 3) := by decide +kernel
theorem d_X8_worthOf_21 : dec m_X8_worthOf 21 = .ok (.getfield 145, 3) := by decide +kernel
theorem d_X8_worthOf_24 : dec m_X8_worthOf 24 = .ok (.aload_n 0, 1) := by decide +kernel
theorem d_X8_worthOf_25 : dec m_X8_worthOf 25 = .ok (.getfield 12, 3) := by decide +kernel
theorem d_X8_worthOf_28 : dec m_X8_worthOf 28 = .ok (.getfield 151, 3) := by decide +kernel
theorem d_X8_worthOf_31 : dec m_X8_worthOf 31 = .ok (.invokevirtual 293, 3) := by decide +kernel
theorem d_X8_worthOf_34 : dec m_X8_worthOf 34 = .ok (.aload_n 0, 1) := by decide +kernel
theorem d_X8_worthOf_35 : dec m_X8_worthOf 35 = .ok (.getfield 47, 3) := by decide +kernel
theorem d_X8_worthOf_38 : dec m_X8_worthOf 38 = .ok (.getfield 226, 3) := by decide +kernel
theorem d_X8_worthOf_41 : dec m_X8_worthOf 41 = .ok (.ireturn, 1) := by decide +kernel
theorem d_X8_worthOfAll_0 : dec m_X8_worthOfAll 0 = .ok (.iconst 0, 1) := by decide +kernel
theorem d_X8_worthOfAll_1 : dec m_X8_worthOfAll 1 = .ok (.istore_n 1, 1) := by decide +kernel
theorem d_X8_worthOfAll_2 : dec m_X8_worthOfAll 2 = .ok (.iconst 0, 1) := by decide +kernel
theorem d_X8_worthOfAll_3 : dec m_X8_worthOfAll 3 = .ok (.istore_n 2, 1) := by decide +kernel
theorem d_X8_worthOfAll_4 : dec m_X8_worthOfAll 4 = .ok (.iload_n 2, 1) := by decide +kernel
theorem d_X8_worthOfAll_5 : dec m_X8_worthOfAll 5 = .ok (.iconst 4, 1) := by decide +kernel
theorem d_X8_worthOfAll_6 : dec m_X8_worthOfAll 6 = .ok (.if_icmp .ge 21, 3) := by decide +kernel
theorem d_X8_worthOfAll_9 : dec m_X8_worthOfAll 9 = .ok (.iload_n 1, 1) := by decide +kernel
theorem d_X8_worthOfAll_10 : dec m_X8_worthOfAll 10 = .ok (.aload_n 0, 1) := by decide +kernel
theorem d_X8_worthOfAll_11 : dec m_X8_worthOfAll 11 = .ok (.iload_n 2, 1) := by decide +kernel
theorem d_X8_worthOfAll_12 : dec m_X8_worthOfAll 12 = .ok (.invokestatic 255, 3) := by decide +kernel
theorem d_X8_worthOfAll_15 : dec m_X8_worthOfAll 15 = .ok (.iconst 0, 1) := by decide +kernel
theorem d_X8_worthOfAll_16 : dec m_X8_worthOfAll 16 = .ok (.invokevirtual 348, 3) := by decide +kernel
theorem d_X8_worthOfAll_19 : dec m_X8_worthOfAll 19 = .ok (.iadd, 1) := by decide +kernel
theorem d_X8_worthOfAll_20 : dec m_X8_worthOfAll 20 = .ok (.istore_n 1, 1) := by decide +kernel
theorem d_X8_worthOfAll_21 : dec m_X8_worthOfAll 21 = .ok (.iinc 2 1, 3) := by decide +kernel
theorem d_X8_worthOfAll_24 : dec m_X8_worthOfAll 24 = .ok (.goto (-20), 3) := by decide +kernel
theorem d_X8_worthOfAll_27 : dec m_X8_worthOfAll 27 = .ok (.iload_n 1, 1) := by decide +kernel
theorem d_X8_worthOfAll_28 : dec m_X8_worthOfAll 28 = .ok (.ireturn, 1) := by decide +kernel
theorem d_X8_gradesWithTrades_0 : dec m_X8_gradesWithTrades 0 = .ok (.iconst 0, 1) := by decide +kernel
theorem d_X8_gradesWithTrades_1 : dec m_X8_gradesWithTrades 1 = .ok (.istore_n 1, 1) := by decide +kernel
theorem d_X8_gradesWithTrades_2 : dec m_X8_gradesWithTrades 2 = .ok (.iconst 0, 1) := by decide +kernel
theorem d_X8_gradesWithTrades_3 : dec m_X8_gradesWithTrades 3 = .ok (.istore_n 2, 1) := by decide +kernel
theorem d_X8_gradesWithTrades_4 : dec m_X8_gradesWithTrades 4 = .ok (.iload_n 2, 1) := by decide +kernel
theorem d_X8_gradesWithTrades_5 : dec m_X8_gradesWithTrades 5 = .ok (.iconst 4, 1) := by decide +kernel
theorem d_X8_gradesWithTrades_6 : dec m_X8_gradesWithTrades 6 = .ok (.if_icmp .ge 31, 3) := by decide +kernel
theorem d_X8_gradesWithTrades_9 : dec m_X8_gradesWithTrades 9 = .ok (.aload_n 0, 1) := by decide +kernel
theorem d_X8_gradesWithTrades_10 : dec m_X8_gradesWithTrades 10 = .ok (.iload_n 2, 1) := by decide +kernel
theorem d_X8_gradesWithTrades_11 : dec m_X8_gradesWithTrades 11 = .ok (.invokevirtual 154, 3) := by decide +kernel
theorem d_X8_gradesWithTrades_14 : dec m_X8_gradesWithTrades 14 = .ok (.aload_n 0, 1) := by decide +kernel
theorem d_X8_gradesWithTrades_15 : dec m_X8_gradesWithTrades 15 = .ok (.getfield 47, 3) := by decide +kernel
theorem d_X8_gradesWithTrades_18 : dec m_X8_gradesWithTrades 18 = .ok (.getfield 223, 3) := by decide +kernel
theorem d_X8_gradesWithTrades_21 : dec m_X8_gradesWithTrades 21 = .ok (.ifCond .le 10, 3) := by decide +kernel
theorem d_X8_gradesWithTrades_24 : dec m_X8_gradesWithTrades 24 = .ok (.iload_n 1, 1) := by decide +kernel
theorem d_X8_gradesWithTrades_25 : dec m_X8_gradesWithTrades 25 = .ok (.iload_n 2, 1) := by decide +kernel
theorem d_X8_gradesWithTrades_26 : dec m_X8_gradesWithTrades 26 = .ok (.invokestatic 255, 3) := by decide +kernel
theorem d_X8_gradesWithTrades_29 : dec m_X8_gradesWithTrades 29 = .ok (.ior, 1) := by decide +kernel
theorem d_X8_gradesWithTrades_30 : dec m_X8_gradesWithTrades 30 = .ok (.istore_n 1, 1) := by decide +kernel
theorem d_X8_gradesWithTrades_31 : dec m_X8_gradesWithTrades 31 = .ok (.iinc 2 1, 3) := by decide +kernel
theorem d_X8_gradesWithTrades_34 : dec m_X8_gradesWithTrades 34 = .ok (.goto (-30), 3) := by decide +kernel
theorem d_X8_gradesWithTrades_37 : dec m_X8_gradesWithTrades 37 = .ok (.iload_n 1, 1) := by decide +kernel
theorem d_X8_gradesWithTrades_38 : dec m_X8_gradesWithTrades 38 = .ok (.ireturn, 1) := by decide +kernel
theorem d_X8_setAside_0 : dec m_X8_setAside 0 = .ok (.aload_n 0, 1) := by decide +kernel
theorem d_X8_setAside_1 : dec m_X8_setAside 1 = .ok (.getfield 51, 3) := by decide +kernel
theorem d_X8_setAside_4 : dec m_X8_setAside 4 = .ok (.aload_n 0, 1) := by decide +kernel
theorem d_X8_setAside_5 : dec m_X8_setAside 5 = .ok (.getfield 12, 3) := by decide +kernel
theorem d_X8_setAside_8 : dec m_X8_setAside 8 = .ok (.iload_n 1, 1) := by decide +kernel
theorem d_X8_setAside_9 : dec m_X8_setAside 9 = .ok (.invokestatic 255, 3) := by decide +kernel
theorem d_X8_setAside_12 : dec m_X8_setAside 12 = .ok (.iload_n 2, 1) := by decide +kernel
theorem d_X8_setAside_13 : dec m_X8_setAside 13 = .ok (.invokevirtual 289, 3) := by decide +kernel
theorem d_X8_setAside_16 : dec m_X8_setAside 16 = .ok (.return_, 1) := by decide +kernel
theorem d_X8_settleLie_0 : dec m_X8_settleLie 0 = .ok (.aload_n 0, 1) := by decide +kernel
theorem d_X8_settleLie_1 : dec m_X8_settleLie 1 = .ok (.getfield 47, 3) := by decide +kernel
theorem d_X8_settleLie_4 : dec m_X8_settleLie 4 = .ok (.aload_n 0, 1) := by decide +kernel
theorem d_X8_settleLie_5 : dec m_X8_settleLie 5 = .ok (.getfield 51, 3) := by decide +kernel
theorem d_X8_settleLie_8 : dec m_X8_settleLie 8 = .ok (.invokevirtual 411, 3) := by decide +kernel
theorem d_X8_settleLie_11 : dec m_X8_settleLie 11 = .ok (.aload_n 0, 1) := by decide +kernel
theorem d_X8_settleLie_12 : dec m_X8_settleLie 12 = .ok (.getfield 47, 3) := by decide +kernel
theorem d_X8_settleLie_15 : dec m_X8_settleLie 15 = .ok (.aload_n 0, 1) := by decide +kernel
theorem d_X8_settleLie_16 : dec m_X8_settleLie 16 = .ok (.getfield 12, 3) := by decide +kernel
theorem d_X8_settleLie_19 : dec m_X8_settleLie 19 = .ok (.iload_n 1, 1) := by decide +kernel
theorem d_X8_settleLie_20 : dec m_X8_settleLie 20 = .ok (.iload_n 2, 1) := by decide +kernel
theorem d_X8_settleLie_21 : dec m_X8_settleLie 21 = .ok (.invokevirtual 414, 3) := by decide +kernel
theorem d_X8_settleLie_24 : dec m_X8_settleLie 24 = .ok (.aload_n 0, 1) := by decide +kernel
theorem d_X8_settleLie_25 : dec m_X8_settleLie 25 = .ok (.getfield 47, 3) := by decide +kernel
theorem d_X8_settleLie_28 : dec m_X8_settleLie 28 = .ok (.aload_n 0, 1) := by decide +kernel
theorem d_X8_settleLie_29 : dec m_X8_settleLie 29 = .ok (.getfield 12, 3) := by decide +kernel
theorem d_X8_settleLie_32 : dec m_X8_settleLie 32 = .ok (.getfield 145, 3) := by decide +kernel
theorem d_X8_settleLie_35 : dec m_X8_settleLie 35 = .ok (.aload_n 0, 1) := by decide +kernel
theorem d_X8_settleLie_36 : dec m_X8_settleLie 36 = .ok (.getfield 12, 3) := by decide +kernel
theorem d_X8_settleLie_39 : dec m_X8_settleLie 39 = .ok (.getfield 151, 3) := by decide +kernel
theorem d_X8_settleLie_42 : dec m_X8_settleLie 42 = .ok (.invokevirtual 293, 3) := by decide +kernel
theorem d_X8_settleLie_45 : dec m_X8_settleLie 45 = .ok (.return_, 1) := by decide +kernel
theorem d_X8_gainByLie_0 : dec m_X8_gainByLie 0 = .ok (.aload_n 0, 1) := by decide +kernel
theorem d_X8_gainByLie_1 : dec m_X8_gainByLie 1 = .ok (.iload_n 1, 1) := by decide +kernel
theorem d_X8_gainByLie_2 : dec m_X8_gainByLie 2 = .ok (.iload_n 2, 1) := by decide +kernel
theorem d_X8_gainByLie_3 : dec m_X8_gainByLie 3 = .ok (.invokevirtual 357, 3) := by decide +kernel
theorem d_X8_gainByLie_6 : dec m_X8_gainByLie 6 = .ok (.aload_n 0, 1) := by decide +kernel
theorem d_X8_gainByLie_7 : dec m_X8_gainByLie 7 = .ok (.getfield 47, 3) := by decide +kernel
theorem d_X8_gainByLie_10 : dec m_X8_gainByLie 10 = .ok (.aload_n 0, 1) := by decide +kernel
theorem d_X8_gainByLie_11 : dec m_X8_gainByLie 11 = .ok (.getfield 12, 3) := by decide +kernel
theorem d_X8_gainByLie_14 : dec m_X8_gainByLie 14 = .ok (.iload_n 1, 1) := by decide +kernel
theorem d_X8_gainByLie_15 : dec m_X8_gainByLie 15 = .ok (.invokevirtual 251, 3) := by decide +kernel
theorem d_X8_gainByLie_18 : dec m_X8_gainByLie 18 = .ok (.ireturn, 1) := by decide +kernel
theorem d_X8_gainByPact_0 : dec m_X8_gainByPact 0 = .ok (.aload_n 0, 1) := by decide +kernel
theorem d_X8_gainByPact_1 : dec m_X8_gainByPact 1 = .ok (.getfield 47, 3) := by decide +kernel
theorem d_X8_gainByPact_4 : dec m_X8_gainByPact 4 = .ok (.aload_n 0, 1) := by decide +kernel
theorem d_X8_gainByPact_5 : dec m_X8_gainByPact 5 = .ok (.getfield 51, 3) := by decide +kernel
theorem d_X8_gainByPact_8 : dec m_X8_gainByPact 8 = .ok (.invokevirtual 411, 3) := by decide +kernel
theorem d_X8_gainByPact_11 : dec m_X8_gainByPact 11 = .ok (.aload_n 0, 1) := by decide +kernel
theorem d_X8_gainByPact_12 : dec m_X8_gainByPact 12 = .ok (.getfield 47, 3) := by decide +kernel
theorem d_X8_gainByPact_15 : dec m_X8_gainByPact 15 = .ok (.aload_n 0, 1) := by decide +kernel
theorem d_X8_gainByPact_16 : dec m_X8_gainByPact 16 = .ok (.getfield 12, 3) := by decide +kernel
theorem d_X8_gainByPact_19 : dec m_X8_gainByPact 19 = .ok (.iload_n 1, 1) := by decide +kernel
theorem d_X8_gainByPact_20 : dec m_X8_gainByPact 20 = .ok (.iload_n 3, 1) := by decide +kernel
theorem d_X8_gainByPact_21 : dec m_X8_gainByPact 21 = .ok (.invokevirtual 414, 3) := by decide +kernel
theorem d_X8_gainByPact_24 : dec m_X8_gainByPact 24 = .ok (.aload_n 0, 1) := by decide +kernel
theorem d_X8_gainByPact_25 : dec m_X8_gainByPact 25 = .ok (.getfield 47, 3) := by decide +kernel
theorem d_X8_gainByPact_28 : dec m_X8_gainByPact 28 = .ok (.aload_n 0, 1) := by decide +kernel
theorem d_X8_gainByPact_29 : dec m_X8_gainByPact 29 = .ok (.getfield 12, 3) := by decide +kernel
theorem d_X8_gainByPact_32 : dec m_X8_gainByPact 32 = .ok (.iload_n 2, 1) := by decide +kernel
theorem d_X8_gainByPact_33 : dec m_X8_gainByPact 33 = .ok (.iload_n 3, 1) := by decide +kernel
theorem d_X8_gainByPact_34 : dec m_X8_gainByPact 34 = .ok (.invokevirtual 414, 3) := by decide +kernel
theorem d_X8_gainByPact_37 : dec m_X8_gainByPact 37 = .ok (.aload_n 0, 1) := by decide +kernel
theorem d_X8_gainByPact_38 : dec m_X8_gainByPact 38 = .ok (.getfield 47, 3) := by decide +kernel
theorem d_X8_gainByPact_41 : dec m_X8_gainByPact 41 = .ok (.aload_n 0, 1) := by decide +kernel
theorem d_X8_gainByPact_42 : dec m_X8_gainByPact 42 = .ok (.getfield 12, 3) := by decide +kernel
theorem d_X8_gainByPact_45 : dec m_X8_gainByPact 45 = .ok (.getfield 145, 3) := by decide +kernel
theorem d_X8_gainByPact_48 : dec m_X8_gainByPact 48 = .ok (.aload_n 0, 1) := by decide +kernel
theorem d_X8_gainByPact_49 : dec m_X8_gainByPact 49 = .ok (.getfield 12, 3) := by decide +kernel
theorem d_X8_gainByPact_52 : dec m_X8_gainByPact 52 = .ok (.getfield 151, 3) := by decide +kernel
theorem d_X8_gainByPact_55 : dec m_X8_gainByPact 55 = .ok (.invokevirtual 293, 3) := by decide +kernel
theorem d_X8_gainByPact_58 : dec m_X8_gainByPact 58 = .ok (.aload_n 0, 1) := by decide +kernel
theorem d_X8_gainByPact_59 : dec m_X8_gainByPact 59 = .ok (.getfield 47, 3) := by decide +kernel
theorem d_X8_gainByPact_62 : dec m_X8_gainByPact 62 = .ok (.aload_n 0, 1) := by decide +kernel
theorem d_X8_gainByPact_63 : dec m_X8_gainByPact 63 = .ok (.getfield 12, 3) := by decide +kernel
theorem d_X8_gainByPact_66 : dec m_X8_gainByPact 66 = .ok (.iload_n 1, 1) := by decide +kernel
theorem d_X8_gainByPact_67 : dec m_X8_gainByPact 67 = .ok (.invokevirtual 251, 3) := by decide +kernel
theorem d_X8_gainByPact_70 : dec m_X8_gainByPact 70 = .ok (.aload_n 0, 1) := by decide +kernel
theorem d_X8_gainByPact_71 : dec m_X8_gainByPact 71 = .ok (.getfield 47, 3) := by decide +kernel
theorem d_X8_gainByPact_74 : dec m_X8_gainByPact 74 = .ok (.aload_n 0, 1) := by decide +kernel
theorem d_X8_gainByPact_75 : dec m_X8_gainByPact 75 = .ok (.getfield 12, 3) := by decide +kernel
theorem d_X8_gainByPact_78 : dec m_X8_gainByPact 78 = .ok (.iload_n 2, 1) := by decide +kernel
theorem d_X8_gainByPact_79 : dec m_X8_gainByPact 79 = .ok (.invokevirtual 251, 3) := by decide +kernel
theorem d_X8_gainByPact_82 : dec m_X8_gainByPact 82 = .ok (.iadd, 1) := by decide +kernel
theorem d_X8_gainByPact_83 : dec m_X8_gainByPact 83 = .ok (.ireturn, 1) := by decide +kernel
theorem d_X8_rankGrade_0 : dec m_X8_rankGrade 0 = .ok (.aload_n 0, 1) := by decide +kernel
theorem d_X8_rankGrade_1 : dec m_X8_rankGrade 1 = .ok (.iload_n 1, 1) := by decide +kernel
theorem d_X8_rankGrade_2 : dec m_X8_rankGrade 2 = .ok (.invokevirtual 154, 3) := by decide +kernel
theorem d_X8_rankGrade_5 : dec m_X8_rankGrade 5 = .ok (.aload_n 0, 1) := by decide +kernel
theorem d_X8_rankGrade_6 : dec m_X8_rankGrade 6 = .ok (.getfield 57, 3) := by decide +kernel
theorem d_X8_rankGrade_9 : dec m_X8_rankGrade 9 = .ok (.iconst 0, 1) := by decide +kernel
theorem d_X8_rankGrade_10 : dec m_X8_rankGrade 10 = .ok (.putfield 366, 3) := by decide +kernel
theorem d_X8_rankGrade_13 : dec m_X8_rankGrade 13 = .ok (.iconst 0, 1) := by decide +kernel
theorem d_X8_rankGrade_14 : dec m_X8_rankGrade 14 = .ok (.istore_n 2, 1) := by decide +kernel
theorem d_X8_rankGrade_15 : dec m_X8_rankGrade 15 = .ok (.iload_n 2, 1) := by decide +kernel
theorem d_X8_rankGrade_16 : dec m_X8_rankGrade 16 = .ok (.aload_n 0, 1) := by decide +kernel
theorem d_X8_rankGrade_17 : dec m_X8_rankGrade 17 = .ok (.getfield 12, 3) := by decide +kernel
theorem d_X8_rankGrade_20 : dec m_X8_rankGrade 20 = .ok (.getfield 98, 3) := by decide +kernel
theorem d_X8_rankGrade_23 : dec m_X8_rankGrade 23 = .ok (.if_icmp .ge 41, 3) := by decide +kernel
theorem d_X8_rankGrade_26 : dec m_X8_rankGrade 26 = .ok (.aload_n 0, 1) := by decide +kernel
theorem d_X8_rankGrade_27 : dec m_X8_rankGrade 27 = .ok (.getfield 12, 3) := by decide +kernel
theorem d_X8_rankGrade_30 : dec m_X8_rankGrade 30 = .ok (.iload_n 2, 1) := by decide +kernel
theorem d_X8_rankGrade_31 : dec m_X8_rankGrade 31 = .ok (.invokevirtual 196, 3) := by decide +kernel
theorem d_X8_rankGrade_34 : dec m_X8_rankGrade 34 = .ok (.iload_n 1, 1) := by decide +kernel
theorem d_X8_rankGrade_35 : dec m_X8_rankGrade 35 = .ok (.if_icmp .ne 23, 3) := by decide +kernel
theorem d_X8_rankGrade_38 : dec m_X8_rankGrade 38 = .ok (.aload_n 0, 1) := by decide +kernel
theorem d_X8_rankGrade_39 : dec m_X8_rankGrade 39 = .ok (.getfield 57, 3) := by decide +kernel
theorem d_X8_rankGrade_42 : dec m_X8_rankGrade 42 = .ok (.iload_n 2, 1) := by decide +kernel
theorem d_X8_rankGrade_43 : dec m_X8_rankGrade 43 = .ok (.aload_n 0, 1) := by decide +kernel
theorem d_X8_rankGrade_44 : dec m_X8_rankGrade 44 = .ok (.getfield 47, 3) := by decide +kernel
theorem d_X8_rankGrade_47 : dec m_X8_rankGrade 47 = .ok (.aload_n 0, 1) := by decide +kernel
theorem d_X8_rankGrade_48 : dec m_X8_rankGrade 48 = .ok (.getfield 12, 3) := by decide +kernel
theorem d_X8_rankGrade_51 : dec m_X8_rankGrade 51 = .ok (.iload_n 2, 1) := by decide +kernel
theorem d_X8_rankGrade_52 : dec m_X8_rankGrade 52 = .ok (.invokevirtual 251, 3) := by decide +kernel
theorem d_X8_rankGrade_55 : dec m_X8_rankGrade 55 = .ok (.invokevirtual 417, 3) := by decide +kernel
theorem d_X8_rankGrade_58 : dec m_X8_rankGrade 58 = .ok (.iinc 2 1, 3) := by decide +kernel
theorem d_X8_rankGrade_61 : dec m_X8_rankGrade 61 = .ok (.goto (-46), 3) := by decide +kernel
theorem d_X8_rankGrade_64 : dec m_X8_rankGrade 64 = .ok (.return_, 1) := by decide +kernel
theorem d_X8_weighFees_0 : dec m_X8_weighFees 0 = .ok (.iconst 0, 1) := by decide +kernel
theorem d_X8_weighFees_1 : dec m_X8_weighFees 1 = .ok (.istore_n 1, 1) := by decide +kernel
theorem d_X8_weighFees_2 : dec m_X8_weighFees 2 = .ok (.iload_n 1, 1) := by decide +kernel
theorem d_X8_weighFees_3 : dec m_X8_weighFees 3 = .ok (.sipush 500, 3) := by decide +kernel
theorem d_X8_weighFees_6 : dec m_X8_weighFees 6 = .ok (.if_icmp .gt 16, 3) := by decide +kernel
theorem d_X8_weighFees_9 : dec m_X8_weighFees 9 = .ok (.aload_n 0, 1) := by decide +kernel
theorem d_X8_weighFees_10 : dec m_X8_weighFees 10 = .ok (.getfield 68, 3) := by decide +kernel
theorem d_X8_weighFees_13 : dec m_X8_weighFees 13 = .ok (.iload_n 1, 1) := by decide +kernel
theorem d_X8_weighFees_14 : dec m_X8_weighFees 14 = .ok (.iconst 0, 1) := by decide +kernel
theorem d_X8_weighFees_15 : dec m_X8_weighFees 15 = .ok (.iastore, 1) := by decide +kernel
theorem d_X8_weighFees_16 : dec m_X8_weighFees 16 = .ok (.iinc 1 1, 3) := by decide +kernel
theorem d_X8_weighFees_19 : dec m_X8_weighFees 19 = .ok (.goto (-17), 3) := by decide +kernel
theorem d_X8_weighFees_22 : dec m_X8_weighFees 22 = .ok (.iconst 0, 1) := by decide +kernel
theorem d_X8_weighFees_23 : dec m_X8_weighFees 23 = .ok (.istore_n 1, 1) := by decide +kernel
theorem d_X8_weighFees_24 : dec m_X8_weighFees 24 = .ok (.iload_n 1, 1) := by decide +kernel
theorem d_X8_weighFees_25 : dec m_X8_weighFees 25 = .ok (.iconst 4, 1) := by decide +kernel
theorem d_X8_weighFees_26 : dec m_X8_weighFees 26 = .ok (.if_icmp .ge 71, 3) := by decide +kernel
theorem d_X8_weighFees_29 : dec m_X8_weighFees 29 = .ok (.aload_n 0, 1) := by decide +kernel
theorem d_X8_weighFees_30 : dec m_X8_weighFees 30 = .ok (.getfield 47, 3) := by decide +kernel
theorem d_X8_weighFees_33 : dec m_X8_weighFees 33 = .ok (.aload_n 0, 1) := by decide +kernel
theorem d_X8_weighFees_34 : dec m_X8_weighFees 34 = .ok (.getfield 12, 3) := by decide +kernel
theorem d_X8_weighFees_37 : dec m_X8_weighFees 37 = .ok (.iload_n 1, 1) := by decide +kernel
theorem d_X8_weighFees_38 : dec m_X8_weighFees 38 = .ok (.invokestatic 255, 3) := by decide +kernel
theorem d_X8_weighFees_41 : dec m_X8_weighFees 41 = .ok (.iconst 0, 1) := by decide +kernel
theorem d_X8_weighFees_42 : dec m_X8_weighFees 42 = .ok (.invokevirtual 289, 3) := by decide +kernel
theorem d_X8_weighFees_45 : dec m_X8_weighFees 45 = .ok (.iconst 0, 1) := by decide +kernel
theorem d_X8_weighFees_46 : dec m_X8_weighFees 46 = .ok (.istore_n 2, 1) := by decide +kernel
theorem d_X8_weighFees_47 : dec m_X8_weighFees 47 = .ok (.iload_n 2, 1) := by decide +kernel
theorem d_X8_weighFees_48 : dec m_X8_weighFees 48 = .ok (.sipush 500, 3) := by decide +kernel
theorem d_X8_weighFees_51 : dec m_X8_weighFees 51 = .ok (.if_icmp .gt 40, 3) := by decide +kernel
theorem d_X8_weighFees_54 : dec m_X8_weighFees 54 = .ok (.aload_n 0, 1) := by decide +kernel
theorem d_X8_weighFees_55 : dec m_X8_weighFees 55 = .ok (.getfield 47, 3) := by decide +kernel
theorem d_X8_weighFees_58 : dec m_X8_weighFees 58 = .ok (.iload_n 2, 1) := by decide +kernel
theorem d_X8_weighFees_59 : dec m_X8_weighFees 59 = .ok (.aload_n 0, 1) := by decide +kernel
theorem d_X8_weighFees_60 : dec m_X8_weighFees 60 = .ok (.getfield 12, 3) := by decide +kernel
theorem d_X8_weighFees_63 : dec m_X8_weighFees 63 = .ok (.getfield 151, 3) := by decide +kernel
theorem d_X8_weighFees_66 : dec m_X8_weighFees 66 = .ok (.invokevirtual 293, 3) := by decide +kernel
theorem d_X8_weighFees_69 : dec m_X8_weighFees 69 = .ok (.aload_n 0, 1) := by decide +kernel
theorem d_X8_weighFees_70 : dec m_X8_weighFees 70 = .ok (.getfield 68, 3) := by decide +kernel
theorem d_X8_weighFees_73 : dec m_X8_weighFees 73 = .ok (.iload_n 2, 1) := by decide +kernel
theorem d_X8_weighFees_74 : dec m_X8_weighFees 74 = .ok (.dup2, 1) := by decide +kernel
theorem d_X8_weighFees_75 : dec m_X8_weighFees 75 = .ok (.iaload, 1) := by decide +kernel
theorem d_X8_weighFees_76 : dec m_X8_weighFees 76 = .ok (.aload_n 0, 1) := by decide +kernel
theorem d_X8_weighFees_77 : dec m_X8_weighFees 77 = .ok (.getfield 47, 3) := by decide +kernel
theorem d_X8_weighFees_80 : dec m_X8_weighFees 80 = .ok (.invokevirtual 172, 3) := by decide +kernel
theorem d_X8_weighFees_83 : dec m_X8_weighFees 83 = .ok (.iadd, 1) := by decide +kernel
theorem d_X8_weighFees_84 : dec m_X8_weighFees 84 = .ok (.iastore, 1) := by decide +kernel
theorem d_X8_weighFees_85 : dec m_X8_weighFees 85 = .ok (.iinc 2 1, 3) := by decide +kernel
theorem d_X8_weighFees_88 : dec m_X8_weighFees 88 = .ok (.goto (-41), 3) := by decide +kernel
theorem d_X8_weighFees_91 : dec m_X8_weighFees 91 = .ok (.iinc 1 1, 3) := by decide +kernel
theorem d_X8_weighFees_94 : dec m_X8_weighFees 94 = .ok (.goto (-70), 3) := by decide +kernel
theorem d_X8_weighFees_97 : dec m_X8_weighFees 97 = .ok (.return_, 1) := by decide +kernel
theorem d_X8_ways_0 : dec m_X8_ways 0 = .ok (.iload_n 2, 1) := by decide +kernel
theorem d_X8_ways_1 : dec m_X8_ways 1 = .ok (.ifCond .lt 17, 3) := by decide +kernel
theorem d_X8_ways_4 : dec m_X8_ways 4 = .ok (.iload_n 2, 1) := by decide +kernel
theorem d_X8_ways_5 : dec m_X8_ways 5 = .ok (.iload_n 1, 1) := by decide +kernel
theorem d_X8_ways_6 : dec m_X8_ways 6 = .ok (.if_icmp .gt 12, 3) := by decide +kernel
theorem d_X8_ways_9 : dec m_X8_ways 9 = .ok (.iload_n 1, 1) := by decide +kernel
theorem d_X8_ways_10 : dec m_X8_ways 10 = .ok (.aload_n 0, 1) := by decide +kernel
theorem d_X8_ways_11 : dec m_X8_ways 11 = .ok (.getfield 72, 3) := by decide +kernel
theorem d_X8_ways_14 : dec m_X8_ways 14 = .ok (.arraylength, 1) := by decide +kernel
theorem d_X8_ways_15 : dec m_X8_ways 15 = .ok (.if_icmp .lt 5, 3) := by decide +kernel
theorem d_X8_ways_18 : dec m_X8_ways 18 = .ok (.lconst 0, 1) := by decide +kernel
theorem d_X8_ways_19 : dec m_X8_ways 19 = .ok (.lreturn, 1) := by decide +kernel
theorem d_X8_ways_20 : dec m_X8_ways 20 = .ok (.iconst 0, 1) := by decide +kernel
theorem d_X8_ways_21 : dec m_X8_ways 21 = .ok (.istore_n 3, 1) := by decide +kernel
theorem d_X8_ways_22 : dec m_X8_ways 22 = .ok (.iload_n 3, 1) := by decide +kernel
theorem d_X8_ways_23 : dec m_X8_ways 23 = .ok (.iload_n 2, 1) := by decide +kernel
theorem d_X8_ways_24 : dec m_X8_ways 24 = .ok (.if_icmp .gt 24, 3) := by decide +kernel
theorem d_X8_ways_27 : dec m_X8_ways 27 = .ok (.aload_n 0, 1) := by decide +kernel
theorem d_X8_ways_28 : dec m_X8_ways 28 = .ok (.getfield 72, 3) := by decide +kernel
theorem d_X8_ways_31 : dec m_X8_ways 31 = .ok (.iload_n 3, 1) := by decide +kernel
theorem d_X8_ways_32 : dec m_X8_ways 32 = .ok (.iload_n 3, 1) := by decide +kernel
theorem d_X8_ways_33 : dec m_X8_ways 33 = .ok (.ifCond .ne 7, 3) := by decide +kernel
theorem d_X8_ways_36 : dec m_X8_ways 36 = .ok (.lconst 1, 1) := by decide +kernel
theorem d_X8_ways_37 : dec m_X8_ways 37 = .ok (.goto 4, 3) := by decide +kernel
theorem d_X8_ways_40 : dec m_X8_ways 40 = .ok (.lconst 0, 1) := by decide +kernel
theorem d_X8_ways_41 : dec m_X8_ways 41 = .ok (.lastore, 1) := by decide +kernel
theorem d_X8_ways_42 : dec m_X8_ways 42 = .ok (.iinc 3 1, 3) := by decide +kernel
theorem d_X8_ways_45 : dec m_X8_ways 45 = .ok (.goto (-23), 3) := by decide +kernel
theorem d_X8_ways_48 : dec m_X8_ways 48 = .ok (.iconst 1, 1) := by decide +kernel
theorem d_X8_ways_49 : dec m_X8_ways 49 = .ok (.istore_n 3, 1) := by decide +kernel
theorem d_X8_ways_50 : dec m_X8_ways 50 = .ok (.iload_n 3, 1) := by decide +kernel
theorem d_X8_ways_51 : dec m_X8_ways 51 = .ok (.iload_n 1, 1) := by decide +kernel
theorem d_X8_ways_52 : dec m_X8_ways 52 = .ok (.if_icmp .gt 54, 3) := by decide +kernel
theorem d_X8_ways_55 : dec m_X8_ways 55 = .ok (.iload_n 2, 1) := by decide +kernel
theorem d_X8_ways_56 : dec m_X8_ways 56 = .ok (.istore 4, 2) := by decide +kernel
theorem d_X8_ways_58 : dec m_X8_ways 58 = .ok (.iload 4, 2) := by decide +kernel
theorem d_X8_ways_60 : dec m_X8_ways 60 = .ok (.iconst 1, 1) := by decide +kernel
theorem d_X8_ways_61 : dec m_X8_ways 61 = .ok (.if_icmp .lt 39, 3) := by decide +kernel
theorem d_X8_ways_64 : dec m_X8_ways 64 = .ok (.aload_n 0, 1) := by decide +kernel
theorem d_X8_ways_65 : dec m_X8_ways 65 = .ok (.getfield 72, 3) := by decide +kernel
theorem d_X8_ways_68 : dec m_X8_ways 68 = .ok (.iload 4, 2) := by decide +kernel
theorem d_X8_ways_70 : dec m_X8_ways 70 = .ok (.aload_n 0, 1) := by decide +kernel
theorem d_X8_ways_71 : dec m_X8_ways 71 = .ok (.getfield 72, 3) := by decide +kernel
theorem d_X8_ways_74 : dec m_X8_ways 74 = .ok (.iload 4, 2) := by decide +kernel
theorem d_X8_ways_76 : dec m_X8_ways 76 = .ok (.laload, 1) := by decide +kernel
theorem d_X8_ways_77 : dec m_X8_ways 77 = .ok (.aload_n 0, 1) := by decide +kernel
theorem d_X8_ways_78 : dec m_X8_ways 78 = .ok (.getfield 72, 3) := by decide +kernel
theorem d_X8_ways_81 : dec m_X8_ways 81 = .ok (.iload 4, 2) := by decide +kernel
theorem d_X8_ways_83 : dec m_X8_ways 83 = .ok (.iconst 1, 1) := by decide +kernel
theorem d_X8_ways_84 : dec m_X8_ways 84 = .ok (.isub, 1) := by decide +kernel
theorem d_X8_ways_85 : dec m_X8_ways 85 = .ok (.laload, 1) := by decide +kernel
theorem d_X8_ways_86 : dec m_X8_ways 86 = .ok (.ladd, 1) := by decide +kernel
theorem d_X8_ways_87 : dec m_X8_ways 87 = .ok (.ldc2_w 420, 3) := by decide +kernel
theorem d_X8_ways_90 : dec m_X8_ways 90 = .ok (.invokestatic 422, 3) := by decide +kernel
theorem d_X8_ways_93 : dec m_X8_ways 93 = .ok (.lastore, 1) := by decide +kernel
theorem d_X8_ways_94 : dec m_X8_ways 94 = .ok (.iinc 4 (-1), 3) := by decide +kernel
theorem d_X8_ways_97 : dec m_X8_ways 97 = .ok (.goto (-39), 3) := by decide +kernel
theorem d_X8_ways_100 : dec m_X8_ways 100 = .ok (.iinc 3 1, 3) := by decide +kernel
theorem d_X8_ways_103 : dec m_X8_ways 103 = .ok (.goto (-53), 3) := by decide +kernel
theorem d_X8_ways_106 : dec m_X8_ways 106 = .ok (.aload_n 0, 1) := by decide +kernel
theorem d_X8_ways_107 : dec m_X8_ways 107 = .ok (.getfield 72, 3) := by decide +kernel
theorem d_X8_ways_110 : dec m_X8_ways 110 = .ok (.iload_n 2, 1) := by decide +kernel
theorem d_X8_ways_111 : dec m_X8_ways 111 = .ok (.laload, 1) := by decide +kernel
theorem d_X8_ways_112 : dec m_X8_ways 112 = .ok (.lreturn, 1) := by decide +kernel
theorem d_X8_bitsOfShare_0 : dec m_X8_bitsOfShare 0 = .ok (.iload_n 1, 1) := by decide +kernel
theorem d_X8_bitsOfShare_1 : dec m_X8_bitsOfShare 1 = .ok (.ifCond .gt 7, 3) := by decide +kernel
theorem d_X8_bitsOfShare_4 : dec m_X8_bitsOfShare 4 = .ok (.ldc2_w 425, 3) := by decide +kernel
theorem d_X8_bitsOfShare_7 : dec m_X8_bitsOfShare 7 = .ok (.lreturn, 1) := by decide +kernel
theorem d_X8_bitsOfShare_8 : dec m_X8_bitsOfShare 8 = .ok (.iload_n 0, 1) := by decide +kernel
theorem d_X8_bitsOfShare_9 : dec m_X8_bitsOfShare 9 = .ok (.ifCond .gt 5, 3) := by decide +kernel
theorem d_X8_bitsOfShare_12 : dec m_X8_bitsOfShare 12 = .ok (.lconst 0, 1) := by decide +kernel
theorem d_X8_bitsOfShare_13 : dec m_X8_bitsOfShare 13 = .ok (.lreturn, 1) := by decide +kernel
theorem d_X8_bitsOfShare_14 : dec m_X8_bitsOfShare 14 = .ok (.iload_n 0, 1) := by decide +kernel
theorem d_X8_bitsOfShare_15 : dec m_X8_bitsOfShare 15 = .ok (.i2d, 1) := by decide +kernel
theorem d_X8_bitsOfShare_16 : dec m_X8_bitsOfShare 16 = .ok (.iload_n 1, 1) := by decide +kernel
theorem d_X8_bitsOfShare_17 : dec m_X8_bitsOfShare 17 = .ok (.i2d, 1) := by decide +kernel
theorem d_X8_bitsOfShare_18 : dec m_X8_bitsOfShare 18 = .ok (.ddiv, 1) := by decide +kernel
theorem d_X8_bitsOfShare_19 : dec m_X8_bitsOfShare 19 = .ok (.dstore_n 2, 1) := by decide +kernel
theorem d_X8_bitsOfShare_20 : dec m_X8_bitsOfShare 20 = .ok (.ldc2_w 427, 3) := by decide +kernel
theorem d_X8_bitsOfShare_23 : dec m_X8_bitsOfShare 23 = .ok (.lstore 4, 2) := by decide +kernel
theorem d_X8_bitsOfShare_25 : dec m_X8_bitsOfShare 25 = .ok (.iconst 0, 1) := by decide +kernel
theorem d_X8_bitsOfShare_26 : dec m_X8_bitsOfShare 26 = .ok (.istore 6, 2) := by decide +kernel
theorem d_X8_bitsOfShare_28 : dec m_X8_bitsOfShare 28 = .ok (.iload 6, 2) := by decide +kernel
theorem d_X8_bitsOfShare_30 : dec m_X8_bitsOfShare 30 = .ok (.bipush 64, 2) := by decide +kernel
theorem d_X8_bitsOfShare_32 : dec m_X8_bitsOfShare 32 = .ok (.if_icmp .ge 27, 3) := by decide +kernel
theorem d_X8_bitsOfShare_35 : dec m_X8_bitsOfShare 35 = .ok (.dload_n 2, 1) := by decide +kernel
theorem d_X8_bitsOfShare_36 : dec m_X8_bitsOfShare 36 = .ok (.dconst 1, 1) := by decide +kernel
theorem d_X8_bitsOfShare_37 : dec m_X8_bitsOfShare 37 = .ok (.dcmp .g, 1) := by decide +kernel
theorem d_X8_bitsOfShare_38 : dec m_X8_bitsOfShare 38 = .ok (.ifCond .ge 21, 3) := by decide +kernel
theorem d_X8_bitsOfShare_41 : dec m_X8_bitsOfShare 41 = .ok (.dload_n 2, 1) := by decide +kernel
theorem d_X8_bitsOfShare_42 : dec m_X8_bitsOfShare 42 = .ok (.ldc2_w 429, 3) := by decide +kernel
theorem d_X8_bitsOfShare_45 : dec m_X8_bitsOfShare 45 = .ok (.dmul, 1) := by decide +kernel
theorem d_X8_bitsOfShare_46 : dec m_X8_bitsOfShare 46 = .ok (.dstore_n 2, 1) := by decide +kernel
theorem d_X8_bitsOfShare_47 : dec m_X8_bitsOfShare 47 = .ok (.lload 4, 2) := by decide +kernel
theorem d_X8_bitsOfShare_49 : dec m_X8_bitsOfShare 49 = .ok (.lconst 1, 1) := by decide +kernel
theorem d_X8_bitsOfShare_50 : dec m_X8_bitsOfShare 50 = .ok (.lsub, 1) := by decide +kernel
theorem d_X8_bitsOfShare_51 : dec m_X8_bitsOfShare 51 = .ok (.lstore 4, 2) := by decide +kernel
theorem d_X8_bitsOfShare_53 : dec m_X8_bitsOfShare 53 = .ok (.iinc 6 1, 3) := by decide +kernel
theorem d_X8_bitsOfShare_56 : dec m_X8_bitsOfShare 56 = .ok (.goto (-28), 3) := by decide +kernel
theorem d_X8_bitsOfShare_59 : dec m_X8_bitsOfShare 59 = .ok (.dload_n 2, 1) := by decide +kernel
theorem d_X8_bitsOfShare_60 : dec m_X8_bitsOfShare 60 = .ok (.dconst 1, 1) := by decide +kernel
theorem d_X8_bitsOfShare_61 : dec m_X8_bitsOfShare 61 = .ok (.dsub, 1) := by decide +kernel
theorem d_X8_bitsOfShare_62 : dec m_X8_bitsOfShare 62 = .ok (.ldc2_w 431, 3) := by decide +kernel
theorem d_X8_bitsOfShare_65 : dec m_X8_bitsOfShare 65 = .ok (.dmul, 1) := by decide +kernel
theorem d_X8_bitsOfShare_66 : dec m_X8_bitsOfShare 66 = .ok (.d2l, 1) := by decide +kernel
theorem d_X8_bitsOfShare_67 : dec m_X8_bitsOfShare 67 = .ok (.lstore 6, 2) := by decide +kernel
theorem d_X8_bitsOfShare_69 : dec m_X8_bitsOfShare 69 = .ok (.lload 4, 2) := by decide +kernel
theorem d_X8_bitsOfShare_71 : dec m_X8_bitsOfShare 71 = .ok (.bipush 52, 2) := by decide +kernel
theorem d_X8_bitsOfShare_73 : dec m_X8_bitsOfShare 73 = .ok (.lshl, 1) := by decide +kernel
theorem d_X8_bitsOfShare_74 : dec m_X8_bitsOfShare 74 = .ok (.lload 6, 2) := by decide +kernel
theorem d_X8_bitsOfShare_76 : dec m_X8_bitsOfShare 76 = .ok (.lor, 1) := by decide +kernel
theorem d_X8_bitsOfShare_77 : dec m_X8_bitsOfShare 77 = .ok (.lreturn, 1) := by decide +kernel
theorem d_X9_in_0 : dec m_X9_in 0 = .ok (.lload_n 0, 1) := by decide +kernel
theorem d_X9_in_1 : dec m_X9_in 1 = .ok (.lload_n 2, 1) := by decide +kernel
theorem d_X9_in_2 : dec m_X9_in 2 = .ok (.lcmp, 1) := by decide +kernel
theorem d_X9_in_3 : dec m_X9_in 3 = .ok (.ifCond .lt 14, 3) := by decide +kernel
theorem d_X9_in_6 : dec m_X9_in 6 = .ok (.lload_n 0, 1) := by decide +kernel
theorem d_X9_in_7 : dec m_X9_in 7 = .ok (.lload 4, 2) := by decide +kernel
theorem d_X9_in_9 : dec m_X9_in 9 = .ok (.lcmp, 1) := by decide +kernel
theorem d_X9_in_10 : dec m_X9_in 10 = .ok (.ifCond .gt 7, 3) := by decide +kernel
theorem d_X9_in_13 : dec m_X9_in 13 = .ok (.iconst 1, 1) := by decide +kernel
theorem d_X9_in_14 : dec m_X9_in 14 = .ok (.goto 4, 3) := by decide +kernel
theorem d_X9_in_17 : dec m_X9_in 17 = .ok (.iconst 0, 1) := by decide +kernel
theorem d_X9_in_18 : dec m_X9_in 18 = .ok (.ireturn, 1) := by decide +kernel
theorem d_X9_has_0 : dec m_X9_has 0 = .ok (.iload_n 0, 1) := by decide +kernel
theorem d_X9_has_1 : dec m_X9_has 1 = .ok (.iload_n 1, 1) := by decide +kernel
theorem d_X9_has_2 : dec m_X9_has 2 = .ok (.ishr, 1) := by decide +kernel
theorem d_X9_has_3 : dec m_X9_has 3 = .ok (.iconst 1, 1) := by decide +kernel
theorem d_X9_has_4 : dec m_X9_has 4 = .ok (.iand, 1) := by decide +kernel
theorem d_X9_has_5 : dec m_X9_has 5 = .ok (.iconst 1, 1) := by decide +kernel
theorem d_X9_has_6 : dec m_X9_has 6 = .ok (.if_icmp .ne 7, 3) := by decide +kernel
theorem d_X9_has_9 : dec m_X9_has 9 = .ok (.iconst 1, 1) := by decide +kernel
theorem d_X9_has_10 : dec m_X9_has 10 = .ok (.goto 4, 3) := by decide +kernel
theorem d_X9_has_13 : dec m_X9_has 13 = .ok (.iconst 0, 1) := by decide +kernel
theorem d_X9_has_14 : dec m_X9_has 14 = .ok (.ireturn, 1) := by decide +kernel
theorem d_X9_traders_0 : dec m_X9_traders 0 = .ok (.aload_n 0, 1) := by decide +kernel
theorem d_X9_traders_1 : dec m_X9_traders 1 = .ok (.getfield 7, 3) := by decide +kernel
theorem d_X9_traders_4 : dec m_X9_traders 4 = .ok (.sipush 180, 3) := by decide +kernel
theorem d_X9_traders_7 : dec m_X9_traders 7 = .ok (.iaload, 1) := by decide +kernel
theorem d_X9_traders_8 : dec m_X9_traders 8 = .ok (.ireturn, 1) := by decide +kernel
theorem d_X9_isTrader_0 : dec m_X9_isTrader 0 = .ok (.iload_n 1, 1) := by decide +kernel
theorem d_X9_isTrader_1 : dec m_X9_isTrader 1 = .ok (.i2l, 1) := by decide +kernel
theorem d_X9_isTrader_2 : dec m_X9_isTrader 2 = .ok (.lconst 0, 1) := by decide +kernel
theorem d_X9_isTrader_3 : dec m_X9_isTrader 3 = .ok (.aload_n 0, 1) := by decide +kernel
theorem d_X9_isTrader_4 : dec m_X9_isTrader 4 = .ok (.invokevirtual 78, 3) := by decide +kernel
theorem d_X9_isTrader_7 : dec m_X9_isTrader 7 = .ok (.iconst 1, 1) := by decide +kernel
theorem d_X9_isTrader_8 : dec m_X9_isTrader 8 = .ok (.isub, 1) := by decide +kernel
theorem d_X9_isTrader_9 : dec m_X9_isTrader 9 = .ok (.i2l, 1) := by decide +kernel
theorem d_X9_isTrader_10 : dec m_X9_isTrader 10 = .ok (.invokestatic 82, 3) := by decide +kernel
theorem d_X9_isTrader_13 : dec m_X9_isTrader 13 = .ok (.ireturn, 1) := by decide +kernel
theorem d_X9_isGrade_0 : dec m_X9_isGrade 0 = .ok (.iload_n 0, 1) := by decide +kernel
theorem d_X9_isGrade_1 : dec m_X9_isGrade 1 = .ok (.i2l, 1) := by decide +kernel
theorem d_X9_isGrade_2 : dec m_X9_isGrade 2 = .ok (.lconst 0, 1) := by decide +kernel
theorem d_X9_isGrade_3 : dec m_X9_isGrade 3 = .ok (.ldc2_w 86, 3) := by decide +kernel
theorem d_X9_isGrade_6 : dec m_X9_isGrade 6 = .ok (.invokestatic 82, 3) := by decide +kernel
theorem d_X9_isGrade_9 : dec m_X9_isGrade 9 = .ok (.ireturn, 1) := by decide +kernel
theorem d_X9_of_0 : dec m_X9_of 0 = .ok (.aload_n 0, 1) := by decide +kernel
theorem d_X9_of_1 : dec m_X9_of 1 = .ok (.getfield 7, 3) := by decide +kernel
theorem d_X9_of_4 : dec m_X9_of 4 = .ok (.bipush 9, 2) := by decide +kernel
theorem d_X9_of_6 : dec m_X9_of 6 = .ok (.iload_n 1, 1) := by decide +kernel
theorem d_X9_of_7 : dec m_X9_of 7 = .ok (.imul, 1) := by decide +kernel
theorem d_X9_of_8 : dec m_X9_of 8 = .ok (.iload_n 2, 1) := by decide +kernel
theorem d_X9_of_9 : dec m_X9_of 9 = .ok (.iadd, 1) := by decide +kernel
theorem d_X9_of_10 : dec m_X9_of 10 = .ok (.iaload, 1) := by decide +kernel
theorem d_X9_of_11 : dec m_X9_of 11 = .ok (.ireturn, 1) := by decide +kernel
theorem d_X9_sells_0 : dec m_X9_sells 0 = .ok (.aload_n 0, 1) := by decide +kernel
theorem d_X9_sells_1 : dec m_X9_sells 1 = .ok (.iload_n 1, 1) := by decide +kernel
theorem d_X9_sells_2 : dec m_X9_sells 2 = .ok (.iconst 0, 1) := by decide +kernel
theorem d_X9_sells_3 : dec m_X9_sells 3 = .ok (.invokevirtual 88, 3) := by decide +kernel
theorem d_X9_sells_6 : dec m_X9_sells 6 = .ok (.iconst 1, 1) := by decide +kernel
theorem d_X9_sells_7 : dec m_X9_sells 7 = .ok (.if_icmp .ne 7, 3) := by decide +kernel
theorem d_X9_sells_10 : dec m_X9_sells 10 = .ok (.iconst 1, 1) := by decide +kernel
theorem d_X9_sells_11 : dec m_X9_sells 11 = .ok (.goto 4, 3) := by decide +kernel
theorem d_X9_sells_14 : dec m_X9_sells 14 = .ok (.iconst 0, 1) := by decide +kernel
theorem d_X9_sells_15 : dec m_X9_sells 15 = .ok (.ireturn, 1) := by decide +kernel
theorem d_X9_held_0 : dec m_X9_held 0 = .ok (.iload_n 0, 1) := by decide +kernel
theorem d_X9_held_1 : dec m_X9_held 1 = .ok (.ifCond .ge 7, 3) := by decide +kernel
theorem d_X9_held_4 : dec m_X9_held 4 = .ok (.iconst 0, 1) := by decide +kernel
theorem d_X9_held_5 : dec m_X9_held 5 = .ok (.goto 17, 3) := by decide +kernel
theorem d_X9_held_8 : dec m_X9_held 8 = .ok (.iload_n 0, 1) := by decide +kernel
theorem d_X9_held_9 : dec m_X9_held 9 = .ok (.sipush 9999, 3) := by decide +kernel
theorem d_X9_held_12 : dec m_X9_held 12 = .ok (.if_icmp .le 9, 3) := by decide +kernel
theorem d_X9_held_15 : dec m_X9_held 15 = .ok (.sipush 9999, 3) := by decide +kernel
theorem d_X9_held_18 : dec m_X9_held 18 = .ok (.goto 4, 3) := by decide +kernel
theorem d_X9_held_21 : dec m_X9_held 21 = .ok (.iload_n 0, 1) := by decide +kernel
theorem d_X9_held_22 : dec m_X9_held 22 = .ok (.ireturn, 1) := by decide +kernel
theorem d_X9_said_0 : dec m_X9_said 0 = .ok (.aload_n 0, 1) := by decide +kernel
theorem d_X9_said_1 : dec m_X9_said 1 = .ok (.iload_n 1, 1) := by decide +kernel
theorem d_X9_said_2 : dec m_X9_said 2 = .ok (.iconst 3, 1) := by decide +kernel
theorem d_X9_said_3 : dec m_X9_said 3 = .ok (.iload_n 2, 1) := by decide +kernel
theorem d_X9_said_4 : dec m_X9_said 4 = .ok (.iadd, 1) := by decide +kernel
theorem d_X9_said_5 : dec m_X9_said 5 = .ok (.invokevirtual 88, 3) := by decide +kernel
theorem d_X9_said_8 : dec m_X9_said 8 = .ok (.istore_n 3, 1) := by decide +kernel
theorem d_X9_said_9 : dec m_X9_said 9 = .ok (.aload_n 0, 1) := by decide +kernel
theorem d_X9_said_10 : dec m_X9_said 10 = .ok (.getfield 92, 3) := by decide +kernel
theorem d_X9_said_13 : dec m_X9_said 13 = .ok (.iload_n 1, 1) := by decide +kernel
theorem d_X9_said_14 : dec m_X9_said 14 = .ok (.invokestatic 96, 3) := by decide +kernel
theorem d_X9_said_17 : dec m_X9_said 17 = .ok (.ifCond .eq 15, 3) := by decide +kernel
theorem d_X9_said_20 : dec m_X9_said 20 = .ok (.iload_n 3, 1) := by decide +kernel
theorem d_X9_said_21 : dec m_X9_said 21 = .ok (.aload_n 0, 1) := by decide +kernel
theorem d_X9_said_22 : dec m_X9_said 22 = .ok (.getfield 100, 3) := by decide +kernel
theorem d_X9_said_25 : dec m_X9_said 25 = .ok (.iadd, 1) := by decide +kernel
theorem d_X9_said_26 : dec m_X9_said 26 = .ok (.invokestatic 103, 3) := by decide +kernel
theorem d_X9_said_29 : dec m_X9_said 29 = .ok (.goto 4, 3) := by decide +kernel
theorem d_X9_said_32 : dec m_X9_said 32 = .ok (.iload_n 3, 1) := by decide +kernel
theorem d_X9_said_33 : dec m_X9_said 33 = .ok (.ireturn, 1) := by decide +kernel
theorem d_X9_isIn_0 : dec m_X9_isIn 0 = .ok (.iload_n 2, 1) := by decide +kernel
theorem d_X9_isIn_1 : dec m_X9_isIn 1 = .ok (.aload_n 0, 1) := by decide +kernel
theorem d_X9_isIn_2 : dec m_X9_isIn 2 = .ok (.iload_n 1, 1) := by decide +kernel
theorem d_X9_isIn_3 : dec m_X9_isIn 3 = .ok (.iconst 1, 1) := by decide +kernel
theorem d_X9_isIn_4 : dec m_X9_isIn 4 = .ok (.invokevirtual 88, 3) := by decide +kernel
theorem d_X9_isIn_7 : dec m_X9_isIn 7 = .ok (.invokestatic 96, 3) := by decide +kernel
theorem d_X9_isIn_10 : dec m_X9_isIn 10 = .ok (.ifCond .eq 18, 3) := by decide +kernel
theorem d_X9_isIn_13 : dec m_X9_isIn 13 = .ok (.aload_n 0, 1) := by decide +kernel
theorem d_X9_isIn_14 : dec m_X9_isIn 14 = .ok (.getfield 107, 3) := by decide +kernel
theorem d_X9_isIn_17 : dec m_X9_isIn 17 = .ok (.iload_n 1, 1) := by decide +kernel
theorem d_X9_isIn_18 : dec m_X9_isIn 18 = .ok (.invokestatic 96, 3) := by decide +kernel
theorem d_X9_isIn_21 : dec m_X9_isIn 21 = .ok (.ifCond .ne 7, 3) := by decide +kernel
theorem d_X9_isIn_24 : dec m_X9_isIn 24 = .ok (.iconst 1, 1) := by decide +kernel
theorem d_X9_isIn_25 : dec m_X9_isIn 25 = .ok (.goto 4, 3) := by decide +kernel
theorem d_X9_isIn_28 : dec m_X9_isIn 28 = .ok (.iconst 0, 1) := by decide +kernel
theorem d_X9_isIn_29 : dec m_X9_isIn 29 = .ok (.ireturn, 1) := by decide +kernel
theorem d_X9_comesBid_0 : dec m_X9_comesBid 0 = .ok (.aload_n 0, 1) := by decide +kernel
theorem d_X9_comesBid_1 : dec m_X9_comesBid 1 = .ok (.iload_n 1, 1) := by decide +kernel
theorem d_X9_comesBid_2 : dec m_X9_comesBid 2 = .ok (.iload_n 2, 1) := by decide +kernel
theorem d_X9_comesBid_3 : dec m_X9_comesBid 3 = .ok (.invokevirtual 110, 3) := by decide +kernel
theorem d_X9_comesBid_6 : dec m_X9_comesBid 6 = .ok (.istore_n 3, 1) := by decide +kernel
theorem d_X9_comesBid_7 : dec m_X9_comesBid 7 = .ok (.aload_n 0, 1) := by decide +kernel
theorem d_X9_comesBid_8 : dec m_X9_comesBid 8 = .ok (.getfield 113, 3) := by decide +kernel
theorem d_X9_comesBid_11 : dec m_X9_comesBid 11 = .ok (.istore 4, 2) := by decide +kernel
theorem d_X9_comesBid_13 : dec m_X9_comesBid 13 = .ok (.iload 4, 2) := by decide +kernel
theorem d_X9_comesBid_15 : dec m_X9_comesBid 15 = .ok (.ifCond .le 70, 3) := by decide +kernel
theorem d_X9_comesBid_18 : dec m_X9_comesBid 18 = .ok (.aload_n 0, 1) := by decide +kernel
theorem d_X9_comesBid_19 : dec m_X9_comesBid 19 = .ok (.getfield 29, 3) := by decide +kernel
theorem d_X9_comesBid_22 : dec m_X9_comesBid 22 = .ok (.iload 4, 2) := by decide +kernel
theorem d_X9_comesBid_24 : dec m_X9_comesBid 24 = .ok (.iconst 1, 1) := by decide +kernel
theorem d_X9_comesBid_25 : dec m_X9_comesBid 25 = .ok (.isub, 1) := by decide +kernel
theorem d_X9_comesBid_26 : dec m_X9_comesBid 26 = .ok (.iaload, 1) := by decide +kernel
theorem d_X9_comesBid_27 : dec m_X9_comesBid 27 = .ok (.iload_n 3, 1) := by decide +kernel
theorem d_X9_comesBid_28 : dec m_X9_comesBid 28 = .ok (.if_icmp .ge 57, 3) := by decide +kernel
theorem d_X9_comesBid_31 : dec m_X9_comesBid 31 = .ok (.aload_n 0, 1) := by decide +kernel
theorem d_X9_comesBid_32 : dec m_X9_comesBid 32 = .ok (.getfield 29, 3) := by decide +kernel
theorem d_X9_comesBid_35 : dec m_X9_comesBid 35 = .ok (.iload 4, 2) := by decide +kernel
theorem d_X9_comesBid_37 : dec m_X9_comesBid 37 = .ok (.aload_n 0, 1) := by decide +kernel
theorem d_X9_comesBid_38 : dec m_X9_comesBid 38 = .ok (.getfield 29, 3) := by decide +kernel
theorem d_X9_comesBid_41 : dec m_X9_comesBid 41 = .ok (.iload 4, 2) := by decide +kernel
theorem d_X9_comesBid_43 : dec m_X9_comesBid 43 = .ok (.iconst 1, 1) := by decide +kernel
theorem d_X9_comesBid_44 : dec m_X9_comesBid 44 = .ok (.isub, 1) := by decide +kernel
theorem d_X9_comesBid_45 : dec m_X9_comesBid 45 = .ok (.iaload, 1) := by decide +kernel
theorem d_X9_comesBid_46 : dec m_X9_comesBid 46 = .ok (.iastore, 1) := by decide +kernel
theorem d_X9_comesBid_47 : dec m_X9_comesBid 47 = .ok (.aload_n 0, 1) := by decide +kernel
theorem d_X9_comesBid_48 : dec m_X9_comesBid 48 = .ok (.getfield 23, 3) := by decide +kernel
theorem d_X9_comesBid_51 : dec m_X9_comesBid 51 = .ok (.iload 4, 2) := by decide +kernel
theorem d_X9_comesBid_53 : dec m_X9_comesBid 53 = .ok (.aload_n 0, 1) := by decide +kernel
theorem d_X9_comesBid_54 : dec m_X9_comesBid 54 = .ok (.getfield 23, 3) := by decide +kernel
theorem d_X9_comesBid_57 : dec m_X9_comesBid 57 = .ok (.iload 4, 2) := by decide +kernel
theorem d_X9_comesBid_59 : dec m_X9_comesBid 59 = .ok (.iconst 1, 1) := by decide +kernel
theorem d_X9_comesBid_60 : dec m_X9_comesBid 60 = .ok (.isub, 1) := by decide +kernel
theorem d_X9_comesBid_61 : dec m_X9_comesBid 61 = .ok (.iaload, 1) := by decide +kernel
theorem d_X9_comesBid_62 : dec m_X9_comesBid 62 = .ok (.iastore, 1) := by decide +kernel
theorem d_X9_comesBid_63 : dec m_X9_comesBid 63 = .ok (.aload_n 0, 1) := by decide +kernel
theorem d_X9_comesBid_64 : dec m_X9_comesBid 64 = .ok (.getfield 26, 3) := by decide +kernel
theorem d_X9_comesBid_67 : dec m_X9_comesBid 67 = .ok (.iload 4, 2) := by decide +kernel
theorem d_X9_comesBid_69 : dec m_X9_comesBid 69 = .ok (.aload_n 0, 1) := by decide +kernel
theorem d_X9_comesBid_70 : dec m_X9_comesBid 70 = .ok (.getfield 26, 3) := by decide +kernel
theorem d_X9_comesBid_73 : dec m_X9_comesBid 73 = .ok (.iload 4, 2) := by decide +kernel
theorem d_X9_comesBid_75 : dec m_X9_comesBid 75 = .ok (.iconst 1, 1) := by decide +kernel
theorem d_X9_comesBid_76 : dec m_X9_comesBid 76 = .ok (.isub, 1) := by decide +kernel
theorem d_X9_comesBid_77 : dec m_X9_comesBid 77 = .ok (.iaload, 1) := by decide +kernel
theorem d_X9_comesBid_78 : dec m_X9_comesBid 78 = .ok (.iastore, 1) := by decide +kernel
theorem d_X9_comesBid_79 : dec m_X9_comesBid 79 = .ok (.iinc 4 (-1), 3) := by decide +kernel
theorem d_X9_comesBid_82 : dec m_X9_comesBid 82 = .ok (.goto (-69), 3) := by decide +kernel
theorem d_X9_comesBid_85 : dec m_X9_comesBid 85 = .ok (.aload_n 0, 1) := by decide +kernel
theorem d_X9_comesBid_86 : dec m_X9_comesBid 86 = .ok (.getfield 29, 3) := by decide +kernel
theorem d_X9_comesBid_89 : dec m_X9_comesBid 89 = .ok (.iload 4, 2) := by decide +kernel
theorem d_X9_comesBid_91 : dec m_X9_comesBid 91 = .ok (.iload_n 3, 1) := by decide +kernel
theorem d_X9_comesBid_92 : dec m_X9_comesBid 92 = .ok (.iastore, 1) := by decide +kernel
theorem d_X9_comesBid_93 : dec m_X9_comesBid 93 = .ok (.aload_n 0, 1) := by decide +kernel
theorem d_X9_comesBid_94 : dec m_X9_comesBid 94 = .ok (.getfield 23, 3) := by decide +kernel
theorem d_X9_comesBid_97 : dec m_X9_comesBid 97 = .ok (.iload 4, 2) := by decide +kernel
theorem d_X9_comesBid_99 : dec m_X9_comesBid 99 = .ok (.iload_n 1, 1) := by decide +kernel
theorem d_X9_comesBid_100 : dec m_X9_comesBid 100 = .ok (.iastore, 1) := by decide +kernel
theorem d_X9_comesBid_101 : dec m_X9_comesBid 101 = .ok (.aload_n 0, 1) := by decide +kernel
theorem d_X9_comesBid_102 : dec m_X9_comesBid 102 = .ok (.getfield 26, 3) := by decide +kernel
theorem d_X9_comesBid_105 : dec m_X9_comesBid 105 = .ok (.iload 4, 2) := by decide +kernel
theorem d_X9_comesBid_107 : dec m_X9_comesBid 107 = .ok (.iload_n 2, 1) := by decide +kernel
theorem d_X9_comesBid_108 : dec m_X9_comesBid 108 = .ok (.iastore, 1) := by decide +kernel
theorem d_X9_comesBid_109 : dec m_X9_comesBid 109 = .ok (.aload_n 0, 1) := by decide +kernel
theorem d_X9_comesBid_110 : dec m_X9_comesBid 110 = .ok (.dup, 1) := by decide +kernel
theorem d_X9_comesBid_111 : dec m_X9_comesBid 111 = .ok (.getfield 113, 3) := by decide +kernel
theorem d_X9_comesBid_114 : dec m_X9_comesBid 114 = .ok (.iconst 1, 1) := by decide +kernel
theorem d_X9_comesBid_115 : dec m_X9_comesBid 115 = .ok (.iadd, 1) := by decide +kernel
theorem d_X9_comesBid_116 : dec m_X9_comesBid 116 = .ok (.putfield 113, 3) := by decide +kernel
theorem d_X9_comesBid_119 : dec m_X9_comesBid 119 = .ok (.return_, 1) := by decide +kernel
theorem d_X9_comesAsk_0 : dec m_X9_comesAsk 0 = .ok (.aload_n 0, 1) := by decide +kernel
theorem d_X9_comesAsk_1 : dec m_X9_comesAsk 1 = .ok (.iload_n 1, 1) := by decide +kernel
theorem d_X9_comesAsk_2 : dec m_X9_comesAsk 2 = .ok (.iload_n 2, 1) := by decide +kernel
theorem d_X9_comesAsk_3 : dec m_X9_comesAsk 3 = .ok (.invokevirtual 110, 3) := by decide +kernel
theorem d_X9_comesAsk_6 : dec m_X9_comesAsk 6 = .ok (.aload_n 0, 1) := by decide +kernel
theorem d_X9_comesAsk_7 : dec m_X9_comesAsk 7 = .ok (.getfield 7, 3) := by decide +kernel
theorem d_X9_comesAsk_10 : dec m_X9_comesAsk 10 = .ok (.sipush 181, 3) := by decide +kernel
theorem d_X9_comesAsk_13 : dec m_X9_comesAsk 13 = .ok (.iaload, 1) := by decide +kernel
theorem d_X9_comesAsk_14 : dec m_X9_comesAsk 14 = .ok (.iadd, 1) := by decide +kernel
theorem d_X9_comesAsk_15 : dec m_X9_comesAsk 15 = .ok (.istore_n 3, 1) := by decide +kernel
theorem d_X9_comesAsk_16 : dec m_X9_comesAsk 16 = .ok (.aload_n 0, 1) := by decide +kernel
theorem d_X9_comesAsk_17 : dec m_X9_comesAsk 17 = .ok (.getfield 116, 3) := by decide +kernel
theorem d_X9_comesAsk_20 : dec m_X9_comesAsk 20 = .ok (.istore 4, 2) := by decide +kernel
theorem d_X9_comesAsk_22 : dec m_X9_comesAsk 22 = .ok (.iload 4, 2) := by decide +kernel
theorem d_X9_comesAsk_24 : dec m_X9_comesAsk 24 = .ok (.ifCond .le 70, 3) := by decide +kernel
theorem d_X9_comesAsk_27 : dec m_X9_comesAsk 27 = .ok (.aload_n 0, 1) := by decide +kernel
theorem d_X9_comesAsk_28 : dec m_X9_comesAsk 28 = .ok (.getfield 38, 3) := by decide +kernel
theorem d_X9_comesAsk_31 : dec m_X9_comesAsk 31 = .ok (.iload 4, 2) := by decide +kernel
theorem d_X9_comesAsk_33 : dec m_X9_comesAsk 33 = .ok (.iconst 1, 1) := by decide +kernel
theorem d_X9_comesAsk_34 : dec m_X9_comesAsk 34 = .ok (.isub, 1) := by decide +kernel
theorem d_X9_comesAsk_35 : dec m_X9_comesAsk 35 = .ok (.iaload, 1) := by decide +kernel
theorem d_X9_comesAsk_36 : dec m_X9_comesAsk 36 = .ok (.iload_n 3, 1) := by decide +kernel
theorem d_X9_comesAsk_37 : dec m_X9_comesAsk 37 = .ok (.if_icmp .le 57, 3) := by decide +kernel
theorem d_X9_comesAsk_40 : dec m_X9_comesAsk 40 = .ok (.aload_n 0, 1) := by decide +kernel
theorem d_X9_comesAsk_41 : dec m_X9_comesAsk 41 = .ok (.getfield 38, 3) := by decide +kernel
theorem d_X9_comesAsk_44 : dec m_X9_comesAsk 44 = .ok (.iload 4, 2) := by decide +kernel
theorem d_X9_comesAsk_46 : dec m_X9_comesAsk 46 = .ok (.aload_n 0, 1) := by decide +kernel
theorem d_X9_comesAsk_47 : dec m_X9_comesAsk 47 = .ok (.getfield 38, 3) := by decide +kernel
theorem d_X9_comesAsk_50 : dec m_X9_comesAsk 50 = .ok (.iload 4, 2) := by decide +kernel
theorem d_X9_comesAsk_52 : dec m_X9_comesAsk 52 = .ok (.iconst 1, 1) := by decide +kernel
theorem d_X9_comesAsk_53 : dec m_X9_comesAsk 53 = .ok (.isub, 1) := by decide +kernel
theorem d_X9_comesAsk_54 : dec m_X9_comesAsk 54 = .ok (.iaload, 1) := by decide +kernel
theorem d_X9_comesAsk_55 : dec m_X9_comesAsk 55 = .ok (.iastore, 1) := by decide +kernel
theorem d_X9_comesAsk_56 : dec m_X9_comesAsk 56 = .ok (.aload_n 0, 1) := by decide +kernel
theorem d_X9_comesAsk_57 : dec m_X9_comesAsk 57 = .ok (.getfield 32, 3) := by decide +kernel
theorem d_X9_comesAsk_60 : dec m_X9_comesAsk 60 = .ok (.iload 4, 2) := by decide +kernel
theorem d_X9_comesAsk_62 : dec m_X9_comesAsk 62 = .ok (.aload_n 0, 1) := by decide +kernel
theorem d_X9_comesAsk_63 : dec m_X9_comesAsk 63 = .ok (.getfield 32, 3) := by decide +kernel
theorem d_X9_comesAsk_66 : dec m_X9_comesAsk 66 = .ok (.iload 4, 2) := by decide +kernel
theorem d_X9_comesAsk_68 : dec m_X9_comesAsk 68 = .ok (.iconst 1, 1) := by decide +kernel
theorem d_X9_comesAsk_69 : dec m_X9_comesAsk 69 = .ok (.isub, 1) := by decide +kernel
theorem d_X9_comesAsk_70 : dec m_X9_comesAsk 70 = .ok (.iaload, 1) := by decide +kernel
theorem d_X9_comesAsk_71 : dec m_X9_comesAsk 71 = .ok (.iastore, 1) := by decide +kernel
theorem d_X9_comesAsk_72 : dec m_X9_comesAsk 72 = .ok (.aload_n 0, 1) := by decide +kernel
theorem d_X9_comesAsk_73 : dec m_X9_comesAsk 73 = .ok (.getfield 35, 3) := by decide +kernel
theorem d_X9_comesAsk_76 : dec m_X9_comesAsk 76 = .ok (.iload 4, 2) := by decide +kernel
theorem d_X9_comesAsk_78 : dec m_X9_comesAsk 78 = .ok (.aload_n 0, 1) := by decide +kernel
theorem d_X9_comesAsk_79 : dec m_X9_comesAsk 79 = .ok (.getfield 35, 3) := by decide +kernel
theorem d_X9_comesAsk_82 : dec m_X9_comesAsk 82 = .ok (.iload 4, 2) := by decide +kernel
theorem d_X9_comesAsk_84 : dec m_X9_comesAsk 84 = .ok (.iconst 1, 1) := by decide +kernel
theorem d_X9_comesAsk_85 : dec m_X9_comesAsk 85 = .ok (.isub, 1) := by decide +kernel
theorem d_X9_comesAsk_86 : dec m_X9_comesAsk 86 = .ok (.iaload, 1) := by decide +kernel
theorem d_X9_comesAsk_87 : dec m_X9_comesAsk 87 = .ok (.iastore, 1) := by decide +kernel
theorem d_X9_comesAsk_88 : dec m_X9_comesAsk 88 = .ok (.iinc 4 (-1), 3) := by decide +kernel
theorem d_X9_comesAsk_91 : dec m_X9_comesAsk 91 = .ok (.goto (-69), 3) := by decide +kernel
theorem d_X9_comesAsk_94 : dec m_X9_comesAsk 94 = .ok (.aload_n 0, 1) := by decide +kernel
theorem d_X9_comesAsk_95 : dec m_X9_comesAsk 95 = .ok (.getfield 38, 3) := by decide +kernel
theorem d_X9_comesAsk_98 : dec m_X9_comesAsk 98 = .ok (.iload 4, 2) := by decide +kernel
theorem d_X9_comesAsk_100 : dec m_X9_comesAsk 100 = .ok (.iload_n 3, 1) := by decide +kernel
theorem d_X9_comesAsk_101 : dec m_X9_comesAsk 101 = .ok (.iastore, 1) := by decide +kernel
theorem d_X9_comesAsk_102 : dec m_X9_comesAsk 102 = .ok (.aload_n 0, 1) := by decide +kernel
theorem d_X9_comesAsk_103 : dec m_X9_comesAsk 103 = .ok (.getfield 32, 3) := by decide +kernel
theorem d_X9_comesAsk_106 : dec m_X9_comesAsk 106 = .ok (.iload 4, 2) := by decide +kernel
theorem d_X9_comesAsk_108 : dec m_X9_comesAsk 108 = .ok (.iload_n 1, 1) := by decide +kernel
theorem d_X9_comesAsk_109 : dec m_X9_comesAsk 109 = .ok (.iastore, 1) := by decide +kernel
theorem d_X9_comesAsk_110 : dec m_X9_comesAsk 110 = .ok (.aload_n 0, 1) := by decide +kernel
theorem d_X9_comesAsk_111 : dec m_X9_comesAsk 111 = .ok (.getfield 35, 3) := by decide +kernel
theorem d_X9_comesAsk_114 : dec m_X9_comesAsk 114 = .ok (.iload 4, 2) := by decide +kernel
theorem d_X9_comesAsk_116 : dec m_X9_comesAsk 116 = .ok (.iload_n 2, 1) := by decide +kernel
theorem d_X9_comesAsk_117 : dec m_X9_comesAsk 117 = .ok (.iastore, 1) := by decide +kernel
theorem d_X9_comesAsk_118 : dec m_X9_comesAsk 118 = .ok (.aload_n 0, 1) := by decide +kernel
theorem d_X9_comesAsk_119 : dec m_X9_comesAsk 119 = .ok (.dup, 1) := by decide +kernel
theorem d_X9_comesAsk_120 : dec m_X9_comesAsk 120 = .ok (.getfield 116, 3) := by decide +kernel
theorem d_X9_comesAsk_123 : dec m_X9_comesAsk 123 = .ok (.iconst 1, 1) := by decide +kernel
theorem d_X9_comesAsk_124 : dec m_X9_comesAsk 124 = .ok (.iadd, 1) := by decide +kernel
theorem d_X9_comesAsk_125 : dec m_X9_comesAsk 125 = .ok (.putfield 116, 3) := by decide +kernel
theorem d_X9_comesAsk_128 : dec m_X9_comesAsk 128 = .ok (.return_, 1) := by decide +kernel
theorem d_X9_laysOf_0 : dec m_X9_laysOf 0 = .ok (.aload_n 0, 1) := by decide +kernel
theorem d_X9_laysOf_1 : dec m_X9_laysOf 1 = .ok (.iconst 0, 1) := by decide +kernel
theorem d_X9_laysOf_2 : dec m_X9_laysOf 2 = .ok (.putfield 113, 3) := by decide +kernel
theorem d_X9_laysOf_5 : dec m_X9_laysOf 5 = .ok (.aload_n 0, 1) := by decide +kernel
theorem d_X9_laysOf_6 : dec m_X9_laysOf 6 = .ok (.iconst 0, 1) := by decide +kernel
theorem d_X9_laysOf_7 : dec m_X9_laysOf 7 = .ok (.putfield 116, 3) := by decide +kernel
theorem d_X9_laysOf_10 : dec m_X9_laysOf 10 = .ok (.iconst 0, 1) := by decide +kernel
theorem d_X9_laysOf_11 : dec m_X9_laysOf 11 = .ok (.istore_n 2, 1) := by decide +kernel
theorem d_X9_laysOf_12 : dec m_X9_laysOf 12 = .ok (.iload_n 2, 1) := by decide +kernel
theorem d_X9_laysOf_13 : dec m_X9_laysOf 13 = .ok (.aload_n 0, 1) := by decide +kernel
theorem d_X9_laysOf_14 : dec m_X9_laysOf 14 = .ok (.invokevirtual 78, 3) := by decide +kernel
theorem d_X9_laysOf_17 : dec m_X9_laysOf 17 = .ok (.if_icmp .ge 62, 3) := by decide +kernel
theorem d_X9_laysOf_20 : dec m_X9_laysOf 20 = .ok (.aload_n 0, 1) := by decide +kernel
theorem d_X9_laysOf_21 : dec m_X9_laysOf 21 = .ok (.iload_n 2, 1) := by decide +kernel
theorem d_X9_laysOf_22 : dec m_X9_laysOf 22 = .ok (.iload_n 1, 1) := by decide +kernel
theorem d_X9_laysOf_23 : dec m_X9_laysOf 23 = .ok (.invokevirtual 119, 3) := by decide +kernel
theorem d_X9_laysOf_26 : dec m_X9_laysOf 26 = .ok (.ifCond .ne 6, 3) := by decide +kernel
theorem d_X9_laysOf_29 : dec m_X9_laysOf 29 = .ok (.goto 44, 3) := by decide +kernel
theorem d_X9_laysOf_32 : dec m_X9_laysOf 32 = .ok (.iconst 0, 1) := by decide +kernel
theorem d_X9_laysOf_33 : dec m_X9_laysOf 33 = .ok (.istore_n 3, 1) := by decide +kernel
theorem d_X9_laysOf_34 : dec m_X9_laysOf 34 = .ok (.iload_n 3, 1) := by decide +kernel
theorem d_X9_laysOf_35 : dec m_X9_laysOf 35 = .ok (.aload_n 0, 1) := by decide +kernel
theorem d_X9_laysOf_36 : dec m_X9_laysOf 36 = .ok (.iload_n 2, 1) := by decide +kernel
theorem d_X9_laysOf_37 : dec m_X9_laysOf 37 = .ok (.iconst 2, 1) := by decide +kernel
theorem d_X9_laysOf_38 : dec m_X9_laysOf 38 = .ok (.invokevirtual 88, 3) := by decide +kernel
theorem d_X9_laysOf_41 : dec m_X9_laysOf 41 = .ok (.if_icmp .ge 32, 3) := by decide +kernel
theorem d_X9_laysOf_44 : dec m_X9_laysOf 44 = .ok (.aload_n 0, 1) := by decide +kernel
theorem d_X9_laysOf_45 : dec m_X9_laysOf 45 = .ok (.iload_n 2, 1) := by decide +kernel
theorem d_X9_laysOf_46 : dec m_X9_laysOf 46 = .ok (.invokevirtual 122, 3) := by decide +kernel
theorem d_X9_laysOf_49 : dec m_X9_laysOf 49 = .ok (.ifCond .eq 12, 3) := by decide +kernel
theorem d_X9_laysOf_52 : dec m_X9_laysOf 52 = .ok (.aload_n 0, 1) := by decide +kernel
theorem d_X9_laysOf_53 : dec m_X9_laysOf 53 = .ok (.iload_n 2, 1) := by decide +kernel
theorem d_X9_laysOf_54 : dec m_X9_laysOf 54 = .ok (.iload_n 3, 1) := by decide +kernel
theorem d_X9_laysOf_55 : dec m_X9_laysOf 55 = .ok (.invokevirtual 126, 3) := by decide +kernel
theorem d_X9_laysOf_58 : dec m_X9_laysOf 58 = .ok (.goto 9, 3) := by decide +kernel
theorem d_X9_laysOf_61 : dec m_X9_laysOf 61 = .ok (.aload_n 0, 1) := by decide +kernel
theorem d_X9_laysOf_62 : dec m_X9_laysOf 62 = .ok (.iload_n 2, 1) := by decide +kernel
theorem d_X9_laysOf_63 : dec m_X9_laysOf 63 = .ok (.iload_n 3, 1) := by decide +kernel
theorem d_X9_laysOf_64 : dec m_X9_laysOf 64 = .ok (.invokevirtual 130, 3) := by decide +kernel
theorem d_X9_laysOf_67 : dec m_X9_laysOf 67 = .ok (.iinc 3 1, 3) := by decide +kernel
theorem d_X9_laysOf_70 : dec m_X9_laysOf 70 = .ok (.goto (-36), 3) := by decide +kernel
theorem d_X9_laysOf_73 : dec m_X9_laysOf 73 = .ok (.iinc 2 1, 3) := by decide +kernel
theorem d_X9_laysOf_76 : dec m_X9_laysOf 76 = .ok (.goto (-64), 3) := by decide +kernel
theorem d_X9_laysOf_79 : dec m_X9_laysOf 79 = .ok (.aload_n 0, 1) := by decide +kernel
theorem d_X9_laysOf_80 : dec m_X9_laysOf 80 = .ok (.iconst 0, 1) := by decide +kernel
theorem d_X9_laysOf_81 : dec m_X9_laysOf 81 = .ok (.putfield 133, 3) := by decide +kernel
theorem d_X9_laysOf_84 : dec m_X9_laysOf 84 = .ok (.aload_n 0, 1) := by decide +kernel
theorem d_X9_laysOf_85 : dec m_X9_laysOf 85 = .ok (.iconst 0, 1) := by decide +kernel
theorem d_X9_laysOf_86 : dec m_X9_laysOf 86 = .ok (.putfield 136, 3) := by decide +kernel
theorem d_X9_laysOf_89 : dec m_X9_laysOf 89 = .ok (.aload_n 0, 1) := by decide +kernel
theorem d_X9_laysOf_90 : dec m_X9_laysOf 90 = .ok (.getfield 133, 3) := by decide +kernel
theorem d_X9_laysOf_93 : dec m_X9_laysOf 93 = .ok (.aload_n 0, 1) := by decide +kernel
theorem d_X9_laysOf_94 : dec m_X9_laysOf 94 = .ok (.getfield 113, 3) := by decide +kernel
theorem d_X9_laysOf_97 : dec m_X9_laysOf 97 = .ok (.if_icmp .ge 76, 3) := by decide +kernel
theorem d_X9_laysOf_100 : dec m_X9_laysOf 100 = .ok (.aload_n 0, 1) := by decide +kernel
theorem d_X9_laysOf_101 : dec m_X9_laysOf 101 = .ok (.getfield 133, 3) := by decide +kernel
theorem d_X9_laysOf_104 : dec m_X9_laysOf 104 = .ok (.aload_n 0, 1) := by decide +kernel
theorem d_X9_laysOf_105 : dec m_X9_laysOf 105 = .ok (.getfield 116, 3) := by decide +kernel
theorem d_X9_laysOf_108 : dec m_X9_laysOf 108 = .ok (.if_icmp .ge 65, 3) := by decide +kernel
theorem d_X9_laysOf_111 : dec m_X9_laysOf 111 = .ok (.aload_n 0, 1) := by decide +kernel
theorem d_X9_laysOf_112 : dec m_X9_laysOf 112 = .ok (.getfield 29, 3) := by decide +kernel
theorem d_X9_laysOf_115 : dec m_X9_laysOf 115 = .ok (.aload_n 0, 1) := by decide +kernel
theorem d_X9_laysOf_116 : dec m_X9_laysOf 116 = .ok (.getfield 133, 3) := by decide +kernel
theorem d_X9_laysOf_119 : dec m_X9_laysOf 119 = .ok (.iaload, 1) := by decide +kernel
theorem d_X9_laysOf_120 : dec m_X9_laysOf 120 = .ok (.aload_n 0, 1) := by decide +kernel
theorem d_X9_laysOf_121 : dec m_X9_laysOf 121 = .ok (.getfield 38, 3) := by decide +kernel
theorem d_X9_laysOf_124 : dec m_X9_laysOf 124 = .ok (.aload_n 0, 1) := by decide +kernel
theorem d_X9_laysOf_125 : dec m_X9_laysOf 125 = .ok (.getfield 133, 3) := by decide +kernel
theorem d_X9_laysOf_128 : dec m_X9_laysOf 128 = .ok (.iaload, 1) := by decide +kernel
theorem d_X9_laysOf_129 : dec m_X9_laysOf 129 = .ok (.if_icmp .lt 44, 3) := by decide +kernel
theorem d_X9_laysOf_132 : dec m_X9_laysOf 132 = .ok (.aload_n 0, 1) := by decide +kernel
theorem d_X9_laysOf_133 : dec m_X9_laysOf 133 = .ok (.dup, 1) := by decide +kernel
theorem d_X9_laysOf_134 : dec m_X9_laysOf 134 = .ok (.getfield 136, 3) := by decide +kernel
theorem d_X9_laysOf_137 : dec m_X9_laysOf 137 = .ok (.aload_n 0, 1) := by decide +kernel
theorem d_X9_laysOf_138 : dec m_X9_laysOf 138 = .ok (.getfield 29, 3) := by decide +kernel
theorem d_X9_laysOf_141 : dec m_X9_laysOf 141 = .ok (.aload_n 0, 1) := by decide +kernel
theorem d_X9_laysOf_142 : dec m_X9_laysOf 142 = .ok (.getfield 133, 3) := by decide +kernel
theorem d_X9_laysOf_145 : dec m_X9_laysOf 145 = .ok (.iaload, 1) := by decide +kernel
theorem d_X9_laysOf_146 : dec m_X9_laysOf 146 = .ok (.aload_n 0, 1) := by decide +kernel
theorem d_X9_laysOf_147 : dec m_X9_laysOf 147 = .ok (.getfield 38, 3) := by decide +kernel
theorem d_X9_laysOf_150 : dec m_X9_laysOf 150 = .ok (.aload_n 0, 1) := by decide +kernel
theorem d_X9_laysOf_151 : dec m_X9_laysOf 151 = .ok (.getfield 133, 3) := by decide +kernel
theorem d_X9_laysOf_154 : dec m_X9_laysOf 154 = .ok (.iaload, 1) := by decide +kernel
theorem d_X9_laysOf_155 : dec m_X9_laysOf 155 = .ok (.isub, 1) := by decide +kernel
theorem d_X9_laysOf_156 : dec m_X9_laysOf 156 = .ok (.iadd, 1) := by decide +kernel
theorem d_X9_laysOf_157 : dec m_X9_laysOf 157 = .ok (.putfield 136, 3) := by decide +kernel
theorem d_X9_laysOf_160 : dec m_X9_laysOf 160 = .ok (.aload_n 0, 1) := by decide +kernel
theorem d_X9_laysOf_161 : dec m_X9_laysOf 161 = .ok (.dup, 1) := by decide +kernel
theorem d_X9_laysOf_162 : dec m_X9_laysOf 162 = .ok (.getfield 133, 3) := by decide +kernel
theorem d_X9_laysOf_165 : dec m_X9_laysOf 165 = .ok (.iconst 1, 1) := by decide +kernel
theorem d_X9_laysOf_166 : dec m_X9_laysOf 166 = .ok (.iadd, 1) := by decide +kernel
theorem d_X9_laysOf_167 : dec m_X9_laysOf 167 = .ok (.putfield 133, 3) := by decide +kernel
theorem d_X9_laysOf_170 : dec m_X9_laysOf 170 = .ok (.goto (-81), 3) := by decide +kernel
theorem d_X9_laysOf_173 : dec m_X9_laysOf 173 = .ok (.return_, 1) := by decide +kernel
theorem d_X9_worthOf_0 : dec m_X9_worthOf 0 = .ok (.aload_n 0, 1) := by decide +kernel
theorem d_X9_worthOf_1 : dec m_X9_worthOf 1 = .ok (.iload_n 1, 1) := by decide +kernel
theorem d_X9_worthOf_2 : dec m_X9_worthOf 2 = .ok (.invokevirtual 139, 3) := by decide +kernel
theorem d_X9_worthOf_5 : dec m_X9_worthOf 5 = .ok (.aload_n 0, 1) := by decide +kernel
theorem d_X9_worthOf_6 : dec m_X9_worthOf 6 = .ok (.getfield 136, 3) := by decide +kernel
theorem d_X9_worthOf_9 : dec m_X9_worthOf 9 = .ok (.ireturn, 1) := by decide +kernel
theorem d_X9_worthWithout_0 : dec m_X9_worthWithout 0 = .ok (.aload_n 0, 1) := by decide +kernel
theorem d_X9_worthWithout_1 : dec m_X9_worthWithout 1 = .ok (.getfield 107, 3) := by decide +kernel
theorem d_X9_worthWithout_4 : dec m_X9_worthWithout 4 = .ok (.istore_n 3, 1) := by decide +kernel
theorem d_X9_worthWithout_5 : dec m_X9_worthWithout 5 = .ok (.aload_n 0, 1) := by decide +kernel
theorem d_X9_worthWithout_6 : dec m_X9_worthWithout 6 = .ok (.dup, 1) := by decide +kernel
theorem d_X9_worthWithout_7 : dec m_X9_worthWithout 7 = .ok (.getfield 107, 3) := by decide +kernel
theorem d_X9_worthWithout_10 : dec m_X9_worthWithout 10 = .ok (.iconst 1, 1) := by decide +kernel
theorem d_X9_worthWithout_11 : dec m_X9_worthWithout 11 = .ok (.iload_n 2, 1) := by decide +kernel
theorem d_X9_worthWithout_12 : dec m_X9_worthWithout 12 = .ok (.ishl, 1) := by decide +kernel
theorem d_X9_worthWithout_13 : dec m_X9_worthWithout 13 = .ok (.ior, 1) := by decide +kernel
theorem d_X9_worthWithout_14 : dec m_X9_worthWithout 14 = .ok (.putfield 107, 3) := by decide +kernel
theorem d_X9_worthWithout_17 : dec m_X9_worthWithout 17 = .ok (.aload_n 0, 1) := by decide +kernel
theorem d_X9_worthWithout_18 : dec m_X9_worthWithout 18 = .ok (.iconst 1, 1) := by decide +kernel
theorem d_X9_worthWithout_19 : dec m_X9_worthWithout 19 = .ok (.iload_n 1, 1) := by decide +kernel
theorem d_X9_worthWithout_20 : dec m_X9_worthWithout 20 = .ok (.ishl, 1) := by decide +kernel
theorem d_X9_worthWithout_21 : dec m_X9_worthWithout 21 = .ok (.invokevirtual 143, 3) := by decide +kernel
theorem d_X9_worthWithout_24 : dec m_X9_worthWithout 24 = .ok (.istore 4, 2) := by decide +kernel
theorem d_X9_worthWithout_26 : dec m_X9_worthWithout 26 = .ok (.aload_n 0, 1) := by decide +kernel
theorem d_X9_worthWithout_27 : dec m_X9_worthWithout 27 = .ok (.iload_n 3, 1) := by decide +kernel
theorem d_X9_worthWithout_28 : dec m_X9_worthWithout 28 = .ok (.putfield 107, 3) := by decide +kernel
theorem d_X9_worthWithout_31 : dec m_X9_worthWithout 31 = .ok (.iload 4, 2) := by decide +kernel
theorem d_X9_worthWithout_33 : dec m_X9_worthWithout 33 = .ok (.ireturn, 1) := by decide +kernel
theorem d_X9_halfDown_0 : dec m_X9_halfDown 0 = .ok (.iload_n 0, 1) := by decide +kernel
theorem d_X9_halfDown_1 : dec m_X9_halfDown 1 = .ok (.ifCond .lt 9, 3) := by decide +kernel
theorem d_X9_halfDown_4 : dec m_X9_halfDown 4 = .ok (.iload_n 0, 1) := by decide +kernel
theorem d_X9_halfDown_5 : dec m_X9_halfDown 5 = .ok (.iconst 2, 1) := by decide +kernel
theorem d_X9_halfDown_6 : dec m_X9_halfDown 6 = .ok (.idiv, 1) := by decide +kernel
theorem d_X9_halfDown_7 : dec m_X9_halfDown 7 = .ok (.goto 9, 3) := by decide +kernel
theorem d_X9_halfDown_10 : dec m_X9_halfDown 10 = .ok (.iconst 1, 1) := by decide +kernel
theorem d_X9_halfDown_11 : dec m_X9_halfDown 11 = .ok (.iload_n 0, 1) := by decide +kernel
theorem d_X9_halfDown_12 : dec m_X9_halfDown 12 = .ok (.isub, 1) := by decide +kernel
theorem d_X9_halfDown_13 : dec m_X9_halfDown 13 = .ok (.iconst 2, 1) := by decide +kernel
theorem d_X9_halfDown_14 : dec m_X9_halfDown 14 = .ok (.idiv, 1) := by decide +kernel
theorem d_X9_halfDown_15 : dec m_X9_halfDown 15 = .ok (.ineg, 1) := by decide +kernel
theorem d_X9_halfDown_16 : dec m_X9_halfDown 16 = .ok (.ireturn, 1) := by decide +kernel
theorem d_X9_all_0 : dec m_X9_all 0 = .ok (.aload_n 0, 1) := by decide +kernel
theorem d_X9_all_1 : dec m_X9_all 1 = .ok (.aload_n 0, 1) := by decide +kernel
theorem d_X9_all_2 : dec m_X9_all 2 = .ok (.getfield 133, 3) := by decide +kernel
theorem d_X9_all_5 : dec m_X9_all 5 = .ok (.putfield 146, 3) := by decide +kernel
theorem d_X9_all_8 : dec m_X9_all 8 = .ok (.aload_n 0, 1) := by decide +kernel
theorem d_X9_all_9 : dec m_X9_all 9 = .ok (.iload_n 1, 1) := by decide +kernel
theorem d_X9_all_10 : dec m_X9_all 10 = .ok (.putfield 149, 3) := by decide +kernel
theorem d_X9_all_13 : dec m_X9_all 13 = .ok (.aload_n 0, 1) := by decide +kernel
theorem d_X9_all_14 : dec m_X9_all 14 = .ok (.iload_n 1, 1) := by decide +kernel
theorem d_X9_all_15 : dec m_X9_all 15 = .ok (.aload_n 0, 1) := by decide +kernel
theorem d_X9_all_16 : dec m_X9_all 16 = .ok (.getfield 7, 3) := by decide +kernel
theorem d_X9_all_19 : dec m_X9_all 19 = .ok (.sipush 181, 3) := by decide +kernel
theorem d_X9_all_22 : dec m_X9_all 22 = .ok (.iaload, 1) := by decide +kernel
theorem d_X9_all_23 : dec m_X9_all 23 = .ok (.isub, 1) := by decide +kernel
theorem d_X9_all_24 : dec m_X9_all 24 = .ok (.putfield 152, 3) := by decide +kernel
theorem d_X9_all_27 : dec m_X9_all 27 = .ok (.return_, 1) := by decide +kernel
theorem d_X9_laysLess_0 : dec m_X9_laysLess 0 = .ok (.aload_n 0, 1) := by decide +kernel
theorem d_X9_laysLess_1 : dec m_X9_laysLess 1 = .ok (.aload_n 0, 1) := by decide +kernel
theorem d_X9_laysLess_2 : dec m_X9_laysLess 2 = .ok (.getfield 133, 3) := by decide +kernel
theorem d_X9_laysLess_5 : dec m_X9_laysLess 5 = .ok (.iconst 1, 1) := by decide +kernel
theorem d_X9_laysLess_6 : dec m_X9_laysLess 6 = .ok (.isub, 1) := by decide +kernel
theorem d_X9_laysLess_7 : dec m_X9_laysLess 7 = .ok (.putfield 146, 3) := by decide +kernel
theorem d_X9_laysLess_10 : dec m_X9_laysLess 10 = .ok (.aload_n 0, 1) := by decide +kernel
theorem d_X9_laysLess_11 : dec m_X9_laysLess 11 = .ok (.aload_n 0, 1) := by decide +kernel
theorem d_X9_laysLess_12 : dec m_X9_laysLess 12 = .ok (.getfield 29, 3) := by decide +kernel
theorem d_X9_laysLess_15 : dec m_X9_laysLess 15 = .ok (.aload_n 0, 1) := by decide +kernel
theorem d_X9_laysLess_16 : dec m_X9_laysLess 16 = .ok (.getfield 133, 3) := by decide +kernel
theorem d_X9_laysLess_19 : dec m_X9_laysLess 19 = .ok (.iconst 1, 1) := by decide +kernel
theorem d_X9_laysLess_20 : dec m_X9_laysLess 20 = .ok (.isub, 1) := by decide +kernel
theorem d_X9_laysLess_21 : dec m_X9_laysLess 21 = .ok (.iaload, 1) := by decide +kernel
theorem d_X9_laysLess_22 : dec m_X9_laysLess 22 = .ok (.putfield 149, 3) := by decide +kernel
theorem d_X9_laysLess_25 : dec m_X9_laysLess 25 = .ok (.aload_n 0, 1) := by decide +kernel
theorem d_X9_laysLess_26 : dec m_X9_laysLess 26 = .ok (.aload_n 0, 1) := by decide +kernel
theorem d_X9_laysLess_27 : dec m_X9_laysLess 27 = .ok (.getfield 38, 3) := by decide +kernel
theorem d_X9_laysLess_30 : dec m_X9_laysLess 30 = .ok (.aload_n 0, 1) := by decide +kernel
theorem d_X9_laysLess_31 : dec m_X9_laysLess 31 = .ok (.getfield 133, 3) := by decide +kernel
theorem d_X9_laysLess_34 : dec m_X9_laysLess 34 = .ok (.iconst 1, 1) := by decide +kernel
theorem d_X9_laysLess_35 : dec m_X9_laysLess 35 = .ok (.isub, 1) := by decide +kernel
theorem d_X9_laysLess_36 : dec m_X9_laysLess 36 = .ok (.iaload, 1) := by decide +kernel
theorem d_X9_laysLess_37 : dec m_X9_laysLess 37 = .ok (.aload_n 0, 1) := by decide +kernel
theorem d_X9_laysLess_38 : dec m_X9_laysLess 38 = .ok (.getfield 7, 3) := by decide +kernel
theorem d_X9_laysLess_41 : dec m_X9_laysLess 41 = .ok (.sipush 181, 3) := by decide +kernel
theorem d_X9_laysLess_44 : dec m_X9_laysLess 44 = .ok (.iaload, 1) := by decide +kernel
theorem d_X9_laysLess_45 : dec m_X9_laysLess 45 = .ok (.isub, 1) := by decide +kernel
theorem d_X9_laysLess_46 : dec m_X9_laysLess 46 = .ok (.putfield 152, 3) := by decide +kernel
theorem d_X9_laysLess_49 : dec m_X9_laysLess 49 = .ok (.return_, 1) := by decide +kernel
theorem d_X9_laysCut_0 : dec m_X9_laysCut 0 = .ok (.aload_n 0, 1) := by decide +kernel
theorem d_X9_laysCut_1 : dec m_X9_laysCut 1 = .ok (.getfield 113, 3) := by decide +kernel
theorem d_X9_laysCut_4 : dec m_X9_laysCut 4 = .ok (.aload_n 0, 1) := by decide +kernel
theorem d_X9_laysCut_5 : dec m_X9_laysCut 5 = .ok (.getfield 133, 3) := by decide +kernel
theorem d_X9_laysCut_8 : dec m_X9_laysCut 8 = .ok (.if_icmp .eq 14, 3) := by decide +kernel
theorem d_X9_laysCut_11 : dec m_X9_laysCut 11 = .ok (.aload_n 0, 1) := by decide +kernel
theorem d_X9_laysCut_12 : dec m_X9_laysCut 12 = .ok (.getfield 116, 3) := by decide +kernel
theorem d_X9_laysCut_15 : dec m_X9_laysCut 15 = .ok (.aload_n 0, 1) := by decide +kernel
theorem d_X9_laysCut_16 : dec m_X9_laysCut 16 = .ok (.getfield 133, 3) := by decide +kernel
theorem d_X9_laysCut_19 : dec m_X9_laysCut 19 = .ok (.if_icmp .ne 8, 3) := by decide +kernel
theorem d_X9_laysCut_22 : dec m_X9_laysCut 22 = .ok (.aload_n 0, 1) := by decide +kernel
theorem d_X9_laysCut_23 : dec m_X9_laysCut 23 = .ok (.invokevirtual 155, 3) := by decide +kernel
theorem d_X9_laysCut_26 : dec m_X9_laysCut 26 = .ok (.return_, 1) := by decide +kernel
theorem d_X9_laysCut_27 : dec m_X9_laysCut 27 = .ok (.aload_n 0, 1) := by decide +kernel
theorem d_X9_laysCut_28 : dec m_X9_laysCut 28 = .ok (.getfield 29, 3) := by decide +kernel
theorem d_X9_laysCut_31 : dec m_X9_laysCut 31 = .ok (.aload_n 0, 1) := by decide +kernel
theorem d_X9_laysCut_32 : dec m_X9_laysCut 32 = .ok (.getfield 133, 3) := by decide +kernel
theorem d_X9_laysCut_35 : dec m_X9_laysCut 35 = .ok (.iaload, 1) := by decide +kernel
theorem d_X9_laysCut_36 : dec m_X9_laysCut 36 = .ok (.aload_n 0, 1) := by decide +kernel
theorem d_X9_laysCut_37 : dec m_X9_laysCut 37 = .ok (.getfield 38, 3) := by decide +kernel
theorem d_X9_laysCut_40 : dec m_X9_laysCut 40 = .ok (.aload_n 0, 1) := by decide +kernel
theorem d_X9_laysCut_41 : dec m_X9_laysCut 41 = .ok (.getfield 133, 3) := by decide +kernel
theorem d_X9_laysCut_44 : dec m_X9_laysCut 44 = .ok (.iaload, 1) := by decide +kernel
theorem d_X9_laysCut_45 : dec m_X9_laysCut 45 = .ok (.iadd, 1) := by decide +kernel
theorem d_X9_laysCut_46 : dec m_X9_laysCut 46 = .ok (.invokestatic 158, 3) := by decide +kernel
theorem d_X9_laysCut_49 : dec m_X9_laysCut 49 = .ok (.istore_n 1, 1) := by decide +kernel
theorem d_X9_laysCut_50 : dec m_X9_laysCut 50 = .ok (.iload_n 1, 1) := by decide +kernel
theorem d_X9_laysCut_51 : dec m_X9_laysCut 51 = .ok (.aload_n 0, 1) := by decide +kernel
theorem d_X9_laysCut_52 : dec m_X9_laysCut 52 = .ok (.getfield 29, 3) := by decide +kernel
theorem d_X9_laysCut_55 : dec m_X9_laysCut 55 = .ok (.aload_n 0, 1) := by decide +kernel
theorem d_X9_laysCut_56 : dec m_X9_laysCut 56 = .ok (.getfield 133, 3) := by decide +kernel
theorem d_X9_laysCut_59 : dec m_X9_laysCut 59 = .ok (.iconst 1, 1) := by decide +kernel
theorem d_X9_laysCut_60 : dec m_X9_laysCut 60 = .ok (.isub, 1) := by decide +kernel
theorem d_X9_laysCut_61 : dec m_X9_laysCut 61 = .ok (.iaload, 1) := by decide +kernel
theorem d_X9_laysCut_62 : dec m_X9_laysCut 62 = .ok (.if_icmp .gt 26, 3) := by decide +kernel
theorem d_X9_laysCut_65 : dec m_X9_laysCut 65 = .ok (.iload_n 1, 1) := by decide +kernel
theorem d_X9_laysCut_66 : dec m_X9_laysCut 66 = .ok (.aload_n 0, 1) := by decide +kernel
theorem d_X9_laysCut_67 : dec m_X9_laysCut 67 = .ok (.getfield 38, 3) := by decide +kernel
theorem d_X9_laysCut_70 : dec m_X9_laysCut 70 = .ok (.aload_n 0, 1) := by decide +kernel
theorem d_X9_laysCut_71 : dec m_X9_laysCut 71 = .ok (.getfield 133, 3) := by decide +kernel
theorem d_X9_laysCut_74 : dec m_X9_laysCut 74 = .ok (.iconst 1, 1) := by decide +kernel
theorem d_X9_laysCut_75 : dec m_X9_laysCut 75 = .ok (.isub, 1) := by decide +kernel
theorem d_X9_laysCut_76 : dec m_X9_laysCut 76 = .ok (.iaload, 1) := by decide +kernel
theorem d_X9_laysCut_77 : dec m_X9_laysCut 77 = .ok (.if_icmp .lt 11, 3) := by decide +kernel
theorem d_X9_laysCut_80 : dec m_X9_laysCut 80 = .ok (.aload_n 0, 1) := by decide +kernel
theorem d_X9_laysCut_81 : dec m_X9_laysCut 81 = .ok (.iload_n 1, 1) := by decide +kernel
theorem d_X9_laysCut_82 : dec m_X9_laysCut 82 = .ok (.invokevirtual 161, 3) := by decide +kernel
theorem d_X9_laysCut_85 : dec m_X9_laysCut 85 = .ok (.goto 7, 3) := by decide +kernel
theorem d_X9_laysCut_88 : dec m_X9_laysCut 88 = .ok (.aload_n 0, 1) := by decide +kernel
theorem d_X9_laysCut_89 : dec m_X9_laysCut 89 = .ok (.invokevirtual 155, 3) := by decide +kernel
theorem d_X9_laysCut_92 : dec m_X9_laysCut 92 = .ok (.return_, 1) := by decide +kernel
theorem d_X9_laysBy_0 : dec m_X9_laysBy 0 = .ok (.aload_n 0, 1) := by decide +kernel
theorem d_X9_laysBy_1 : dec m_X9_laysBy 1 = .ok (.iconst 0, 1) := by decide +kernel
theorem d_X9_laysBy_2 : dec m_X9_laysBy 2 = .ok (.putfield 146, 3) := by decide +kernel
theorem d_X9_laysBy_5 : dec m_X9_laysBy 5 = .ok (.aload_n 0, 1) := by decide +kernel
theorem d_X9_laysBy_6 : dec m_X9_laysBy 6 = .ok (.iconst 0, 1) := by decide +kernel
theorem d_X9_laysBy_7 : dec m_X9_laysBy 7 = .ok (.putfield 149, 3) := by decide +kernel
theorem d_X9_laysBy_10 : dec m_X9_laysBy 10 = .ok (.aload_n 0, 1) := by decide +kernel
theorem d_X9_laysBy_11 : dec m_X9_laysBy 11 = .ok (.iconst 0, 1) := by decide +kernel
theorem d_X9_laysBy_12 : dec m_X9_laysBy 12 = .ok (.putfield 152, 3) := by decide +kernel
theorem d_X9_laysBy_15 : dec m_X9_laysBy 15 = .ok (.aload_n 0, 1) := by decide +kernel
theorem d_X9_laysBy_16 : dec m_X9_laysBy 16 = .ok (.getfield 133, 3) := by decide +kernel
theorem d_X9_laysBy_19 : dec m_X9_laysBy 19 = .ok (.ifCond .ne 4, 3) := by decide +kernel
theorem d_X9_laysBy_22 : dec m_X9_laysBy 22 = .ok (.return_, 1) := by decide +kernel
theorem d_X9_laysBy_23 : dec m_X9_laysBy 23 = .ok (.iload_n 1, 1) := by decide +kernel
theorem d_X9_laysBy_24 : dec m_X9_laysBy 24 = .ok (.ifCond .ne 10, 3) := by decide +kernel
theorem d_X9_laysBy_27 : dec m_X9_laysBy 27 = .ok (.aload_n 0, 1) := by decide +kernel
theorem d_X9_laysBy_28 : dec m_X9_laysBy 28 = .ok (.invokevirtual 164, 3) := by decide +kernel
theorem d_X9_laysBy_31 : dec m_X9_laysBy 31 = .ok (.goto 45, 3) := by decide +kernel
theorem d_X9_laysBy_34 : dec m_X9_laysBy 34 = .ok (.iload_n 1, 1) := by decide +kernel
theorem d_X9_laysBy_35 : dec m_X9_laysBy 35 = .ok (.iconst 2, 1) := by decide +kernel
theorem d_X9_laysBy_36 : dec m_X9_laysBy 36 = .ok (.if_icmp .ne 10, 3) := by decide +kernel
theorem d_X9_laysBy_39 : dec m_X9_laysBy 39 = .ok (.aload_n 0, 1) := by decide +kernel
theorem d_X9_laysBy_40 : dec m_X9_laysBy 40 = .ok (.invokevirtual 155, 3) := by decide +kernel
theorem d_X9_laysBy_43 : dec m_X9_laysBy 43 = .ok (.goto 33, 3) := by decide +kernel
theorem d_X9_laysBy_46 : dec m_X9_laysBy 46 = .ok (.aload_n 0, 1) := by decide +kernel
theorem d_X9_laysBy_47 : dec m_X9_laysBy 47 = .ok (.aload_n 0, 1) := by decide +kernel
theorem d_X9_laysBy_48 : dec m_X9_laysBy 48 = .ok (.getfield 29, 3) := by decide +kernel
theorem d_X9_laysBy_51 : dec m_X9_laysBy 51 = .ok (.aload_n 0, 1) := by decide +kernel
theorem d_X9_laysBy_52 : dec m_X9_laysBy 52 = .ok (.getfield 133, 3) := by decide +kernel
theorem d_X9_laysBy_55 : dec m_X9_laysBy 55 = .ok (.iconst 1, 1) := by decide +kernel
theorem d_X9_laysBy_56 : dec m_X9_laysBy 56 = .ok (.isub, 1) := by decide +kernel
theorem d_X9_laysBy_57 : dec m_X9_laysBy 57 = .ok (.iaload, 1) := by decide +kernel
theorem d_X9_laysBy_58 : dec m_X9_laysBy 58 = .ok (.aload_n 0, 1) := by decide +kernel
theorem d_X9_laysBy_59 : dec m_X9_laysBy 59 = .ok (.getfield 38, 3) := by decide +kernel
theorem d_X9_laysBy_62 : dec m_X9_laysBy 62 = .ok (.aload_n 0, 1) := by decide +kernel
theorem d_X9_laysBy_63 : dec m_X9_laysBy 63 = .ok (.getfield 133, 3) := by decide +kernel
theorem d_X9_laysBy_66 : dec m_X9_laysBy 66 = .ok (.iconst 1, 1) := by decide +kernel
theorem d_X9_laysBy_67 : dec m_X9_laysBy 67 = .ok (.isub, 1) := by decide +kernel
theorem d_X9_laysBy_68 : dec m_X9_laysBy 68 = .ok (.iaload, 1) := by decide +kernel
theorem d_X9_laysBy_69 : dec m_X9_laysBy 69 = .ok (.iadd, 1) := by decide +kernel
theorem d_X9_laysBy_70 : dec m_X9_laysBy 70 = .ok (.invokestatic 158, 3) := by decide +kernel
theorem d_X9_laysBy_73 : dec m_X9_laysBy 73 = .ok (.invokevirtual 161, 3) := by decide +kernel
theorem d_X9_laysBy_76 : dec m_X9_laysBy 76 = .ok (.return_, 1) := by decide +kernel
theorem d_X9_lays_0 : dec m_X9_lays 0 = .ok (.aload_n 0, 1) := by decide +kernel
theorem d_X9_lays_1 : dec m_X9_lays 1 = .ok (.iconst 1, 1) := by decide +kernel
theorem d_X9_lays_2 : dec m_X9_lays 2 = .ok (.iload_n 1, 1) := by decide +kernel
theorem d_X9_lays_3 : dec m_X9_lays 3 = .ok (.ishl, 1) := by decide +kernel
theorem d_X9_lays_4 : dec m_X9_lays 4 = .ok (.invokevirtual 139, 3) := by decide +kernel
theorem d_X9_lays_7 : dec m_X9_lays 7 = .ok (.aload_n 0, 1) := by decide +kernel
theorem d_X9_lays_8 : dec m_X9_lays 8 = .ok (.aload_n 0, 1) := by decide +kernel
theorem d_X9_lays_9 : dec m_X9_lays 9 = .ok (.getfield 7, 3) := by decide +kernel
theorem d_X9_lays_12 : dec m_X9_lays 12 = .ok (.sipush 182, 3) := by decide +kernel
theorem d_X9_lays_15 : dec m_X9_lays 15 = .ok (.iaload, 1) := by decide +kernel
theorem d_X9_lays_16 : dec m_X9_lays 16 = .ok (.invokevirtual 167, 3) := by decide +kernel
theorem d_X9_lays_19 : dec m_X9_lays 19 = .ok (.return_, 1) := by decide +kernel
theorem d_X9_doneOf_0 : dec m_X9_doneOf 0 = .ok (.iconst 0, 1) := by decide +kernel
theorem d_X9_doneOf_1 : dec m_X9_doneOf 1 = .ok (.istore_n 2, 1) := by decide +kernel
theorem d_X9_doneOf_2 : dec m_X9_doneOf 2 = .ok (.iconst 0, 1) := by decide +kernel
theorem d_X9_doneOf_3 : dec m_X9_doneOf 3 = .ok (.istore_n 3, 1) := by decide +kernel
theorem d_X9_doneOf_4 : dec m_X9_doneOf 4 = .ok (.iload_n 3, 1) := by decide +kernel
theorem d_X9_doneOf_5 : dec m_X9_doneOf 5 = .ok (.aload_n 0, 1) := by decide +kernel
theorem d_X9_doneOf_6 : dec m_X9_doneOf 6 = .ok (.getfield 146, 3) := by decide +kernel
theorem d_X9_doneOf_9 : dec m_X9_doneOf 9 = .ok (.if_icmp .ge 37, 3) := by decide +kernel
theorem d_X9_doneOf_12 : dec m_X9_doneOf 12 = .ok (.iload_n 2, 1) := by decide +kernel
theorem d_X9_doneOf_13 : dec m_X9_doneOf 13 = .ok (.aload_n 0, 1) := by decide +kernel
theorem d_X9_doneOf_14 : dec m_X9_doneOf 14 = .ok (.getfield 23, 3) := by decide +kernel
theorem d_X9_doneOf_17 : dec m_X9_doneOf 17 = .ok (.iload_n 3, 1) := by decide +kernel
theorem d_X9_doneOf_18 : dec m_X9_doneOf 18 = .ok (.iaload, 1) := by decide +kernel
theorem d_X9_doneOf_19 : dec m_X9_doneOf 19 = .ok (.iload_n 1, 1) := by decide +kernel
theorem d_X9_doneOf_20 : dec m_X9_doneOf 20 = .ok (.if_icmp .eq 13, 3) := by decide +kernel
theorem d_X9_doneOf_23 : dec m_X9_doneOf 23 = .ok (.aload_n 0, 1) := by decide +kernel
theorem d_X9_doneOf_24 : dec m_X9_doneOf 24 = .ok (.getfield 32, 3) := by decide +kernel
theorem d_X9_doneOf_27 : dec m_X9_doneOf 27 = .ok (.iload_n 3, 1) := by decide +kernel
theorem d_X9_doneOf_28 : dec m_X9_doneOf 28 = .ok (.iaload, 1) := by decide +kernel
theorem d_X9_doneOf_29 : dec m_X9_doneOf 29 = .ok (.iload_n 1, 1) := by decide +kernel
theorem d_X9_doneOf_30 : dec m_X9_doneOf 30 = .ok (.if_icmp .ne 7, 3) := by decide +kernel
theorem d_X9_doneOf_33 : dec m_X9_doneOf 33 = .ok (.iconst 1, 1) := by decide +kernel
theorem d_X9_doneOf_34 : dec m_X9_doneOf 34 = .ok (.goto 4, 3) := by decide +kernel
theorem d_X9_doneOf_37 : dec m_X9_doneOf 37 = .ok (.iconst 0, 1) := by decide +kernel
theorem d_X9_doneOf_38 : dec m_X9_doneOf 38 = .ok (.iadd, 1) := by decide +kernel
theorem d_X9_doneOf_39 : dec m_X9_doneOf 39 = .ok (.istore_n 2, 1) := by decide +kernel
theorem d_X9_doneOf_40 : dec m_X9_doneOf 40 = .ok (.iinc 3 1, 3) := by decide +kernel
theorem d_X9_doneOf_43 : dec m_X9_doneOf 43 = .ok (.goto (-39), 3) := by decide +kernel
theorem d_X9_doneOf_46 : dec m_X9_doneOf 46 = .ok (.iload_n 2, 1) := by decide +kernel
theorem d_X9_doneOf_47 : dec m_X9_doneOf 47 = .ok (.ireturn, 1) := by decide +kernel
theorem d_X9_sumOf_0 : dec m_X9_sumOf 0 = .ok (.iconst 0, 1) := by decide +kernel
theorem d_X9_sumOf_1 : dec m_X9_sumOf 1 = .ok (.istore 4, 2) := by decide +kernel
theorem d_X9_sumOf_3 : dec m_X9_sumOf 3 = .ok (.iconst 0, 1) := by decide +kernel
theorem d_X9_sumOf_4 : dec m_X9_sumOf 4 = .ok (.istore 5, 2) := by decide +kernel
theorem d_X9_sumOf_6 : dec m_X9_sumOf 6 = .ok (.iload 5, 2) := by decide +kernel
theorem d_X9_sumOf_8 : dec m_X9_sumOf 8 = .ok (.iload_n 2, 1) := by decide +kernel
theorem d_X9_sumOf_9 : dec m_X9_sumOf 9 = .ok (.if_icmp .ge 37, 3) := by decide +kernel
theorem d_X9_sumOf_12 : dec m_X9_sumOf 12 = .ok (.iload 4, 2) := by decide +kernel
theorem d_X9_sumOf_14 : dec m_X9_sumOf 14 = .ok (.iload_n 3, 1) := by decide +kernel
theorem d_X9_sumOf_15 : dec m_X9_sumOf 15 = .ok (.ifCond .eq 15, 3) := by decide +kernel
theorem d_X9_sumOf_18 : dec m_X9_sumOf 18 = .ok (.aload_n 0, 1) := by decide +kernel
theorem d_X9_sumOf_19 : dec m_X9_sumOf 19 = .ok (.iload_n 1, 1) := by decide +kernel
theorem d_X9_sumOf_20 : dec m_X9_sumOf 20 = .ok (.iconst 3, 1) := by decide +kernel
theorem d_X9_sumOf_21 : dec m_X9_sumOf 21 = .ok (.iload 5, 2) := by decide +kernel
theorem d_X9_sumOf_23 : dec m_X9_sumOf 23 = .ok (.iadd, 1) := by decide +kernel
theorem d_X9_sumOf_24 : dec m_X9_sumOf 24 = .ok (.invokevirtual 88, 3) := by decide +kernel
theorem d_X9_sumOf_27 : dec m_X9_sumOf 27 = .ok (.goto 10, 3) := by decide +kernel
theorem d_X9_sumOf_30 : dec m_X9_sumOf 30 = .ok (.aload_n 0, 1) := by decide +kernel
theorem d_X9_sumOf_31 : dec m_X9_sumOf 31 = .ok (.iload_n 1, 1) := by decide +kernel
theorem d_X9_sumOf_32 : dec m_X9_sumOf 32 = .ok (.iload 5, 2) := by decide +kernel
theorem d_X9_sumOf_34 : dec m_X9_sumOf 34 = .ok (.invokevirtual 110, 3) := by decide +kernel
theorem d_X9_sumOf_37 : dec m_X9_sumOf 37 = .ok (.iadd, 1) := by decide +kernel
theorem d_X9_sumOf_38 : dec m_X9_sumOf 38 = .ok (.istore 4, 2) := by decide +kernel
theorem d_X9_sumOf_40 : dec m_X9_sumOf 40 = .ok (.iinc 5 1, 3) := by decide +kernel
theorem d_X9_sumOf_43 : dec m_X9_sumOf 43 = .ok (.goto (-37), 3) := by decide +kernel
theorem d_X9_sumOf_46 : dec m_X9_sumOf 46 = .ok (.iload 4, 2) := by decide +kernel
theorem d_X9_sumOf_48 : dec m_X9_sumOf 48 = .ok (.ireturn, 1) := by decide +kernel
theorem d_X9_dealOf_0 : dec m_X9_dealOf 0 = .ok (.aload_n 0, 1) := by decide +kernel
theorem d_X9_dealOf_1 : dec m_X9_dealOf 1 = .ok (.iload_n 1, 1) := by decide +kernel
theorem d_X9_dealOf_2 : dec m_X9_dealOf 2 = .ok (.invokevirtual 170, 3) := by decide +kernel
theorem d_X9_dealOf_5 : dec m_X9_dealOf 5 = .ok (.istore_n 3, 1) := by decide +kernel
theorem d_X9_dealOf_6 : dec m_X9_dealOf 6 = .ok (.iload_n 2, 1) := by decide +kernel
theorem d_X9_dealOf_7 : dec m_X9_dealOf 7 = .ok (.iconst 3, 1) := by decide +kernel
theorem d_X9_dealOf_8 : dec m_X9_dealOf 8 = .ok (.if_icmp .eq 25, 3) := by decide +kernel
theorem d_X9_dealOf_11 : dec m_X9_dealOf 11 = .ok (.iload_n 3, 1) := by decide +kernel
theorem d_X9_dealOf_12 : dec m_X9_dealOf 12 = .ok (.aload_n 0, 1) := by decide +kernel
theorem d_X9_dealOf_13 : dec m_X9_dealOf 13 = .ok (.iload_n 1, 1) := by decide +kernel
theorem d_X9_dealOf_14 : dec m_X9_dealOf 14 = .ok (.invokevirtual 122, 3) := by decide +kernel
theorem d_X9_dealOf_17 : dec m_X9_dealOf 17 = .ok (.ifCond .eq 10, 3) := by decide +kernel
theorem d_X9_dealOf_20 : dec m_X9_dealOf 20 = .ok (.aload_n 0, 1) := by decide +kernel
theorem d_X9_dealOf_21 : dec m_X9_dealOf 21 = .ok (.getfield 152, 3) := by decide +kernel
theorem d_X9_dealOf_24 : dec m_X9_dealOf 24 = .ok (.goto 7, 3) := by decide +kernel
theorem d_X9_dealOf_27 : dec m_X9_dealOf 27 = .ok (.aload_n 0, 1) := by decide +kernel
theorem d_X9_dealOf_28 : dec m_X9_dealOf 28 = .ok (.getfield 149, 3) := by decide +kernel
theorem d_X9_dealOf_31 : dec m_X9_dealOf 31 = .ok (.imul, 1) := by decide +kernel
theorem d_X9_dealOf_32 : dec m_X9_dealOf 32 = .ok (.ireturn, 1) := by decide +kernel
theorem d_X9_dealOf_33 : dec m_X9_dealOf 33 = .ok (.aload_n 0, 1) := by decide +kernel
theorem d_X9_dealOf_34 : dec m_X9_dealOf 34 = .ok (.iload_n 1, 1) := by decide +kernel
theorem d_X9_dealOf_35 : dec m_X9_dealOf 35 = .ok (.iconst 1, 1) := by decide +kernel
theorem d_X9_dealOf_36 : dec m_X9_dealOf 36 = .ok (.invokevirtual 88, 3) := by decide +kernel
theorem d_X9_dealOf_39 : dec m_X9_dealOf 39 = .ok (.istore 4, 2) := by decide +kernel
theorem d_X9_dealOf_41 : dec m_X9_dealOf 41 = .ok (.aload_n 0, 1) := by decide +kernel
theorem d_X9_dealOf_42 : dec m_X9_dealOf 42 = .ok (.iconst 1, 1) := by decide +kernel
theorem d_X9_dealOf_43 : dec m_X9_dealOf 43 = .ok (.iload 4, 2) := by decide +kernel
theorem d_X9_dealOf_45 : dec m_X9_dealOf 45 = .ok (.ishl, 1) := by decide +kernel
theorem d_X9_dealOf_46 : dec m_X9_dealOf 46 = .ok (.invokevirtual 143, 3) := by decide +kernel
theorem d_X9_dealOf_49 : dec m_X9_dealOf 49 = .ok (.istore 5, 2) := by decide +kernel
theorem d_X9_dealOf_51 : dec m_X9_dealOf 51 = .ok (.aload_n 0, 1) := by decide +kernel
theorem d_X9_dealOf_52 : dec m_X9_dealOf 52 = .ok (.iload 4, 2) := by decide +kernel
theorem d_X9_dealOf_54 : dec m_X9_dealOf 54 = .ok (.iload_n 1, 1) := by decide +kernel
theorem d_X9_dealOf_55 : dec m_X9_dealOf 55 = .ok (.invokevirtual 173, 3) := by decide +kernel
theorem d_X9_dealOf_58 : dec m_X9_dealOf 58 = .ok (.istore 6, 2) := by decide +kernel
theorem d_X9_dealOf_60 : dec m_X9_dealOf 60 = .ok (.aload_n 0, 1) := by decide +kernel
theorem d_X9_dealOf_61 : dec m_X9_dealOf 61 = .ok (.iload_n 1, 1) := by decide +kernel
theorem d_X9_dealOf_62 : dec m_X9_dealOf 62 = .ok (.iload_n 3, 1) := by decide +kernel
theorem d_X9_dealOf_63 : dec m_X9_dealOf 63 = .ok (.iconst 0, 1) := by decide +kernel
theorem d_X9_dealOf_64 : dec m_X9_dealOf 64 = .ok (.invokevirtual 176, 3) := by decide +kernel
theorem d_X9_dealOf_67 : dec m_X9_dealOf 67 = .ok (.istore 7, 2) := by decide +kernel
theorem d_X9_dealOf_69 : dec m_X9_dealOf 69 = .ok (.aload_n 0, 1) := by decide +kernel
theorem d_X9_dealOf_70 : dec m_X9_dealOf 70 = .ok (.iconst 1, 1) := by decide +kernel
theorem d_X9_dealOf_71 : dec m_X9_dealOf 71 = .ok (.iload 4, 2) := by decide +kernel
theorem d_X9_dealOf_73 : dec m_X9_dealOf 73 = .ok (.ishl, 1) := by decide +kernel
theorem d_X9_dealOf_74 : dec m_X9_dealOf 74 = .ok (.invokevirtual 139, 3) := by decide +kernel
theorem d_X9_dealOf_77 : dec m_X9_dealOf 77 = .ok (.aload_n 0, 1) := by decide +kernel
theorem d_X9_dealOf_78 : dec m_X9_dealOf 78 = .ok (.iload_n 1, 1) := by decide +kernel
theorem d_X9_dealOf_79 : dec m_X9_dealOf 79 = .ok (.invokevirtual 122, 3) := by decide +kernel
theorem d_X9_dealOf_82 : dec m_X9_dealOf 82 = .ok (.ifCond .eq 14, 3) := by decide +kernel
theorem d_X9_dealOf_85 : dec m_X9_dealOf 85 = .ok (.iload 5, 2) := by decide +kernel
theorem d_X9_dealOf_87 : dec m_X9_dealOf 87 = .ok (.iload 7, 2) := by decide +kernel
theorem d_X9_dealOf_89 : dec m_X9_dealOf 89 = .ok (.iadd, 1) := by decide +kernel
theorem d_X9_dealOf_90 : dec m_X9_dealOf 90 = .ok (.iload 6, 2) := by decide +kernel
theorem d_X9_dealOf_92 : dec m_X9_dealOf 92 = .ok (.isub, 1) := by decide +kernel
theorem d_X9_dealOf_93 : dec m_X9_dealOf 93 = .ok (.goto 11, 3) := by decide +kernel
theorem d_X9_dealOf_96 : dec m_X9_dealOf 96 = .ok (.iload 6, 2) := by decide +kernel
theorem d_X9_dealOf_98 : dec m_X9_dealOf 98 = .ok (.iload 5, 2) := by decide +kernel
theorem d_X9_dealOf_100 : dec m_X9_dealOf 100 = .ok (.isub, 1) := by decide +kernel
theorem d_X9_dealOf_101 : dec m_X9_dealOf 101 = .ok (.iload 7, 2) := by decide +kernel
theorem d_X9_dealOf_103 : dec m_X9_dealOf 103 = .ok (.iadd, 1) := by decide +kernel
theorem d_X9_dealOf_104 : dec m_X9_dealOf 104 = .ok (.ireturn, 1) := by decide +kernel
theorem d_X9_gainOf_0 : dec m_X9_gainOf 0 = .ok (.aload_n 0, 1) := by decide +kernel
theorem d_X9_gainOf_1 : dec m_X9_gainOf 1 = .ok (.aload_n 0, 1) := by decide +kernel
theorem d_X9_gainOf_2 : dec m_X9_gainOf 2 = .ok (.iload_n 1, 1) := by decide +kernel
theorem d_X9_gainOf_3 : dec m_X9_gainOf 3 = .ok (.iconst 1, 1) := by decide +kernel
theorem d_X9_gainOf_4 : dec m_X9_gainOf 4 = .ok (.invokevirtual 88, 3) := by decide +kernel
theorem d_X9_gainOf_7 : dec m_X9_gainOf 7 = .ok (.invokevirtual 180, 3) := by decide +kernel
theorem d_X9_gainOf_10 : dec m_X9_gainOf 10 = .ok (.aload_n 0, 1) := by decide +kernel
theorem d_X9_gainOf_11 : dec m_X9_gainOf 11 = .ok (.iload_n 1, 1) := by decide +kernel
theorem d_X9_gainOf_12 : dec m_X9_gainOf 12 = .ok (.invokevirtual 170, 3) := by decide +kernel
theorem d_X9_gainOf_15 : dec m_X9_gainOf 15 = .ok (.istore_n 2, 1) := by decide +kernel
theorem d_X9_gainOf_16 : dec m_X9_gainOf 16 = .ok (.aload_n 0, 1) := by decide +kernel
theorem d_X9_gainOf_17 : dec m_X9_gainOf 17 = .ok (.iload_n 1, 1) := by decide +kernel
theorem d_X9_gainOf_18 : dec m_X9_gainOf 18 = .ok (.iload_n 2, 1) := by decide +kernel
theorem d_X9_gainOf_19 : dec m_X9_gainOf 19 = .ok (.iconst 1, 1) := by decide +kernel
theorem d_X9_gainOf_20 : dec m_X9_gainOf 20 = .ok (.invokevirtual 176, 3) := by decide +kernel
theorem d_X9_gainOf_23 : dec m_X9_gainOf 23 = .ok (.istore_n 3, 1) := by decide +kernel
theorem d_X9_gainOf_24 : dec m_X9_gainOf 24 = .ok (.aload_n 0, 1) := by decide +kernel
theorem d_X9_gainOf_25 : dec m_X9_gainOf 25 = .ok (.iload_n 1, 1) := by decide +kernel
theorem d_X9_gainOf_26 : dec m_X9_gainOf 26 = .ok (.aload_n 0, 1) := by decide +kernel
theorem d_X9_gainOf_27 : dec m_X9_gainOf 27 = .ok (.getfield 7, 3) := by decide +kernel
theorem d_X9_gainOf_30 : dec m_X9_gainOf 30 = .ok (.sipush 182, 3) := by decide +kernel
theorem d_X9_gainOf_33 : dec m_X9_gainOf 33 = .ok (.iaload, 1) := by decide +kernel
theorem d_X9_gainOf_34 : dec m_X9_gainOf 34 = .ok (.invokevirtual 183, 3) := by decide +kernel
theorem d_X9_gainOf_37 : dec m_X9_gainOf 37 = .ok (.istore 4, 2) := by decide +kernel
theorem d_X9_gainOf_39 : dec m_X9_gainOf 39 = .ok (.aload_n 0, 1) := by decide +kernel
theorem d_X9_gainOf_40 : dec m_X9_gainOf 40 = .ok (.iload_n 1, 1) := by decide +kernel
theorem d_X9_gainOf_41 : dec m_X9_gainOf 41 = .ok (.invokevirtual 122, 3) := by decide +kernel
theorem d_X9_gainOf_44 : dec m_X9_gainOf 44 = .ok (.ifCond .eq 10, 3) := by decide +kernel
theorem d_X9_gainOf_47 : dec m_X9_gainOf 47 = .ok (.iload 4, 2) := by decide +kernel
theorem d_X9_gainOf_49 : dec m_X9_gainOf 49 = .ok (.iload_n 3, 1) := by decide +kernel
theorem d_X9_gainOf_50 : dec m_X9_gainOf 50 = .ok (.isub, 1) := by decide +kernel
theorem d_X9_gainOf_51 : dec m_X9_gainOf 51 = .ok (.goto 7, 3) := by decide +kernel
theorem d_X9_gainOf_54 : dec m_X9_gainOf 54 = .ok (.iload_n 3, 1) := by decide +kernel
theorem d_X9_gainOf_55 : dec m_X9_gainOf 55 = .ok (.iload 4, 2) := by decide +kernel
theorem d_X9_gainOf_57 : dec m_X9_gainOf 57 = .ok (.isub, 1) := by decide +kernel
theorem d_X9_gainOf_58 : dec m_X9_gainOf 58 = .ok (.ireturn, 1) := by decide +kernel
theorem d_X9_takingsBy_0 : dec m_X9_takingsBy 0 = .ok (.iload_n 2, 1) := by decide +kernel
theorem d_X9_takingsBy_1 : dec m_X9_takingsBy 1 = .ok (.iconst 3, 1) := by decide +kernel
theorem d_X9_takingsBy_2 : dec m_X9_takingsBy 2 = .ok (.if_icmp .eq 18, 3) := by decide +kernel
theorem d_X9_takingsBy_5 : dec m_X9_takingsBy 5 = .ok (.aload_n 0, 1) := by decide +kernel
theorem d_X9_takingsBy_6 : dec m_X9_takingsBy 6 = .ok (.getfield 146, 3) := by decide +kernel
theorem d_X9_takingsBy_9 : dec m_X9_takingsBy 9 = .ok (.aload_n 0, 1) := by decide +kernel
theorem d_X9_takingsBy_10 : dec m_X9_takingsBy 10 = .ok (.getfield 149, 3) := by decide +kernel
theorem d_X9_takingsBy_13 : dec m_X9_takingsBy 13 = .ok (.aload_n 0, 1) := by decide +kernel
theorem d_X9_takingsBy_14 : dec m_X9_takingsBy 14 = .ok (.getfield 152, 3) := by decide +kernel
theorem d_X9_takingsBy_17 : dec m_X9_takingsBy 17 = .ok (.isub, 1) := by decide +kernel
theorem d_X9_takingsBy_18 : dec m_X9_takingsBy 18 = .ok (.imul, 1) := by decide +kernel
theorem d_X9_takingsBy_19 : dec m_X9_takingsBy 19 = .ok (.ireturn, 1) := by decide +kernel
theorem d_X9_takingsBy_20 : dec m_X9_takingsBy 20 = .ok (.iconst 0, 1) := by decide +kernel
theorem d_X9_takingsBy_21 : dec m_X9_takingsBy 21 = .ok (.istore_n 3, 1) := by decide +kernel
theorem d_X9_takingsBy_22 : dec m_X9_takingsBy 22 = .ok (.iconst 0, 1) := by decide +kernel
theorem d_X9_takingsBy_23 : dec m_X9_takingsBy 23 = .ok (.istore 4, 2) := by decide +kernel
theorem d_X9_takingsBy_25 : dec m_X9_takingsBy 25 = .ok (.iload 4, 2) := by decide +kernel
theorem d_X9_takingsBy_27 : dec m_X9_takingsBy 27 = .ok (.aload_n 0, 1) := by decide +kernel
theorem d_X9_takingsBy_28 : dec m_X9_takingsBy 28 = .ok (.invokevirtual 78, 3) := by decide +kernel
theorem d_X9_takingsBy_31 : dec m_X9_takingsBy 31 = .ok (.if_icmp .ge 62, 3) := by decide +kernel
theorem d_X9_takingsBy_34 : dec m_X9_takingsBy 34 = .ok (.aload_n 0, 1) := by decide +kernel
theorem d_X9_takingsBy_35 : dec m_X9_takingsBy 35 = .ok (.iload 4, 2) := by decide +kernel
theorem d_X9_takingsBy_37 : dec m_X9_takingsBy 37 = .ok (.iconst 1, 1) := by decide +kernel
theorem d_X9_takingsBy_38 : dec m_X9_takingsBy 38 = .ok (.invokevirtual 88, 3) := by decide +kernel
theorem d_X9_takingsBy_41 : dec m_X9_takingsBy 41 = .ok (.iload_n 1, 1) := by decide +kernel
theorem d_X9_takingsBy_42 : dec m_X9_takingsBy 42 = .ok (.if_icmp .ne 45, 3) := by decide +kernel
theorem d_X9_takingsBy_45 : dec m_X9_takingsBy 45 = .ok (.aload_n 0, 1) := by decide +kernel
theorem d_X9_takingsBy_46 : dec m_X9_takingsBy 46 = .ok (.getfield 107, 3) := by decide +kernel
theorem d_X9_takingsBy_49 : dec m_X9_takingsBy 49 = .ok (.iload 4, 2) := by decide +kernel
theorem d_X9_takingsBy_51 : dec m_X9_takingsBy 51 = .ok (.invokestatic 96, 3) := by decide +kernel
theorem d_X9_takingsBy_54 : dec m_X9_takingsBy 54 = .ok (.ifCond .ne 33, 3) := by decide +kernel
theorem d_X9_takingsBy_57 : dec m_X9_takingsBy 57 = .ok (.iload_n 3, 1) := by decide +kernel
theorem d_X9_takingsBy_58 : dec m_X9_takingsBy 58 = .ok (.aload_n 0, 1) := by decide +kernel
theorem d_X9_takingsBy_59 : dec m_X9_takingsBy 59 = .ok (.iload 4, 2) := by decide +kernel
theorem d_X9_takingsBy_61 : dec m_X9_takingsBy 61 = .ok (.invokevirtual 122, 3) := by decide +kernel
theorem d_X9_takingsBy_64 : dec m_X9_takingsBy 64 = .ok (.ifCond .eq 14, 3) := by decide +kernel
theorem d_X9_takingsBy_67 : dec m_X9_takingsBy 67 = .ok (.aload_n 0, 1) := by decide +kernel
theorem d_X9_takingsBy_68 : dec m_X9_takingsBy 68 = .ok (.iload 4, 2) := by decide +kernel
theorem d_X9_takingsBy_70 : dec m_X9_takingsBy 70 = .ok (.iload_n 2, 1) := by decide +kernel
theorem d_X9_takingsBy_71 : dec m_X9_takingsBy 71 = .ok (.invokevirtual 183, 3) := by decide +kernel
theorem d_X9_takingsBy_74 : dec m_X9_takingsBy 74 = .ok (.ineg, 1) := by decide +kernel
theorem d_X9_takingsBy_75 : dec m_X9_takingsBy 75 = .ok (.goto 10, 3) := by decide +kernel
theorem d_X9_takingsBy_78 : dec m_X9_takingsBy 78 = .ok (.aload_n 0, 1) := by decide +kernel
theorem d_X9_takingsBy_79 : dec m_X9_takingsBy 79 = .ok (.iload 4, 2) := by decide +kernel
theorem d_X9_takingsBy_81 : dec m_X9_takingsBy 81 = .ok (.iload_n 2, 1) := by decide +kernel
theorem d_X9_takingsBy_82 : dec m_X9_takingsBy 82 = .ok (.invokevirtual 183, 3) := by decide +kernel
theorem d_X9_takingsBy_85 : dec m_X9_takingsBy 85 = .ok (.iadd, 1) := by decide +kernel
theorem d_X9_takingsBy_86 : dec m_X9_takingsBy 86 = .ok (.istore_n 3, 1) := by decide +kernel
theorem d_X9_takingsBy_87 : dec m_X9_takingsBy 87 = .ok (.iinc 4 1, 3) := by decide +kernel
theorem d_X9_takingsBy_90 : dec m_X9_takingsBy 90 = .ok (.goto (-65), 3) := by decide +kernel
theorem d_X9_takingsBy_93 : dec m_X9_takingsBy 93 = .ok (.iload_n 3, 1) := by decide +kernel
theorem d_X9_takingsBy_94 : dec m_X9_takingsBy 94 = .ok (.ireturn, 1) := by decide +kernel
theorem d_X9_doneWorth_0 : dec m_X9_doneWorth 0 = .ok (.iconst 0, 1) := by decide +kernel
theorem d_X9_doneWorth_1 : dec m_X9_doneWorth 1 = .ok (.istore_n 1, 1) := by decide +kernel
theorem d_X9_doneWorth_2 : dec m_X9_doneWorth 2 = .ok (.iconst 0, 1) := by decide +kernel
theorem d_X9_doneWorth_3 : dec m_X9_doneWorth 3 = .ok (.istore_n 2, 1) := by decide +kernel
theorem d_X9_doneWorth_4 : dec m_X9_doneWorth 4 = .ok (.iload_n 2, 1) := by decide +kernel
theorem d_X9_doneWorth_5 : dec m_X9_doneWorth 5 = .ok (.aload_n 0, 1) := by decide +kernel
theorem d_X9_doneWorth_6 : dec m_X9_doneWorth 6 = .ok (.getfield 146, 3) := by decide +kernel
theorem d_X9_doneWorth_9 : dec m_X9_doneWorth 9 = .ok (.if_icmp .ge 25, 3) := by decide +kernel
theorem d_X9_doneWorth_12 : dec m_X9_doneWorth 12 = .ok (.iload_n 1, 1) := by decide +kernel
theorem d_X9_doneWorth_13 : dec m_X9_doneWorth 13 = .ok (.aload_n 0, 1) := by decide +kernel
theorem d_X9_doneWorth_14 : dec m_X9_doneWorth 14 = .ok (.getfield 29, 3) := by decide +kernel
theorem d_X9_doneWorth_17 : dec m_X9_doneWorth 17 = .ok (.iload_n 2, 1) := by decide +kernel
theorem d_X9_doneWorth_18 : dec m_X9_doneWorth 18 = .ok (.iaload, 1) := by decide +kernel
theorem d_X9_doneWorth_19 : dec m_X9_doneWorth 19 = .ok (.aload_n 0, 1) := by decide +kernel
theorem d_X9_doneWorth_20 : dec m_X9_doneWorth 20 = .ok (.getfield 38, 3) := by decide +kernel
theorem d_X9_doneWorth_23 : dec m_X9_doneWorth 23 = .ok (.iload_n 2, 1) := by decide +kernel
theorem d_X9_doneWorth_24 : dec m_X9_doneWorth 24 = .ok (.iaload, 1) := by decide +kernel
theorem d_X9_doneWorth_25 : dec m_X9_doneWorth 25 = .ok (.isub, 1) := by decide +kernel
theorem d_X9_doneWorth_26 : dec m_X9_doneWorth 26 = .ok (.iadd, 1) := by decide +kernel
theorem d_X9_doneWorth_27 : dec m_X9_doneWorth 27 = .ok (.istore_n 1, 1) := by decide +kernel
theorem d_X9_doneWorth_28 : dec m_X9_doneWorth 28 = .ok (.iinc 2 1, 3) := by decide +kernel
theorem d_X9_doneWorth_31 : dec m_X9_doneWorth 31 = .ok (.goto (-27), 3) := by decide +kernel
theorem d_X9_doneWorth_34 : dec m_X9_doneWorth 34 = .ok (.iload_n 1, 1) := by decide +kernel
theorem d_X9_doneWorth_35 : dec m_X9_doneWorth 35 = .ok (.ireturn, 1) := by decide +kernel
theorem d_X9_takingsOf_0 : dec m_X9_takingsOf 0 = .ok (.aload_n 0, 1) := by decide +kernel
theorem d_X9_takingsOf_1 : dec m_X9_takingsOf 1 = .ok (.iload_n 1, 1) := by decide +kernel
theorem d_X9_takingsOf_2 : dec m_X9_takingsOf 2 = .ok (.invokevirtual 180, 3) := by decide +kernel
theorem d_X9_takingsOf_5 : dec m_X9_takingsOf 5 = .ok (.aload_n 0, 1) := by decide +kernel
theorem d_X9_takingsOf_6 : dec m_X9_takingsOf 6 = .ok (.iload_n 1, 1) := by decide +kernel
theorem d_X9_takingsOf_7 : dec m_X9_takingsOf 7 = .ok (.aload_n 0, 1) := by decide +kernel
theorem d_X9_takingsOf_8 : dec m_X9_takingsOf 8 = .ok (.getfield 7, 3) := by decide +kernel
theorem d_X9_takingsOf_11 : dec m_X9_takingsOf 11 = .ok (.sipush 182, 3) := by decide +kernel
theorem d_X9_takingsOf_14 : dec m_X9_takingsOf 14 = .ok (.iaload, 1) := by decide +kernel
theorem d_X9_takingsOf_15 : dec m_X9_takingsOf 15 = .ok (.invokevirtual 186, 3) := by decide +kernel
theorem d_X9_takingsOf_18 : dec m_X9_takingsOf 18 = .ok (.ireturn, 1) := by decide +kernel
theorem d_X9_trader_0 : dec m_X9_trader 0 = .ok (.aload_n 0, 1) := by decide +kernel
theorem d_X9_trader_1 : dec m_X9_trader 1 = .ok (.iload_n 1, 1) := by decide +kernel
theorem d_X9_trader_2 : dec m_X9_trader 2 = .ok (.invokevirtual 189, 3) := by decide +kernel
theorem d_X9_trader_5 : dec m_X9_trader 5 = .ok (.ifCond .ne 6, 3) := by decide +kernel
theorem d_X9_trader_8 : dec m_X9_trader 8 = .ok (.ldc 192, 2) := by decide +kernel
theorem d_X9_trader_10 : dec m_X9_trader 10 = .ok (.ireturn, 1) := by decide +kernel
theorem d_X9_trader_11 : dec m_X9_trader 11 = .ok (.iload_n 2, 1) := by decide +kernel
theorem d_X9_trader_12 : dec m_X9_trader 12 = .ok (.i2l, 1) := by decide +kernel
theorem d_X9_trader_13 : dec m_X9_trader 13 = .ok (.ldc2_w 193, 3) := by decide +kernel
theorem d_X9_trader_16 : dec m_X9_trader 16 = .ok (.bipush 9, 2) := by decide +kernel
theorem d_X9_trader_18 : dec m_X9_trader 18 = .ok (.aload_n 0, 1) := by decide +kernel
theorem d_X9_trader_19 : dec m_X9_trader 19 = .ok (.iload_n 1, 1) := by decide +kernel
theorem d_X9_trader_20 : dec m_X9_trader 20 = .ok (.iconst 2, 1) := by decide +kernel
theorem d_X9_trader_21 : dec m_X9_trader 21 = .ok (.invokevirtual 88, 3) := by decide +kernel
theorem d_X9_trader_24 : dec m_X9_trader 24 = .ok (.iadd, 1) := by decide +kernel
theorem d_X9_trader_25 : dec m_X9_trader 25 = .ok (.i2l, 1) := by decide +kernel
theorem d_X9_trader_26 : dec m_X9_trader 26 = .ok (.invokestatic 82, 3) := by decide +kernel
theorem d_X9_trader_29 : dec m_X9_trader 29 = .ok (.ifCond .eq 15, 3) := by decide +kernel
theorem d_X9_trader_32 : dec m_X9_trader 32 = .ok (.aload_n 0, 1) := by decide +kernel
theorem d_X9_trader_33 : dec m_X9_trader 33 = .ok (.iload_n 1, 1) := by decide +kernel
theorem d_X9_trader_34 : dec m_X9_trader 34 = .ok (.iconst 3, 1) := by decide +kernel
theorem d_X9_trader_35 : dec m_X9_trader 35 = .ok (.iload_n 2, 1) := by decide +kernel
theorem d_X9_trader_36 : dec m_X9_trader 36 = .ok (.iadd, 1) := by decide +kernel
theorem d_X9_trader_37 : dec m_X9_trader 37 = .ok (.bipush 10, 2) := by decide +kernel
theorem d_X9_trader_39 : dec m_X9_trader 39 = .ok (.isub, 1) := by decide +kernel
theorem d_X9_trader_40 : dec m_X9_trader 40 = .ok (.invokevirtual 88, 3) := by decide +kernel
theorem d_X9_trader_43 : dec m_X9_trader 43 = .ok (.ireturn, 1) := by decide +kernel
theorem d_X9_trader_44 : dec m_X9_trader 44 = .ok (.iload_n 2, 1) := by decide +kernel
theorem d_X9_trader_45 : dec m_X9_trader 45 = .ok (.tableswitch 92 0 5 #[39, 46, 53, 60, 68, 84], 39) := by decide +kernel
theorem d_X9_trader_84 : dec m_X9_trader 84 = .ok (.aload_n 0, 1) := by decide +kernel
theorem d_X9_trader_85 : dec m_X9_trader 85 = .ok (.iload_n 1, 1) := by decide +kernel
theorem d_X9_trader_86 : dec m_X9_trader 86 = .ok (.iconst 0, 1) := by decide +kernel
theorem d_X9_trader_87 : dec m_X9_trader 87 = .ok (.invokevirtual 88, 3) := by decide +kernel
theorem d_X9_trader_90 : dec m_X9_trader 90 = .ok (.ireturn, 1) := by decide +kernel
theorem d_X9_trader_91 : dec m_X9_trader 91 = .ok (.aload_n 0, 1) := by decide +kernel
theorem d_X9_trader_92 : dec m_X9_trader 92 = .ok (.iload_n 1, 1) := by decide +kernel
theorem d_X9_trader_93 : dec m_X9_trader 93 = .ok (.iconst 1, 1) := by decide +kernel
theorem d_X9_trader_94 : dec m_X9_trader 94 = .ok (.invokevirtual 88, 3) := by decide +kernel
theorem d_X9_trader_97 : dec m_X9_trader 97 = .ok (.ireturn, 1) := by decide +kernel
theorem d_X9_trader_98 : dec m_X9_trader 98 = .ok (.aload_n 0, 1) := by decide +kernel
theorem d_X9_trader_99 : dec m_X9_trader 99 = .ok (.iload_n 1, 1) := by decide +kernel
theorem d_X9_trader_100 : dec m_X9_trader 100 = .ok (.iconst 2, 1) := by decide +kernel
theorem d_X9_trader_101 : dec m_X9_trader 101 = .ok (.invokevirtual 88, 3) := by decide +kernel
theorem d_X9_trader_104 : dec m_X9_trader 104 = .ok (.ireturn, 1) := by decide +kernel
theorem d_X9_trader_105 : dec m_X9_trader 105 = .ok (.aload_n 0, 1) := by decide +kernel
theorem d_X9_trader_106 : dec m_X9_trader 106 = .ok (.iload_n 1, 1) := by decide +kernel
theorem d_X9_trader_107 : dec m_X9_trader 107 = .ok (.bipush 7, 2) := by decide +kernel
theorem d_X9_trader_109 : dec m_X9_trader 109 = .ok (.invokevirtual 88, 3) := by decide +kernel
theorem d_X9_trader_112 : dec m_X9_trader 112 = .ok (.ireturn, 1) := by decide +kernel
theorem d_X9_trader_113 : dec m_X9_trader 113 = .ok (.aload_n 0, 1) := by decide +kernel
theorem d_X9_trader_114 : dec m_X9_trader 114 = .ok (.aload_n 0, 1) := by decide +kernel
theorem d_X9_trader_115 : dec m_X9_trader 115 = .ok (.iload_n 1, 1) := by decide +kernel
theorem d_X9_trader_116 : dec m_X9_trader 116 = .ok (.iconst 1, 1) := by decide +kernel
theorem d_X9_trader_117 : dec m_X9_trader 117 = .ok (.invokevirtual 88, 3) := by decide +kernel
theorem d_X9_trader_120 : dec m_X9_trader 120 = .ok (.invokevirtual 180, 3) := by decide +kernel
theorem d_X9_trader_123 : dec m_X9_trader 123 = .ok (.aload_n 0, 1) := by decide +kernel
theorem d_X9_trader_124 : dec m_X9_trader 124 = .ok (.iload_n 1, 1) := by decide +kernel
theorem d_X9_trader_125 : dec m_X9_trader 125 = .ok (.invokevirtual 170, 3) := by decide +kernel
theorem d_X9_trader_128 : dec m_X9_trader 128 = .ok (.ireturn, 1) := by decide +kernel
theorem d_X9_trader_129 : dec m_X9_trader 129 = .ok (.aload_n 0, 1) := by decide +kernel
theorem d_X9_trader_130 : dec m_X9_trader 130 = .ok (.iload_n 1, 1) := by decide +kernel
theorem d_X9_trader_131 : dec m_X9_trader 131 = .ok (.bipush 8, 2) := by decide +kernel
theorem d_X9_trader_133 : dec m_X9_trader 133 = .ok (.invokevirtual 88, 3) := by decide +kernel
theorem d_X9_trader_136 : dec m_X9_trader 136 = .ok (.ireturn, 1) := by decide +kernel
theorem d_X9_trader_137 : dec m_X9_trader 137 = .ok (.ldc 192, 2) := by decide +kernel
theorem d_X9_trader_139 : dec m_X9_trader 139 = .ok (.ireturn, 1) := by decide +kernel
theorem d_X9_row_0 : dec m_X9_row 0 = .ok (.iload_n 1, 1) := by decide +kernel
theorem d_X9_row_1 : dec m_X9_row 1 = .ok (.invokestatic 195, 3) := by decide +kernel
theorem d_X9_row_4 : dec m_X9_row 4 = .ok (.ifCond .ne 5, 3) := by decide +kernel
theorem d_X9_row_7 : dec m_X9_row 7 = .ok (.iconst (-1), 1) := by decide +kernel
theorem d_X9_row_8 : dec m_X9_row 8 = .ok (.ireturn, 1) := by decide +kernel
theorem d_X9_row_9 : dec m_X9_row 9 = .ok (.aload_n 0, 1) := by decide +kernel
theorem d_X9_row_10 : dec m_X9_row 10 = .ok (.iconst 1, 1) := by decide +kernel
theorem d_X9_row_11 : dec m_X9_row 11 = .ok (.iload_n 1, 1) := by decide +kernel
theorem d_X9_row_12 : dec m_X9_row 12 = .ok (.ishl, 1) := by decide +kernel
theorem d_X9_row_13 : dec m_X9_row 13 = .ok (.invokevirtual 139, 3) := by decide +kernel
theorem d_X9_row_16 : dec m_X9_row 16 = .ok (.iload_n 2, 1) := by decide +kernel
theorem d_X9_row_17 : dec m_X9_row 17 = .ok (.ifCond .eq 10, 3) := by decide +kernel
theorem d_X9_row_20 : dec m_X9_row 20 = .ok (.aload_n 0, 1) := by decide +kernel
theorem d_X9_row_21 : dec m_X9_row 21 = .ok (.getfield 116, 3) := by decide +kernel
theorem d_X9_row_24 : dec m_X9_row 24 = .ok (.goto 7, 3) := by decide +kernel
theorem d_X9_row_27 : dec m_X9_row 27 = .ok (.aload_n 0, 1) := by decide +kernel
theorem d_X9_row_28 : dec m_X9_row 28 = .ok (.getfield 113, 3) := by decide +kernel
theorem d_X9_row_31 : dec m_X9_row 31 = .ok (.istore 5, 2) := by decide +kernel
theorem d_X9_row_33 : dec m_X9_row 33 = .ok (.iload_n 3, 1) := by decide +kernel
theorem d_X9_row_34 : dec m_X9_row 34 = .ok (.iconst (-1), 1) := by decide +kernel
theorem d_X9_row_35 : dec m_X9_row 35 = .ok (.if_icmp .ne 11, 3) := by decide +kernel
theorem d_X9_row_38 : dec m_X9_row 38 = .ok (.iload 4, 2) := by decide +kernel
theorem d_X9_row_40 : dec m_X9_row 40 = .ok (.ifCond .ne 6, 3) := by decide +kernel
theorem d_X9_row_43 : dec m_X9_row 43 = .ok (.iload 5, 2) := by decide +kernel
theorem d_X9_row_45 : dec m_X9_row 45 = .ok (.ireturn, 1) := by decide +kernel
theorem d_X9_row_46 : dec m_X9_row 46 = .ok (.iload_n 3, 1) := by decide +kernel
theorem d_X9_row_47 : dec m_X9_row 47 = .ok (.i2l, 1) := by decide +kernel
theorem d_X9_row_48 : dec m_X9_row 48 = .ok (.lconst 0, 1) := by decide +kernel
theorem d_X9_row_49 : dec m_X9_row 49 = .ok (.iload 5, 2) := by decide +kernel
theorem d_X9_row_51 : dec m_X9_row 51 = .ok (.iconst 1, 1) := by decide +kernel
theorem d_X9_row_52 : dec m_X9_row 52 = .ok (.isub, 1) := by decide +kernel
theorem d_X9_row_53 : dec m_X9_row 53 = .ok (.i2l, 1) := by decide +kernel
theorem d_X9_row_54 : dec m_X9_row 54 = .ok (.invokestatic 82, 3) := by decide +kernel
theorem d_X9_row_57 : dec m_X9_row 57 = .ok (.ifCond .ne 5, 3) := by decide +kernel
theorem d_X9_row_60 : dec m_X9_row 60 = .ok (.iconst (-1), 1) := by decide +kernel
theorem d_X9_row_61 : dec m_X9_row 61 = .ok (.ireturn, 1) := by decide +kernel
theorem d_X9_row_62 : dec m_X9_row 62 = .ok (.iload 4, 2) := by decide +kernel
theorem d_X9_row_64 : dec m_X9_row 64 = .ok (.tableswitch 88 0 2 #[28, 48, 68], 28) := by decide +kernel
theorem d_X9_row_92 : dec m_X9_row 92 = .ok (.iload_n 2, 1) := by decide +kernel
theorem d_X9_row_93 : dec m_X9_row 93 = .ok (.ifCond .eq 12, 3) := by decide +kernel
theorem d_X9_row_96 : dec m_X9_row 96 = .ok (.aload_n 0, 1) := by decide +kernel
theorem d_X9_row_97 : dec m_X9_row 97 = .ok (.getfield 32, 3) := by decide +kernel
theorem d_X9_row_100 : dec m_X9_row 100 = .ok (.iload_n 3, 1) := by decide +kernel
theorem d_X9_row_101 : dec m_X9_row 101 = .ok (.iaload, 1) := by decide +kernel
theorem d_X9_row_102 : dec m_X9_row 102 = .ok (.goto 9, 3) := by decide +kernel
theorem d_X9_row_105 : dec m_X9_row 105 = .ok (.aload_n 0, 1) := by decide +kernel
theorem d_X9_row_106 : dec m_X9_row 106 = .ok (.getfield 23, 3) := by decide +kernel
theorem d_X9_row_109 : dec m_X9_row 109 = .ok (.iload_n 3, 1) := by decide +kernel
theorem d_X9_row_110 : dec m_X9_row 110 = .ok (.iaload, 1) := by decide +kernel
theorem d_X9_row_111 : dec m_X9_row 111 = .ok (.ireturn, 1) := by decide +kernel
theorem d_X9_row_112 : dec m_X9_row 112 = .ok (.iload_n 2, 1) := by decide +kernel
theorem d_X9_row_113 : dec m_X9_row 113 = .ok (.ifCond .eq 12, 3) := by decide +kernel
theorem d_X9_row_116 : dec m_X9_row 116 = .ok (.aload_n 0, 1) := by decide +kernel
theorem d_X9_row_117 : dec m_X9_row 117 = .ok (.getfield 35, 3) := by decide +kernel
theorem d_X9_row_120 : dec m_X9_row 120 = .ok (.iload_n 3, 1) := by decide +kernel
theorem d_X9_row_121 : dec m_X9_row 121 = .ok (.iaload, 1) := by decide +kernel
theorem d_X9_row_122 : dec m_X9_row 122 = .ok (.goto 9, 3) := by decide +kernel
theorem d_X9_row_125 : dec m_X9_row 125 = .ok (.aload_n 0, 1) := by decide +kernel
theorem d_X9_row_126 : dec m_X9_row 126 = .ok (.getfield 26, 3) := by decide +kernel
theorem d_X9_row_129 : dec m_X9_row 129 = .ok (.iload_n 3, 1) := by decide +kernel
theorem d_X9_row_130 : dec m_X9_row 130 = .ok (.iaload, 1) := by decide +kernel
theorem d_X9_row_131 : dec m_X9_row 131 = .ok (.ireturn, 1) := by decide +kernel
theorem d_X9_row_132 : dec m_X9_row 132 = .ok (.iload_n 2, 1) := by decide +kernel
theorem d_X9_row_133 : dec m_X9_row 133 = .ok (.ifCond .eq 12, 3) := by decide +kernel
theorem d_X9_row_136 : dec m_X9_row 136 = .ok (.aload_n 0, 1) := by decide +kernel
theorem d_X9_row_137 : dec m_X9_row 137 = .ok (.getfield 38, 3) := by decide +kernel
theorem d_X9_row_140 : dec m_X9_row 140 = .ok (.iload_n 3, 1) := by decide +kernel
theorem d_X9_row_141 : dec m_X9_row 141 = .ok (.iaload, 1) := by decide +kernel
theorem d_X9_row_142 : dec m_X9_row 142 = .ok (.goto 9, 3) := by decide +kernel
theorem d_X9_row_145 : dec m_X9_row 145 = .ok (.aload_n 0, 1) := by decide +kernel
theorem d_X9_row_146 : dec m_X9_row 146 = .ok (.getfield 29, 3) := by decide +kernel
theorem d_X9_row_149 : dec m_X9_row 149 = .ok (.iload_n 3, 1) := by decide +kernel
theorem d_X9_row_150 : dec m_X9_row 150 = .ok (.iaload, 1) := by decide +kernel
theorem d_X9_row_151 : dec m_X9_row 151 = .ok (.ireturn, 1) := by decide +kernel
theorem d_X9_row_152 : dec m_X9_row 152 = .ok (.iconst (-1), 1) := by decide +kernel
theorem d_X9_row_153 : dec m_X9_row 153 = .ok (.ireturn, 1) := by decide +kernel
theorem d_X9_priceOr_0 : dec m_X9_priceOr 0 = .ok (.aload_n 0, 1) := by decide +kernel
theorem d_X9_priceOr_1 : dec m_X9_priceOr 1 = .ok (.getfield 146, 3) := by decide +kernel
theorem d_X9_priceOr_4 : dec m_X9_priceOr 4 = .ok (.ifCond .eq 15, 3) := by decide +kernel
theorem d_X9_priceOr_7 : dec m_X9_priceOr 7 = .ok (.aload_n 0, 1) := by decide +kernel
theorem d_X9_priceOr_8 : dec m_X9_priceOr 8 = .ok (.getfield 7, 3) := by decide +kernel
theorem d_X9_priceOr_11 : dec m_X9_priceOr 11 = .ok (.sipush 182, 3) := by decide +kernel
theorem d_X9_priceOr_14 : dec m_X9_priceOr 14 = .ok (.iaload, 1) := by decide +kernel
theorem d_X9_priceOr_15 : dec m_X9_priceOr 15 = .ok (.iconst 3, 1) := by decide +kernel
theorem d_X9_priceOr_16 : dec m_X9_priceOr 16 = .ok (.if_icmp .ne 8, 3) := by decide +kernel
theorem d_X9_priceOr_19 : dec m_X9_priceOr 19 = .ok (.bipush (-2), 2) := by decide +kernel
theorem d_X9_priceOr_21 : dec m_X9_priceOr 21 = .ok (.goto 4, 3) := by decide +kernel
theorem d_X9_priceOr_24 : dec m_X9_priceOr 24 = .ok (.iload_n 1, 1) := by decide +kernel
theorem d_X9_priceOr_25 : dec m_X9_priceOr 25 = .ok (.ireturn, 1) := by decide +kernel
theorem d_X9_market_0 : dec m_X9_market 0 = .ok (.iload_n 1, 1) := by decide +kernel
theorem d_X9_market_1 : dec m_X9_market 1 = .ok (.invokestatic 195, 3) := by decide +kernel
theorem d_X9_market_4 : dec m_X9_market 4 = .ok (.ifCond .ne 6, 3) := by decide +kernel
theorem d_X9_market_7 : dec m_X9_market 7 = .ok (.ldc 192, 2) := by decide +kernel
theorem d_X9_market_9 : dec m_X9_market 9 = .ok (.ireturn, 1) := by decide +kernel
theorem d_X9_market_10 : dec m_X9_market 10 = .ok (.aload_n 0, 1) := by decide +kernel
theorem d_X9_market_11 : dec m_X9_market 11 = .ok (.iload_n 1, 1) := by decide +kernel
theorem d_X9_market_12 : dec m_X9_market 12 = .ok (.invokevirtual 180, 3) := by decide +kernel
theorem d_X9_market_15 : dec m_X9_market 15 = .ok (.iload_n 2, 1) := by decide +kernel
theorem d_X9_market_16 : dec m_X9_market 16 = .ok (.tableswitch 157 0 8 #[52, 57, 62, 67, 76, 85, 99, 109, 133], 52) := by decide +kernel
theorem d_X9_market_68 : dec m_X9_market 68 = .ok (.aload_n 0, 1) := by decide +kernel
theorem d_X9_market_69 : dec m_X9_market 69 = .ok (.getfield 133, 3) := by decide +kernel
theorem d_X9_market_72 : dec m_X9_market 72 = .ok (.ireturn, 1) := by decide +kernel
theorem d_X9_market_73 : dec m_X9_market 73 = .ok (.aload_n 0, 1) := by decide +kernel
theorem d_X9_market_74 : dec m_X9_market 74 = .ok (.getfield 136, 3) := by decide +kernel
theorem d_X9_market_77 : dec m_X9_market 77 = .ok (.ireturn, 1) := by decide +kernel
theorem d_X9_market_78 : dec m_X9_market 78 = .ok (.aload_n 0, 1) := by decide +kernel
theorem d_X9_market_79 : dec m_X9_market 79 = .ok (.getfield 146, 3) := by decide +kernel
theorem d_X9_market_82 : dec m_X9_market 82 = .ok (.ireturn, 1) := by decide +kernel
theorem d_X9_market_83 : dec m_X9_market 83 = .ok (.aload_n 0, 1) := by decide +kernel
theorem d_X9_market_84 : dec m_X9_market 84 = .ok (.aload_n 0, 1) := by decide +kernel
theorem d_X9_market_85 : dec m_X9_market 85 = .ok (.getfield 149, 3) := by decide +kernel
theorem d_X9_market_88 : dec m_X9_market 88 = .ok (.invokevirtual 198, 3) := by decide +kernel
theorem d_X9_market_91 : dec m_X9_market 91 = .ok (.ireturn, 1) := by decide +kernel
theorem d_X9_market_92 : dec m_X9_market 92 = .ok (.aload_n 0, 1) := by decide +kernel
theorem d_X9_market_93 : dec m_X9_market 93 = .ok (.aload_n 0, 1) := by decide +kernel
theorem d_X9_market_94 : dec m_X9_market 94 = .ok (.getfield 152, 3) := by decide +kernel
theorem d_X9_market_97 : dec m_X9_market 97 = .ok (.invokevirtual 198, 3) := by decide +kernel
theorem d_X9_market_100 : dec m_X9_market 100 = .ok (.ireturn, 1) := by decide +kernel
theorem d_X9_market_101 : dec m_X9_market 101 = .ok (.aload_n 0, 1) := by decide +kernel
theorem d_X9_market_102 : dec m_X9_market 102 = .ok (.iload_n 1, 1) := by decide +kernel
theorem d_X9_market_103 : dec m_X9_market 103 = .ok (.aload_n 0, 1) := by decide +kernel
theorem d_X9_market_104 : dec m_X9_market 104 = .ok (.getfield 7, 3) := by decide +kernel
theorem d_X9_market_107 : dec m_X9_market 107 = .ok (.sipush 182, 3) := by decide +kernel
theorem d_X9_market_110 : dec m_X9_market 110 = .ok (.iaload, 1) := by decide +kernel
theorem d_X9_market_111 : dec m_X9_market 111 = .ok (.invokevirtual 186, 3) := by decide +kernel
theorem d_X9_market_114 : dec m_X9_market 114 = .ok (.ireturn, 1) := by decide +kernel
theorem d_X9_market_115 : dec m_X9_market 115 = .ok (.aload_n 0, 1) := by decide +kernel
theorem d_X9_market_116 : dec m_X9_market 116 = .ok (.getfield 136, 3) := by decide +kernel
theorem d_X9_market_119 : dec m_X9_market 119 = .ok (.aload_n 0, 1) := by decide +kernel
theorem d_X9_market_120 : dec m_X9_market 120 = .ok (.invokevirtual 201, 3) := by decide +kernel
theorem d_X9_market_123 : dec m_X9_market 123 = .ok (.isub, 1) := by decide +kernel
theorem d_X9_market_124 : dec m_X9_market 124 = .ok (.ireturn, 1) := by decide +kernel
theorem d_X9_market_125 : dec m_X9_market 125 = .ok (.aload_n 0, 1) := by decide +kernel
theorem d_X9_market_126 : dec m_X9_market 126 = .ok (.getfield 133, 3) := by decide +kernel
theorem d_X9_market_129 : dec m_X9_market 129 = .ok (.ifCond .ne 8, 3) := by decide +kernel
theorem d_X9_market_132 : dec m_X9_market 132 = .ok (.bipush (-2), 2) := by decide +kernel
theorem d_X9_market_134 : dec m_X9_market 134 = .ok (.goto 14, 3) := by decide +kernel
theorem d_X9_market_137 : dec m_X9_market 137 = .ok (.aload_n 0, 1) := by decide +kernel
theorem d_X9_market_138 : dec m_X9_market 138 = .ok (.getfield 29, 3) := by decide +kernel
theorem d_X9_market_141 : dec m_X9_market 141 = .ok (.aload_n 0, 1) := by decide +kernel
theorem d_X9_market_142 : dec m_X9_market 142 = .ok (.getfield 133, 3) := by decide +kernel
theorem d_X9_market_145 : dec m_X9_market 145 = .ok (.iconst 1, 1) := by decide +kernel
theorem d_X9_market_146 : dec m_X9_market 146 = .ok (.isub, 1) := by decide +kernel
theorem d_X9_market_147 : dec m_X9_market 147 = .ok (.iaload, 1) := by decide +kernel
theorem d_X9_market_148 : dec m_X9_market 148 = .ok (.ireturn, 1) := by decide +kernel
theorem d_X9_market_149 : dec m_X9_market 149 = .ok (.aload_n 0, 1) := by decide +kernel
theorem d_X9_market_150 : dec m_X9_market 150 = .ok (.getfield 133, 3) := by decide +kernel
theorem d_X9_market_153 : dec m_X9_market 153 = .ok (.ifCond .ne 8, 3) := by decide +kernel
theorem d_X9_market_156 : dec m_X9_market 156 = .ok (.bipush (-2), 2) := by decide +kernel
theorem d_X9_market_158 : dec m_X9_market 158 = .ok (.goto 14, 3) := by decide +kernel
theorem d_X9_market_161 : dec m_X9_market 161 = .ok (.aload_n 0, 1) := by decide +kernel
theorem d_X9_market_162 : dec m_X9_market 162 = .ok (.getfield 38, 3) := by decide +kernel
theorem d_X9_market_165 : dec m_X9_market 165 = .ok (.aload_n 0, 1) := by decide +kernel
theorem d_X9_market_166 : dec m_X9_market 166 = .ok (.getfield 133, 3) := by decide +kernel
theorem d_X9_market_169 : dec m_X9_market 169 = .ok (.iconst 1, 1) := by decide +kernel
theorem d_X9_market_170 : dec m_X9_market 170 = .ok (.isub, 1) := by decide +kernel
theorem d_X9_market_171 : dec m_X9_market 171 = .ok (.iaload, 1) := by decide +kernel
theorem d_X9_market_172 : dec m_X9_market 172 = .ok (.ireturn, 1) := by decide +kernel
theorem d_X9_market_173 : dec m_X9_market 173 = .ok (.ldc 192, 2) := by decide +kernel
theorem d_X9_market_175 : dec m_X9_market 175 = .ok (.ireturn, 1) := by decide +kernel
theorem d_X9_deal_0 : dec m_X9_deal 0 = .ok (.aload_n 0, 1) := by decide +kernel
theorem d_X9_deal_1 : dec m_X9_deal 1 = .ok (.iload_n 1, 1) := by decide +kernel
theorem d_X9_deal_2 : dec m_X9_deal 2 = .ok (.invokevirtual 189, 3) := by decide +kernel
theorem d_X9_deal_5 : dec m_X9_deal 5 = .ok (.ifCond .eq 13, 3) := by decide +kernel
theorem d_X9_deal_8 : dec m_X9_deal 8 = .ok (.iload_n 2, 1) := by decide +kernel
theorem d_X9_deal_9 : dec m_X9_deal 9 = .ok (.i2l, 1) := by decide +kernel
theorem d_X9_deal_10 : dec m_X9_deal 10 = .ok (.lconst 0, 1) := by decide +kernel
theorem d_X9_deal_11 : dec m_X9_deal 11 = .ok (.lconst 1, 1) := by decide +kernel
theorem d_X9_deal_12 : dec m_X9_deal 12 = .ok (.invokestatic 82, 3) := by decide +kernel
theorem d_X9_deal_15 : dec m_X9_deal 15 = .ok (.ifCond .ne 6, 3) := by decide +kernel
theorem d_X9_deal_18 : dec m_X9_deal 18 = .ok (.ldc 192, 2) := by decide +kernel
theorem d_X9_deal_20 : dec m_X9_deal 20 = .ok (.ireturn, 1) := by decide +kernel
theorem d_X9_deal_21 : dec m_X9_deal 21 = .ok (.iload_n 2, 1) := by decide +kernel
theorem d_X9_deal_22 : dec m_X9_deal 22 = .ok (.iconst 1, 1) := by decide +kernel
theorem d_X9_deal_23 : dec m_X9_deal 23 = .ok (.if_icmp .ne 9, 3) := by decide +kernel
theorem d_X9_deal_26 : dec m_X9_deal 26 = .ok (.aload_n 0, 1) := by decide +kernel
theorem d_X9_deal_27 : dec m_X9_deal 27 = .ok (.iload_n 1, 1) := by decide +kernel
theorem d_X9_deal_28 : dec m_X9_deal 28 = .ok (.invokevirtual 204, 3) := by decide +kernel
theorem d_X9_deal_31 : dec m_X9_deal 31 = .ok (.ireturn, 1) := by decide +kernel
theorem d_X9_deal_32 : dec m_X9_deal 32 = .ok (.aload_n 0, 1) := by decide +kernel
theorem d_X9_deal_33 : dec m_X9_deal 33 = .ok (.aload_n 0, 1) := by decide +kernel
theorem d_X9_deal_34 : dec m_X9_deal 34 = .ok (.iload_n 1, 1) := by decide +kernel
theorem d_X9_deal_35 : dec m_X9_deal 35 = .ok (.iconst 1, 1) := by decide +kernel
theorem d_X9_deal_36 : dec m_X9_deal 36 = .ok (.invokevirtual 88, 3) := by decide +kernel
theorem d_X9_deal_39 : dec m_X9_deal 39 = .ok (.invokevirtual 180, 3) := by decide +kernel
theorem d_X9_deal_42 : dec m_X9_deal 42 = .ok (.aload_n 0, 1) := by decide +kernel
theorem d_X9_deal_43 : dec m_X9_deal 43 = .ok (.iload_n 1, 1) := by decide +kernel
theorem d_X9_deal_44 : dec m_X9_deal 44 = .ok (.aload_n 0, 1) := by decide +kernel
theorem d_X9_deal_45 : dec m_X9_deal 45 = .ok (.getfield 7, 3) := by decide +kernel
theorem d_X9_deal_48 : dec m_X9_deal 48 = .ok (.sipush 182, 3) := by decide +kernel
theorem d_X9_deal_51 : dec m_X9_deal 51 = .ok (.iaload, 1) := by decide +kernel
theorem d_X9_deal_52 : dec m_X9_deal 52 = .ok (.invokevirtual 183, 3) := by decide +kernel
theorem d_X9_deal_55 : dec m_X9_deal 55 = .ok (.ireturn, 1) := by decide +kernel
theorem d_X9_gainBy_0 : dec m_X9_gainBy 0 = .ok (.aload_n 0, 1) := by decide +kernel
theorem d_X9_gainBy_1 : dec m_X9_gainBy 1 = .ok (.iconst 1, 1) := by decide +kernel
theorem d_X9_gainBy_2 : dec m_X9_gainBy 2 = .ok (.iload_n 1, 1) := by decide +kernel
theorem d_X9_gainBy_3 : dec m_X9_gainBy 3 = .ok (.ishl, 1) := by decide +kernel
theorem d_X9_gainBy_4 : dec m_X9_gainBy 4 = .ok (.putfield 92, 3) := by decide +kernel
theorem d_X9_gainBy_7 : dec m_X9_gainBy 7 = .ok (.aload_n 0, 1) := by decide +kernel
theorem d_X9_gainBy_8 : dec m_X9_gainBy 8 = .ok (.iload_n 2, 1) := by decide +kernel
theorem d_X9_gainBy_9 : dec m_X9_gainBy 9 = .ok (.putfield 100, 3) := by decide +kernel
theorem d_X9_gainBy_12 : dec m_X9_gainBy 12 = .ok (.aload_n 0, 1) := by decide +kernel
theorem d_X9_gainBy_13 : dec m_X9_gainBy 13 = .ok (.iload_n 1, 1) := by decide +kernel
theorem d_X9_gainBy_14 : dec m_X9_gainBy 14 = .ok (.invokevirtual 204, 3) := by decide +kernel
theorem d_X9_gainBy_17 : dec m_X9_gainBy 17 = .ok (.istore_n 3, 1) := by decide +kernel
theorem d_X9_gainBy_18 : dec m_X9_gainBy 18 = .ok (.aload_n 0, 1) := by decide +kernel
theorem d_X9_gainBy_19 : dec m_X9_gainBy 19 = .ok (.iconst 0, 1) := by decide +kernel
theorem d_X9_gainBy_20 : dec m_X9_gainBy 20 = .ok (.putfield 92, 3) := by decide +kernel
theorem d_X9_gainBy_23 : dec m_X9_gainBy 23 = .ok (.iload_n 3, 1) := by decide +kernel
theorem d_X9_gainBy_24 : dec m_X9_gainBy 24 = .ok (.ireturn, 1) := by decide +kernel
theorem d_X9_lie_0 : dec m_X9_lie 0 = .ok (.aload_n 0, 1) := by decide +kernel
theorem d_X9_lie_1 : dec m_X9_lie 1 = .ok (.iload_n 1, 1) := by decide +kernel
theorem d_X9_lie_2 : dec m_X9_lie 2 = .ok (.invokevirtual 189, 3) := by decide +kernel
theorem d_X9_lie_5 : dec m_X9_lie 5 = .ok (.ifCond .eq 26, 3) := by decide +kernel
theorem d_X9_lie_8 : dec m_X9_lie 8 = .ok (.iload_n 2, 1) := by decide +kernel
theorem d_X9_lie_9 : dec m_X9_lie 9 = .ok (.i2l, 1) := by decide +kernel
theorem d_X9_lie_10 : dec m_X9_lie 10 = .ok (.ldc2_w 207, 3) := by decide +kernel
theorem d_X9_lie_13 : dec m_X9_lie 13 = .ok (.ldc2_w 209, 3) := by decide +kernel
theorem d_X9_lie_16 : dec m_X9_lie 16 = .ok (.invokestatic 82, 3) := by decide +kernel
theorem d_X9_lie_19 : dec m_X9_lie 19 = .ok (.ifCond .eq 12, 3) := by decide +kernel
theorem d_X9_lie_22 : dec m_X9_lie 22 = .ok (.aload_n 0, 1) := by decide +kernel
theorem d_X9_lie_23 : dec m_X9_lie 23 = .ok (.iload_n 1, 1) := by decide +kernel
theorem d_X9_lie_24 : dec m_X9_lie 24 = .ok (.iload_n 2, 1) := by decide +kernel
theorem d_X9_lie_25 : dec m_X9_lie 25 = .ok (.invokevirtual 211, 3) := by decide +kernel
theorem d_X9_lie_28 : dec m_X9_lie 28 = .ok (.goto 5, 3) := by decide +kernel
theorem d_X9_lie_31 : dec m_X9_lie 31 = .ok (.ldc 192, 2) := by decide +kernel
theorem d_X9_lie_33 : dec m_X9_lie 33 = .ok (.ireturn, 1) := by decide +kernel
theorem d_X9_tempted_0 : dec m_X9_tempted 0 = .ok (.aload_n 0, 1) := by decide +kernel
theorem d_X9_tempted_1 : dec m_X9_tempted 1 = .ok (.iload_n 1, 1) := by decide +kernel
theorem d_X9_tempted_2 : dec m_X9_tempted 2 = .ok (.invokevirtual 189, 3) := by decide +kernel
theorem d_X9_tempted_5 : dec m_X9_tempted 5 = .ok (.ifCond .eq 13, 3) := by decide +kernel
theorem d_X9_tempted_8 : dec m_X9_tempted 8 = .ok (.iload_n 2, 1) := by decide +kernel
theorem d_X9_tempted_9 : dec m_X9_tempted 9 = .ok (.i2l, 1) := by decide +kernel
theorem d_X9_tempted_10 : dec m_X9_tempted 10 = .ok (.lconst 0, 1) := by decide +kernel
theorem d_X9_tempted_11 : dec m_X9_tempted 11 = .ok (.lconst 1, 1) := by decide +kernel
theorem d_X9_tempted_12 : dec m_X9_tempted 12 = .ok (.invokestatic 82, 3) := by decide +kernel
theorem d_X9_tempted_15 : dec m_X9_tempted 15 = .ok (.ifCond .ne 6, 3) := by decide +kernel
theorem d_X9_tempted_18 : dec m_X9_tempted 18 = .ok (.ldc 192, 2) := by decide +kernel
theorem d_X9_tempted_20 : dec m_X9_tempted 20 = .ok (.ireturn, 1) := by decide +kernel
theorem d_X9_tempted_21 : dec m_X9_tempted 21 = .ok (.iconst 0, 1) := by decide +kernel
theorem d_X9_tempted_22 : dec m_X9_tempted 22 = .ok (.istore_n 3, 1) := by decide +kernel
theorem d_X9_tempted_23 : dec m_X9_tempted 23 = .ok (.aload_n 0, 1) := by decide +kernel
theorem d_X9_tempted_24 : dec m_X9_tempted 24 = .ok (.iload_n 1, 1) := by decide +kernel
theorem d_X9_tempted_25 : dec m_X9_tempted 25 = .ok (.iconst 0, 1) := by decide +kernel
theorem d_X9_tempted_26 : dec m_X9_tempted 26 = .ok (.invokevirtual 211, 3) := by decide +kernel
theorem d_X9_tempted_29 : dec m_X9_tempted 29 = .ok (.istore 4, 2) := by decide +kernel
theorem d_X9_tempted_31 : dec m_X9_tempted 31 = .ok (.iconst 1, 1) := by decide +kernel
theorem d_X9_tempted_32 : dec m_X9_tempted 32 = .ok (.istore 5, 2) := by decide +kernel
theorem d_X9_tempted_34 : dec m_X9_tempted 34 = .ok (.iload 5, 2) := by decide +kernel
theorem d_X9_tempted_36 : dec m_X9_tempted 36 = .ok (.sipush 200, 3) := by decide +kernel
theorem d_X9_tempted_39 : dec m_X9_tempted 39 = .ok (.if_icmp .gt 59, 3) := by decide +kernel
