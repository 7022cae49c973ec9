set_option maxRecDepth 100000
theorem d_X10_by_104 : dec m_X10_by 104 = .ok (.iconst 2, 1) := by decide +kernel
theorem d_X10_by_105 : dec m_X10_by 105 = .ok (.idiv, 1) := by decide +kernel
theorem d_X10_by_106 : dec m_X10_by 106 = .ok (.goto 9, 3) := by decide +kernel
theorem d_X10_by_109 : dec m_X10_by 109 = .ok (.iload_n 3, 1) := by decide +kernel
theorem d_X10_by_110 : dec m_X10_by 110 = .ok (.iload 4, 2) := by decide +kernel
theorem d_X10_by_112 : dec m_X10_by 112 = .ok (.iadd, 1) := by decide +kernel
theorem d_X10_by_113 : dec m_X10_by 113 = .ok (.iconst 2, 1) := by decide +kernel
theorem d_X10_by_114 : dec m_X10_by 114 = .ok (.idiv, 1) := by decide +kernel
theorem d_X10_by_115 : dec m_X10_by 115 = .ok (.istore 6, 2) := by decide +kernel
theorem d_X10_by_117 : dec m_X10_by 117 = .ok (.iload_n 1, 1) := by decide +kernel
theorem d_X10_by_118 : dec m_X10_by 118 = .ok (.iconst 2, 1) := by decide +kernel
theorem d_X10_by_119 : dec m_X10_by 119 = .ok (.if_icmp .eq 25, 3) := by decide +kernel
theorem d_X10_by_122 : dec m_X10_by 122 = .ok (.iload_n 1, 1) := by decide +kernel
theorem d_X10_by_123 : dec m_X10_by 123 = .ok (.ifCond .ne 25, 3) := by decide +kernel
theorem d_X10_by_126 : dec m_X10_by 126 = .ok (.iload 5, 2) := by decide +kernel
theorem d_X10_by_128 : dec m_X10_by 128 = .ok (.ifCond .eq 16, 3) := by decide +kernel
theorem d_X10_by_131 : dec m_X10_by 131 = .ok (.iload 6, 2) := by decide +kernel
theorem d_X10_by_133 : dec m_X10_by 133 = .ok (.iload_n 3, 1) := by decide +kernel
theorem d_X10_by_134 : dec m_X10_by 134 = .ok (.if_icmp .gt 10, 3) := by decide +kernel
theorem d_X10_by_137 : dec m_X10_by 137 = .ok (.iload 6, 2) := by decide +kernel
theorem d_X10_by_139 : dec m_X10_by 139 = .ok (.iload 4, 2) := by decide +kernel
theorem d_X10_by_141 : dec m_X10_by 141 = .ok (.if_icmp .ge 7, 3) := by decide +kernel
theorem d_X10_by_144 : dec m_X10_by 144 = .ok (.iconst 1, 1) := by decide +kernel
theorem d_X10_by_145 : dec m_X10_by 145 = .ok (.goto 4, 3) := by decide +kernel
theorem d_X10_by_148 : dec m_X10_by 148 = .ok (.iconst 0, 1) := by decide +kernel
theorem d_X10_by_149 : dec m_X10_by 149 = .ok (.istore 7, 2) := by decide +kernel
theorem d_X10_by_151 : dec m_X10_by 151 = .ok (.aload_n 0, 1) := by decide +kernel
theorem d_X10_by_152 : dec m_X10_by 152 = .ok (.iload 7, 2) := by decide +kernel
theorem d_X10_by_154 : dec m_X10_by 154 = .ok (.ifCond .eq 12, 3) := by decide +kernel
theorem d_X10_by_157 : dec m_X10_by 157 = .ok (.aload_n 0, 1) := by decide +kernel
theorem d_X10_by_158 : dec m_X10_by 158 = .ok (.getfield 50, 3) := by decide +kernel
theorem d_X10_by_161 : dec m_X10_by 161 = .ok (.iconst 1, 1) := by decide +kernel
theorem d_X10_by_162 : dec m_X10_by 162 = .ok (.isub, 1) := by decide +kernel
theorem d_X10_by_163 : dec m_X10_by 163 = .ok (.goto 7, 3) := by decide +kernel
theorem d_X10_by_166 : dec m_X10_by 166 = .ok (.aload_n 0, 1) := by decide +kernel
theorem d_X10_by_167 : dec m_X10_by 167 = .ok (.getfield 50, 3) := by decide +kernel
theorem d_X10_by_170 : dec m_X10_by 170 = .ok (.putfield 53, 3) := by decide +kernel
theorem d_X10_by_173 : dec m_X10_by 173 = .ok (.aload_n 0, 1) := by decide +kernel
theorem d_X10_by_174 : dec m_X10_by 174 = .ok (.iload 7, 2) := by decide +kernel
theorem d_X10_by_176 : dec m_X10_by 176 = .ok (.ifCond .eq 7, 3) := by decide +kernel
theorem d_X10_by_179 : dec m_X10_by 179 = .ok (.iload_n 3, 1) := by decide +kernel
theorem d_X10_by_180 : dec m_X10_by 180 = .ok (.goto 5, 3) := by decide +kernel
theorem d_X10_by_183 : dec m_X10_by 183 = .ok (.iload 6, 2) := by decide +kernel
theorem d_X10_by_185 : dec m_X10_by 185 = .ok (.putfield 56, 3) := by decide +kernel
theorem d_X10_by_188 : dec m_X10_by 188 = .ok (.aload_n 0, 1) := by decide +kernel
theorem d_X10_by_189 : dec m_X10_by 189 = .ok (.iload 7, 2) := by decide +kernel
theorem d_X10_by_191 : dec m_X10_by 191 = .ok (.ifCond .eq 8, 3) := by decide +kernel
theorem d_X10_by_194 : dec m_X10_by 194 = .ok (.iload 4, 2) := by decide +kernel
theorem d_X10_by_196 : dec m_X10_by 196 = .ok (.goto 5, 3) := by decide +kernel
theorem d_X10_by_199 : dec m_X10_by 199 = .ok (.iload 6, 2) := by decide +kernel
theorem d_X10_by_201 : dec m_X10_by 201 = .ok (.iload_n 2, 1) := by decide +kernel
theorem d_X10_by_202 : dec m_X10_by 202 = .ok (.isub, 1) := by decide +kernel
theorem d_X10_by_203 : dec m_X10_by 203 = .ok (.putfield 59, 3) := by decide +kernel
theorem d_X10_by_206 : dec m_X10_by 206 = .ok (.aload_n 0, 1) := by decide +kernel
theorem d_X10_by_207 : dec m_X10_by 207 = .ok (.areturn, 1) := by decide +kernel
theorem d_X10_doneOf_0 : dec m_X10_doneOf 0 = .ok (.iconst 0, 1) := by decide +kernel
theorem d_X10_doneOf_1 : dec m_X10_doneOf 1 = .ok (.istore_n 2, 1) := by decide +kernel
theorem d_X10_doneOf_2 : dec m_X10_doneOf 2 = .ok (.iconst 0, 1) := by decide +kernel
theorem d_X10_doneOf_3 : dec m_X10_doneOf 3 = .ok (.istore_n 3, 1) := by decide +kernel
theorem d_X10_doneOf_4 : dec m_X10_doneOf 4 = .ok (.iload_n 3, 1) := by decide +kernel
theorem d_X10_doneOf_5 : dec m_X10_doneOf 5 = .ok (.aload_n 0, 1) := by decide +kernel
theorem d_X10_doneOf_6 : dec m_X10_doneOf 6 = .ok (.getfield 53, 3) := by decide +kernel
theorem d_X10_doneOf_9 : dec m_X10_doneOf 9 = .ok (.if_icmp .ge 41, 3) := by decide +kernel
theorem d_X10_doneOf_12 : dec m_X10_doneOf 12 = .ok (.iload_n 2, 1) := by decide +kernel
theorem d_X10_doneOf_13 : dec m_X10_doneOf 13 = .ok (.aload_n 0, 1) := by decide +kernel
theorem d_X10_doneOf_14 : dec m_X10_doneOf 14 = .ok (.getfield 9, 3) := by decide +kernel
theorem d_X10_doneOf_17 : dec m_X10_doneOf 17 = .ok (.iload_n 3, 1) := by decide +kernel
theorem d_X10_doneOf_18 : dec m_X10_doneOf 18 = .ok (.aaload, 1) := by decide +kernel
theorem d_X10_doneOf_19 : dec m_X10_doneOf 19 = .ok (.iconst 0, 1) := by decide +kernel
theorem d_X10_doneOf_20 : dec m_X10_doneOf 20 = .ok (.iaload, 1) := by decide +kernel
theorem d_X10_doneOf_21 : dec m_X10_doneOf 21 = .ok (.iload_n 1, 1) := by decide +kernel
theorem d_X10_doneOf_22 : dec m_X10_doneOf 22 = .ok (.if_icmp .eq 15, 3) := by decide +kernel
theorem d_X10_doneOf_25 : dec m_X10_doneOf 25 = .ok (.aload_n 0, 1) := by decide +kernel
theorem d_X10_doneOf_26 : dec m_X10_doneOf 26 = .ok (.getfield 15, 3) := by decide +kernel
theorem d_X10_doneOf_29 : dec m_X10_doneOf 29 = .ok (.iload_n 3, 1) := by decide +kernel
theorem d_X10_doneOf_30 : dec m_X10_doneOf 30 = .ok (.aaload, 1) := by decide +kernel
theorem d_X10_doneOf_31 : dec m_X10_doneOf 31 = .ok (.iconst 0, 1) := by decide +kernel
theorem d_X10_doneOf_32 : dec m_X10_doneOf 32 = .ok (.iaload, 1) := by decide +kernel
theorem d_X10_doneOf_33 : dec m_X10_doneOf 33 = .ok (.iload_n 1, 1) := by decide +kernel
theorem d_X10_doneOf_34 : dec m_X10_doneOf 34 = .ok (.if_icmp .ne 7, 3) := by decide +kernel
theorem d_X10_doneOf_37 : dec m_X10_doneOf 37 = .ok (.iconst 1, 1) := by decide +kernel
theorem d_X10_doneOf_38 : dec m_X10_doneOf 38 = .ok (.goto 4, 3) := by decide +kernel
theorem d_X10_doneOf_41 : dec m_X10_doneOf 41 = .ok (.iconst 0, 1) := by decide +kernel
theorem d_X10_doneOf_42 : dec m_X10_doneOf 42 = .ok (.iadd, 1) := by decide +kernel
theorem d_X10_doneOf_43 : dec m_X10_doneOf 43 = .ok (.istore_n 2, 1) := by decide +kernel
theorem d_X10_doneOf_44 : dec m_X10_doneOf 44 = .ok (.iinc 3 1, 3) := by decide +kernel
theorem d_X10_doneOf_47 : dec m_X10_doneOf 47 = .ok (.goto (-43), 3) := by decide +kernel
theorem d_X10_doneOf_50 : dec m_X10_doneOf 50 = .ok (.iload_n 2, 1) := by decide +kernel
theorem d_X10_doneOf_51 : dec m_X10_doneOf 51 = .ok (.ireturn, 1) := by decide +kernel
theorem d_J0_length_8abf5_0 : dec m_J0_length_8abf5 0 = .ok (.aload_n 0, 1) := by decide +kernel
theorem d_J0_length_8abf5_1 : dec m_J0_length_8abf5 1 = .ok (.getfield 9, 3) := by decide +kernel
theorem d_J0_length_8abf5_4 : dec m_J0_length_8abf5 4 = .ok (.arraylength, 1) := by decide +kernel
theorem d_J0_length_8abf5_5 : dec m_J0_length_8abf5 5 = .ok (.aload_n 0, 1) := by decide +kernel
theorem d_J0_length_8abf5_6 : dec m_J0_length_8abf5 6 = .ok (.invokevirtual 335, 3) := by decide +kernel
theorem d_J0_length_8abf5_9 : dec m_J0_length_8abf5 9 = .ok (.ishr, 1) := by decide +kernel
theorem d_J0_length_8abf5_10 : dec m_J0_length_8abf5 10 = .ok (.ireturn, 1) := by decide +kernel
theorem d_J0_charAt_5068e_0 : dec m_J0_charAt_5068e 0 = .ok (.aload_n 0, 1) := by decide +kernel
theorem d_J0_charAt_5068e_1 : dec m_J0_charAt_5068e 1 = .ok (.invokevirtual 492, 3) := by decide +kernel
theorem d_J0_charAt_5068e_4 : dec m_J0_charAt_5068e 4 = .ok (.ifCond .eq 12, 3) := by decide +kernel
theorem d_J0_charAt_5068e_7 : dec m_J0_charAt_5068e 7 = .ok (.aload_n 0, 1) := by decide +kernel
theorem d_J0_charAt_5068e_8 : dec m_J0_charAt_5068e 8 = .ok (.getfield 9, 3) := by decide +kernel
theorem d_J0_charAt_5068e_11 : dec m_J0_charAt_5068e 11 = .ok (.iload_n 1, 1) := by decide +kernel
theorem d_J0_charAt_5068e_12 : dec m_J0_charAt_5068e 12 = .ok (.invokestatic 495, 3) := by decide +kernel
theorem d_J0_charAt_5068e_15 : dec m_J0_charAt_5068e 15 = .ok (.ireturn, 1) := by decide +kernel
theorem d_J0_charAt_5068e_16 : dec m_J0_charAt_5068e 16 = .ok (.aload_n 0, 1) := by decide +kernel
theorem d_J0_charAt_5068e_17 : dec m_J0_charAt_5068e 17 = .ok (.getfield 9, 3) := by decide +kernel
theorem d_J0_charAt_5068e_20 : dec m_J0_charAt_5068e 20 = .ok (.iload_n 1, 1) := by decide +kernel
theorem d_J0_charAt_5068e_21 : dec m_J0_charAt_5068e 21 = .ok (.invokestatic 498, 3) := by decide +kernel
theorem d_J0_charAt_5068e_24 : dec m_J0_charAt_5068e 24 = .ok (.ireturn, 1) := by decide +kernel
theorem d_J1_charAt_3b067_0 : dec m_J1_charAt_3b067 0 = .ok (.iload_n 1, 1) := by decide +kernel
theorem d_J1_charAt_3b067_1 : dec m_J1_charAt_3b067 1 = .ok (.aload_n 0, 1) := by decide +kernel
theorem d_J1_charAt_3b067_2 : dec m_J1_charAt_3b067 2 = .ok (.arraylength, 1) := by decide +kernel
theorem d_J1_charAt_3b067_3 : dec m_J1_charAt_3b067 3 = .ok (.invokestatic 9, 3) := by decide +kernel
theorem d_J1_charAt_3b067_6 : dec m_J1_charAt_3b067 6 = .ok (.aload_n 0, 1) := by decide +kernel
theorem d_J1_charAt_3b067_7 : dec m_J1_charAt_3b067 7 = .ok (.iload_n 1, 1) := by decide +kernel
theorem d_J1_charAt_3b067_8 : dec m_J1_charAt_3b067 8 = .ok (.baload, 1) := by decide +kernel
theorem d_J1_charAt_3b067_9 : dec m_J1_charAt_3b067 9 = .ok (.sipush 255, 3) := by decide +kernel
theorem d_J1_charAt_3b067_12 : dec m_J1_charAt_3b067 12 = .ok (.iand, 1) := by decide +kernel
theorem d_J1_charAt_3b067_13 : dec m_J1_charAt_3b067 13 = .ok (.i2c, 1) := by decide +kernel
theorem d_J1_charAt_3b067_14 : dec m_J1_charAt_3b067 14 = .ok (.ireturn, 1) := by decide +kernel
theorem d_J0_checkIndex_df160_0 : dec m_J0_checkIndex_df160 0 = .ok (.iload_n 0, 1) := by decide +kernel
theorem d_J0_checkIndex_df160_1 : dec m_J0_checkIndex_df160 1 = .ok (.iload_n 1, 1) := by decide +kernel
theorem d_J0_checkIndex_df160_2 : dec m_J0_checkIndex_df160 2 = .ok (.getstatic 1053, 3) := by decide +kernel
theorem d_J0_checkIndex_df160_5 : dec m_J0_checkIndex_df160 5 = .ok (.invokestatic 1059, 3) := by decide +kernel
theorem d_J0_checkIndex_df160_8 : dec m_J0_checkIndex_df160 8 = .ok (.pop, 1) := by decide +kernel
theorem d_J0_checkIndex_df160_9 : dec m_J0_checkIndex_df160 9 = .ok (.return_, 1) := by decide +kernel
theorem d_J0_coder_7d493_0 : dec m_J0_coder_7d493 0 = .ok (.getstatic 38, 3) := by decide +kernel
theorem d_J0_coder_7d493_3 : dec m_J0_coder_7d493 3 = .ok (.ifCond .eq 10, 3) := by decide +kernel
theorem d_J0_coder_7d493_6 : dec m_J0_coder_7d493 6 = .ok (.aload_n 0, 1) := by decide +kernel
theorem d_J0_coder_7d493_7 : dec m_J0_coder_7d493 7 = .ok (.getfield 15, 3) := by decide +kernel
theorem d_J0_coder_7d493_10 : dec m_J0_coder_7d493 10 = .ok (.goto 4, 3) := by decide +kernel
theorem d_J0_coder_7d493_13 : dec m_J0_coder_7d493 13 = .ok (.iconst 1, 1) := by decide +kernel
theorem d_J0_coder_7d493_14 : dec m_J0_coder_7d493 14 = .ok (.ireturn, 1) := by decide +kernel
theorem d_J0_isLatin1_aae02_0 : dec m_J0_isLatin1_aae02 0 = .ok (.getstatic 38, 3) := by decide +kernel
theorem d_J0_isLatin1_aae02_3 : dec m_J0_isLatin1_aae02 3 = .ok (.ifCond .eq 14, 3) := by decide +kernel
theorem d_J0_isLatin1_aae02_6 : dec m_J0_isLatin1_aae02 6 = .ok (.aload_n 0, 1) := by decide +kernel
theorem d_J0_isLatin1_aae02_7 : dec m_J0_isLatin1_aae02 7 = .ok (.getfield 15, 3) := by decide +kernel
theorem d_J0_isLatin1_aae02_10 : dec m_J0_isLatin1_aae02 10 = .ok (.ifCond .ne 7, 3) := by decide +kernel
theorem d_J0_isLatin1_aae02_13 : dec m_J0_isLatin1_aae02 13 = .ok (.iconst 1, 1) := by decide +kernel
theorem d_J0_isLatin1_aae02_14 : dec m_J0_isLatin1_aae02 14 = .ok (.goto 4, 3) := by decide +kernel
theorem d_J0_isLatin1_aae02_17 : dec m_J0_isLatin1_aae02 17 = .ok (.iconst 0, 1) := by decide +kernel
theorem d_J0_isLatin1_aae02_18 : dec m_J0_isLatin1_aae02 18 = .ok (.ireturn, 1) := by decide +kernel
theorem d_J3_checkIndex_8e157_0 : dec m_J3_checkIndex_8e157 0 = .ok (.iload_n 0, 1) := by decide +kernel
theorem d_J3_checkIndex_8e157_1 : dec m_J3_checkIndex_8e157 1 = .ok (.ifCond .lt 8, 3) := by decide +kernel
theorem d_J3_checkIndex_8e157_4 : dec m_J3_checkIndex_8e157 4 = .ok (.iload_n 0, 1) := by decide +kernel
theorem d_J3_checkIndex_8e157_5 : dec m_J3_checkIndex_8e157 5 = .ok (.iload_n 1, 1) := by decide +kernel
theorem d_J3_checkIndex_8e157_6 : dec m_J3_checkIndex_8e157 6 = .ok (.if_icmp .lt 10, 3) := by decide +kernel
theorem d_J3_checkIndex_8e157_9 : dec m_J3_checkIndex_8e157 9 = .ok (.aload_n 2, 1) := by decide +kernel
theorem d_J3_checkIndex_8e157_10 : dec m_J3_checkIndex_8e157 10 = .ok (.iload_n 0, 1) := by decide +kernel
theorem d_J3_checkIndex_8e157_11 : dec m_J3_checkIndex_8e157 11 = .ok (.iload_n 1, 1) := by decide +kernel
theorem d_J3_checkIndex_8e157_12 : dec m_J3_checkIndex_8e157 12 = .ok (.invokestatic 95, 3) := by decide +kernel
theorem d_J3_checkIndex_8e157_15 : dec m_J3_checkIndex_8e157 15 = .ok (.athrow, 1) := by decide +kernel
theorem d_J3_checkIndex_8e157_16 : dec m_J3_checkIndex_8e157 16 = .ok (.iload_n 0, 1) := by decide +kernel
theorem d_J3_checkIndex_8e157_17 : dec m_J3_checkIndex_8e157 17 = .ok (.ireturn, 1) := by decide +kernel
theorem d_J4_init_d00df_0 : dec m_J4_init_d00df 0 = .ok (.aload_n 0, 1) := by decide +kernel
theorem d_J4_init_d00df_1 : dec m_J4_init_d00df 1 = .ok (.iload_n 1, 1) := by decide +kernel
theorem d_J4_init_d00df_2 : dec m_J4_init_d00df 2 = .ok (.invokespecial 1, 3) := by decide +kernel
theorem d_J4_init_d00df_5 : dec m_J4_init_d00df 5 = .ok (.return_, 1) := by decide +kernel
theorem d_J5_init_d00df_0 : dec m_J5_init_d00df 0 = .ok (.aload_n 0, 1) := by decide +kernel
theorem d_J5_init_d00df_1 : dec m_J5_init_d00df 1 = .ok (.invokespecial 3, 3) := by decide +kernel
theorem d_J5_init_d00df_4 : dec m_J5_init_d00df 4 = .ok (.getstatic 18, 3) := by decide +kernel
theorem d_J5_init_d00df_7 : dec m_J5_init_d00df 7 = .ok (.ifCond .eq 18, 3) := by decide +kernel
theorem d_J5_init_d00df_10 : dec m_J5_init_d00df 10 = .ok (.aload_n 0, 1) := by decide +kernel
theorem d_J5_init_d00df_11 : dec m_J5_init_d00df 11 = .ok (.iload_n 1, 1) := by decide +kernel
theorem d_J5_init_d00df_12 : dec m_J5_init_d00df 12 = .ok (.newarray .byte, 2) := by decide +kernel
theorem d_J5_init_d00df_14 : dec m_J5_init_d00df 14 = .ok (.putfield 15, 3) := by decide +kernel
theorem d_J5_init_d00df_17 : dec m_J5_init_d00df 17 = .ok (.aload_n 0, 1) := by decide +kernel
theorem d_J5_init_d00df_18 : dec m_J5_init_d00df 18 = .ok (.iconst 0, 1) := by decide +kernel
theorem d_J5_init_d00df_19 : dec m_J5_init_d00df 19 = .ok (.putfield 22, 3) := by decide +kernel
theorem d_J5_init_d00df_22 : dec m_J5_init_d00df 22 = .ok (.goto 16, 3) := by decide +kernel
theorem d_J5_init_d00df_25 : dec m_J5_init_d00df 25 = .ok (.aload_n 0, 1) := by decide +kernel
theorem d_J5_init_d00df_26 : dec m_J5_init_d00df 26 = .ok (.iload_n 1, 1) := by decide +kernel
theorem d_J5_init_d00df_27 : dec m_J5_init_d00df 27 = .ok (.invokestatic 26, 3) := by decide +kernel
theorem d_J5_init_d00df_30 : dec m_J5_init_d00df 30 = .ok (.putfield 15, 3) := by decide +kernel
theorem d_J5_init_d00df_33 : dec m_J5_init_d00df 33 = .ok (.aload_n 0, 1) := by decide +kernel
theorem d_J5_init_d00df_34 : dec m_J5_init_d00df 34 = .ok (.iconst 1, 1) := by decide +kernel
theorem d_J5_init_d00df_35 : dec m_J5_init_d00df 35 = .ok (.putfield 22, 3) := by decide +kernel
theorem d_J5_init_d00df_38 : dec m_J5_init_d00df 38 = .ok (.return_, 1) := by decide +kernel
theorem d_J4_append_15ec4_0 : dec m_J4_append_15ec4 0 = .ok (.aload_n 0, 1) := by decide +kernel
theorem d_J4_append_15ec4_1 : dec m_J4_append_15ec4 1 = .ok (.aload_n 1, 1) := by decide +kernel
theorem d_J4_append_15ec4_2 : dec m_J4_append_15ec4 2 = .ok (.invokespecial 29, 3) := by decide +kernel
theorem d_J4_append_15ec4_5 : dec m_J4_append_15ec4 5 = .ok (.pop, 1) := by decide +kernel
theorem d_J4_append_15ec4_6 : dec m_J4_append_15ec4 6 = .ok (.aload_n 0, 1) := by decide +kernel
theorem d_J4_append_15ec4_7 : dec m_J4_append_15ec4 7 = .ok (.areturn, 1) := by decide +kernel
theorem d_J4_append_cf468_0 : dec m_J4_append_cf468 0 = .ok (.aload_n 0, 1) := by decide +kernel
theorem d_J4_append_cf468_1 : dec m_J4_append_cf468 1 = .ok (.iload_n 1, 1) := by decide +kernel
theorem d_J4_append_cf468_2 : dec m_J4_append_cf468 2 = .ok (.invokespecial 50, 3) := by decide +kernel
theorem d_J4_append_cf468_5 : dec m_J4_append_cf468 5 = .ok (.pop, 1) := by decide +kernel
theorem d_J4_append_cf468_6 : dec m_J4_append_cf468 6 = .ok (.aload_n 0, 1) := by decide +kernel
theorem d_J4_append_cf468_7 : dec m_J4_append_cf468 7 = .ok (.areturn, 1) := by decide +kernel
theorem d_J4_append_bf812_0 : dec m_J4_append_bf812 0 = .ok (.aload_n 0, 1) := by decide +kernel
theorem d_J4_append_bf812_1 : dec m_J4_append_bf812 1 = .ok (.iload_n 1, 1) := by decide +kernel
theorem d_J4_append_bf812_2 : dec m_J4_append_bf812 2 = .ok (.invokespecial 53, 3) := by decide +kernel
theorem d_J4_append_bf812_5 : dec m_J4_append_bf812 5 = .ok (.pop, 1) := by decide +kernel
theorem d_J4_append_bf812_6 : dec m_J4_append_bf812 6 = .ok (.aload_n 0, 1) := by decide +kernel
theorem d_J4_append_bf812_7 : dec m_J4_append_bf812 7 = .ok (.areturn, 1) := by decide +kernel
theorem d_J4_toString_0e30d_0 : dec m_J4_toString_0e30d 0 = .ok (.new 18, 3) := by decide +kernel
theorem d_J4_toString_0e30d_3 : dec m_J4_toString_0e30d 3 = .ok (.dup, 1) := by decide +kernel
theorem d_J4_toString_0e30d_4 : dec m_J4_toString_0e30d 4 = .ok (.aload_n 0, 1) := by decide +kernel
theorem d_J4_toString_0e30d_5 : dec m_J4_toString_0e30d 5 = .ok (.invokespecial 137, 3) := by decide +kernel
theorem d_J4_toString_0e30d_8 : dec m_J4_toString_0e30d 8 = .ok (.areturn, 1) := by decide +kernel
theorem d_J4_length_8abf5_0 : dec m_J4_length_8abf5 0 = .ok (.aload_n 0, 1) := by decide +kernel
theorem d_J4_length_8abf5_1 : dec m_J4_length_8abf5 1 = .ok (.invokespecial 343, 3) := by decide +kernel
theorem d_J4_length_8abf5_4 : dec m_J4_length_8abf5 4 = .ok (.ireturn, 1) := by decide +kernel
theorem d_J5_length_8abf5_0 : dec m_J5_length_8abf5 0 = .ok (.aload_n 0, 1) := by decide +kernel
theorem d_J5_length_8abf5_1 : dec m_J5_length_8abf5 1 = .ok (.getfield 79, 3) := by decide +kernel
theorem d_J5_length_8abf5_4 : dec m_J5_length_8abf5 4 = .ok (.ireturn, 1) := by decide +kernel
theorem d_J5_append_cf1ce_0 : dec m_J5_append_cf1ce 0 = .ok (.aload_n 1, 1) := by decide +kernel
theorem d_J5_append_cf1ce_1 : dec m_J5_append_cf1ce 1 = .ok (.ifnonnull 8, 3) := by decide +kernel
theorem d_J5_append_cf1ce_4 : dec m_J5_append_cf1ce 4 = .ok (.aload_n 0, 1) := by decide +kernel
theorem d_J5_append_cf1ce_5 : dec m_J5_append_cf1ce 5 = .ok (.invokevirtual 204, 3) := by decide +kernel
theorem d_J5_append_cf1ce_8 : dec m_J5_append_cf1ce 8 = .ok (.areturn, 1) := by decide +kernel
theorem d_J5_append_cf1ce_9 : dec m_J5_append_cf1ce 9 = .ok (.aload_n 1, 1) := by decide +kernel
theorem d_J5_append_cf1ce_10 : dec m_J5_append_cf1ce 10 = .ok (.invokevirtual 32, 3) := by decide +kernel
theorem d_J5_append_cf1ce_13 : dec m_J5_append_cf1ce 13 = .ok (.istore_n 2, 1) := by decide +kernel
theorem d_J5_append_cf1ce_14 : dec m_J5_append_cf1ce 14 = .ok (.aload_n 0, 1) := by decide +kernel
theorem d_J5_append_cf1ce_15 : dec m_J5_append_cf1ce 15 = .ok (.aload_n 0, 1) := by decide +kernel
theorem d_J5_append_cf1ce_16 : dec m_J5_append_cf1ce 16 = .ok (.getfield 79, 3) := by decide +kernel
theorem d_J5_append_cf1ce_19 : dec m_J5_append_cf1ce 19 = .ok (.iload_n 2, 1) := by decide +kernel
theorem d_J5_append_cf1ce_20 : dec m_J5_append_cf1ce 20 = .ok (.iadd, 1) := by decide +kernel
theorem d_J5_append_cf1ce_21 : dec m_J5_append_cf1ce 21 = .ok (.invokevirtual 100, 3) := by decide +kernel
theorem d_J5_append_cf1ce_24 : dec m_J5_append_cf1ce 24 = .ok (.aload_n 0, 1) := by decide +kernel
theorem d_J5_append_cf1ce_25 : dec m_J5_append_cf1ce 25 = .ok (.aload_n 0, 1) := by decide +kernel
theorem d_J5_append_cf1ce_26 : dec m_J5_append_cf1ce 26 = .ok (.getfield 79, 3) := by decide +kernel
theorem d_J5_append_cf1ce_29 : dec m_J5_append_cf1ce 29 = .ok (.aload_n 1, 1) := by decide +kernel
theorem d_J5_append_cf1ce_30 : dec m_J5_append_cf1ce 30 = .ok (.invokevirtual 208, 3) := by decide +kernel
theorem d_J5_append_cf1ce_33 : dec m_J5_append_cf1ce 33 = .ok (.aload_n 0, 1) := by decide +kernel
theorem d_J5_append_cf1ce_34 : dec m_J5_append_cf1ce 34 = .ok (.dup, 1) := by decide +kernel
theorem d_J5_append_cf1ce_35 : dec m_J5_append_cf1ce 35 = .ok (.getfield 79, 3) := by decide +kernel
theorem d_J5_append_cf1ce_38 : dec m_J5_append_cf1ce 38 = .ok (.iload_n 2, 1) := by decide +kernel
theorem d_J5_append_cf1ce_39 : dec m_J5_append_cf1ce 39 = .ok (.iadd, 1) := by decide +kernel
theorem d_J5_append_cf1ce_40 : dec m_J5_append_cf1ce 40 = .ok (.putfield 79, 3) := by decide +kernel
theorem d_J5_append_cf1ce_43 : dec m_J5_append_cf1ce 43 = .ok (.aload_n 0, 1) := by decide +kernel
theorem d_J5_append_cf1ce_44 : dec m_J5_append_cf1ce 44 = .ok (.areturn, 1) := by decide +kernel
theorem d_J5_append_3fe6f_0 : dec m_J5_append_3fe6f 0 = .ok (.aload_n 0, 1) := by decide +kernel
theorem d_J5_append_3fe6f_1 : dec m_J5_append_3fe6f 1 = .ok (.aload_n 0, 1) := by decide +kernel
theorem d_J5_append_3fe6f_2 : dec m_J5_append_3fe6f 2 = .ok (.getfield 79, 3) := by decide +kernel
theorem d_J5_append_3fe6f_5 : dec m_J5_append_3fe6f 5 = .ok (.iconst 1, 1) := by decide +kernel
theorem d_J5_append_3fe6f_6 : dec m_J5_append_3fe6f 6 = .ok (.iadd, 1) := by decide +kernel
theorem d_J5_append_3fe6f_7 : dec m_J5_append_3fe6f 7 = .ok (.invokevirtual 100, 3) := by decide +kernel
theorem d_J5_append_3fe6f_10 : dec m_J5_append_3fe6f 10 = .ok (.aload_n 0, 1) := by decide +kernel
theorem d_J5_append_3fe6f_11 : dec m_J5_append_3fe6f 11 = .ok (.invokevirtual 83, 3) := by decide +kernel
theorem d_J5_append_3fe6f_14 : dec m_J5_append_3fe6f 14 = .ok (.ifCond .eq 31, 3) := by decide +kernel
theorem d_J5_append_3fe6f_17 : dec m_J5_append_3fe6f 17 = .ok (.iload_n 1, 1) := by decide +kernel
theorem d_J5_append_3fe6f_18 : dec m_J5_append_3fe6f 18 = .ok (.invokestatic 191, 3) := by decide +kernel
theorem d_J5_append_3fe6f_21 : dec m_J5_append_3fe6f 21 = .ok (.ifCond .eq 24, 3) := by decide +kernel
theorem d_J5_append_3fe6f_24 : dec m_J5_append_3fe6f 24 = .ok (.aload_n 0, 1) := by decide +kernel
theorem d_J5_append_3fe6f_25 : dec m_J5_append_3fe6f 25 = .ok (.getfield 15, 3) := by decide +kernel
theorem d_J5_append_3fe6f_28 : dec m_J5_append_3fe6f 28 = .ok (.aload_n 0, 1) := by decide +kernel
theorem d_J5_append_3fe6f_29 : dec m_J5_append_3fe6f 29 = .ok (.dup, 1) := by decide +kernel
theorem d_J5_append_3fe6f_30 : dec m_J5_append_3fe6f 30 = .ok (.getfield 79, 3) := by decide +kernel
theorem d_J5_append_3fe6f_33 : dec m_J5_append_3fe6f 33 = .ok (.dup_x1, 1) := by decide +kernel
theorem d_J5_append_3fe6f_34 : dec m_J5_append_3fe6f 34 = .ok (.iconst 1, 1) := by decide +kernel
theorem d_J5_append_3fe6f_35 : dec m_J5_append_3fe6f 35 = .ok (.iadd, 1) := by decide +kernel
theorem d_J5_append_3fe6f_36 : dec m_J5_append_3fe6f 36 = .ok (.putfield 79, 3) := by decide +kernel
theorem d_J5_append_3fe6f_39 : dec m_J5_append_3fe6f 39 = .ok (.iload_n 1, 1) := by decide +kernel
theorem d_J5_append_3fe6f_40 : dec m_J5_append_3fe6f 40 = .ok (.i2b, 1) := by decide +kernel
theorem d_J5_append_3fe6f_41 : dec m_J5_append_3fe6f 41 = .ok (.bastore, 1) := by decide +kernel
theorem d_J5_append_3fe6f_42 : dec m_J5_append_3fe6f 42 = .ok (.goto 33, 3) := by decide +kernel
theorem d_J5_append_3fe6f_45 : dec m_J5_append_3fe6f 45 = .ok (.aload_n 0, 1) := by decide +kernel
theorem d_J5_append_3fe6f_46 : dec m_J5_append_3fe6f 46 = .ok (.invokevirtual 83, 3) := by decide +kernel
theorem d_J5_append_3fe6f_49 : dec m_J5_append_3fe6f 49 = .ok (.ifCond .eq 7, 3) := by decide +kernel
theorem d_J5_append_3fe6f_52 : dec m_J5_append_3fe6f 52 = .ok (.aload_n 0, 1) := by decide +kernel
theorem d_J5_append_3fe6f_53 : dec m_J5_append_3fe6f 53 = .ok (.invokevirtual 195, 3) := by decide +kernel
theorem d_J5_append_3fe6f_56 : dec m_J5_append_3fe6f 56 = .ok (.aload_n 0, 1) := by decide +kernel
theorem d_J5_append_3fe6f_57 : dec m_J5_append_3fe6f 57 = .ok (.getfield 15, 3) := by decide +kernel
theorem d_J5_append_3fe6f_60 : dec m_J5_append_3fe6f 60 = .ok (.aload_n 0, 1) := by decide +kernel
theorem d_J5_append_3fe6f_61 : dec m_J5_append_3fe6f 61 = .ok (.dup, 1) := by decide +kernel
theorem d_J5_append_3fe6f_62 : dec m_J5_append_3fe6f 62 = .ok (.getfield 79, 3) := by decide +kernel
theorem d_J5_append_3fe6f_65 : dec m_J5_append_3fe6f 65 = .ok (.dup_x1, 1) := by decide +kernel
theorem d_J5_append_3fe6f_66 : dec m_J5_append_3fe6f 66 = .ok (.iconst 1, 1) := by decide +kernel
theorem d_J5_append_3fe6f_67 : dec m_J5_append_3fe6f 67 = .ok (.iadd, 1) := by decide +kernel
theorem d_J5_append_3fe6f_68 : dec m_J5_append_3fe6f 68 = .ok (.putfield 79, 3) := by decide +kernel
theorem d_J5_append_3fe6f_71 : dec m_J5_append_3fe6f 71 = .ok (.iload_n 1, 1) := by decide +kernel
theorem d_J5_append_3fe6f_72 : dec m_J5_append_3fe6f 72 = .ok (.invokestatic 197, 3) := by decide +kernel
theorem d_J5_append_3fe6f_75 : dec m_J5_append_3fe6f 75 = .ok (.aload_n 0, 1) := by decide +kernel
theorem d_J5_append_3fe6f_76 : dec m_J5_append_3fe6f 76 = .ok (.areturn, 1) := by decide +kernel
theorem d_J5_append_c97b9_0 : dec m_J5_append_c97b9 0 = .ok (.aload_n 0, 1) := by decide +kernel
theorem d_J5_append_c97b9_1 : dec m_J5_append_c97b9 1 = .ok (.getfield 79, 3) := by decide +kernel
theorem d_J5_append_c97b9_4 : dec m_J5_append_c97b9 4 = .ok (.istore_n 2, 1) := by decide +kernel
theorem d_J5_append_c97b9_5 : dec m_J5_append_c97b9 5 = .ok (.iload_n 2, 1) := by decide +kernel
theorem d_J5_append_c97b9_6 : dec m_J5_append_c97b9 6 = .ok (.iload_n 1, 1) := by decide +kernel
theorem d_J5_append_c97b9_7 : dec m_J5_append_c97b9 7 = .ok (.invokestatic 245, 3) := by decide +kernel
theorem d_J5_append_c97b9_10 : dec m_J5_append_c97b9 10 = .ok (.iadd, 1) := by decide +kernel
theorem d_J5_append_c97b9_11 : dec m_J5_append_c97b9 11 = .ok (.istore_n 3, 1) := by decide +kernel
theorem d_J5_append_c97b9_12 : dec m_J5_append_c97b9 12 = .ok (.aload_n 0, 1) := by decide +kernel
theorem d_J5_append_c97b9_13 : dec m_J5_append_c97b9 13 = .ok (.iload_n 3, 1) := by decide +kernel
theorem d_J5_append_c97b9_14 : dec m_J5_append_c97b9 14 = .ok (.invokevirtual 100, 3) := by decide +kernel
theorem d_J5_append_c97b9_17 : dec m_J5_append_c97b9 17 = .ok (.aload_n 0, 1) := by decide +kernel
theorem d_J5_append_c97b9_18 : dec m_J5_append_c97b9 18 = .ok (.invokevirtual 83, 3) := by decide +kernel
theorem d_J5_append_c97b9_21 : dec m_J5_append_c97b9 21 = .ok (.ifCond .eq 16, 3) := by decide +kernel
theorem d_J5_append_c97b9_24 : dec m_J5_append_c97b9 24 = .ok (.iload_n 1, 1) := by decide +kernel
theorem d_J5_append_c97b9_25 : dec m_J5_append_c97b9 25 = .ok (.iload_n 3, 1) := by decide +kernel
theorem d_J5_append_c97b9_26 : dec m_J5_append_c97b9 26 = .ok (.aload_n 0, 1) := by decide +kernel
theorem d_J5_append_c97b9_27 : dec m_J5_append_c97b9 27 = .ok (.getfield 15, 3) := by decide +kernel
theorem d_J5_append_c97b9_30 : dec m_J5_append_c97b9 30 = .ok (.invokestatic 248, 3) := by decide +kernel
theorem d_J5_append_c97b9_33 : dec m_J5_append_c97b9 33 = .ok (.pop, 1) := by decide +kernel
theorem d_J5_append_c97b9_34 : dec m_J5_append_c97b9 34 = .ok (.goto 14, 3) := by decide +kernel
theorem d_J5_append_c97b9_37 : dec m_J5_append_c97b9 37 = .ok (.iload_n 1, 1) := by decide +kernel
theorem d_J5_append_c97b9_38 : dec m_J5_append_c97b9 38 = .ok (.iload_n 2, 1) := by decide +kernel
theorem d_J5_append_c97b9_39 : dec m_J5_append_c97b9 39 = .ok (.iload_n 3, 1) := by decide +kernel
theorem d_J5_append_c97b9_40 : dec m_J5_append_c97b9 40 = .ok (.aload_n 0, 1) := by decide +kernel
theorem d_J5_append_c97b9_41 : dec m_J5_append_c97b9 41 = .ok (.getfield 15, 3) := by decide +kernel
theorem d_J5_append_c97b9_44 : dec m_J5_append_c97b9 44 = .ok (.invokestatic 251, 3) := by decide +kernel
theorem d_J5_append_c97b9_47 : dec m_J5_append_c97b9 47 = .ok (.pop, 1) := by decide +kernel
theorem d_J5_append_c97b9_48 : dec m_J5_append_c97b9 48 = .ok (.aload_n 0, 1) := by decide +kernel
theorem d_J5_append_c97b9_49 : dec m_J5_append_c97b9 49 = .ok (.iload_n 3, 1) := by decide +kernel
theorem d_J5_append_c97b9_50 : dec m_J5_append_c97b9 50 = .ok (.putfield 79, 3) := by decide +kernel
theorem d_J5_append_c97b9_53 : dec m_J5_append_c97b9 53 = .ok (.aload_n 0, 1) := by decide +kernel
theorem d_J5_append_c97b9_54 : dec m_J5_append_c97b9 54 = .ok (.areturn, 1) := by decide +kernel
theorem d_J5_ensureCapacityInternal_d00df_0 : dec m_J5_ensureCapacityInternal_d00df 0 = .ok (.aload_n 0, 1) := by decide +kernel
theorem d_J5_ensureCapacityInternal_d00df_1 : dec m_J5_ensureCapacityInternal_d00df 1 = .ok (.getfield 15, 3) := by decide +kernel
theorem d_J5_ensureCapacityInternal_d00df_4 : dec m_J5_ensureCapacityInternal_d00df 4 = .ok (.arraylength, 1) := by decide +kernel
theorem d_J5_ensureCapacityInternal_d00df_5 : dec m_J5_ensureCapacityInternal_d00df 5 = .ok (.aload_n 0, 1) := by decide +kernel
theorem d_J5_ensureCapacityInternal_d00df_6 : dec m_J5_ensureCapacityInternal_d00df 6 = .ok (.getfield 22, 3) := by decide +kernel
theorem d_J5_ensureCapacityInternal_d00df_9 : dec m_J5_ensureCapacityInternal_d00df 9 = .ok (.ishr, 1) := by decide +kernel
theorem d_J5_ensureCapacityInternal_d00df_10 : dec m_J5_ensureCapacityInternal_d00df 10 = .ok (.istore_n 2, 1) := by decide +kernel
theorem d_J5_ensureCapacityInternal_d00df_11 : dec m_J5_ensureCapacityInternal_d00df 11 = .ok (.iload_n 1, 1) := by decide +kernel
theorem d_J5_ensureCapacityInternal_d00df_12 : dec m_J5_ensureCapacityInternal_d00df 12 = .ok (.iload_n 2, 1) := by decide +kernel
theorem d_J5_ensureCapacityInternal_d00df_13 : dec m_J5_ensureCapacityInternal_d00df 13 = .ok (.isub, 1) := by decide +kernel
theorem d_J5_ensureCapacityInternal_d00df_14 : dec m_J5_ensureCapacityInternal_d00df 14 = .ok (.ifCond .le 24, 3) := by decide +kernel
theorem d_J5_ensureCapacityInternal_d00df_17 : dec m_J5_ensureCapacityInternal_d00df 17 = .ok (.aload_n 0, 1) := by decide +kernel
theorem d_J5_ensureCapacityInternal_d00df_18 : dec m_J5_ensureCapacityInternal_d00df 18 = .ok (.aload_n 0, 1) := by decide +kernel
theorem d_J5_ensureCapacityInternal_d00df_19 : dec m_J5_ensureCapacityInternal_d00df 19 = .ok (.getfield 15, 3) := by decide +kernel
theorem d_J5_ensureCapacityInternal_d00df_22 : dec m_J5_ensureCapacityInternal_d00df 22 = .ok (.aload_n 0, 1) := by decide +kernel
theorem d_J5_ensureCapacityInternal_d00df_23 : dec m_J5_ensureCapacityInternal_d00df 23 = .ok (.iload_n 1, 1) := by decide +kernel
theorem d_J5_ensureCapacityInternal_d00df_24 : dec m_J5_ensureCapacityInternal_d00df 24 = .ok (.invokevirtual 104, 3) := by decide +kernel
theorem d_J5_ensureCapacityInternal_d00df_27 : dec m_J5_ensureCapacityInternal_d00df 27 = .ok (.aload_n 0, 1) := by decide +kernel
theorem d_J5_ensureCapacityInternal_d00df_28 : dec m_J5_ensureCapacityInternal_d00df 28 = .ok (.getfield 22, 3) := by decide +kernel
theorem d_J5_ensureCapacityInternal_d00df_31 : dec m_J5_ensureCapacityInternal_d00df 31 = .ok (.ishl, 1) := by decide +kernel
theorem d_J5_ensureCapacityInternal_d00df_32 : dec m_J5_ensureCapacityInternal_d00df 32 = .ok (.invokestatic 108, 3) := by decide +kernel
theorem d_J5_ensureCapacityInternal_d00df_35 : dec m_J5_ensureCapacityInternal_d00df 35 = .ok (.putfield 15, 3) := by decide +kernel
theorem d_J5_ensureCapacityInternal_d00df_38 : dec m_J5_ensureCapacityInternal_d00df 38 = .ok (.return_, 1) := by decide +kernel
theorem d_J5_getValue_6d5f1_0 : dec m_J5_getValue_6d5f1 0 = .ok (.aload_n 0, 1) := by decide +kernel
theorem d_J5_getValue_6d5f1_1 : dec m_J5_getValue_6d5f1 1 = .ok (.getfield 15, 3) := by decide +kernel
theorem d_J5_getValue_6d5f1_4 : dec m_J5_getValue_6d5f1 4 = .ok (.areturn, 1) := by decide +kernel
theorem d_J5_isLatin1_aae02_0 : dec m_J5_isLatin1_aae02 0 = .ok (.getstatic 18, 3) := by decide +kernel
theorem d_J5_isLatin1_aae02_3 : dec m_J5_isLatin1_aae02 3 = .ok (.ifCond .eq 14, 3) := by decide +kernel
theorem d_J5_isLatin1_aae02_6 : dec m_J5_isLatin1_aae02 6 = .ok (.aload_n 0, 1) := by decide +kernel
theorem d_J5_isLatin1_aae02_7 : dec m_J5_isLatin1_aae02 7 = .ok (.getfield 22, 3) := by decide +kernel
theorem d_J5_isLatin1_aae02_10 : dec m_J5_isLatin1_aae02 10 = .ok (.ifCond .ne 7, 3) := by decide +kernel
theorem d_J5_isLatin1_aae02_13 : dec m_J5_isLatin1_aae02 13 = .ok (.iconst 1, 1) := by decide +kernel
theorem d_J5_isLatin1_aae02_14 : dec m_J5_isLatin1_aae02 14 = .ok (.goto 4, 3) := by decide +kernel
theorem d_J5_isLatin1_aae02_17 : dec m_J5_isLatin1_aae02 17 = .ok (.iconst 0, 1) := by decide +kernel
theorem d_J5_isLatin1_aae02_18 : dec m_J5_isLatin1_aae02 18 = .ok (.ireturn, 1) := by decide +kernel
theorem d_J5_inflateIfNeededFor_a7421_0 : dec m_J5_inflateIfNeededFor_a7421 0 = .ok (.getstatic 18, 3) := by decide +kernel
theorem d_J5_inflateIfNeededFor_a7421_3 : dec m_J5_inflateIfNeededFor_a7421 3 = .ok (.ifCond .eq 18, 3) := by decide +kernel
theorem d_J5_inflateIfNeededFor_a7421_6 : dec m_J5_inflateIfNeededFor_a7421 6 = .ok (.aload_n 0, 1) := by decide +kernel
theorem d_J5_inflateIfNeededFor_a7421_7 : dec m_J5_inflateIfNeededFor_a7421 7 = .ok (.getfield 22, 3) := by decide +kernel
theorem d_J5_inflateIfNeededFor_a7421_10 : dec m_J5_inflateIfNeededFor_a7421 10 = .ok (.aload_n 1, 1) := by decide +kernel
theorem d_J5_inflateIfNeededFor_a7421_11 : dec m_J5_inflateIfNeededFor_a7421 11 = .ok (.invokevirtual 40, 3) := by decide +kernel
theorem d_J5_inflateIfNeededFor_a7421_14 : dec m_J5_inflateIfNeededFor_a7421 14 = .ok (.if_icmp .eq 7, 3) := by decide +kernel
theorem d_J5_inflateIfNeededFor_a7421_17 : dec m_J5_inflateIfNeededFor_a7421 17 = .ok (.aload_n 0, 1) := by decide +kernel
theorem d_J5_inflateIfNeededFor_a7421_18 : dec m_J5_inflateIfNeededFor_a7421 18 = .ok (.invokevirtual 195, 3) := by decide +kernel
theorem d_J5_inflateIfNeededFor_a7421_21 : dec m_J5_inflateIfNeededFor_a7421 21 = .ok (.return_, 1) := by decide +kernel
theorem d_J5_putStringAt_47b60_0 : dec m_J5_putStringAt_47b60 0 = .ok (.aload_n 0, 1) := by decide +kernel
theorem d_J5_putStringAt_47b60_1 : dec m_J5_putStringAt_47b60 1 = .ok (.aload_n 2, 1) := by decide +kernel
theorem d_J5_putStringAt_47b60_2 : dec m_J5_putStringAt_47b60 2 = .ok (.invokevirtual 397, 3) := by decide +kernel
theorem d_J5_putStringAt_47b60_5 : dec m_J5_putStringAt_47b60 5 = .ok (.aload_n 2, 1) := by decide +kernel
theorem d_J5_putStringAt_47b60_6 : dec m_J5_putStringAt_47b60 6 = .ok (.aload_n 0, 1) := by decide +kernel
theorem d_J5_putStringAt_47b60_7 : dec m_J5_putStringAt_47b60 7 = .ok (.getfield 15, 3) := by decide +kernel
theorem d_J5_putStringAt_47b60_10 : dec m_J5_putStringAt_47b60 10 = .ok (.iload_n 1, 1) := by decide +kernel
theorem d_J5_putStringAt_47b60_11 : dec m_J5_putStringAt_47b60 11 = .ok (.aload_n 0, 1) := by decide +kernel
theorem d_J5_putStringAt_47b60_12 : dec m_J5_putStringAt_47b60 12 = .ok (.getfield 22, 3) := by decide +kernel
theorem d_J5_putStringAt_47b60_15 : dec m_J5_putStringAt_47b60 15 = .ok (.invokevirtual 399, 3) := by decide +kernel
theorem d_J5_putStringAt_47b60_18 : dec m_J5_putStringAt_47b60 18 = .ok (.return_, 1) := by decide +kernel
theorem d_J6_getChars_ba4f3_0 : dec m_J6_getChars_ba4f3 0 = .ok (.iload_n 1, 1) := by decide +kernel
theorem d_J6_getChars_ba4f3_1 : dec m_J6_getChars_ba4f3 1 = .ok (.istore 5, 2) := by decide +kernel
theorem d_J6_getChars_ba4f3_3 : dec m_J6_getChars_ba4f3 3 = .ok (.iload_n 0, 1) := by decide +kernel
theorem d_J6_getChars_ba4f3_4 : dec m_J6_getChars_ba4f3 4 = .ok (.ifCond .ge 7, 3) := by decide +kernel
theorem d_J6_getChars_ba4f3_7 : dec m_J6_getChars_ba4f3 7 = .ok (.iconst 1, 1) := by decide +kernel
theorem d_J6_getChars_ba4f3_8 : dec m_J6_getChars_ba4f3 8 = .ok (.goto 4, 3) := by decide +kernel
theorem d_J6_getChars_ba4f3_11 : dec m_J6_getChars_ba4f3 11 = .ok (.iconst 0, 1) := by decide +kernel
theorem d_J6_getChars_ba4f3_12 : dec m_J6_getChars_ba4f3 12 = .ok (.istore 6, 2) := by decide +kernel
theorem d_J6_getChars_ba4f3_14 : dec m_J6_getChars_ba4f3 14 = .ok (.iload 6, 2) := by decide +kernel
theorem d_J6_getChars_ba4f3_16 : dec m_J6_getChars_ba4f3 16 = .ok (.ifCond .ne 6, 3) := by decide +kernel
theorem d_J6_getChars_ba4f3_19 : dec m_J6_getChars_ba4f3 19 = .ok (.iload_n 0, 1) := by decide +kernel
theorem d_J6_getChars_ba4f3_20 : dec m_J6_getChars_ba4f3 20 = .ok (.ineg, 1) := by decide +kernel
theorem d_J6_getChars_ba4f3_21 : dec m_J6_getChars_ba4f3 21 = .ok (.istore_n 0, 1) := by decide +kernel
theorem d_J6_getChars_ba4f3_22 : dec m_J6_getChars_ba4f3 22 = .ok (.iload_n 0, 1) := by decide +kernel
theorem d_J6_getChars_ba4f3_23 : dec m_J6_getChars_ba4f3 23 = .ok (.bipush (-100), 2) := by decide +kernel
theorem d_J6_getChars_ba4f3_25 : dec m_J6_getChars_ba4f3 25 = .ok (.if_icmp .gt 47, 3) := by decide +kernel
theorem d_J6_getChars_ba4f3_28 : dec m_J6_getChars_ba4f3 28 = .ok (.iload_n 0, 1) := by decide +kernel
theorem d_J6_getChars_ba4f3_29 : dec m_J6_getChars_ba4f3 29 = .ok (.bipush 100, 2) := by decide +kernel
theorem d_J6_getChars_ba4f3_31 : dec m_J6_getChars_ba4f3 31 = .ok (.idiv, 1) := by decide +kernel
theorem d_J6_getChars_ba4f3_32 : dec m_J6_getChars_ba4f3 32 = .ok (.istore_n 3, 1) := by decide +kernel
theorem d_J6_getChars_ba4f3_33 : dec m_J6_getChars_ba4f3 33 = .ok (.iload_n 3, 1) := by decide +kernel
theorem d_J6_getChars_ba4f3_34 : dec m_J6_getChars_ba4f3 34 = .ok (.bipush 100, 2) := by decide +kernel
theorem d_J6_getChars_ba4f3_36 : dec m_J6_getChars_ba4f3 36 = .ok (.imul, 1) := by decide +kernel
theorem d_J6_getChars_ba4f3_37 : dec m_J6_getChars_ba4f3 37 = .ok (.iload_n 0, 1) := by decide +kernel
theorem d_J6_getChars_ba4f3_38 : dec m_J6_getChars_ba4f3 38 = .ok (.isub, 1) := by decide +kernel
theorem d_J6_getChars_ba4f3_39 : dec m_J6_getChars_ba4f3 39 = .ok (.istore 4, 2) := by decide +kernel
theorem d_J6_getChars_ba4f3_41 : dec m_J6_getChars_ba4f3 41 = .ok (.iload_n 3, 1) := by decide +kernel
theorem d_J6_getChars_ba4f3_42 : dec m_J6_getChars_ba4f3 42 = .ok (.istore_n 0, 1) := by decide +kernel
theorem d_J6_getChars_ba4f3_43 : dec m_J6_getChars_ba4f3 43 = .ok (.aload_n 2, 1) := by decide +kernel
theorem d_J6_getChars_ba4f3_44 : dec m_J6_getChars_ba4f3 44 = .ok (.iinc 5 (-1), 3) := by decide +kernel
theorem d_J6_getChars_ba4f3_47 : dec m_J6_getChars_ba4f3 47 = .ok (.iload 5, 2) := by decide +kernel
theorem d_J6_getChars_ba4f3_49 : dec m_J6_getChars_ba4f3 49 = .ok (.getstatic 83, 3) := by decide +kernel
theorem d_J6_getChars_ba4f3_52 : dec m_J6_getChars_ba4f3 52 = .ok (.iload 4, 2) := by decide +kernel
theorem d_J6_getChars_ba4f3_54 : dec m_J6_getChars_ba4f3 54 = .ok (.baload, 1) := by decide +kernel
theorem d_J6_getChars_ba4f3_55 : dec m_J6_getChars_ba4f3 55 = .ok (.bastore, 1) := by decide +kernel
theorem d_J6_getChars_ba4f3_56 : dec m_J6_getChars_ba4f3 56 = .ok (.aload_n 2, 1) := by decide +kernel
theorem d_J6_getChars_ba4f3_57 : dec m_J6_getChars_ba4f3 57 = .ok (.iinc 5 (-1), 3) := by decide +kernel
theorem d_J6_getChars_ba4f3_60 : dec m_J6_getChars_ba4f3 60 = .ok (.iload 5, 2) := by decide +kernel
theorem d_J6_getChars_ba4f3_62 : dec m_J6_getChars_ba4f3 62 = .ok (.getstatic 87, 3) := by decide +kernel
theorem d_J6_getChars_ba4f3_65 : dec m_J6_getChars_ba4f3 65 = .ok (.iload 4, 2) := by decide +kernel
theorem d_J6_getChars_ba4f3_67 : dec m_J6_getChars_ba4f3 67 = .ok (.baload, 1) := by decide +kernel
theorem d_J6_getChars_ba4f3_68 : dec m_J6_getChars_ba4f3 68 = .ok (.bastore, 1) := by decide +kernel
theorem d_J6_getChars_ba4f3_69 : dec m_J6_getChars_ba4f3 69 = .ok (.goto (-47), 3) := by decide +kernel
theorem d_J6_getChars_ba4f3_72 : dec m_J6_getChars_ba4f3 72 = .ok (.aload_n 2, 1) := by decide +kernel
theorem d_J6_getChars_ba4f3_73 : dec m_J6_getChars_ba4f3 73 = .ok (.iinc 5 (-1), 3) := by decide +kernel
theorem d_J6_getChars_ba4f3_76 : dec m_J6_getChars_ba4f3 76 = .ok (.iload 5, 2) := by decide +kernel
theorem d_J6_getChars_ba4f3_78 : dec m_J6_getChars_ba4f3 78 = .ok (.getstatic 83, 3) := by decide +kernel
theorem d_J6_getChars_ba4f3_81 : dec m_J6_getChars_ba4f3 81 = .ok (.iload_n 0, 1) := by decide +kernel
theorem d_J6_getChars_ba4f3_82 : dec m_J6_getChars_ba4f3 82 = .ok (.ineg, 1) := by decide +kernel
theorem d_J6_getChars_ba4f3_83 : dec m_J6_getChars_ba4f3 83 = .ok (.baload, 1) := by decide +kernel
theorem d_J6_getChars_ba4f3_84 : dec m_J6_getChars_ba4f3 84 = .ok (.bastore, 1) := by decide +kernel
theorem d_J6_getChars_ba4f3_85 : dec m_J6_getChars_ba4f3 85 = .ok (.iload_n 0, 1) := by decide +kernel
theorem d_J6_getChars_ba4f3_86 : dec m_J6_getChars_ba4f3 86 = .ok (.bipush (-9), 2) := by decide +kernel
theorem d_J6_getChars_ba4f3_88 : dec m_J6_getChars_ba4f3 88 = .ok (.if_icmp .ge 16, 3) := by decide +kernel
theorem d_J6_getChars_ba4f3_91 : dec m_J6_getChars_ba4f3 91 = .ok (.aload_n 2, 1) := by decide +kernel
theorem d_J6_getChars_ba4f3_92 : dec m_J6_getChars_ba4f3 92 = .ok (.iinc 5 (-1), 3) := by decide +kernel
theorem d_J6_getChars_ba4f3_95 : dec m_J6_getChars_ba4f3 95 = .ok (.iload 5, 2) := by decide +kernel
theorem d_J6_getChars_ba4f3_97 : dec m_J6_getChars_ba4f3 97 = .ok (.getstatic 87, 3) := by decide +kernel
theorem d_J6_getChars_ba4f3_100 : dec m_J6_getChars_ba4f3 100 = .ok (.iload_n 0, 1) := by decide +kernel
theorem d_J6_getChars_ba4f3_101 : dec m_J6_getChars_ba4f3 101 = .ok (.ineg, 1) := by decide +kernel
theorem d_J6_getChars_ba4f3_102 : dec m_J6_getChars_ba4f3 102 = .ok (.baload, 1) := by decide +kernel
theorem d_J6_getChars_ba4f3_103 : dec m_J6_getChars_ba4f3 103 = .ok (.bastore, 1) := by decide +kernel
theorem d_J6_getChars_ba4f3_104 : dec m_J6_getChars_ba4f3 104 = .ok (.iload 6, 2) := by decide +kernel
theorem d_J6_getChars_ba4f3_106 : dec m_J6_getChars_ba4f3 106 = .ok (.ifCond .eq 12, 3) := by decide +kernel
theorem d_J6_getChars_ba4f3_109 : dec m_J6_getChars_ba4f3 109 = .ok (.aload_n 2, 1) := by decide +kernel
theorem d_J6_getChars_ba4f3_110 : dec m_J6_getChars_ba4f3 110 = .ok (.iinc 5 (-1), 3) := by decide +kernel
theorem d_J6_getChars_ba4f3_113 : dec m_J6_getChars_ba4f3 113 = .ok (.iload 5, 2) := by decide +kernel
theorem d_J6_getChars_ba4f3_115 : dec m_J6_getChars_ba4f3 115 = .ok (.bipush 45, 2) := by decide +kernel
theorem d_J6_getChars_ba4f3_117 : dec m_J6_getChars_ba4f3 117 = .ok (.bastore, 1) := by decide +kernel
theorem d_J6_getChars_ba4f3_118 : dec m_J6_getChars_ba4f3 118 = .ok (.iload 5, 2) := by decide +kernel
theorem d_J6_getChars_ba4f3_120 : dec m_J6_getChars_ba4f3 120 = .ok (.ireturn, 1) := by decide +kernel
theorem d_J6_stringSize_0f7a4_0 : dec m_J6_stringSize_0f7a4 0 = .ok (.iconst 1, 1) := by decide +kernel
theorem d_J6_stringSize_0f7a4_1 : dec m_J6_stringSize_0f7a4 1 = .ok (.istore_n 1, 1) := by decide +kernel
theorem d_J6_stringSize_0f7a4_2 : dec m_J6_stringSize_0f7a4 2 = .ok (.iload_n 0, 1) := by decide +kernel
theorem d_J6_stringSize_0f7a4_3 : dec m_J6_stringSize_0f7a4 3 = .ok (.ifCond .lt 8, 3) := by decide +kernel
theorem d_J6_stringSize_0f7a4_6 : dec m_J6_stringSize_0f7a4 6 = .ok (.iconst 0, 1) := by decide +kernel
theorem d_J6_stringSize_0f7a4_7 : dec m_J6_stringSize_0f7a4 7 = .ok (.istore_n 1, 1) := by decide +kernel
theorem d_J6_stringSize_0f7a4_8 : dec m_J6_stringSize_0f7a4 8 = .ok (.iload_n 0, 1) := by decide +kernel
theorem d_J6_stringSize_0f7a4_9 : dec m_J6_stringSize_0f7a4 9 = .ok (.ineg, 1) := by decide +kernel
theorem d_J6_stringSize_0f7a4_10 : dec m_J6_stringSize_0f7a4 10 = .ok (.istore_n 0, 1) := by decide +kernel
theorem d_J6_stringSize_0f7a4_11 : dec m_J6_stringSize_0f7a4 11 = .ok (.bipush (-10), 2) := by decide +kernel
theorem d_J6_stringSize_0f7a4_13 : dec m_J6_stringSize_0f7a4 13 = .ok (.istore_n 2, 1) := by decide +kernel
theorem d_J6_stringSize_0f7a4_14 : dec m_J6_stringSize_0f7a4 14 = .ok (.iconst 1, 1) := by decide +kernel
theorem d_J6_stringSize_0f7a4_15 : dec m_J6_stringSize_0f7a4 15 = .ok (.istore_n 3, 1) := by decide +kernel
theorem d_J6_stringSize_0f7a4_16 : dec m_J6_stringSize_0f7a4 16 = .ok (.iload_n 3, 1) := by decide +kernel
theorem d_J6_stringSize_0f7a4_17 : dec m_J6_stringSize_0f7a4 17 = .ok (.bipush 10, 2) := by decide +kernel
theorem d_J6_stringSize_0f7a4_19 : dec m_J6_stringSize_0f7a4 19 = .ok (.if_icmp .ge 23, 3) := by decide +kernel
theorem d_J6_stringSize_0f7a4_22 : dec m_J6_stringSize_0f7a4 22 = .ok (.iload_n 0, 1) := by decide +kernel
theorem d_J6_stringSize_0f7a4_23 : dec m_J6_stringSize_0f7a4 23 = .ok (.iload_n 2, 1) := by decide +kernel
theorem d_J6_stringSize_0f7a4_24 : dec m_J6_stringSize_0f7a4 24 = .ok (.if_icmp .le 7, 3) := by decide +kernel
theorem d_J6_stringSize_0f7a4_27 : dec m_J6_stringSize_0f7a4 27 = .ok (.iload_n 3, 1) := by decide +kernel
theorem d_J6_stringSize_0f7a4_28 : dec m_J6_stringSize_0f7a4 28 = .ok (.iload_n 1, 1) := by decide +kernel
theorem d_J6_stringSize_0f7a4_29 : dec m_J6_stringSize_0f7a4 29 = .ok (.iadd, 1) := by decide +kernel
theorem d_J6_stringSize_0f7a4_30 : dec m_J6_stringSize_0f7a4 30 = .ok (.ireturn, 1) := by decide +kernel
theorem d_J6_stringSize_0f7a4_31 : dec m_J6_stringSize_0f7a4 31 = .ok (.bipush 10, 2) := by decide +kernel
theorem d_J6_stringSize_0f7a4_33 : dec m_J6_stringSize_0f7a4 33 = .ok (.iload_n 2, 1) := by decide +kernel
theorem d_J6_stringSize_0f7a4_34 : dec m_J6_stringSize_0f7a4 34 = .ok (.imul, 1) := by decide +kernel
theorem d_J6_stringSize_0f7a4_35 : dec m_J6_stringSize_0f7a4 35 = .ok (.istore_n 2, 1) := by decide +kernel
theorem d_J6_stringSize_0f7a4_36 : dec m_J6_stringSize_0f7a4 36 = .ok (.iinc 3 1, 3) := by decide +kernel
theorem d_J6_stringSize_0f7a4_39 : dec m_J6_stringSize_0f7a4 39 = .ok (.goto (-23), 3) := by decide +kernel
theorem d_J6_stringSize_0f7a4_42 : dec m_J6_stringSize_0f7a4 42 = .ok (.bipush 10, 2) := by decide +kernel
theorem d_J6_stringSize_0f7a4_44 : dec m_J6_stringSize_0f7a4 44 = .ok (.iload_n 1, 1) := by decide +kernel
theorem d_J6_stringSize_0f7a4_45 : dec m_J6_stringSize_0f7a4 45 = .ok (.iadd, 1) := by decide +kernel
theorem d_J6_stringSize_0f7a4_46 : dec m_J6_stringSize_0f7a4 46 = .ok (.ireturn, 1) := by decide +kernel
theorem d_J0_init_81219_0 : dec m_J0_init_81219 0 = .ok (.aload_n 0, 1) := by decide +kernel
theorem d_J0_init_81219_1 : dec m_J0_init_81219 1 = .ok (.aload_n 1, 1) := by decide +kernel
theorem d_J0_init_81219_2 : dec m_J0_init_81219 2 = .ok (.aconst_null, 1) := by decide +kernel
theorem d_J0_init_81219_3 : dec m_J0_init_81219 3 = .ok (.invokespecial 489, 3) := by decide +kernel
theorem d_J0_init_81219_6 : dec m_J0_init_81219 6 = .ok (.return_, 1) := by decide +kernel
theorem d_J0_init_db425_0 : dec m_J0_init_db425 0 = .ok (.aload_n 0, 1) := by decide +kernel
theorem d_J0_init_db425_1 : dec m_J0_init_db425 1 = .ok (.invokespecial 1, 3) := by decide +kernel
theorem d_J0_init_db425_4 : dec m_J0_init_db425 4 = .ok (.aload_n 1, 1) := by decide +kernel
theorem d_J0_init_db425_5 : dec m_J0_init_db425 5 = .ok (.invokevirtual 552, 3) := by decide +kernel
theorem d_J0_init_db425_8 : dec m_J0_init_db425 8 = .ok (.astore_n 3, 1) := by decide +kernel
theorem d_J0_init_db425_9 : dec m_J0_init_db425 9 = .ok (.aload_n 1, 1) := by decide +kernel
theorem d_J0_init_db425_10 : dec m_J0_init_db425 10 = .ok (.invokevirtual 549, 3) := by decide +kernel
theorem d_J0_init_db425_13 : dec m_J0_init_db425 13 = .ok (.istore 4, 2) := by decide +kernel
theorem d_J0_init_db425_15 : dec m_J0_init_db425 15 = .ok (.aload_n 1, 1) := by decide +kernel
theorem d_J0_init_db425_16 : dec m_J0_init_db425 16 = .ok (.invokevirtual 1047, 3) := by decide +kernel
theorem d_J0_init_db425_19 : dec m_J0_init_db425 19 = .ok (.ifCond .eq 22, 3) := by decide +kernel
theorem d_J0_init_db425_22 : dec m_J0_init_db425 22 = .ok (.aload_n 0, 1) := by decide +kernel
theorem d_J0_init_db425_23 : dec m_J0_init_db425 23 = .ok (.iconst 0, 1) := by decide +kernel
theorem d_J0_init_db425_24 : dec m_J0_init_db425 24 = .ok (.putfield 15, 3) := by decide +kernel
theorem d_J0_init_db425_27 : dec m_J0_init_db425 27 = .ok (.aload_n 0, 1) := by decide +kernel
theorem d_J0_init_db425_28 : dec m_J0_init_db425 28 = .ok (.aload_n 3, 1) := by decide +kernel
theorem d_J0_init_db425_29 : dec m_J0_init_db425 29 = .ok (.iconst 0, 1) := by decide +kernel
theorem d_J0_init_db425_30 : dec m_J0_init_db425 30 = .ok (.iload 4, 2) := by decide +kernel
theorem d_J0_init_db425_32 : dec m_J0_init_db425 32 = .ok (.invokestatic 54, 3) := by decide +kernel
theorem d_J0_init_db425_35 : dec m_J0_init_db425 35 = .ok (.putfield 9, 3) := by decide +kernel
theorem d_J0_init_db425_38 : dec m_J0_init_db425 38 = .ok (.goto 59, 3) := by decide +kernel
theorem d_J0_init_db425_41 : dec m_J0_init_db425 41 = .ok (.getstatic 38, 3) := by decide +kernel
theorem d_J0_init_db425_44 : dec m_J0_init_db425 44 = .ok (.ifCond .eq 35, 3) := by decide +kernel
theorem d_J0_init_db425_47 : dec m_J0_init_db425 47 = .ok (.aload_n 1, 1) := by decide +kernel
theorem d_J0_init_db425_48 : dec m_J0_init_db425 48 = .ok (.getfield 1048, 3) := by decide +kernel
theorem d_J0_init_db425_51 : dec m_J0_init_db425 51 = .ok (.ifCond .eq 28, 3) := by decide +kernel
theorem d_J0_init_db425_54 : dec m_J0_init_db425 54 = .ok (.aload_n 0, 1) := by decide +kernel
theorem d_J0_init_db425_55 : dec m_J0_init_db425 55 = .ok (.aload_n 3, 1) := by decide +kernel
theorem d_J0_init_db425_56 : dec m_J0_init_db425 56 = .ok (.iconst 0, 1) := by decide +kernel
theorem d_J0_init_db425_57 : dec m_J0_init_db425 57 = .ok (.iload 4, 2) := by decide +kernel
theorem d_J0_init_db425_59 : dec m_J0_init_db425 59 = .ok (.invokestatic 1051, 3) := by decide +kernel
theorem d_J0_init_db425_62 : dec m_J0_init_db425 62 = .ok (.putfield 9, 3) := by decide +kernel
theorem d_J0_init_db425_65 : dec m_J0_init_db425 65 = .ok (.aload_n 0, 1) := by decide +kernel
theorem d_J0_init_db425_66 : dec m_J0_init_db425 66 = .ok (.aload_n 0, 1) := by decide +kernel
theorem d_J0_init_db425_67 : dec m_J0_init_db425 67 = .ok (.getfield 9, 3) := by decide +kernel
theorem d_J0_init_db425_70 : dec m_J0_init_db425 70 = .ok (.iload 4, 2) := by decide +kernel
theorem d_J0_init_db425_72 : dec m_J0_init_db425 72 = .ok (.invokestatic 47, 3) := by decide +kernel
theorem d_J0_init_db425_75 : dec m_J0_init_db425 75 = .ok (.putfield 15, 3) := by decide +kernel
theorem d_J0_init_db425_78 : dec m_J0_init_db425 78 = .ok (.return_, 1) := by decide +kernel
theorem d_J0_init_db425_79 : dec m_J0_init_db425 79 = .ok (.aload_n 0, 1) := by decide +kernel
theorem d_J0_init_db425_80 : dec m_J0_init_db425 80 = .ok (.iconst 1, 1) := by decide +kernel
theorem d_J0_init_db425_81 : dec m_J0_init_db425 81 = .ok (.putfield 15, 3) := by decide +kernel
theorem d_J0_init_db425_84 : dec m_J0_init_db425 84 = .ok (.aload_n 0, 1) := by decide +kernel
theorem d_J0_init_db425_85 : dec m_J0_init_db425 85 = .ok (.aload_n 3, 1) := by decide +kernel
theorem d_J0_init_db425_86 : dec m_J0_init_db425 86 = .ok (.iconst 0, 1) := by decide +kernel
theorem d_J0_init_db425_87 : dec m_J0_init_db425 87 = .ok (.iload 4, 2) := by decide +kernel
theorem d_J0_init_db425_89 : dec m_J0_init_db425 89 = .ok (.iconst 1, 1) := by decide +kernel
theorem d_J0_init_db425_90 : dec m_J0_init_db425 90 = .ok (.ishl, 1) := by decide +kernel
theorem d_J0_init_db425_91 : dec m_J0_init_db425 91 = .ok (.invokestatic 54, 3) := by decide +kernel
theorem d_J0_init_db425_94 : dec m_J0_init_db425 94 = .ok (.putfield 9, 3) := by decide +kernel
theorem d_J0_init_db425_97 : dec m_J0_init_db425 97 = .ok (.return_, 1) := by decide +kernel
theorem d_J0_getBytes_840e7_0 : dec m_J0_getBytes_840e7 0 = .ok (.aload_n 0, 1) := by decide +kernel
theorem d_J0_getBytes_840e7_1 : dec m_J0_getBytes_840e7 1 = .ok (.invokevirtual 335, 3) := by decide +kernel
theorem d_J0_getBytes_840e7_4 : dec m_J0_getBytes_840e7 4 = .ok (.iload_n 3, 1) := by decide +kernel
theorem d_J0_getBytes_840e7_5 : dec m_J0_getBytes_840e7 5 = .ok (.if_icmp .ne 23, 3) := by decide +kernel
theorem d_J0_getBytes_840e7_8 : dec m_J0_getBytes_840e7 8 = .ok (.aload_n 0, 1) := by decide +kernel
theorem d_J0_getBytes_840e7_9 : dec m_J0_getBytes_840e7 9 = .ok (.getfield 9, 3) := by decide +kernel
theorem d_J0_getBytes_840e7_12 : dec m_J0_getBytes_840e7 12 = .ok (.iconst 0, 1) := by decide +kernel
theorem d_J0_getBytes_840e7_13 : dec m_J0_getBytes_840e7 13 = .ok (.aload_n 1, 1) := by decide +kernel
theorem d_J0_getBytes_840e7_14 : dec m_J0_getBytes_840e7 14 = .ok (.iload_n 2, 1) := by decide +kernel
theorem d_J0_getBytes_840e7_15 : dec m_J0_getBytes_840e7 15 = .ok (.iload_n 3, 1) := by decide +kernel
theorem d_J0_getBytes_840e7_16 : dec m_J0_getBytes_840e7 16 = .ok (.ishl, 1) := by decide +kernel
theorem d_J0_getBytes_840e7_17 : dec m_J0_getBytes_840e7 17 = .ok (.aload_n 0, 1) := by decide +kernel
theorem d_J0_getBytes_840e7_18 : dec m_J0_getBytes_840e7 18 = .ok (.getfield 9, 3) := by decide +kernel
theorem d_J0_getBytes_840e7_21 : dec m_J0_getBytes_840e7 21 = .ok (.arraylength, 1) := by decide +kernel
theorem d_J0_getBytes_840e7_22 : dec m_J0_getBytes_840e7 22 = .ok (.invokestatic 212, 3) := by decide +kernel
theorem d_J0_getBytes_840e7_25 : dec m_J0_getBytes_840e7 25 = .ok (.goto 18, 3) := by decide +kernel
theorem d_J0_getBytes_840e7_28 : dec m_J0_getBytes_840e7 28 = .ok (.aload_n 0, 1) := by decide +kernel
theorem d_J0_getBytes_840e7_29 : dec m_J0_getBytes_840e7 29 = .ok (.getfield 9, 3) := by decide +kernel
theorem d_J0_getBytes_840e7_32 : dec m_J0_getBytes_840e7 32 = .ok (.iconst 0, 1) := by decide +kernel
theorem d_J0_getBytes_840e7_33 : dec m_J0_getBytes_840e7 33 = .ok (.aload_n 1, 1) := by decide +kernel
theorem d_J0_getBytes_840e7_34 : dec m_J0_getBytes_840e7 34 = .ok (.iload_n 2, 1) := by decide +kernel
theorem d_J0_getBytes_840e7_35 : dec m_J0_getBytes_840e7 35 = .ok (.aload_n 0, 1) := by decide +kernel
theorem d_J0_getBytes_840e7_36 : dec m_J0_getBytes_840e7 36 = .ok (.getfield 9, 3) := by decide +kernel
theorem d_J0_getBytes_840e7_39 : dec m_J0_getBytes_840e7 39 = .ok (.arraylength, 1) := by decide +kernel
theorem d_J0_getBytes_840e7_40 : dec m_J0_getBytes_840e7 40 = .ok (.invokestatic 106, 3) := by decide +kernel
theorem d_J0_getBytes_840e7_43 : dec m_J0_getBytes_840e7 43 = .ok (.return_, 1) := by decide +kernel
theorem d_J7_copyOfRange_39247_0 : dec m_J7_copyOfRange_39247 0 = .ok (.iload_n 1, 1) := by decide +kernel
theorem d_J7_copyOfRange_39247_1 : dec m_J7_copyOfRange_39247 1 = .ok (.ifCond .ne 9, 3) := by decide +kernel
theorem d_J7_copyOfRange_39247_4 : dec m_J7_copyOfRange_39247 4 = .ok (.iload_n 2, 1) := by decide +kernel
theorem d_J7_copyOfRange_39247_5 : dec m_J7_copyOfRange_39247 5 = .ok (.aload_n 0, 1) := by decide +kernel
theorem d_J7_copyOfRange_39247_6 : dec m_J7_copyOfRange_39247 6 = .ok (.arraylength, 1) := by decide +kernel
theorem d_J7_copyOfRange_39247_7 : dec m_J7_copyOfRange_39247 7 = .ok (.if_icmp .eq 10, 3) := by decide +kernel
theorem d_J7_copyOfRange_39247_10 : dec m_J7_copyOfRange_39247 10 = .ok (.aload_n 0, 1) := by decide +kernel
theorem d_J7_copyOfRange_39247_11 : dec m_J7_copyOfRange_39247 11 = .ok (.iload_n 1, 1) := by decide +kernel
theorem d_J7_copyOfRange_39247_12 : dec m_J7_copyOfRange_39247 12 = .ok (.iload_n 2, 1) := by decide +kernel
theorem d_J7_copyOfRange_39247_13 : dec m_J7_copyOfRange_39247 13 = .ok (.invokestatic 339, 3) := by decide +kernel
theorem d_J7_copyOfRange_39247_16 : dec m_J7_copyOfRange_39247 16 = .ok (.areturn, 1) := by decide +kernel
theorem d_J7_copyOfRange_39247_17 : dec m_J7_copyOfRange_39247 17 = .ok (.aload_n 0, 1) := by decide +kernel
theorem d_J7_copyOfRange_39247_18 : dec m_J7_copyOfRange_39247 18 = .ok (.invokevirtual 310, 3) := by decide +kernel
theorem d_J7_copyOfRange_39247_21 : dec m_J7_copyOfRange_39247 21 = .ok (.checkcast 311, 3) := by decide +kernel
theorem d_J7_copyOfRange_39247_24 : dec m_J7_copyOfRange_39247 24 = .ok (.areturn, 1) := by decide +kernel
theorem d_J7_copyOfRangeByte_39247_0 : dec m_J7_copyOfRangeByte_39247 0 = .ok (.iload_n 1, 1) := by decide +kernel
theorem d_J7_copyOfRangeByte_39247_1 : dec m_J7_copyOfRangeByte_39247 1 = .ok (.iload_n 2, 1) := by decide +kernel
theorem d_J7_copyOfRangeByte_39247_2 : dec m_J7_copyOfRangeByte_39247 2 = .ok (.invokestatic 343, 3) := by decide +kernel
theorem d_J7_copyOfRangeByte_39247_5 : dec m_J7_copyOfRangeByte_39247 5 = .ok (.iload_n 2, 1) := by decide +kernel
theorem d_J7_copyOfRangeByte_39247_6 : dec m_J7_copyOfRangeByte_39247 6 = .ok (.iload_n 1, 1) := by decide +kernel
theorem d_J7_copyOfRangeByte_39247_7 : dec m_J7_copyOfRangeByte_39247 7 = .ok (.isub, 1) := by decide +kernel
theorem d_J7_copyOfRangeByte_39247_8 : dec m_J7_copyOfRangeByte_39247 8 = .ok (.istore_n 3, 1) := by decide +kernel
theorem d_J7_copyOfRangeByte_39247_9 : dec m_J7_copyOfRangeByte_39247 9 = .ok (.iload_n 3, 1) := by decide +kernel
theorem d_J7_copyOfRangeByte_39247_10 : dec m_J7_copyOfRangeByte_39247 10 = .ok (.newarray .byte, 2) := by decide +kernel
theorem d_J7_copyOfRangeByte_39247_12 : dec m_J7_copyOfRangeByte_39247 12 = .ok (.astore 4, 2) := by decide +kernel
theorem d_J7_copyOfRangeByte_39247_14 : dec m_J7_copyOfRangeByte_39247 14 = .ok (.aload_n 0, 1) := by decide +kernel
theorem d_J7_copyOfRangeByte_39247_15 : dec m_J7_copyOfRangeByte_39247 15 = .ok (.iload_n 1, 1) := by decide +kernel
theorem d_J7_copyOfRangeByte_39247_16 : dec m_J7_copyOfRangeByte_39247 16 = .ok (.aload 4, 2) := by decide +kernel
theorem d_J7_copyOfRangeByte_39247_18 : dec m_J7_copyOfRangeByte_39247 18 = .ok (.iconst 0, 1) := by decide +kernel
theorem d_J7_copyOfRangeByte_39247_19 : dec m_J7_copyOfRangeByte_39247 19 = .ok (.aload_n 0, 1) := by decide +kernel
theorem d_J7_copyOfRangeByte_39247_20 : dec m_J7_copyOfRangeByte_39247 20 = .ok (.arraylength, 1) := by decide +kernel
theorem d_J7_copyOfRangeByte_39247_21 : dec m_J7_copyOfRangeByte_39247 21 = .ok (.iload_n 1, 1) := by decide +kernel
theorem d_J7_copyOfRangeByte_39247_22 : dec m_J7_copyOfRangeByte_39247 22 = .ok (.isub, 1) := by decide +kernel
theorem d_J7_copyOfRangeByte_39247_23 : dec m_J7_copyOfRangeByte_39247 23 = .ok (.iload_n 3, 1) := by decide +kernel
theorem d_J7_copyOfRangeByte_39247_24 : dec m_J7_copyOfRangeByte_39247 24 = .ok (.invokestatic 304, 3) := by decide +kernel
theorem d_J7_copyOfRangeByte_39247_27 : dec m_J7_copyOfRangeByte_39247 27 = .ok (.invokestatic 150, 3) := by decide +kernel
theorem d_J7_copyOfRangeByte_39247_30 : dec m_J7_copyOfRangeByte_39247 30 = .ok (.aload 4, 2) := by decide +kernel
theorem d_J7_copyOfRangeByte_39247_32 : dec m_J7_copyOfRangeByte_39247 32 = .ok (.areturn, 1) := by decide +kernel
theorem d_J7_checkLength_df160_0 : dec m_J7_checkLength_df160 0 = .ok (.iload_n 1, 1) := by decide +kernel
theorem d_J7_checkLength_df160_1 : dec m_J7_checkLength_df160 1 = .ok (.iload_n 0, 1) := by decide +kernel
theorem d_J7_checkLength_df160_2 : dec m_J7_checkLength_df160 2 = .ok (.if_icmp .ge 35, 3) := by decide +kernel
theorem d_J7_checkLength_df160_5 : dec m_J7_checkLength_df160 5 = .ok (.new 43, 3) := by decide +kernel
theorem d_J7_checkLength_df160_8 : dec m_J7_checkLength_df160 8 = .ok (.dup, 1) := by decide +kernel
theorem d_J7_checkLength_df160_9 : dec m_J7_checkLength_df160 9 = .ok (.new 45, 3) := by decide +kernel
theorem d_J7_checkLength_df160_12 : dec m_J7_checkLength_df160 12 = .ok (.dup, 1) := by decide +kernel
theorem d_J7_checkLength_df160_13 : dec m_J7_checkLength_df160 13 = .ok (.invokespecial 47, 3) := by decide +kernel
theorem d_J7_checkLength_df160_16 : dec m_J7_checkLength_df160 16 = .ok (.iload_n 0, 1) := by decide +kernel
theorem d_J7_checkLength_df160_17 : dec m_J7_checkLength_df160 17 = .ok (.invokevirtual 54, 3) := by decide +kernel
theorem d_J7_checkLength_df160_20 : dec m_J7_checkLength_df160 20 = .ok (.ldc_w 337, 3) := by decide +kernel
theorem d_J7_checkLength_df160_23 : dec m_J7_checkLength_df160 23 = .ok (.invokevirtual 50, 3) := by decide +kernel
theorem d_J7_checkLength_df160_26 : dec m_J7_checkLength_df160 26 = .ok (.iload_n 1, 1) := by decide +kernel
theorem d_J7_checkLength_df160_27 : dec m_J7_checkLength_df160 27 = .ok (.invokevirtual 54, 3) := by decide +kernel
theorem d_J7_checkLength_df160_30 : dec m_J7_checkLength_df160 30 = .ok (.invokevirtual 61, 3) := by decide +kernel
theorem d_J7_checkLength_df160_33 : dec m_J7_checkLength_df160 33 = .ok (.invokespecial 65, 3) := by decide +kernel
theorem d_J7_checkLength_df160_36 : dec m_J7_checkLength_df160 36 = .ok (.athrow, 1) := by decide +kernel
theorem d_J7_checkLength_df160_37 : dec m_J7_checkLength_df160 37 = .ok (.return_, 1) := by decide +kernel
theorem d_J1_canEncode_fc78d_0 : dec m_J1_canEncode_fc78d 0 = .ok (.iload_n 0, 1) := by decide +kernel
theorem d_J1_canEncode_fc78d_1 : dec m_J1_canEncode_fc78d 1 = .ok (.sipush 255, 3) := by decide +kernel
theorem d_J1_canEncode_fc78d_4 : dec m_J1_canEncode_fc78d 4 = .ok (.if_icmp .gt 7, 3) := by decide +kernel
theorem d_J1_canEncode_fc78d_7 : dec m_J1_canEncode_fc78d 7 = .ok (.iconst 1, 1) := by decide +kernel
theorem d_J1_canEncode_fc78d_8 : dec m_J1_canEncode_fc78d 8 = .ok (.goto 4, 3) := by decide +kernel
theorem d_J1_canEncode_fc78d_11 : dec m_J1_canEncode_fc78d 11 = .ok (.iconst 0, 1) := by decide +kernel
theorem d_J1_canEncode_fc78d_12 : dec m_J1_canEncode_fc78d 12 = .ok (.ireturn, 1) := by decide +kernel
theorem d_L_cell_0 : dec m_L_cell 0 = .ok (.iload_n 1, 1) := by decide +kernel
theorem d_L_cell_1 : dec m_L_cell 1 = .ok (.aload_n 0, 1) := by decide +kernel
theorem d_L_cell_2 : dec m_L_cell 2 = .ok (.arraylength, 1) := by decide +kernel
theorem d_L_cell_3 : dec m_L_cell 3 = .ok (.if_icmp .ge 9, 3) := by decide +kernel
theorem d_L_cell_6 : dec m_L_cell 6 = .ok (.aload_n 0, 1) := by decide +kernel
theorem d_L_cell_7 : dec m_L_cell 7 = .ok (.iload_n 1, 1) := by decide +kernel
theorem d_L_cell_8 : dec m_L_cell 8 = .ok (.iaload, 1) := by decide +kernel
theorem d_L_cell_9 : dec m_L_cell 9 = .ok (.goto 11, 3) := by decide +kernel
theorem d_L_cell_12 : dec m_L_cell 12 = .ok (.sipush 16807, 3) := by decide +kernel
theorem d_L_cell_15 : dec m_L_cell 15 = .ok (.iload_n 1, 1) := by decide +kernel
theorem d_L_cell_16 : dec m_L_cell 16 = .ok (.imul, 1) := by decide +kernel
theorem d_L_cell_17 : dec m_L_cell 17 = .ok (.ldc 7, 2) := by decide +kernel
theorem d_L_cell_19 : dec m_L_cell 19 = .ok (.iadd, 1) := by decide +kernel
theorem d_L_cell_20 : dec m_L_cell 20 = .ok (.ireturn, 1) := by decide +kernel
theorem d_L_says_0 : dec m_L_says 0 = .ok (.iconst 0, 1) := by decide +kernel
theorem d_L_says_1 : dec m_L_says 1 = .ok (.istore_n 2, 1) := by decide +kernel
theorem d_L_says_2 : dec m_L_says 2 = .ok (.iconst 0, 1) := by decide +kernel
theorem d_L_says_3 : dec m_L_says 3 = .ok (.istore_n 3, 1) := by decide +kernel
theorem d_L_says_4 : dec m_L_says 4 = .ok (.iload_n 3, 1) := by decide +kernel
theorem d_L_says_5 : dec m_L_says 5 = .ok (.aload_n 1, 1) := by decide +kernel
theorem d_L_says_6 : dec m_L_says 6 = .ok (.invokeinterface 8 1, 5) := by decide +kernel
theorem d_L_says_11 : dec m_L_says 11 = .ok (.if_icmp .ge 100, 3) := by decide +kernel
theorem d_L_says_14 : dec m_L_says 14 = .ok (.iconst 5, 1) := by decide +kernel
theorem d_L_says_15 : dec m_L_says 15 = .ok (.newarray .int, 2) := by decide +kernel
theorem d_L_says_17 : dec m_L_says 17 = .ok (.astore 4, 2) := by decide +kernel
theorem d_L_says_19 : dec m_L_says 19 = .ok (.iconst 0, 1) := by decide +kernel
theorem d_L_says_20 : dec m_L_says 20 = .ok (.istore 5, 2) := by decide +kernel
theorem d_L_says_22 : dec m_L_says 22 = .ok (.iload 5, 2) := by decide +kernel
theorem d_L_says_24 : dec m_L_says 24 = .ok (.bipush 20, 2) := by decide +kernel
theorem d_L_says_26 : dec m_L_says 26 = .ok (.if_icmp .ge 54, 3) := by decide +kernel
theorem d_L_says_29 : dec m_L_says 29 = .ok (.aload 4, 2) := by decide +kernel
theorem d_L_says_31 : dec m_L_says 31 = .ok (.iload 5, 2) := by decide +kernel
theorem d_L_says_33 : dec m_L_says 33 = .ok (.iconst 4, 1) := by decide +kernel
theorem d_L_says_34 : dec m_L_says 34 = .ok (.idiv, 1) := by decide +kernel
theorem d_L_says_35 : dec m_L_says 35 = .ok (.aload 4, 2) := by decide +kernel
theorem d_L_says_37 : dec m_L_says 37 = .ok (.iload 5, 2) := by decide +kernel
theorem d_L_says_39 : dec m_L_says 39 = .ok (.iconst 4, 1) := by decide +kernel
theorem d_L_says_40 : dec m_L_says 40 = .ok (.idiv, 1) := by decide +kernel
theorem d_L_says_41 : dec m_L_says 41 = .ok (.iaload, 1) := by decide +kernel
theorem d_L_says_42 : dec m_L_says 42 = .ok (.bipush 8, 2) := by decide +kernel
theorem d_L_says_44 : dec m_L_says 44 = .ok (.ishl, 1) := by decide +kernel
theorem d_L_says_45 : dec m_L_says 45 = .ok (.iload_n 3, 1) := by decide +kernel
theorem d_L_says_46 : dec m_L_says 46 = .ok (.iload 5, 2) := by decide +kernel
theorem d_L_says_48 : dec m_L_says 48 = .ok (.iadd, 1) := by decide +kernel
theorem d_L_says_49 : dec m_L_says 49 = .ok (.aload_n 1, 1) := by decide +kernel
theorem d_L_says_50 : dec m_L_says 50 = .ok (.invokeinterface 8 1, 5) := by decide +kernel
theorem d_L_says_55 : dec m_L_says 55 = .ok (.if_icmp .ge 16, 3) := by decide +kernel
theorem d_L_says_58 : dec m_L_says 58 = .ok (.aload_n 1, 1) := by decide +kernel
theorem d_L_says_59 : dec m_L_says 59 = .ok (.iload_n 3, 1) := by decide +kernel
theorem d_L_says_60 : dec m_L_says 60 = .ok (.iload 5, 2) := by decide +kernel
theorem d_L_says_62 : dec m_L_says 62 = .ok (.iadd, 1) := by decide +kernel
theorem d_L_says_63 : dec m_L_says 63 = .ok (.invokeinterface 14 2, 5) := by decide +kernel
theorem d_L_says_68 : dec m_L_says 68 = .ok (.goto 4, 3) := by decide +kernel
theorem d_L_says_71 : dec m_L_says 71 = .ok (.iconst 0, 1) := by decide +kernel
theorem d_L_says_72 : dec m_L_says 72 = .ok (.ior, 1) := by decide +kernel
theorem d_L_says_73 : dec m_L_says 73 = .ok (.iastore, 1) := by decide +kernel
theorem d_L_says_74 : dec m_L_says 74 = .ok (.iinc 5 1, 3) := by decide +kernel
theorem d_L_says_77 : dec m_L_says 77 = .ok (.goto (-55), 3) := by decide +kernel
theorem d_L_says_80 : dec m_L_says 80 = .ok (.aload_n 0, 1) := by decide +kernel
theorem d_L_says_81 : dec m_L_says 81 = .ok (.aload 4, 2) := by decide +kernel
theorem d_L_says_83 : dec m_L_says 83 = .ok (.iconst 0, 1) := by decide +kernel
theorem d_L_says_84 : dec m_L_says 84 = .ok (.iaload, 1) := by decide +kernel
theorem d_L_says_85 : dec m_L_says 85 = .ok (.aload 4, 2) := by decide +kernel
theorem d_L_says_87 : dec m_L_says 87 = .ok (.iconst 1, 1) := by decide +kernel
theorem d_L_says_88 : dec m_L_says 88 = .ok (.iaload, 1) := by decide +kernel
theorem d_L_says_89 : dec m_L_says 89 = .ok (.aload 4, 2) := by decide +kernel
theorem d_L_says_91 : dec m_L_says 91 = .ok (.iconst 2, 1) := by decide +kernel
theorem d_L_says_92 : dec m_L_says 92 = .ok (.iaload, 1) := by decide +kernel
theorem d_L_says_93 : dec m_L_says 93 = .ok (.aload 4, 2) := by decide +kernel
theorem d_L_says_95 : dec m_L_says 95 = .ok (.iconst 3, 1) := by decide +kernel
theorem d_L_says_96 : dec m_L_says 96 = .ok (.iaload, 1) := by decide +kernel
theorem d_L_says_97 : dec m_L_says 97 = .ok (.aload 4, 2) := by decide +kernel
theorem d_L_says_99 : dec m_L_says 99 = .ok (.iconst 4, 1) := by decide +kernel
theorem d_L_says_100 : dec m_L_says 100 = .ok (.iaload, 1) := by decide +kernel
theorem d_L_says_101 : dec m_L_says 101 = .ok (.invokevirtual 18, 3) := by decide +kernel
theorem d_L_says_104 : dec m_L_says 104 = .ok (.istore_n 2, 1) := by decide +kernel
theorem d_L_says_105 : dec m_L_says 105 = .ok (.iinc 3 20, 3) := by decide +kernel
theorem d_L_says_108 : dec m_L_says 108 = .ok (.goto (-104), 3) := by decide +kernel
theorem d_L_says_111 : dec m_L_says 111 = .ok (.iload_n 2, 1) := by decide +kernel
theorem d_L_says_112 : dec m_L_says 112 = .ok (.aload_n 1, 1) := by decide +kernel
theorem d_L_says_113 : dec m_L_says 113 = .ok (.invokeinterface 8 1, 5) := by decide +kernel
theorem d_L_says_118 : dec m_L_says 118 = .ok (.if_icmp .lt 26, 3) := by decide +kernel
theorem d_L_says_121 : dec m_L_says 121 = .ok (.aload_n 0, 1) := by decide +kernel
theorem d_L_says_122 : dec m_L_says 122 = .ok (.aload_n 1, 1) := by decide +kernel
theorem d_L_says_123 : dec m_L_says 123 = .ok (.invokeinterface 8 1, 5) := by decide +kernel
theorem d_L_says_128 : dec m_L_says 128 = .ok (.invokevirtual 24, 3) := by decide +kernel
theorem d_L_says_131 : dec m_L_says 131 = .ok (.aload_n 1, 1) := by decide +kernel
theorem d_L_says_132 : dec m_L_says 132 = .ok (.invokeinterface 8 1, 5) := by decide +kernel
theorem d_L_says_137 : dec m_L_says 137 = .ok (.if_icmp .ne 7, 3) := by decide +kernel
theorem d_L_says_140 : dec m_L_says 140 = .ok (.iconst 1, 1) := by decide +kernel
theorem d_L_says_141 : dec m_L_says 141 = .ok (.goto 4, 3) := by decide +kernel
theorem d_L_says_144 : dec m_L_says 144 = .ok (.iconst 0, 1) := by decide +kernel
theorem d_L_says_145 : dec m_L_says 145 = .ok (.ireturn, 1) := by decide +kernel
theorem d_L_deal_0 : dec m_L_deal 0 = .ok (.new 28, 3) := by decide +kernel
theorem d_L_deal_3 : dec m_L_deal 3 = .ok (.dup, 1) := by decide +kernel
theorem d_L_deal_4 : dec m_L_deal 4 = .ok (.aload_n 0, 1) := by decide +kernel
theorem d_L_deal_5 : dec m_L_deal 5 = .ok (.iconst 1, 1) := by decide +kernel
theorem d_L_deal_6 : dec m_L_deal 6 = .ok (.aload_n 0, 1) := by decide +kernel
theorem d_L_deal_7 : dec m_L_deal 7 = .ok (.getfield 30, 3) := by decide +kernel
theorem d_L_deal_10 : dec m_L_deal 10 = .ok (.iload_n 1, 1) := by decide +kernel
theorem d_L_deal_11 : dec m_L_deal 11 = .ok (.iaload, 1) := by decide +kernel
theorem d_L_deal_12 : dec m_L_deal 12 = .ok (.ishl, 1) := by decide +kernel
theorem d_L_deal_13 : dec m_L_deal 13 = .ok (.iload_n 3, 1) := by decide +kernel
theorem d_L_deal_14 : dec m_L_deal 14 = .ok (.invokespecial 36, 3) := by decide +kernel
theorem d_L_deal_17 : dec m_L_deal 17 = .ok (.iload_n 2, 1) := by decide +kernel
theorem d_L_deal_18 : dec m_L_deal 18 = .ok (.aload_n 0, 1) := by decide +kernel
theorem d_L_deal_19 : dec m_L_deal 19 = .ok (.getfield 39, 3) := by decide +kernel
theorem d_L_deal_22 : dec m_L_deal 22 = .ok (.invokevirtual 43, 3) := by decide +kernel
theorem d_L_deal_25 : dec m_L_deal 25 = .ok (.astore 4, 2) := by decide +kernel
theorem d_L_deal_27 : dec m_L_deal 27 = .ok (.aload 4, 2) := by decide +kernel
theorem d_L_deal_29 : dec m_L_deal 29 = .ok (.iload_n 1, 1) := by decide +kernel
theorem d_L_deal_30 : dec m_L_deal 30 = .ok (.invokevirtual 47, 3) := by decide +kernel
theorem d_L_deal_33 : dec m_L_deal 33 = .ok (.istore 5, 2) := by decide +kernel
theorem d_L_deal_35 : dec m_L_deal 35 = .ok (.iload_n 2, 1) := by decide +kernel
theorem d_L_deal_36 : dec m_L_deal 36 = .ok (.iconst 3, 1) := by decide +kernel
theorem d_L_deal_37 : dec m_L_deal 37 = .ok (.if_icmp .eq 29, 3) := by decide +kernel
theorem d_L_deal_40 : dec m_L_deal 40 = .ok (.iload 5, 2) := by decide +kernel
theorem d_L_deal_42 : dec m_L_deal 42 = .ok (.aload_n 0, 1) := by decide +kernel
theorem d_L_deal_43 : dec m_L_deal 43 = .ok (.getfield 50, 3) := by decide +kernel
theorem d_L_deal_46 : dec m_L_deal 46 = .ok (.iload_n 1, 1) := by decide +kernel
theorem d_L_deal_47 : dec m_L_deal 47 = .ok (.baload, 1) := by decide +kernel
theorem d_L_deal_48 : dec m_L_deal 48 = .ok (.ifCond .eq 11, 3) := by decide +kernel
theorem d_L_deal_51 : dec m_L_deal 51 = .ok (.aload 4, 2) := by decide +kernel
theorem d_L_deal_53 : dec m_L_deal 53 = .ok (.getfield 54, 3) := by decide +kernel
theorem d_L_deal_56 : dec m_L_deal 56 = .ok (.goto 8, 3) := by decide +kernel
theorem d_L_deal_59 : dec m_L_deal 59 = .ok (.aload 4, 2) := by decide +kernel
theorem d_L_deal_61 : dec m_L_deal 61 = .ok (.getfield 57, 3) := by decide +kernel
theorem d_L_deal_64 : dec m_L_deal 64 = .ok (.imul, 1) := by decide +kernel
theorem d_L_deal_65 : dec m_L_deal 65 = .ok (.ireturn, 1) := by decide +kernel
theorem d_L_deal_66 : dec m_L_deal 66 = .ok (.aload_n 0, 1) := by decide +kernel
theorem d_L_deal_67 : dec m_L_deal 67 = .ok (.invokevirtual 60, 3) := by decide +kernel
theorem d_L_deal_70 : dec m_L_deal 70 = .ok (.astore 6, 2) := by decide +kernel
theorem d_L_deal_72 : dec m_L_deal 72 = .ok (.aload 6, 2) := by decide +kernel
theorem d_L_deal_74 : dec m_L_deal 74 = .ok (.getfield 64, 3) := by decide +kernel
theorem d_L_deal_77 : dec m_L_deal 77 = .ok (.iload_n 1, 1) := by decide +kernel
theorem d_L_deal_78 : dec m_L_deal 78 = .ok (.iconst 0, 1) := by decide +kernel
theorem d_L_deal_79 : dec m_L_deal 79 = .ok (.newarray .int, 2) := by decide +kernel
theorem d_L_deal_81 : dec m_L_deal 81 = .ok (.aastore, 1) := by decide +kernel
theorem d_L_deal_82 : dec m_L_deal 82 = .ok (.new 28, 3) := by decide +kernel
theorem d_L_deal_85 : dec m_L_deal 85 = .ok (.dup, 1) := by decide +kernel
theorem d_L_deal_86 : dec m_L_deal 86 = .ok (.aload 6, 2) := by decide +kernel
theorem d_L_deal_88 : dec m_L_deal 88 = .ok (.iconst 1, 1) := by decide +kernel
theorem d_L_deal_89 : dec m_L_deal 89 = .ok (.aload_n 0, 1) := by decide +kernel
theorem d_L_deal_90 : dec m_L_deal 90 = .ok (.getfield 30, 3) := by decide +kernel
theorem d_L_deal_93 : dec m_L_deal 93 = .ok (.iload_n 1, 1) := by decide +kernel
theorem d_L_deal_94 : dec m_L_deal 94 = .ok (.iaload, 1) := by decide +kernel
theorem d_L_deal_95 : dec m_L_deal 95 = .ok (.ishl, 1) := by decide +kernel
theorem d_L_deal_96 : dec m_L_deal 96 = .ok (.iload_n 3, 1) := by decide +kernel
theorem d_L_deal_97 : dec m_L_deal 97 = .ok (.invokespecial 36, 3) := by decide +kernel
theorem d_L_deal_100 : dec m_L_deal 100 = .ok (.getfield 68, 3) := by decide +kernel
theorem d_L_deal_103 : dec m_L_deal 103 = .ok (.istore 7, 2) := by decide +kernel
theorem d_L_deal_105 : dec m_L_deal 105 = .ok (.iconst 0, 1) := by decide +kernel
theorem d_L_deal_106 : dec m_L_deal 106 = .ok (.istore 8, 2) := by decide +kernel
theorem d_L_deal_108 : dec m_L_deal 108 = .ok (.iconst 0, 1) := by decide +kernel
theorem d_L_deal_109 : dec m_L_deal 109 = .ok (.istore 9, 2) := by decide +kernel
theorem d_L_deal_111 : dec m_L_deal 111 = .ok (.iload 9, 2) := by decide +kernel
theorem d_L_deal_113 : dec m_L_deal 113 = .ok (.iload 5, 2) := by decide +kernel
theorem d_L_deal_115 : dec m_L_deal 115 = .ok (.if_icmp .ge 23, 3) := by decide +kernel
theorem d_L_deal_118 : dec m_L_deal 118 = .ok (.iload 8, 2) := by decide +kernel
theorem d_L_deal_120 : dec m_L_deal 120 = .ok (.aload_n 0, 1) := by decide +kernel
theorem d_L_deal_121 : dec m_L_deal 121 = .ok (.getfield 64, 3) := by decide +kernel
theorem d_L_deal_124 : dec m_L_deal 124 = .ok (.iload_n 1, 1) := by decide +kernel
theorem d_L_deal_125 : dec m_L_deal 125 = .ok (.aaload, 1) := by decide +kernel
theorem d_L_deal_126 : dec m_L_deal 126 = .ok (.iload 9, 2) := by decide +kernel
theorem d_L_deal_128 : dec m_L_deal 128 = .ok (.iaload, 1) := by decide +kernel
theorem d_L_deal_129 : dec m_L_deal 129 = .ok (.iadd, 1) := by decide +kernel
theorem d_L_deal_130 : dec m_L_deal 130 = .ok (.istore 8, 2) := by decide +kernel
theorem d_L_deal_132 : dec m_L_deal 132 = .ok (.iinc 9 1, 3) := by decide +kernel
theorem d_L_deal_135 : dec m_L_deal 135 = .ok (.goto (-24), 3) := by decide +kernel
theorem d_L_deal_138 : dec m_L_deal 138 = .ok (.aload_n 0, 1) := by decide +kernel
theorem d_L_deal_139 : dec m_L_deal 139 = .ok (.getfield 50, 3) := by decide +kernel
theorem d_L_deal_142 : dec m_L_deal 142 = .ok (.iload_n 1, 1) := by decide +kernel
theorem d_L_deal_143 : dec m_L_deal 143 = .ok (.baload, 1) := by decide +kernel
theorem d_L_deal_144 : dec m_L_deal 144 = .ok (.ifCond .eq 17, 3) := by decide +kernel
theorem d_L_deal_147 : dec m_L_deal 147 = .ok (.aload 4, 2) := by decide +kernel
theorem d_L_deal_149 : dec m_L_deal 149 = .ok (.getfield 68, 3) := by decide +kernel
theorem d_L_deal_152 : dec m_L_deal 152 = .ok (.iload 8, 2) := by decide +kernel
theorem d_L_deal_154 : dec m_L_deal 154 = .ok (.iadd, 1) := by decide +kernel
theorem d_L_deal_155 : dec m_L_deal 155 = .ok (.iload 7, 2) := by decide +kernel
theorem d_L_deal_157 : dec m_L_deal 157 = .ok (.isub, 1) := by decide +kernel
theorem d_L_deal_158 : dec m_L_deal 158 = .ok (.goto 14, 3) := by decide +kernel
theorem d_L_deal_161 : dec m_L_deal 161 = .ok (.iload 7, 2) := by decide +kernel
theorem d_L_deal_163 : dec m_L_deal 163 = .ok (.aload 4, 2) := by decide +kernel
theorem d_L_deal_165 : dec m_L_deal 165 = .ok (.getfield 68, 3) := by decide +kernel
theorem d_L_deal_168 : dec m_L_deal 168 = .ok (.iload 8, 2) := by decide +kernel
theorem d_L_deal_170 : dec m_L_deal 170 = .ok (.isub, 1) := by decide +kernel
theorem d_L_deal_171 : dec m_L_deal 171 = .ok (.isub, 1) := by decide +kernel
theorem d_L_deal_172 : dec m_L_deal 172 = .ok (.ireturn, 1) := by decide +kernel
theorem d_L_takings_0 : dec m_L_takings 0 = .ok (.iconst 0, 1) := by decide +kernel
theorem d_L_takings_1 : dec m_L_takings 1 = .ok (.istore_n 3, 1) := by decide +kernel
theorem d_L_takings_2 : dec m_L_takings 2 = .ok (.iconst 0, 1) := by decide +kernel
theorem d_L_takings_3 : dec m_L_takings 3 = .ok (.istore 4, 2) := by decide +kernel
theorem d_L_takings_5 : dec m_L_takings 5 = .ok (.iload 4, 2) := by decide +kernel
theorem d_L_takings_7 : dec m_L_takings 7 = .ok (.aload_n 0, 1) := by decide +kernel
theorem d_L_takings_8 : dec m_L_takings 8 = .ok (.getfield 80, 3) := by decide +kernel
theorem d_L_takings_11 : dec m_L_takings 11 = .ok (.if_icmp .ge 53, 3) := by decide +kernel
theorem d_L_takings_14 : dec m_L_takings 14 = .ok (.aload_n 0, 1) := by decide +kernel
theorem d_L_takings_15 : dec m_L_takings 15 = .ok (.getfield 30, 3) := by decide +kernel
theorem d_L_takings_18 : dec m_L_takings 18 = .ok (.iload 4, 2) := by decide +kernel
theorem d_L_takings_20 : dec m_L_takings 20 = .ok (.iaload, 1) := by decide +kernel
theorem d_L_takings_21 : dec m_L_takings 21 = .ok (.iload_n 1, 1) := by decide +kernel
theorem d_L_takings_22 : dec m_L_takings 22 = .ok (.if_icmp .ne 36, 3) := by decide +kernel
theorem d_L_takings_25 : dec m_L_takings 25 = .ok (.iload_n 3, 1) := by decide +kernel
theorem d_L_takings_26 : dec m_L_takings 26 = .ok (.aload_n 0, 1) := by decide +kernel
theorem d_L_takings_27 : dec m_L_takings 27 = .ok (.getfield 50, 3) := by decide +kernel
theorem d_L_takings_30 : dec m_L_takings 30 = .ok (.iload 4, 2) := by decide +kernel
theorem d_L_takings_32 : dec m_L_takings 32 = .ok (.baload, 1) := by decide +kernel
theorem d_L_takings_33 : dec m_L_takings 33 = .ok (.ifCond .eq 15, 3) := by decide +kernel
theorem d_L_takings_36 : dec m_L_takings 36 = .ok (.aload_n 0, 1) := by decide +kernel
theorem d_L_takings_37 : dec m_L_takings 37 = .ok (.iload 4, 2) := by decide +kernel
theorem d_L_takings_39 : dec m_L_takings 39 = .ok (.iload_n 2, 1) := by decide +kernel
theorem d_L_takings_40 : dec m_L_takings 40 = .ok (.iconst (-1), 1) := by decide +kernel
theorem d_L_takings_41 : dec m_L_takings 41 = .ok (.invokestatic 74, 3) := by decide +kernel
theorem d_L_takings_44 : dec m_L_takings 44 = .ok (.ineg, 1) := by decide +kernel
theorem d_L_takings_45 : dec m_L_takings 45 = .ok (.goto 11, 3) := by decide +kernel
theorem d_L_takings_48 : dec m_L_takings 48 = .ok (.aload_n 0, 1) := by decide +kernel
theorem d_L_takings_49 : dec m_L_takings 49 = .ok (.iload 4, 2) := by decide +kernel
theorem d_L_takings_51 : dec m_L_takings 51 = .ok (.iload_n 2, 1) := by decide +kernel
theorem d_L_takings_52 : dec m_L_takings 52 = .ok (.iconst (-1), 1) := by decide +kernel
theorem d_L_takings_53 : dec m_L_takings 53 = .ok (.invokestatic 74, 3) := by decide +kernel
theorem d_L_takings_56 : dec m_L_takings 56 = .ok (.iadd, 1) := by decide +kernel
theorem d_L_takings_57 : dec m_L_takings 57 = .ok (.istore_n 3, 1) := by decide +kernel
theorem d_L_takings_58 : dec m_L_takings 58 = .ok (.iinc 4 1, 3) := by decide +kernel
theorem d_L_takings_61 : dec m_L_takings 61 = .ok (.goto (-56), 3) := by decide +kernel
theorem d_L_takings_64 : dec m_L_takings 64 = .ok (.iload_n 3, 1) := by decide +kernel
theorem d_L_takings_65 : dec m_L_takings 65 = .ok (.ireturn, 1) := by decide +kernel
theorem d_L_same_0 : dec m_L_same 0 = .ok (.iconst 0, 1) := by decide +kernel
theorem d_L_same_1 : dec m_L_same 1 = .ok (.istore_n 2, 1) := by decide +kernel
theorem d_L_same_2 : dec m_L_same 2 = .ok (.iconst 0, 1) := by decide +kernel
theorem d_L_same_3 : dec m_L_same 3 = .ok (.istore_n 3, 1) := by decide +kernel
theorem d_L_same_4 : dec m_L_same 4 = .ok (.bipush (-2), 2) := by decide +kernel
theorem d_L_same_6 : dec m_L_same 6 = .ok (.istore 4, 2) := by decide +kernel
theorem d_L_same_8 : dec m_L_same 8 = .ok (.aload_n 0, 1) := by decide +kernel
theorem d_L_same_9 : dec m_L_same 9 = .ok (.iconst 0, 1) := by decide +kernel
theorem d_L_same_10 : dec m_L_same 10 = .ok (.invokevirtual 83, 3) := by decide +kernel
theorem d_L_same_13 : dec m_L_same 13 = .ok (.aload_n 1, 1) := by decide +kernel
theorem d_L_same_14 : dec m_L_same 14 = .ok (.getfield 80, 3) := by decide +kernel
theorem d_L_same_17 : dec m_L_same 17 = .ok (.if_icmp .ne 41, 3) := by decide +kernel
theorem d_L_same_20 : dec m_L_same 20 = .ok (.aload_n 0, 1) := by decide +kernel
theorem d_L_same_21 : dec m_L_same 21 = .ok (.iconst 2, 1) := by decide +kernel
theorem d_L_same_22 : dec m_L_same 22 = .ok (.invokevirtual 83, 3) := by decide +kernel
theorem d_L_same_25 : dec m_L_same 25 = .ok (.aload_n 1, 1) := by decide +kernel
theorem d_L_same_26 : dec m_L_same 26 = .ok (.getfield 39, 3) := by decide +kernel
theorem d_L_same_29 : dec m_L_same 29 = .ok (.if_icmp .ne 29, 3) := by decide +kernel
theorem d_L_same_32 : dec m_L_same 32 = .ok (.aload_n 0, 1) := by decide +kernel
theorem d_L_same_33 : dec m_L_same 33 = .ok (.iconst 3, 1) := by decide +kernel
theorem d_L_same_34 : dec m_L_same 34 = .ok (.invokevirtual 83, 3) := by decide +kernel
theorem d_L_same_37 : dec m_L_same 37 = .ok (.aload_n 1, 1) := by decide +kernel
theorem d_L_same_38 : dec m_L_same 38 = .ok (.getfield 71, 3) := by decide +kernel
theorem d_L_same_41 : dec m_L_same 41 = .ok (.if_icmp .ne 17, 3) := by decide +kernel
theorem d_L_same_44 : dec m_L_same 44 = .ok (.aload_n 0, 1) := by decide +kernel
theorem d_L_same_45 : dec m_L_same 45 = .ok (.bipush 9, 2) := by decide +kernel
theorem d_L_same_47 : dec m_L_same 47 = .ok (.invokevirtual 83, 3) := by decide +kernel
theorem d_L_same_50 : dec m_L_same 50 = .ok (.iconst (-1), 1) := by decide +kernel
theorem d_L_same_51 : dec m_L_same 51 = .ok (.if_icmp .ne 7, 3) := by decide +kernel
theorem d_L_same_54 : dec m_L_same 54 = .ok (.iconst 1, 1) := by decide +kernel
theorem d_L_same_55 : dec m_L_same 55 = .ok (.goto 4, 3) := by decide +kernel
theorem d_L_same_58 : dec m_L_same 58 = .ok (.iconst 0, 1) := by decide +kernel
theorem d_L_same_59 : dec m_L_same 59 = .ok (.istore 5, 2) := by decide +kernel
theorem d_L_same_61 : dec m_L_same 61 = .ok (.iconst 0, 1) := by decide +kernel
theorem d_L_same_62 : dec m_L_same 62 = .ok (.istore 6, 2) := by decide +kernel
theorem d_L_same_64 : dec m_L_same 64 = .ok (.iload 6, 2) := by decide +kernel
theorem d_L_same_66 : dec m_L_same 66 = .ok (.aload_n 1, 1) := by decide +kernel
theorem d_L_same_67 : dec m_L_same 67 = .ok (.getfield 80, 3) := by decide +kernel
theorem d_L_same_70 : dec m_L_same 70 = .ok (.if_icmp .ge 233, 3) := by decide +kernel
theorem d_L_same_73 : dec m_L_same 73 = .ok (.iload 5, 2) := by decide +kernel
theorem d_L_same_75 : dec m_L_same 75 = .ok (.ifCond .eq 228, 3) := by decide +kernel
theorem d_L_same_78 : dec m_L_same 78 = .ok (.aload_n 1, 1) := by decide +kernel
theorem d_L_same_79 : dec m_L_same 79 = .ok (.getfield 64, 3) := by decide +kernel
theorem d_L_same_82 : dec m_L_same 82 = .ok (.iload 6, 2) := by decide +kernel
theorem d_L_same_84 : dec m_L_same 84 = .ok (.aaload, 1) := by decide +kernel
theorem d_L_same_85 : dec m_L_same 85 = .ok (.arraylength, 1) := by decide +kernel
theorem d_L_same_86 : dec m_L_same 86 = .ok (.istore 7, 2) := by decide +kernel
theorem d_L_same_88 : dec m_L_same 88 = .ok (.iload_n 2, 1) := by decide +kernel
theorem d_L_same_89 : dec m_L_same 89 = .ok (.iload 7, 2) := by decide +kernel
theorem d_L_same_91 : dec m_L_same 91 = .ok (.iadd, 1) := by decide +kernel
theorem d_L_same_92 : dec m_L_same 92 = .ok (.istore_n 2, 1) := by decide +kernel
theorem d_L_same_93 : dec m_L_same 93 = .ok (.iload_n 3, 1) := by decide +kernel
theorem d_L_same_94 : dec m_L_same 94 = .ok (.aload_n 1, 1) := by decide +kernel
theorem d_L_same_95 : dec m_L_same 95 = .ok (.getfield 86, 3) := by decide +kernel
theorem d_L_same_98 : dec m_L_same 98 = .ok (.iload 6, 2) := by decide +kernel
theorem d_L_same_100 : dec m_L_same 100 = .ok (.iaload, 1) := by decide +kernel
theorem d_L_same_101 : dec m_L_same 101 = .ok (.iadd, 1) := by decide +kernel
theorem d_L_same_102 : dec m_L_same 102 = .ok (.istore_n 3, 1) := by decide +kernel
theorem d_L_same_103 : dec m_L_same 103 = .ok (.iload 4, 2) := by decide +kernel
theorem d_L_same_105 : dec m_L_same 105 = .ok (.ifCond .lt 20, 3) := by decide +kernel
theorem d_L_same_108 : dec m_L_same 108 = .ok (.aload_n 1, 1) := by decide +kernel
theorem d_L_same_109 : dec m_L_same 109 = .ok (.getfield 86, 3) := by decide +kernel
theorem d_L_same_112 : dec m_L_same 112 = .ok (.iload 6, 2) := by decide +kernel
theorem d_L_same_114 : dec m_L_same 114 = .ok (.iaload, 1) := by decide +kernel
theorem d_L_same_115 : dec m_L_same 115 = .ok (.aload_n 1, 1) := by decide +kernel
theorem d_L_same_116 : dec m_L_same 116 = .ok (.getfield 86, 3) := by decide +kernel
theorem d_L_same_119 : dec m_L_same 119 = .ok (.iload 4, 2) := by decide +kernel
theorem d_L_same_121 : dec m_L_same 121 = .ok (.iaload, 1) := by decide +kernel
theorem d_L_same_122 : dec m_L_same 122 = .ok (.if_icmp .le 8, 3) := by decide +kernel
theorem d_L_same_125 : dec m_L_same 125 = .ok (.iload 6, 2) := by decide +kernel
theorem d_L_same_127 : dec m_L_same 127 = .ok (.goto 5, 3) := by decide +kernel
theorem d_L_same_130 : dec m_L_same 130 = .ok (.iload 4, 2) := by decide +kernel
theorem d_L_same_132 : dec m_L_same 132 = .ok (.istore 4, 2) := by decide +kernel
theorem d_L_same_134 : dec m_L_same 134 = .ok (.aload_n 0, 1) := by decide +kernel
theorem d_L_same_135 : dec m_L_same 135 = .ok (.iload 6, 2) := by decide +kernel
theorem d_L_same_137 : dec m_L_same 137 = .ok (.iconst 0, 1) := by decide +kernel
theorem d_L_same_138 : dec m_L_same 138 = .ok (.invokevirtual 89, 3) := by decide +kernel
theorem d_L_same_141 : dec m_L_same 141 = .ok (.aload_n 1, 1) := by decide +kernel
theorem d_L_same_142 : dec m_L_same 142 = .ok (.getfield 50, 3) := by decide +kernel
theorem d_L_same_145 : dec m_L_same 145 = .ok (.iload 6, 2) := by decide +kernel
theorem d_L_same_147 : dec m_L_same 147 = .ok (.baload, 1) := by decide +kernel
theorem d_L_same_148 : dec m_L_same 148 = .ok (.ifCond .eq 7, 3) := by decide +kernel
theorem d_L_same_151 : dec m_L_same 151 = .ok (.iconst 1, 1) := by decide +kernel
theorem d_L_same_152 : dec m_L_same 152 = .ok (.goto 4, 3) := by decide +kernel
theorem d_L_same_155 : dec m_L_same 155 = .ok (.iconst 0, 1) := by decide +kernel
theorem d_L_same_156 : dec m_L_same 156 = .ok (.if_icmp .ne 86, 3) := by decide +kernel
theorem d_L_same_159 : dec m_L_same 159 = .ok (.aload_n 0, 1) := by decide +kernel
theorem d_L_same_160 : dec m_L_same 160 = .ok (.iload 6, 2) := by decide +kernel
theorem d_L_same_162 : dec m_L_same 162 = .ok (.iconst 1, 1) := by decide +kernel
theorem d_L_same_163 : dec m_L_same 163 = .ok (.invokevirtual 89, 3) := by decide +kernel
theorem d_L_same_166 : dec m_L_same 166 = .ok (.aload_n 1, 1) := by decide +kernel
theorem d_L_same_167 : dec m_L_same 167 = .ok (.getfield 30, 3) := by decide +kernel
theorem d_L_same_170 : dec m_L_same 170 = .ok (.iload 6, 2) := by decide +kernel
theorem d_L_same_172 : dec m_L_same 172 = .ok (.iaload, 1) := by decide +kernel
theorem d_L_same_173 : dec m_L_same 173 = .ok (.if_icmp .ne 69, 3) := by decide +kernel
theorem d_L_same_176 : dec m_L_same 176 = .ok (.aload_n 0, 1) := by decide +kernel
theorem d_L_same_177 : dec m_L_same 177 = .ok (.iload 6, 2) := by decide +kernel
theorem d_L_same_179 : dec m_L_same 179 = .ok (.iconst 2, 1) := by decide +kernel
theorem d_L_same_180 : dec m_L_same 180 = .ok (.invokevirtual 89, 3) := by decide +kernel
theorem d_L_same_183 : dec m_L_same 183 = .ok (.iload 7, 2) := by decide +kernel
theorem d_L_same_185 : dec m_L_same 185 = .ok (.if_icmp .ne 57, 3) := by decide +kernel
theorem d_L_same_188 : dec m_L_same 188 = .ok (.aload_n 0, 1) := by decide +kernel
theorem d_L_same_189 : dec m_L_same 189 = .ok (.iload 6, 2) := by decide +kernel
theorem d_L_same_191 : dec m_L_same 191 = .ok (.iconst 3, 1) := by decide +kernel
theorem d_L_same_192 : dec m_L_same 192 = .ok (.invokevirtual 89, 3) := by decide +kernel
theorem d_L_same_195 : dec m_L_same 195 = .ok (.aload_n 1, 1) := by decide +kernel
theorem d_L_same_196 : dec m_L_same 196 = .ok (.getfield 86, 3) := by decide +kernel
theorem d_L_same_199 : dec m_L_same 199 = .ok (.iload 6, 2) := by decide +kernel
theorem d_L_same_201 : dec m_L_same 201 = .ok (.iaload, 1) := by decide +kernel
theorem d_L_same_202 : dec m_L_same 202 = .ok (.if_icmp .ne 40, 3) := by decide +kernel
theorem d_L_same_205 : dec m_L_same 205 = .ok (.aload_n 0, 1) := by decide +kernel
theorem d_L_same_206 : dec m_L_same 206 = .ok (.iload 6, 2) := by decide +kernel
theorem d_L_same_208 : dec m_L_same 208 = .ok (.iconst 5, 1) := by decide +kernel
theorem d_L_same_209 : dec m_L_same 209 = .ok (.invokevirtual 89, 3) := by decide +kernel
theorem d_L_same_212 : dec m_L_same 212 = .ok (.aload_n 1, 1) := by decide +kernel
theorem d_L_same_213 : dec m_L_same 213 = .ok (.getfield 93, 3) := by decide +kernel
theorem d_L_same_216 : dec m_L_same 216 = .ok (.iload 6, 2) := by decide +kernel
theorem d_L_same_218 : dec m_L_same 218 = .ok (.iaload, 1) := by decide +kernel
theorem d_L_same_219 : dec m_L_same 219 = .ok (.if_icmp .ne 23, 3) := by decide +kernel
theorem d_L_same_222 : dec m_L_same 222 = .ok (.aload_n 0, 1) := by decide +kernel
theorem d_L_same_223 : dec m_L_same 223 = .ok (.iload 6, 2) := by decide +kernel
theorem d_L_same_225 : dec m_L_same 225 = .ok (.bipush 10, 2) := by decide +kernel
theorem d_L_same_227 : dec m_L_same 227 = .ok (.iload 7, 2) := by decide +kernel
theorem d_L_same_229 : dec m_L_same 229 = .ok (.iadd, 1) := by decide +kernel
theorem d_L_same_230 : dec m_L_same 230 = .ok (.invokevirtual 89, 3) := by decide +kernel
theorem d_L_same_233 : dec m_L_same 233 = .ok (.ldc 98, 2) := by decide +kernel
theorem d_L_same_235 : dec m_L_same 235 = .ok (.if_icmp .ne 7, 3) := by decide +kernel
theorem d_L_same_238 : dec m_L_same 238 = .ok (.iconst 1, 1) := by decide +kernel
theorem d_L_same_239 : dec m_L_same 239 = .ok (.goto 4, 3) := by decide +kernel
theorem d_L_same_242 : dec m_L_same 242 = .ok (.iconst 0, 1) := by decide +kernel
theorem d_L_same_243 : dec m_L_same 243 = .ok (.istore 5, 2) := by decide +kernel
theorem d_L_same_245 : dec m_L_same 245 = .ok (.iconst 0, 1) := by decide +kernel
theorem d_L_same_246 : dec m_L_same 246 = .ok (.istore 8, 2) := by decide +kernel
theorem d_L_same_248 : dec m_L_same 248 = .ok (.iload 8, 2) := by decide +kernel
theorem d_L_same_250 : dec m_L_same 250 = .ok (.iload 7, 2) := by decide +kernel
theorem d_L_same_252 : dec m_L_same 252 = .ok (.if_icmp .ge 45, 3) := by decide +kernel
theorem d_L_same_255 : dec m_L_same 255 = .ok (.iload 5, 2) := by decide +kernel
theorem d_L_same_257 : dec m_L_same 257 = .ok (.ifCond .eq 40, 3) := by decide +kernel
theorem d_L_same_260 : dec m_L_same 260 = .ok (.aload_n 0, 1) := by decide +kernel
theorem d_L_same_261 : dec m_L_same 261 = .ok (.iload 6, 2) := by decide +kernel
theorem d_L_same_263 : dec m_L_same 263 = .ok (.bipush 10, 2) := by decide +kernel
theorem d_L_same_265 : dec m_L_same 265 = .ok (.iload 8, 2) := by decide +kernel
theorem d_L_same_267 : dec m_L_same 267 = .ok (.iadd, 1) := by decide +kernel
theorem d_L_same_268 : dec m_L_same 268 = .ok (.invokevirtual 89, 3) := by decide +kernel
theorem d_L_same_271 : dec m_L_same 271 = .ok (.aload_n 1, 1) := by decide +kernel
theorem d_L_same_272 : dec m_L_same 272 = .ok (.getfield 64, 3) := by decide +kernel
theorem d_L_same_275 : dec m_L_same 275 = .ok (.iload 6, 2) := by decide +kernel
theorem d_L_same_277 : dec m_L_same 277 = .ok (.aaload, 1) := by decide +kernel
theorem d_L_same_278 : dec m_L_same 278 = .ok (.iload 8, 2) := by decide +kernel
theorem d_L_same_280 : dec m_L_same 280 = .ok (.iaload, 1) := by decide +kernel
theorem d_L_same_281 : dec m_L_same 281 = .ok (.if_icmp .ne 7, 3) := by decide +kernel
theorem d_L_same_284 : dec m_L_same 284 = .ok (.iconst 1, 1) := by decide +kernel
theorem d_L_same_285 : dec m_L_same 285 = .ok (.goto 4, 3) := by decide +kernel
theorem d_L_same_288 : dec m_L_same 288 = .ok (.iconst 0, 1) := by decide +kernel
theorem d_L_same_289 : dec m_L_same 289 = .ok (.istore 5, 2) := by decide +kernel
theorem d_L_same_291 : dec m_L_same 291 = .ok (.iinc 8 1, 3) := by decide +kernel
theorem d_L_same_294 : dec m_L_same 294 = .ok (.goto (-46), 3) := by decide +kernel
theorem d_L_same_297 : dec m_L_same 297 = .ok (.iinc 6 1, 3) := by decide +kernel
theorem d_L_same_300 : dec m_L_same 300 = .ok (.goto (-236), 3) := by decide +kernel
theorem d_L_same_303 : dec m_L_same 303 = .ok (.aload_n 1, 1) := by decide +kernel
theorem d_L_same_304 : dec m_L_same 304 = .ok (.invokevirtual 99, 3) := by decide +kernel
theorem d_L_same_307 : dec m_L_same 307 = .ok (.astore 6, 2) := by decide +kernel
theorem d_L_same_309 : dec m_L_same 309 = .ok (.iload 5, 2) := by decide +kernel
theorem d_L_same_311 : dec m_L_same 311 = .ok (.ifCond .eq 67, 3) := by decide +kernel
theorem d_L_same_314 : dec m_L_same 314 = .ok (.aload_n 0, 1) := by decide +kernel
theorem d_L_same_315 : dec m_L_same 315 = .ok (.iconst 1, 1) := by decide +kernel
theorem d_L_same_316 : dec m_L_same 316 = .ok (.invokevirtual 83, 3) := by decide +kernel
theorem d_L_same_319 : dec m_L_same 319 = .ok (.iload_n 2, 1) := by decide +kernel
theorem d_L_same_320 : dec m_L_same 320 = .ok (.if_icmp .ne 58, 3) := by decide +kernel
theorem d_L_same_323 : dec m_L_same 323 = .ok (.aload_n 0, 1) := by decide +kernel
theorem d_L_same_324 : dec m_L_same 324 = .ok (.aload_n 1, 1) := by decide +kernel
theorem d_L_same_325 : dec m_L_same 325 = .ok (.getfield 80, 3) := by decide +kernel
theorem d_L_same_328 : dec m_L_same 328 = .ok (.iconst 0, 1) := by decide +kernel
theorem d_L_same_329 : dec m_L_same 329 = .ok (.invokevirtual 89, 3) := by decide +kernel
theorem d_L_same_332 : dec m_L_same 332 = .ok (.ldc 98, 2) := by decide +kernel
theorem d_L_same_334 : dec m_L_same 334 = .ok (.if_icmp .ne 44, 3) := by decide +kernel
theorem d_L_same_337 : dec m_L_same 337 = .ok (.aload_n 0, 1) := by decide +kernel
theorem d_L_same_338 : dec m_L_same 338 = .ok (.iconst (-1), 1) := by decide +kernel
theorem d_L_same_339 : dec m_L_same 339 = .ok (.invokevirtual 103, 3) := by decide +kernel
theorem d_L_same_342 : dec m_L_same 342 = .ok (.aload 6, 2) := by decide +kernel
theorem d_L_same_344 : dec m_L_same 344 = .ok (.invokevirtual 106, 3) := by decide +kernel
theorem d_L_same_347 : dec m_L_same 347 = .ok (.if_icmp .ne 31, 3) := by decide +kernel
theorem d_L_same_350 : dec m_L_same 350 = .ok (.aload_n 0, 1) := by decide +kernel
theorem d_L_same_351 : dec m_L_same 351 = .ok (.aload 6, 2) := by decide +kernel
theorem d_L_same_353 : dec m_L_same 353 = .ok (.invokevirtual 106, 3) := by decide +kernel
theorem d_L_same_356 : dec m_L_same 356 = .ok (.invokevirtual 103, 3) := by decide +kernel
theorem d_L_same_359 : dec m_L_same 359 = .ok (.bipush (-2), 2) := by decide +kernel
theorem d_L_same_361 : dec m_L_same 361 = .ok (.if_icmp .ne 17, 3) := by decide +kernel
theorem d_L_same_364 : dec m_L_same 364 = .ok (.aload_n 0, 1) := by decide +kernel
theorem d_L_same_365 : dec m_L_same 365 = .ok (.bipush (-2), 2) := by decide +kernel
theorem d_L_same_367 : dec m_L_same 367 = .ok (.invokevirtual 103, 3) := by decide +kernel
theorem d_L_same_370 : dec m_L_same 370 = .ok (.iconst (-1), 1) := by decide +kernel
theorem d_L_same_371 : dec m_L_same 371 = .ok (.if_icmp .ne 7, 3) := by decide +kernel
theorem d_L_same_374 : dec m_L_same 374 = .ok (.iconst 1, 1) := by decide +kernel
theorem d_L_same_375 : dec m_L_same 375 = .ok (.goto 4, 3) := by decide +kernel
theorem d_L_same_378 : dec m_L_same 378 = .ok (.iconst 0, 1) := by decide +kernel
theorem d_L_same_379 : dec m_L_same 379 = .ok (.istore 5, 2) := by decide +kernel
theorem d_L_same_381 : dec m_L_same 381 = .ok (.iconst 0, 1) := by decide +kernel
theorem d_L_same_382 : dec m_L_same 382 = .ok (.istore 7, 2) := by decide +kernel
theorem d_L_same_384 : dec m_L_same 384 = .ok (.iload 7, 2) := by decide +kernel
theorem d_L_same_386 : dec m_L_same 386 = .ok (.aload 6, 2) := by decide +kernel
theorem d_L_same_388 : dec m_L_same 388 = .ok (.invokevirtual 106, 3) := by decide +kernel
theorem d_L_same_391 : dec m_L_same 391 = .ok (.if_icmp .ge 37, 3) := by decide +kernel
theorem d_L_same_394 : dec m_L_same 394 = .ok (.iload 5, 2) := by decide +kernel
theorem d_L_same_396 : dec m_L_same 396 = .ok (.ifCond .eq 32, 3) := by decide +kernel
theorem d_L_same_399 : dec m_L_same 399 = .ok (.aload_n 0, 1) := by decide +kernel
theorem d_L_same_400 : dec m_L_same 400 = .ok (.iload 7, 2) := by decide +kernel
theorem d_L_same_402 : dec m_L_same 402 = .ok (.invokevirtual 103, 3) := by decide +kernel
theorem d_L_same_405 : dec m_L_same 405 = .ok (.aload 6, 2) := by decide +kernel
theorem d_L_same_407 : dec m_L_same 407 = .ok (.iload 7, 2) := by decide +kernel
theorem d_L_same_409 : dec m_L_same 409 = .ok (.invokevirtual 109, 3) := by decide +kernel
theorem d_L_same_412 : dec m_L_same 412 = .ok (.if_icmp .ne 7, 3) := by decide +kernel
theorem d_L_same_415 : dec m_L_same 415 = .ok (.iconst 1, 1) := by decide +kernel
theorem d_L_same_416 : dec m_L_same 416 = .ok (.goto 4, 3) := by decide +kernel
theorem d_L_same_419 : dec m_L_same 419 = .ok (.iconst 0, 1) := by decide +kernel
theorem d_L_same_420 : dec m_L_same 420 = .ok (.istore 5, 2) := by decide +kernel
theorem d_L_same_422 : dec m_L_same 422 = .ok (.iinc 7 1, 3) := by decide +kernel
theorem d_L_same_425 : dec m_L_same 425 = .ok (.goto (-41), 3) := by decide +kernel
theorem d_L_same_428 : dec m_L_same 428 = .ok (.iload 5, 2) := by decide +kernel
theorem d_L_same_430 : dec m_L_same 430 = .ok (.ifCond .eq 94, 3) := by decide +kernel
theorem d_L_same_433 : dec m_L_same 433 = .ok (.aload_n 0, 1) := by decide +kernel
theorem d_L_same_434 : dec m_L_same 434 = .ok (.iconst 0, 1) := by decide +kernel
theorem d_L_same_435 : dec m_L_same 435 = .ok (.invokevirtual 110, 3) := by decide +kernel
theorem d_L_same_438 : dec m_L_same 438 = .ok (.aload_n 1, 1) := by decide +kernel
theorem d_L_same_439 : dec m_L_same 439 = .ok (.getfield 113, 3) := by decide +kernel
theorem d_L_same_442 : dec m_L_same 442 = .ok (.if_icmp .ne 82, 3) := by decide +kernel
theorem d_L_same_445 : dec m_L_same 445 = .ok (.aload_n 0, 1) := by decide +kernel
theorem d_L_same_446 : dec m_L_same 446 = .ok (.iconst 1, 1) := by decide +kernel
theorem d_L_same_447 : dec m_L_same 447 = .ok (.invokevirtual 110, 3) := by decide +kernel
theorem d_L_same_450 : dec m_L_same 450 = .ok (.iload_n 3, 1) := by decide +kernel
theorem d_L_same_451 : dec m_L_same 451 = .ok (.if_icmp .ne 73, 3) := by decide +kernel
theorem d_L_same_454 : dec m_L_same 454 = .ok (.iload_n 3, 1) := by decide +kernel
theorem d_L_same_455 : dec m_L_same 455 = .ok (.aload_n 1, 1) := by decide +kernel
theorem d_L_same_456 : dec m_L_same 456 = .ok (.getfield 113, 3) := by decide +kernel
theorem d_L_same_459 : dec m_L_same 459 = .ok (.iadd, 1) := by decide +kernel
theorem d_L_same_460 : dec m_L_same 460 = .ok (.ifCond .ne 64, 3) := by decide +kernel
theorem d_L_same_463 : dec m_L_same 463 = .ok (.aload_n 0, 1) := by decide +kernel
theorem d_L_same_464 : dec m_L_same 464 = .ok (.iconst 2, 1) := by decide +kernel
theorem d_L_same_465 : dec m_L_same 465 = .ok (.invokevirtual 110, 3) := by decide +kernel
theorem d_L_same_468 : dec m_L_same 468 = .ok (.aload_n 1, 1) := by decide +kernel
theorem d_L_same_469 : dec m_L_same 469 = .ok (.getfield 116, 3) := by decide +kernel
theorem d_L_same_472 : dec m_L_same 472 = .ok (.if_icmp .ne 52, 3) := by decide +kernel
theorem d_L_same_475 : dec m_L_same 475 = .ok (.aload_n 0, 1) := by decide +kernel
theorem d_L_same_476 : dec m_L_same 476 = .ok (.iconst 3, 1) := by decide +kernel
theorem d_L_same_477 : dec m_L_same 477 = .ok (.invokevirtual 110, 3) := by decide +kernel
theorem d_L_same_480 : dec m_L_same 480 = .ok (.iload 4, 2) := by decide +kernel
theorem d_L_same_482 : dec m_L_same 482 = .ok (.if_icmp .ne 42, 3) := by decide +kernel
theorem d_L_same_485 : dec m_L_same 485 = .ok (.aload_n 0, 1) := by decide +kernel
theorem d_L_same_486 : dec m_L_same 486 = .ok (.iconst 4, 1) := by decide +kernel
theorem d_L_same_487 : dec m_L_same 487 = .ok (.invokevirtual 110, 3) := by decide +kernel
theorem d_L_same_490 : dec m_L_same 490 = .ok (.aload_n 1, 1) := by decide +kernel
theorem d_L_same_491 : dec m_L_same 491 = .ok (.getfield 119, 3) := by decide +kernel
theorem d_L_same_494 : dec m_L_same 494 = .ok (.if_icmp .ne 30, 3) := by decide +kernel
theorem d_L_same_497 : dec m_L_same 497 = .ok (.aload_n 0, 1) := by decide +kernel
theorem d_L_same_498 : dec m_L_same 498 = .ok (.iconst 5, 1) := by decide +kernel
theorem d_L_same_499 : dec m_L_same 499 = .ok (.invokevirtual 110, 3) := by decide +kernel
theorem d_L_same_502 : dec m_L_same 502 = .ok (.aload_n 1, 1) := by decide +kernel
theorem d_L_same_503 : dec m_L_same 503 = .ok (.getfield 122, 3) := by decide +kernel
theorem d_L_same_506 : dec m_L_same 506 = .ok (.if_icmp .ne 18, 3) := by decide +kernel
theorem d_L_same_509 : dec m_L_same 509 = .ok (.aload_n 0, 1) := by decide +kernel
theorem d_L_same_510 : dec m_L_same 510 = .ok (.bipush 6, 2) := by decide +kernel
theorem d_L_same_512 : dec m_L_same 512 = .ok (.invokevirtual 110, 3) := by decide +kernel
theorem d_L_same_515 : dec m_L_same 515 = .ok (.ldc 98, 2) := by decide +kernel
theorem d_L_same_517 : dec m_L_same 517 = .ok (.if_icmp .ne 7, 3) := by decide +kernel
theorem d_L_same_520 : dec m_L_same 520 = .ok (.iconst 1, 1) := by decide +kernel
theorem d_L_same_521 : dec m_L_same 521 = .ok (.goto 4, 3) := by decide +kernel
theorem d_L_same_524 : dec m_L_same 524 = .ok (.iconst 0, 1) := by decide +kernel
theorem d_L_same_525 : dec m_L_same 525 = .ok (.ireturn, 1) := by decide +kernel
theorem d_L_closes_0 : dec m_L_closes 0 = .ok (.new 28, 3) := by decide +kernel
theorem d_L_closes_3 : dec m_L_closes 3 = .ok (.dup, 1) := by decide +kernel
theorem d_L_closes_4 : dec m_L_closes 4 = .ok (.aload_n 0, 1) := by decide +kernel
theorem d_L_closes_5 : dec m_L_closes 5 = .ok (.iconst 1, 1) := by decide +kernel
theorem d_L_closes_6 : dec m_L_closes 6 = .ok (.iload_n 1, 1) := by decide +kernel
theorem d_L_closes_7 : dec m_L_closes 7 = .ok (.ishl, 1) := by decide +kernel
theorem d_L_closes_8 : dec m_L_closes 8 = .ok (.iconst (-1), 1) := by decide +kernel
theorem d_L_closes_9 : dec m_L_closes 9 = .ok (.invokespecial 36, 3) := by decide +kernel
theorem d_L_closes_12 : dec m_L_closes 12 = .ok (.aload_n 0, 1) := by decide +kernel
theorem d_L_closes_13 : dec m_L_closes 13 = .ok (.getfield 71, 3) := by decide +kernel
theorem d_L_closes_16 : dec m_L_closes 16 = .ok (.aload_n 0, 1) := by decide +kernel
theorem d_L_closes_17 : dec m_L_closes 17 = .ok (.getfield 39, 3) := by decide +kernel
theorem d_L_closes_20 : dec m_L_closes 20 = .ok (.invokevirtual 43, 3) := by decide +kernel
theorem d_L_closes_23 : dec m_L_closes 23 = .ok (.astore_n 2, 1) := by decide +kernel
theorem d_L_closes_24 : dec m_L_closes 24 = .ok (.aload_n 2, 1) := by decide +kernel
theorem d_L_closes_25 : dec m_L_closes 25 = .ok (.getfield 125, 3) := by decide +kernel
theorem d_L_closes_28 : dec m_L_closes 28 = .ok (.ifCond .ne 6, 3) := by decide +kernel
theorem d_L_closes_31 : dec m_L_closes 31 = .ok (.bipush (-2), 2) := by decide +kernel
theorem d_L_closes_33 : dec m_L_closes 33 = .ok (.ireturn, 1) := by decide +kernel
theorem d_L_closes_34 : dec m_L_closes 34 = .ok (.aload_n 0, 1) := by decide +kernel
theorem d_L_closes_35 : dec m_L_closes 35 = .ok (.iload_n 1, 1) := by decide +kernel
theorem d_L_closes_36 : dec m_L_closes 36 = .ok (.aload_n 0, 1) := by decide +kernel
theorem d_L_closes_37 : dec m_L_closes 37 = .ok (.getfield 71, 3) := by decide +kernel
theorem d_L_closes_40 : dec m_L_closes 40 = .ok (.invokestatic 128, 3) := by decide +kernel
theorem d_L_closes_43 : dec m_L_closes 43 = .ok (.istore_n 3, 1) := by decide +kernel
theorem d_L_closes_44 : dec m_L_closes 44 = .ok (.bipush 21, 2) := by decide +kernel
theorem d_L_closes_46 : dec m_L_closes 46 = .ok (.newarray .int, 2) := by decide +kernel
theorem d_L_closes_48 : dec m_L_closes 48 = .ok (.astore 4, 2) := by decide +kernel
theorem d_L_closes_50 : dec m_L_closes 50 = .ok (.bipush 21, 2) := by decide +kernel
theorem d_L_closes_52 : dec m_L_closes 52 = .ok (.newarray .int, 2) := by decide +kernel
theorem d_L_closes_54 : dec m_L_closes 54 = .ok (.astore 5, 2) := by decide +kernel
theorem d_L_closes_56 : dec m_L_closes 56 = .ok (.iconst 0, 1) := by decide +kernel
theorem d_L_closes_57 : dec m_L_closes 57 = .ok (.istore 6, 2) := by decide +kernel
theorem d_L_closes_59 : dec m_L_closes 59 = .ok (.iload 6, 2) := by decide +kernel
theorem d_L_closes_61 : dec m_L_closes 61 = .ok (.aload_n 0, 1) := by decide +kernel
theorem d_L_closes_62 : dec m_L_closes 62 = .ok (.getfield 80, 3) := by decide +kernel
theorem d_L_closes_65 : dec m_L_closes 65 = .ok (.if_icmp .ge 66, 3) := by decide +kernel
theorem d_L_closes_68 : dec m_L_closes 68 = .ok (.aload 4, 2) := by decide +kernel
theorem d_L_closes_70 : dec m_L_closes 70 = .ok (.iload 6, 2) := by decide +kernel
theorem d_L_closes_72 : dec m_L_closes 72 = .ok (.aload_n 0, 1) := by decide +kernel
theorem d_L_closes_73 : dec m_L_closes 73 = .ok (.getfield 30, 3) := by decide +kernel
theorem d_L_closes_76 : dec m_L_closes 76 = .ok (.iload 6, 2) := by decide +kernel
theorem d_L_closes_78 : dec m_L_closes 78 = .ok (.iaload, 1) := by decide +kernel
theorem d_L_closes_79 : dec m_L_closes 79 = .ok (.iload_n 1, 1) := by decide +kernel
theorem d_L_closes_80 : dec m_L_closes 80 = .ok (.if_icmp .ne 17, 3) := by decide +kernel
theorem d_L_closes_83 : dec m_L_closes 83 = .ok (.aload_n 0, 1) := by decide +kernel
theorem d_L_closes_84 : dec m_L_closes 84 = .ok (.iload 6, 2) := by decide +kernel
theorem d_L_closes_86 : dec m_L_closes 86 = .ok (.aload_n 0, 1) := by decide +kernel
theorem d_L_closes_87 : dec m_L_closes 87 = .ok (.getfield 71, 3) := by decide +kernel
theorem d_L_closes_90 : dec m_L_closes 90 = .ok (.iconst (-1), 1) := by decide +kernel
theorem d_L_closes_91 : dec m_L_closes 91 = .ok (.invokestatic 74, 3) := by decide +kernel
theorem d_L_closes_94 : dec m_L_closes 94 = .ok (.goto 4, 3) := by decide +kernel
theorem d_L_closes_97 : dec m_L_closes 97 = .ok (.iconst 0, 1) := by decide +kernel
theorem d_L_closes_98 : dec m_L_closes 98 = .ok (.iastore, 1) := by decide +kernel
theorem d_L_closes_99 : dec m_L_closes 99 = .ok (.aload 5, 2) := by decide +kernel
theorem d_L_closes_101 : dec m_L_closes 101 = .ok (.iload 6, 2) := by decide +kernel
theorem d_L_closes_103 : dec m_L_closes 103 = .ok (.aload_n 0, 1) := by decide +kernel
theorem d_L_closes_104 : dec m_L_closes 104 = .ok (.getfield 30, 3) := by decide +kernel
theorem d_L_closes_107 : dec m_L_closes 107 = .ok (.iload 6, 2) := by decide +kernel
theorem d_L_closes_109 : dec m_L_closes 109 = .ok (.iaload, 1) := by decide +kernel
theorem d_L_closes_110 : dec m_L_closes 110 = .ok (.iload_n 1, 1) := by decide +kernel
theorem d_L_closes_111 : dec m_L_closes 111 = .ok (.if_icmp .ne 12, 3) := by decide +kernel
theorem d_L_closes_114 : dec m_L_closes 114 = .ok (.aload_n 2, 1) := by decide +kernel
theorem d_L_closes_115 : dec m_L_closes 115 = .ok (.iload 6, 2) := by decide +kernel
theorem d_L_closes_117 : dec m_L_closes 117 = .ok (.invokevirtual 47, 3) := by decide +kernel
theorem d_L_closes_120 : dec m_L_closes 120 = .ok (.goto 4, 3) := by decide +kernel
theorem d_L_closes_123 : dec m_L_closes 123 = .ok (.iconst 0, 1) := by decide +kernel
theorem d_L_closes_124 : dec m_L_closes 124 = .ok (.iastore, 1) := by decide +kernel
theorem d_L_closes_125 : dec m_L_closes 125 = .ok (.iinc 6 1, 3) := by decide +kernel
theorem d_L_closes_128 : dec m_L_closes 128 = .ok (.goto (-69), 3) := by decide +kernel
theorem d_L_closes_131 : dec m_L_closes 131 = .ok (.iconst 0, 1) := by decide +kernel
theorem d_L_closes_132 : dec m_L_closes 132 = .ok (.istore 6, 2) := by decide +kernel
theorem d_L_closes_134 : dec m_L_closes 134 = .ok (.iload 6, 2) := by decide +kernel
theorem d_L_closes_136 : dec m_L_closes 136 = .ok (.aload_n 0, 1) := by decide +kernel
theorem d_L_closes_137 : dec m_L_closes 137 = .ok (.getfield 80, 3) := by decide +kernel
theorem d_L_closes_140 : dec m_L_closes 140 = .ok (.if_icmp .ge 106, 3) := by decide +kernel
theorem d_L_closes_143 : dec m_L_closes 143 = .ok (.aload_n 0, 1) := by decide +kernel
theorem d_L_closes_144 : dec m_L_closes 144 = .ok (.getfield 86, 3) := by decide +kernel
theorem d_L_closes_147 : dec m_L_closes 147 = .ok (.iload 6, 2) := by decide +kernel
theorem d_L_closes_149 : dec m_L_closes 149 = .ok (.dup2, 1) := by decide +kernel
theorem d_L_closes_150 : dec m_L_closes 150 = .ok (.iaload, 1) := by decide +kernel
theorem d_L_closes_151 : dec m_L_closes 151 = .ok (.aload_n 0, 1) := by decide +kernel
theorem d_L_closes_152 : dec m_L_closes 152 = .ok (.getfield 50, 3) := by decide +kernel
theorem d_L_closes_155 : dec m_L_closes 155 = .ok (.iload 6, 2) := by decide +kernel
theorem d_L_closes_157 : dec m_L_closes 157 = .ok (.baload, 1) := by decide +kernel
theorem d_L_closes_158 : dec m_L_closes 158 = .ok (.ifCond .eq 11, 3) := by decide +kernel
theorem d_L_closes_161 : dec m_L_closes 161 = .ok (.aload 4, 2) := by decide +kernel
theorem d_L_closes_163 : dec m_L_closes 163 = .ok (.iload 6, 2) := by decide +kernel
theorem d_L_closes_165 : dec m_L_closes 165 = .ok (.iaload, 1) := by decide +kernel
theorem d_L_closes_166 : dec m_L_closes 166 = .ok (.goto 9, 3) := by decide +kernel
theorem d_L_closes_169 : dec m_L_closes 169 = .ok (.aload 4, 2) := by decide +kernel
theorem d_L_closes_171 : dec m_L_closes 171 = .ok (.iload 6, 2) := by decide +kernel
theorem d_L_closes_173 : dec m_L_closes 173 = .ok (.iaload, 1) := by decide +kernel
theorem d_L_closes_174 : dec m_L_closes 174 = .ok (.ineg, 1) := by decide +kernel
theorem d_L_closes_175 : dec m_L_closes 175 = .ok (.iadd, 1) := by decide +kernel
theorem d_L_closes_176 : dec m_L_closes 176 = .ok (.iastore, 1) := by decide +kernel
theorem d_L_closes_177 : dec m_L_closes 177 = .ok (.aload_n 0, 1) := by decide +kernel
theorem d_L_closes_178 : dec m_L_closes 178 = .ok (.getfield 93, 3) := by decide +kernel
theorem d_L_closes_181 : dec m_L_closes 181 = .ok (.iload 6, 2) := by decide +kernel
theorem d_L_closes_183 : dec m_L_closes 183 = .ok (.dup2, 1) := by decide +kernel
theorem d_L_closes_184 : dec m_L_closes 184 = .ok (.iaload, 1) := by decide +kernel
theorem d_L_closes_185 : dec m_L_closes 185 = .ok (.aload 5, 2) := by decide +kernel
theorem d_L_closes_187 : dec m_L_closes 187 = .ok (.iload 6, 2) := by decide +kernel
theorem d_L_closes_189 : dec m_L_closes 189 = .ok (.iaload, 1) := by decide +kernel
theorem d_L_closes_190 : dec m_L_closes 190 = .ok (.iadd, 1) := by decide +kernel
theorem d_L_closes_191 : dec m_L_closes 191 = .ok (.iastore, 1) := by decide +kernel
theorem d_L_closes_192 : dec m_L_closes 192 = .ok (.aload_n 0, 1) := by decide +kernel
theorem d_L_closes_193 : dec m_L_closes 193 = .ok (.getfield 64, 3) := by decide +kernel
theorem d_L_closes_196 : dec m_L_closes 196 = .ok (.iload 6, 2) := by decide +kernel
theorem d_L_closes_198 : dec m_L_closes 198 = .ok (.aaload, 1) := by decide +kernel
theorem d_L_closes_199 : dec m_L_closes 199 = .ok (.arraylength, 1) := by decide +kernel
theorem d_L_closes_200 : dec m_L_closes 200 = .ok (.aload 5, 2) := by decide +kernel
theorem d_L_closes_202 : dec m_L_closes 202 = .ok (.iload 6, 2) := by decide +kernel
theorem d_L_closes_204 : dec m_L_closes 204 = .ok (.iaload, 1) := by decide +kernel
theorem d_L_closes_205 : dec m_L_closes 205 = .ok (.isub, 1) := by decide +kernel
theorem d_L_closes_206 : dec m_L_closes 206 = .ok (.newarray .int, 2) := by decide +kernel
theorem d_L_closes_208 : dec m_L_closes 208 = .ok (.astore 7, 2) := by decide +kernel
theorem d_L_closes_210 : dec m_L_closes 210 = .ok (.aload_n 0, 1) := by decide +kernel
theorem d_L_closes_211 : dec m_L_closes 211 = .ok (.getfield 64, 3) := by decide +kernel
theorem d_L_closes_214 : dec m_L_closes 214 = .ok (.iload 6, 2) := by decide +kernel
theorem d_L_closes_216 : dec m_L_closes 216 = .ok (.aaload, 1) := by decide +kernel
theorem d_L_closes_217 : dec m_L_closes 217 = .ok (.aload 5, 2) := by decide +kernel
theorem d_L_closes_219 : dec m_L_closes 219 = .ok (.iload 6, 2) := by decide +kernel
theorem d_L_closes_221 : dec m_L_closes 221 = .ok (.iaload, 1) := by decide +kernel
theorem d_L_closes_222 : dec m_L_closes 222 = .ok (.aload 7, 2) := by decide +kernel
theorem d_L_closes_224 : dec m_L_closes 224 = .ok (.iconst 0, 1) := by decide +kernel
theorem d_L_closes_225 : dec m_L_closes 225 = .ok (.aload 7, 2) := by decide +kernel
theorem d_L_closes_227 : dec m_L_closes 227 = .ok (.arraylength, 1) := by decide +kernel
theorem d_L_closes_228 : dec m_L_closes 228 = .ok (.invokestatic 132, 3) := by decide +kernel
theorem d_L_closes_231 : dec m_L_closes 231 = .ok (.aload_n 0, 1) := by decide +kernel
theorem d_L_closes_232 : dec m_L_closes 232 = .ok (.getfield 64, 3) := by decide +kernel
theorem d_L_closes_235 : dec m_L_closes 235 = .ok (.iload 6, 2) := by decide +kernel
theorem d_L_closes_237 : dec m_L_closes 237 = .ok (.aload 7, 2) := by decide +kernel
theorem d_L_closes_239 : dec m_L_closes 239 = .ok (.aastore, 1) := by decide +kernel
theorem d_L_closes_240 : dec m_L_closes 240 = .ok (.iinc 6 1, 3) := by decide +kernel
theorem d_L_closes_243 : dec m_L_closes 243 = .ok (.goto (-109), 3) := by decide +kernel
theorem d_L_closes_246 : dec m_L_closes 246 = .ok (.aload_n 0, 1) := by decide +kernel
theorem d_L_closes_247 : dec m_L_closes 247 = .ok (.dup, 1) := by decide +kernel
theorem d_L_closes_248 : dec m_L_closes 248 = .ok (.getfield 113, 3) := by decide +kernel
theorem d_L_closes_251 : dec m_L_closes 251 = .ok (.iload_n 3, 1) := by decide +kernel
theorem d_L_closes_252 : dec m_L_closes 252 = .ok (.iadd, 1) := by decide +kernel
theorem d_L_closes_253 : dec m_L_closes 253 = .ok (.putfield 113, 3) := by decide +kernel
theorem d_L_closes_256 : dec m_L_closes 256 = .ok (.aload_n 0, 1) := by decide +kernel
theorem d_L_closes_257 : dec m_L_closes 257 = .ok (.aload_n 0, 1) := by decide +kernel
theorem d_L_closes_258 : dec m_L_closes 258 = .ok (.getfield 122, 3) := by decide +kernel
theorem d_L_closes_261 : dec m_L_closes 261 = .ok (.ifCond .ne 7, 3) := by decide +kernel
theorem d_L_closes_264 : dec m_L_closes 264 = .ok (.iload_n 3, 1) := by decide +kernel
theorem d_L_closes_265 : dec m_L_closes 265 = .ok (.goto 11, 3) := by decide +kernel
theorem d_L_closes_268 : dec m_L_closes 268 = .ok (.aload_n 0, 1) := by decide +kernel
theorem d_L_closes_269 : dec m_L_closes 269 = .ok (.getfield 119, 3) := by decide +kernel
theorem d_L_closes_272 : dec m_L_closes 272 = .ok (.iload_n 3, 1) := by decide +kernel
theorem d_L_closes_273 : dec m_L_closes 273 = .ok (.invokestatic 138, 3) := by decide +kernel
theorem d_L_closes_276 : dec m_L_closes 276 = .ok (.putfield 119, 3) := by decide +kernel
theorem d_L_closes_279 : dec m_L_closes 279 = .ok (.aload_n 0, 1) := by decide +kernel
theorem d_L_closes_280 : dec m_L_closes 280 = .ok (.dup, 1) := by decide +kernel
theorem d_L_closes_281 : dec m_L_closes 281 = .ok (.getfield 122, 3) := by decide +kernel
theorem d_L_closes_284 : dec m_L_closes 284 = .ok (.iconst 1, 1) := by decide +kernel
theorem d_L_closes_285 : dec m_L_closes 285 = .ok (.iadd, 1) := by decide +kernel
theorem d_L_closes_286 : dec m_L_closes 286 = .ok (.putfield 122, 3) := by decide +kernel
theorem d_L_closes_289 : dec m_L_closes 289 = .ok (.aload_n 0, 1) := by decide +kernel
theorem d_L_closes_290 : dec m_L_closes 290 = .ok (.dup, 1) := by decide +kernel
theorem d_L_closes_291 : dec m_L_closes 291 = .ok (.getfield 116, 3) := by decide +kernel
theorem d_L_closes_294 : dec m_L_closes 294 = .ok (.aload_n 2, 1) := by decide +kernel
theorem d_L_closes_295 : dec m_L_closes 295 = .ok (.getfield 125, 3) := by decide +kernel
theorem d_L_closes_298 : dec m_L_closes 298 = .ok (.iadd, 1) := by decide +kernel
theorem d_L_closes_299 : dec m_L_closes 299 = .ok (.putfield 116, 3) := by decide +kernel
theorem d_L_closes_302 : dec m_L_closes 302 = .ok (.aload_n 2, 1) := by decide +kernel
theorem d_L_closes_303 : dec m_L_closes 303 = .ok (.getfield 125, 3) := by decide +kernel
theorem d_L_closes_306 : dec m_L_closes 306 = .ok (.ireturn, 1) := by decide +kernel
theorem d_L_goesOn_0 : dec m_L_goesOn 0 = .ok (.iload_n 0, 1) := by decide +kernel
theorem d_L_goesOn_1 : dec m_L_goesOn 1 = .ok (.ifCond .eq 16, 3) := by decide +kernel
theorem d_L_goesOn_4 : dec m_L_goesOn 4 = .ok (.iload_n 2, 1) := by decide +kernel
theorem d_L_goesOn_5 : dec m_L_goesOn 5 = .ok (.iload_n 1, 1) := by decide +kernel
theorem d_L_goesOn_6 : dec m_L_goesOn 6 = .ok (.if_icmp .lt 7, 3) := by decide +kernel
theorem d_L_goesOn_9 : dec m_L_goesOn 9 = .ok (.iconst 1, 1) := by decide +kernel
theorem d_L_goesOn_10 : dec m_L_goesOn 10 = .ok (.goto 17, 3) := by decide +kernel
theorem d_L_goesOn_13 : dec m_L_goesOn 13 = .ok (.iconst 0, 1) := by decide +kernel
theorem d_L_goesOn_14 : dec m_L_goesOn 14 = .ok (.goto 13, 3) := by decide +kernel
theorem d_L_goesOn_17 : dec m_L_goesOn 17 = .ok (.iload_n 2, 1) := by decide +kernel
theorem d_L_goesOn_18 : dec m_L_goesOn 18 = .ok (.iload_n 1, 1) := by decide +kernel
theorem d_L_goesOn_19 : dec m_L_goesOn 19 = .ok (.if_icmp .gt 7, 3) := by decide +kernel
theorem d_L_goesOn_22 : dec m_L_goesOn 22 = .ok (.iconst 1, 1) := by decide +kernel
theorem d_L_goesOn_23 : dec m_L_goesOn 23 = .ok (.goto 4, 3) := by decide +kernel
theorem d_L_goesOn_26 : dec m_L_goesOn 26 = .ok (.iconst 0, 1) := by decide +kernel
theorem d_L_goesOn_27 : dec m_L_goesOn 27 = .ok (.ireturn, 1) := by decide +kernel
