set_option maxRecDepth 100000
theorem d_L_law_952 : dec m_L_law 952 = .ok (.aload_n 1, 1) := by decide +kernel
theorem d_L_law_953 : dec m_L_law 953 = .ok (.aload_n 0, 1) := by decide +kernel
theorem d_L_law_954 : dec m_L_law 954 = .ok (.iload_n 3, 1) := by decide +kernel
theorem d_L_law_955 : dec m_L_law 955 = .ok (.iconst 1, 1) := by decide +kernel
theorem d_L_law_956 : dec m_L_law 956 = .ok (.iadd, 1) := by decide +kernel
theorem d_L_law_957 : dec m_L_law 957 = .ok (.iaload, 1) := by decide +kernel
theorem d_L_law_958 : dec m_L_law 958 = .ok (.aload_n 0, 1) := by decide +kernel
theorem d_L_law_959 : dec m_L_law 959 = .ok (.iload_n 3, 1) := by decide +kernel
theorem d_L_law_960 : dec m_L_law 960 = .ok (.iconst 2, 1) := by decide +kernel
theorem d_L_law_961 : dec m_L_law 961 = .ok (.iadd, 1) := by decide +kernel
theorem d_L_law_962 : dec m_L_law 962 = .ok (.iaload, 1) := by decide +kernel
theorem d_L_law_963 : dec m_L_law 963 = .ok (.aload_n 0, 1) := by decide +kernel
theorem d_L_law_964 : dec m_L_law 964 = .ok (.iload_n 3, 1) := by decide +kernel
theorem d_L_law_965 : dec m_L_law 965 = .ok (.iconst 3, 1) := by decide +kernel
theorem d_L_law_966 : dec m_L_law 966 = .ok (.iadd, 1) := by decide +kernel
theorem d_L_law_967 : dec m_L_law 967 = .ok (.iaload, 1) := by decide +kernel
theorem d_L_law_968 : dec m_L_law 968 = .ok (.invokevirtual 113, 3) := by decide +kernel
theorem d_L_law_971 : dec m_L_law 971 = .ok (.aload_n 2, 1) := by decide +kernel
theorem d_L_law_972 : dec m_L_law 972 = .ok (.aload_n 0, 1) := by decide +kernel
theorem d_L_law_973 : dec m_L_law 973 = .ok (.iload_n 3, 1) := by decide +kernel
theorem d_L_law_974 : dec m_L_law 974 = .ok (.iconst 1, 1) := by decide +kernel
theorem d_L_law_975 : dec m_L_law 975 = .ok (.iadd, 1) := by decide +kernel
theorem d_L_law_976 : dec m_L_law 976 = .ok (.iaload, 1) := by decide +kernel
theorem d_L_law_977 : dec m_L_law 977 = .ok (.aload_n 0, 1) := by decide +kernel
theorem d_L_law_978 : dec m_L_law 978 = .ok (.iload_n 3, 1) := by decide +kernel
theorem d_L_law_979 : dec m_L_law 979 = .ok (.iconst 2, 1) := by decide +kernel
theorem d_L_law_980 : dec m_L_law 980 = .ok (.iadd, 1) := by decide +kernel
theorem d_L_law_981 : dec m_L_law 981 = .ok (.iaload, 1) := by decide +kernel
theorem d_L_law_982 : dec m_L_law 982 = .ok (.aload_n 0, 1) := by decide +kernel
theorem d_L_law_983 : dec m_L_law 983 = .ok (.iload_n 3, 1) := by decide +kernel
theorem d_L_law_984 : dec m_L_law 984 = .ok (.iconst 3, 1) := by decide +kernel
theorem d_L_law_985 : dec m_L_law 985 = .ok (.iadd, 1) := by decide +kernel
theorem d_L_law_986 : dec m_L_law 986 = .ok (.iaload, 1) := by decide +kernel
theorem d_L_law_987 : dec m_L_law 987 = .ok (.invokevirtual 116, 3) := by decide +kernel
theorem d_L_law_990 : dec m_L_law 990 = .ok (.if_icmp .eq 619, 3) := by decide +kernel
theorem d_L_law_993 : dec m_L_law 993 = .ok (.iconst 0, 1) := by decide +kernel
theorem d_L_law_994 : dec m_L_law 994 = .ok (.ireturn, 1) := by decide +kernel
theorem d_L_law_995 : dec m_L_law 995 = .ok (.aload_n 1, 1) := by decide +kernel
theorem d_L_law_996 : dec m_L_law 996 = .ok (.aload_n 0, 1) := by decide +kernel
theorem d_L_law_997 : dec m_L_law 997 = .ok (.iload_n 3, 1) := by decide +kernel
theorem d_L_law_998 : dec m_L_law 998 = .ok (.iconst 1, 1) := by decide +kernel
theorem d_L_law_999 : dec m_L_law 999 = .ok (.iadd, 1) := by decide +kernel
theorem d_L_law_1000 : dec m_L_law 1000 = .ok (.iaload, 1) := by decide +kernel
theorem d_L_law_1001 : dec m_L_law 1001 = .ok (.invokevirtual 117, 3) := by decide +kernel
theorem d_L_law_1004 : dec m_L_law 1004 = .ok (.aload_n 2, 1) := by decide +kernel
theorem d_L_law_1005 : dec m_L_law 1005 = .ok (.aload_n 0, 1) := by decide +kernel
theorem d_L_law_1006 : dec m_L_law 1006 = .ok (.iload_n 3, 1) := by decide +kernel
theorem d_L_law_1007 : dec m_L_law 1007 = .ok (.iconst 1, 1) := by decide +kernel
theorem d_L_law_1008 : dec m_L_law 1008 = .ok (.iadd, 1) := by decide +kernel
theorem d_L_law_1009 : dec m_L_law 1009 = .ok (.iaload, 1) := by decide +kernel
theorem d_L_law_1010 : dec m_L_law 1010 = .ok (.invokevirtual 120, 3) := by decide +kernel
theorem d_L_law_1013 : dec m_L_law 1013 = .ok (.if_icmp .eq 596, 3) := by decide +kernel
theorem d_L_law_1016 : dec m_L_law 1016 = .ok (.iconst 0, 1) := by decide +kernel
theorem d_L_law_1017 : dec m_L_law 1017 = .ok (.ireturn, 1) := by decide +kernel
theorem d_L_law_1018 : dec m_L_law 1018 = .ok (.aload_n 1, 1) := by decide +kernel
theorem d_L_law_1019 : dec m_L_law 1019 = .ok (.aload_n 0, 1) := by decide +kernel
theorem d_L_law_1020 : dec m_L_law 1020 = .ok (.iload_n 3, 1) := by decide +kernel
theorem d_L_law_1021 : dec m_L_law 1021 = .ok (.iconst 1, 1) := by decide +kernel
theorem d_L_law_1022 : dec m_L_law 1022 = .ok (.iadd, 1) := by decide +kernel
theorem d_L_law_1023 : dec m_L_law 1023 = .ok (.iaload, 1) := by decide +kernel
theorem d_L_law_1024 : dec m_L_law 1024 = .ok (.invokevirtual 121, 3) := by decide +kernel
theorem d_L_law_1027 : dec m_L_law 1027 = .ok (.aload_n 2, 1) := by decide +kernel
theorem d_L_law_1028 : dec m_L_law 1028 = .ok (.aload_n 0, 1) := by decide +kernel
theorem d_L_law_1029 : dec m_L_law 1029 = .ok (.iload_n 3, 1) := by decide +kernel
theorem d_L_law_1030 : dec m_L_law 1030 = .ok (.iconst 1, 1) := by decide +kernel
theorem d_L_law_1031 : dec m_L_law 1031 = .ok (.iadd, 1) := by decide +kernel
theorem d_L_law_1032 : dec m_L_law 1032 = .ok (.iaload, 1) := by decide +kernel
theorem d_L_law_1033 : dec m_L_law 1033 = .ok (.invokevirtual 124, 3) := by decide +kernel
theorem d_L_law_1036 : dec m_L_law 1036 = .ok (.if_icmp .eq 573, 3) := by decide +kernel
theorem d_L_law_1039 : dec m_L_law 1039 = .ok (.iconst 0, 1) := by decide +kernel
theorem d_L_law_1040 : dec m_L_law 1040 = .ok (.ireturn, 1) := by decide +kernel
theorem d_L_law_1041 : dec m_L_law 1041 = .ok (.aload_n 1, 1) := by decide +kernel
theorem d_L_law_1042 : dec m_L_law 1042 = .ok (.invokevirtual 125, 3) := by decide +kernel
theorem d_L_law_1045 : dec m_L_law 1045 = .ok (.aload_n 2, 1) := by decide +kernel
theorem d_L_law_1046 : dec m_L_law 1046 = .ok (.invokevirtual 129, 3) := by decide +kernel
theorem d_L_law_1049 : dec m_L_law 1049 = .ok (.lcmp, 1) := by decide +kernel
theorem d_L_law_1050 : dec m_L_law 1050 = .ok (.ifCond .eq 559, 3) := by decide +kernel
theorem d_L_law_1053 : dec m_L_law 1053 = .ok (.iconst 0, 1) := by decide +kernel
theorem d_L_law_1054 : dec m_L_law 1054 = .ok (.ireturn, 1) := by decide +kernel
theorem d_L_law_1055 : dec m_L_law 1055 = .ok (.aload_n 1, 1) := by decide +kernel
theorem d_L_law_1056 : dec m_L_law 1056 = .ok (.aload_n 0, 1) := by decide +kernel
theorem d_L_law_1057 : dec m_L_law 1057 = .ok (.iload_n 3, 1) := by decide +kernel
theorem d_L_law_1058 : dec m_L_law 1058 = .ok (.iconst 1, 1) := by decide +kernel
theorem d_L_law_1059 : dec m_L_law 1059 = .ok (.iadd, 1) := by decide +kernel
theorem d_L_law_1060 : dec m_L_law 1060 = .ok (.iaload, 1) := by decide +kernel
theorem d_L_law_1061 : dec m_L_law 1061 = .ok (.invokevirtual 130, 3) := by decide +kernel
theorem d_L_law_1064 : dec m_L_law 1064 = .ok (.aload_n 2, 1) := by decide +kernel
theorem d_L_law_1065 : dec m_L_law 1065 = .ok (.aload_n 0, 1) := by decide +kernel
theorem d_L_law_1066 : dec m_L_law 1066 = .ok (.iload_n 3, 1) := by decide +kernel
theorem d_L_law_1067 : dec m_L_law 1067 = .ok (.iconst 1, 1) := by decide +kernel
theorem d_L_law_1068 : dec m_L_law 1068 = .ok (.iadd, 1) := by decide +kernel
theorem d_L_law_1069 : dec m_L_law 1069 = .ok (.iaload, 1) := by decide +kernel
theorem d_L_law_1070 : dec m_L_law 1070 = .ok (.invokevirtual 133, 3) := by decide +kernel
theorem d_L_law_1073 : dec m_L_law 1073 = .ok (.if_icmp .eq 536, 3) := by decide +kernel
theorem d_L_law_1076 : dec m_L_law 1076 = .ok (.iconst 0, 1) := by decide +kernel
theorem d_L_law_1077 : dec m_L_law 1077 = .ok (.ireturn, 1) := by decide +kernel
theorem d_L_law_1078 : dec m_L_law 1078 = .ok (.aload_n 1, 1) := by decide +kernel
theorem d_L_law_1079 : dec m_L_law 1079 = .ok (.aload_n 0, 1) := by decide +kernel
theorem d_L_law_1080 : dec m_L_law 1080 = .ok (.iload_n 3, 1) := by decide +kernel
theorem d_L_law_1081 : dec m_L_law 1081 = .ok (.iconst 1, 1) := by decide +kernel
theorem d_L_law_1082 : dec m_L_law 1082 = .ok (.iadd, 1) := by decide +kernel
theorem d_L_law_1083 : dec m_L_law 1083 = .ok (.iaload, 1) := by decide +kernel
theorem d_L_law_1084 : dec m_L_law 1084 = .ok (.ifCond .eq 7, 3) := by decide +kernel
theorem d_L_law_1087 : dec m_L_law 1087 = .ok (.iconst 1, 1) := by decide +kernel
theorem d_L_law_1088 : dec m_L_law 1088 = .ok (.goto 4, 3) := by decide +kernel
theorem d_L_law_1091 : dec m_L_law 1091 = .ok (.iconst 0, 1) := by decide +kernel
theorem d_L_law_1092 : dec m_L_law 1092 = .ok (.aload_n 0, 1) := by decide +kernel
theorem d_L_law_1093 : dec m_L_law 1093 = .ok (.iload_n 3, 1) := by decide +kernel
theorem d_L_law_1094 : dec m_L_law 1094 = .ok (.iconst 2, 1) := by decide +kernel
theorem d_L_law_1095 : dec m_L_law 1095 = .ok (.iadd, 1) := by decide +kernel
theorem d_L_law_1096 : dec m_L_law 1096 = .ok (.iaload, 1) := by decide +kernel
theorem d_L_law_1097 : dec m_L_law 1097 = .ok (.invokevirtual 134, 3) := by decide +kernel
theorem d_L_law_1100 : dec m_L_law 1100 = .ok (.aload_n 2, 1) := by decide +kernel
theorem d_L_law_1101 : dec m_L_law 1101 = .ok (.aload_n 0, 1) := by decide +kernel
theorem d_L_law_1102 : dec m_L_law 1102 = .ok (.iload_n 3, 1) := by decide +kernel
theorem d_L_law_1103 : dec m_L_law 1103 = .ok (.iconst 1, 1) := by decide +kernel
theorem d_L_law_1104 : dec m_L_law 1104 = .ok (.iadd, 1) := by decide +kernel
theorem d_L_law_1105 : dec m_L_law 1105 = .ok (.iaload, 1) := by decide +kernel
theorem d_L_law_1106 : dec m_L_law 1106 = .ok (.ifCond .eq 7, 3) := by decide +kernel
theorem d_L_law_1109 : dec m_L_law 1109 = .ok (.iconst 1, 1) := by decide +kernel
theorem d_L_law_1110 : dec m_L_law 1110 = .ok (.goto 4, 3) := by decide +kernel
theorem d_L_law_1113 : dec m_L_law 1113 = .ok (.iconst 0, 1) := by decide +kernel
theorem d_L_law_1114 : dec m_L_law 1114 = .ok (.aload_n 0, 1) := by decide +kernel
theorem d_L_law_1115 : dec m_L_law 1115 = .ok (.iload_n 3, 1) := by decide +kernel
theorem d_L_law_1116 : dec m_L_law 1116 = .ok (.iconst 2, 1) := by decide +kernel
theorem d_L_law_1117 : dec m_L_law 1117 = .ok (.iadd, 1) := by decide +kernel
theorem d_L_law_1118 : dec m_L_law 1118 = .ok (.iaload, 1) := by decide +kernel
theorem d_L_law_1119 : dec m_L_law 1119 = .ok (.invokevirtual 137, 3) := by decide +kernel
theorem d_L_law_1122 : dec m_L_law 1122 = .ok (.if_icmp .eq 487, 3) := by decide +kernel
theorem d_L_law_1125 : dec m_L_law 1125 = .ok (.iconst 0, 1) := by decide +kernel
theorem d_L_law_1126 : dec m_L_law 1126 = .ok (.ireturn, 1) := by decide +kernel
theorem d_L_law_1127 : dec m_L_law 1127 = .ok (.aload_n 1, 1) := by decide +kernel
theorem d_L_law_1128 : dec m_L_law 1128 = .ok (.aload_n 0, 1) := by decide +kernel
theorem d_L_law_1129 : dec m_L_law 1129 = .ok (.iload_n 3, 1) := by decide +kernel
theorem d_L_law_1130 : dec m_L_law 1130 = .ok (.iconst 1, 1) := by decide +kernel
theorem d_L_law_1131 : dec m_L_law 1131 = .ok (.iadd, 1) := by decide +kernel
theorem d_L_law_1132 : dec m_L_law 1132 = .ok (.iaload, 1) := by decide +kernel
theorem d_L_law_1133 : dec m_L_law 1133 = .ok (.invokevirtual 138, 3) := by decide +kernel
theorem d_L_law_1136 : dec m_L_law 1136 = .ok (.aload_n 2, 1) := by decide +kernel
theorem d_L_law_1137 : dec m_L_law 1137 = .ok (.aload_n 0, 1) := by decide +kernel
theorem d_L_law_1138 : dec m_L_law 1138 = .ok (.iload_n 3, 1) := by decide +kernel
theorem d_L_law_1139 : dec m_L_law 1139 = .ok (.iconst 1, 1) := by decide +kernel
theorem d_L_law_1140 : dec m_L_law 1140 = .ok (.iadd, 1) := by decide +kernel
theorem d_L_law_1141 : dec m_L_law 1141 = .ok (.iaload, 1) := by decide +kernel
theorem d_L_law_1142 : dec m_L_law 1142 = .ok (.invokevirtual 141, 3) := by decide +kernel
theorem d_L_law_1145 : dec m_L_law 1145 = .ok (.if_icmp .eq 464, 3) := by decide +kernel
theorem d_L_law_1148 : dec m_L_law 1148 = .ok (.iconst 0, 1) := by decide +kernel
theorem d_L_law_1149 : dec m_L_law 1149 = .ok (.ireturn, 1) := by decide +kernel
theorem d_L_law_1150 : dec m_L_law 1150 = .ok (.aload_n 1, 1) := by decide +kernel
theorem d_L_law_1151 : dec m_L_law 1151 = .ok (.aload_n 0, 1) := by decide +kernel
theorem d_L_law_1152 : dec m_L_law 1152 = .ok (.iload_n 3, 1) := by decide +kernel
theorem d_L_law_1153 : dec m_L_law 1153 = .ok (.iconst 1, 1) := by decide +kernel
theorem d_L_law_1154 : dec m_L_law 1154 = .ok (.iadd, 1) := by decide +kernel
theorem d_L_law_1155 : dec m_L_law 1155 = .ok (.iaload, 1) := by decide +kernel
theorem d_L_law_1156 : dec m_L_law 1156 = .ok (.aload_n 0, 1) := by decide +kernel
theorem d_L_law_1157 : dec m_L_law 1157 = .ok (.iload_n 3, 1) := by decide +kernel
theorem d_L_law_1158 : dec m_L_law 1158 = .ok (.iconst 2, 1) := by decide +kernel
theorem d_L_law_1159 : dec m_L_law 1159 = .ok (.iadd, 1) := by decide +kernel
theorem d_L_law_1160 : dec m_L_law 1160 = .ok (.iaload, 1) := by decide +kernel
theorem d_L_law_1161 : dec m_L_law 1161 = .ok (.aload_n 0, 1) := by decide +kernel
theorem d_L_law_1162 : dec m_L_law 1162 = .ok (.iload_n 3, 1) := by decide +kernel
theorem d_L_law_1163 : dec m_L_law 1163 = .ok (.iconst 3, 1) := by decide +kernel
theorem d_L_law_1164 : dec m_L_law 1164 = .ok (.iadd, 1) := by decide +kernel
theorem d_L_law_1165 : dec m_L_law 1165 = .ok (.iaload, 1) := by decide +kernel
theorem d_L_law_1166 : dec m_L_law 1166 = .ok (.invokevirtual 142, 3) := by decide +kernel
theorem d_L_law_1169 : dec m_L_law 1169 = .ok (.aload_n 2, 1) := by decide +kernel
theorem d_L_law_1170 : dec m_L_law 1170 = .ok (.aload_n 0, 1) := by decide +kernel
theorem d_L_law_1171 : dec m_L_law 1171 = .ok (.iload_n 3, 1) := by decide +kernel
theorem d_L_law_1172 : dec m_L_law 1172 = .ok (.iconst 1, 1) := by decide +kernel
theorem d_L_law_1173 : dec m_L_law 1173 = .ok (.iadd, 1) := by decide +kernel
theorem d_L_law_1174 : dec m_L_law 1174 = .ok (.iaload, 1) := by decide +kernel
theorem d_L_law_1175 : dec m_L_law 1175 = .ok (.aload_n 0, 1) := by decide +kernel
theorem d_L_law_1176 : dec m_L_law 1176 = .ok (.iload_n 3, 1) := by decide +kernel
theorem d_L_law_1177 : dec m_L_law 1177 = .ok (.iconst 2, 1) := by decide +kernel
theorem d_L_law_1178 : dec m_L_law 1178 = .ok (.iadd, 1) := by decide +kernel
theorem d_L_law_1179 : dec m_L_law 1179 = .ok (.iaload, 1) := by decide +kernel
theorem d_L_law_1180 : dec m_L_law 1180 = .ok (.aload_n 0, 1) := by decide +kernel
theorem d_L_law_1181 : dec m_L_law 1181 = .ok (.iload_n 3, 1) := by decide +kernel
theorem d_L_law_1182 : dec m_L_law 1182 = .ok (.iconst 3, 1) := by decide +kernel
theorem d_L_law_1183 : dec m_L_law 1183 = .ok (.iadd, 1) := by decide +kernel
theorem d_L_law_1184 : dec m_L_law 1184 = .ok (.iaload, 1) := by decide +kernel
theorem d_L_law_1185 : dec m_L_law 1185 = .ok (.invokevirtual 145, 3) := by decide +kernel
theorem d_L_law_1188 : dec m_L_law 1188 = .ok (.if_icmp .eq 421, 3) := by decide +kernel
theorem d_L_law_1191 : dec m_L_law 1191 = .ok (.iconst 0, 1) := by decide +kernel
theorem d_L_law_1192 : dec m_L_law 1192 = .ok (.ireturn, 1) := by decide +kernel
theorem d_L_law_1193 : dec m_L_law 1193 = .ok (.aload_n 1, 1) := by decide +kernel
theorem d_L_law_1194 : dec m_L_law 1194 = .ok (.aload_n 0, 1) := by decide +kernel
theorem d_L_law_1195 : dec m_L_law 1195 = .ok (.iload_n 3, 1) := by decide +kernel
theorem d_L_law_1196 : dec m_L_law 1196 = .ok (.iconst 1, 1) := by decide +kernel
theorem d_L_law_1197 : dec m_L_law 1197 = .ok (.iadd, 1) := by decide +kernel
theorem d_L_law_1198 : dec m_L_law 1198 = .ok (.iaload, 1) := by decide +kernel
theorem d_L_law_1199 : dec m_L_law 1199 = .ok (.aload_n 0, 1) := by decide +kernel
theorem d_L_law_1200 : dec m_L_law 1200 = .ok (.iload_n 3, 1) := by decide +kernel
theorem d_L_law_1201 : dec m_L_law 1201 = .ok (.iconst 2, 1) := by decide +kernel
theorem d_L_law_1202 : dec m_L_law 1202 = .ok (.iadd, 1) := by decide +kernel
theorem d_L_law_1203 : dec m_L_law 1203 = .ok (.iaload, 1) := by decide +kernel
theorem d_L_law_1204 : dec m_L_law 1204 = .ok (.aload_n 0, 1) := by decide +kernel
theorem d_L_law_1205 : dec m_L_law 1205 = .ok (.iload_n 3, 1) := by decide +kernel
theorem d_L_law_1206 : dec m_L_law 1206 = .ok (.iconst 3, 1) := by decide +kernel
theorem d_L_law_1207 : dec m_L_law 1207 = .ok (.iadd, 1) := by decide +kernel
theorem d_L_law_1208 : dec m_L_law 1208 = .ok (.iaload, 1) := by decide +kernel
theorem d_L_law_1209 : dec m_L_law 1209 = .ok (.invokevirtual 146, 3) := by decide +kernel
theorem d_L_law_1212 : dec m_L_law 1212 = .ok (.aload_n 2, 1) := by decide +kernel
theorem d_L_law_1213 : dec m_L_law 1213 = .ok (.aload_n 0, 1) := by decide +kernel
theorem d_L_law_1214 : dec m_L_law 1214 = .ok (.iload_n 3, 1) := by decide +kernel
theorem d_L_law_1215 : dec m_L_law 1215 = .ok (.iconst 1, 1) := by decide +kernel
theorem d_L_law_1216 : dec m_L_law 1216 = .ok (.iadd, 1) := by decide +kernel
theorem d_L_law_1217 : dec m_L_law 1217 = .ok (.iaload, 1) := by decide +kernel
theorem d_L_law_1218 : dec m_L_law 1218 = .ok (.aload_n 0, 1) := by decide +kernel
theorem d_L_law_1219 : dec m_L_law 1219 = .ok (.iload_n 3, 1) := by decide +kernel
theorem d_L_law_1220 : dec m_L_law 1220 = .ok (.iconst 2, 1) := by decide +kernel
theorem d_L_law_1221 : dec m_L_law 1221 = .ok (.iadd, 1) := by decide +kernel
theorem d_L_law_1222 : dec m_L_law 1222 = .ok (.iaload, 1) := by decide +kernel
theorem d_L_law_1223 : dec m_L_law 1223 = .ok (.aload_n 0, 1) := by decide +kernel
theorem d_L_law_1224 : dec m_L_law 1224 = .ok (.iload_n 3, 1) := by decide +kernel
theorem d_L_law_1225 : dec m_L_law 1225 = .ok (.iconst 3, 1) := by decide +kernel
theorem d_L_law_1226 : dec m_L_law 1226 = .ok (.iadd, 1) := by decide +kernel
theorem d_L_law_1227 : dec m_L_law 1227 = .ok (.iaload, 1) := by decide +kernel
theorem d_L_law_1228 : dec m_L_law 1228 = .ok (.invokevirtual 149, 3) := by decide +kernel
theorem d_L_law_1231 : dec m_L_law 1231 = .ok (.if_icmp .eq 378, 3) := by decide +kernel
theorem d_L_law_1234 : dec m_L_law 1234 = .ok (.iconst 0, 1) := by decide +kernel
theorem d_L_law_1235 : dec m_L_law 1235 = .ok (.ireturn, 1) := by decide +kernel
theorem d_L_law_1236 : dec m_L_law 1236 = .ok (.aload_n 1, 1) := by decide +kernel
theorem d_L_law_1237 : dec m_L_law 1237 = .ok (.aload_n 0, 1) := by decide +kernel
theorem d_L_law_1238 : dec m_L_law 1238 = .ok (.iload_n 3, 1) := by decide +kernel
theorem d_L_law_1239 : dec m_L_law 1239 = .ok (.iconst 1, 1) := by decide +kernel
theorem d_L_law_1240 : dec m_L_law 1240 = .ok (.iadd, 1) := by decide +kernel
theorem d_L_law_1241 : dec m_L_law 1241 = .ok (.iaload, 1) := by decide +kernel
theorem d_L_law_1242 : dec m_L_law 1242 = .ok (.aload_n 0, 1) := by decide +kernel
theorem d_L_law_1243 : dec m_L_law 1243 = .ok (.iload_n 3, 1) := by decide +kernel
theorem d_L_law_1244 : dec m_L_law 1244 = .ok (.iconst 2, 1) := by decide +kernel
theorem d_L_law_1245 : dec m_L_law 1245 = .ok (.iadd, 1) := by decide +kernel
theorem d_L_law_1246 : dec m_L_law 1246 = .ok (.iaload, 1) := by decide +kernel
theorem d_L_law_1247 : dec m_L_law 1247 = .ok (.invokevirtual 150, 3) := by decide +kernel
theorem d_L_law_1250 : dec m_L_law 1250 = .ok (.aload_n 2, 1) := by decide +kernel
theorem d_L_law_1251 : dec m_L_law 1251 = .ok (.aload_n 0, 1) := by decide +kernel
theorem d_L_law_1252 : dec m_L_law 1252 = .ok (.iload_n 3, 1) := by decide +kernel
theorem d_L_law_1253 : dec m_L_law 1253 = .ok (.iconst 1, 1) := by decide +kernel
theorem d_L_law_1254 : dec m_L_law 1254 = .ok (.iadd, 1) := by decide +kernel
theorem d_L_law_1255 : dec m_L_law 1255 = .ok (.iaload, 1) := by decide +kernel
theorem d_L_law_1256 : dec m_L_law 1256 = .ok (.aload_n 0, 1) := by decide +kernel
theorem d_L_law_1257 : dec m_L_law 1257 = .ok (.iload_n 3, 1) := by decide +kernel
theorem d_L_law_1258 : dec m_L_law 1258 = .ok (.iconst 2, 1) := by decide +kernel
theorem d_L_law_1259 : dec m_L_law 1259 = .ok (.iadd, 1) := by decide +kernel
theorem d_L_law_1260 : dec m_L_law 1260 = .ok (.iaload, 1) := by decide +kernel
theorem d_L_law_1261 : dec m_L_law 1261 = .ok (.invokevirtual 153, 3) := by decide +kernel
theorem d_L_law_1264 : dec m_L_law 1264 = .ok (.if_icmp .eq 345, 3) := by decide +kernel
theorem d_L_law_1267 : dec m_L_law 1267 = .ok (.iconst 0, 1) := by decide +kernel
theorem d_L_law_1268 : dec m_L_law 1268 = .ok (.ireturn, 1) := by decide +kernel
theorem d_L_law_1269 : dec m_L_law 1269 = .ok (.aload_n 1, 1) := by decide +kernel
theorem d_L_law_1270 : dec m_L_law 1270 = .ok (.aload_n 0, 1) := by decide +kernel
theorem d_L_law_1271 : dec m_L_law 1271 = .ok (.iload_n 3, 1) := by decide +kernel
theorem d_L_law_1272 : dec m_L_law 1272 = .ok (.iconst 1, 1) := by decide +kernel
theorem d_L_law_1273 : dec m_L_law 1273 = .ok (.iadd, 1) := by decide +kernel
theorem d_L_law_1274 : dec m_L_law 1274 = .ok (.iaload, 1) := by decide +kernel
theorem d_L_law_1275 : dec m_L_law 1275 = .ok (.invokevirtual 154, 3) := by decide +kernel
theorem d_L_law_1278 : dec m_L_law 1278 = .ok (.aload_n 2, 1) := by decide +kernel
theorem d_L_law_1279 : dec m_L_law 1279 = .ok (.aload_n 0, 1) := by decide +kernel
theorem d_L_law_1280 : dec m_L_law 1280 = .ok (.iload_n 3, 1) := by decide +kernel
theorem d_L_law_1281 : dec m_L_law 1281 = .ok (.iconst 1, 1) := by decide +kernel
theorem d_L_law_1282 : dec m_L_law 1282 = .ok (.iadd, 1) := by decide +kernel
theorem d_L_law_1283 : dec m_L_law 1283 = .ok (.iaload, 1) := by decide +kernel
theorem d_L_law_1284 : dec m_L_law 1284 = .ok (.invokevirtual 157, 3) := by decide +kernel
theorem d_L_law_1287 : dec m_L_law 1287 = .ok (.if_icmp .eq 322, 3) := by decide +kernel
theorem d_L_law_1290 : dec m_L_law 1290 = .ok (.iconst 0, 1) := by decide +kernel
theorem d_L_law_1291 : dec m_L_law 1291 = .ok (.ireturn, 1) := by decide +kernel
theorem d_L_law_1292 : dec m_L_law 1292 = .ok (.aload_n 1, 1) := by decide +kernel
theorem d_L_law_1293 : dec m_L_law 1293 = .ok (.aload_n 0, 1) := by decide +kernel
theorem d_L_law_1294 : dec m_L_law 1294 = .ok (.iload_n 3, 1) := by decide +kernel
theorem d_L_law_1295 : dec m_L_law 1295 = .ok (.iconst 1, 1) := by decide +kernel
theorem d_L_law_1296 : dec m_L_law 1296 = .ok (.iadd, 1) := by decide +kernel
theorem d_L_law_1297 : dec m_L_law 1297 = .ok (.iaload, 1) := by decide +kernel
theorem d_L_law_1298 : dec m_L_law 1298 = .ok (.aload_n 0, 1) := by decide +kernel
theorem d_L_law_1299 : dec m_L_law 1299 = .ok (.iload_n 3, 1) := by decide +kernel
theorem d_L_law_1300 : dec m_L_law 1300 = .ok (.iconst 2, 1) := by decide +kernel
theorem d_L_law_1301 : dec m_L_law 1301 = .ok (.iadd, 1) := by decide +kernel
theorem d_L_law_1302 : dec m_L_law 1302 = .ok (.iaload, 1) := by decide +kernel
theorem d_L_law_1303 : dec m_L_law 1303 = .ok (.invokevirtual 158, 3) := by decide +kernel
theorem d_L_law_1306 : dec m_L_law 1306 = .ok (.aload_n 2, 1) := by decide +kernel
theorem d_L_law_1307 : dec m_L_law 1307 = .ok (.aload_n 0, 1) := by decide +kernel
theorem d_L_law_1308 : dec m_L_law 1308 = .ok (.iload_n 3, 1) := by decide +kernel
theorem d_L_law_1309 : dec m_L_law 1309 = .ok (.iconst 1, 1) := by decide +kernel
theorem d_L_law_1310 : dec m_L_law 1310 = .ok (.iadd, 1) := by decide +kernel
theorem d_L_law_1311 : dec m_L_law 1311 = .ok (.iaload, 1) := by decide +kernel
theorem d_L_law_1312 : dec m_L_law 1312 = .ok (.aload_n 0, 1) := by decide +kernel
theorem d_L_law_1313 : dec m_L_law 1313 = .ok (.iload_n 3, 1) := by decide +kernel
theorem d_L_law_1314 : dec m_L_law 1314 = .ok (.iconst 2, 1) := by decide +kernel
theorem d_L_law_1315 : dec m_L_law 1315 = .ok (.iadd, 1) := by decide +kernel
theorem d_L_law_1316 : dec m_L_law 1316 = .ok (.iaload, 1) := by decide +kernel
theorem d_L_law_1317 : dec m_L_law 1317 = .ok (.invokevirtual 161, 3) := by decide +kernel
theorem d_L_law_1320 : dec m_L_law 1320 = .ok (.if_icmp .eq 289, 3) := by decide +kernel
theorem d_L_law_1323 : dec m_L_law 1323 = .ok (.iconst 0, 1) := by decide +kernel
theorem d_L_law_1324 : dec m_L_law 1324 = .ok (.ireturn, 1) := by decide +kernel
theorem d_L_law_1325 : dec m_L_law 1325 = .ok (.aload_n 1, 1) := by decide +kernel
theorem d_L_law_1326 : dec m_L_law 1326 = .ok (.aload_n 0, 1) := by decide +kernel
theorem d_L_law_1327 : dec m_L_law 1327 = .ok (.iload_n 3, 1) := by decide +kernel
theorem d_L_law_1328 : dec m_L_law 1328 = .ok (.iconst 1, 1) := by decide +kernel
theorem d_L_law_1329 : dec m_L_law 1329 = .ok (.iadd, 1) := by decide +kernel
theorem d_L_law_1330 : dec m_L_law 1330 = .ok (.iaload, 1) := by decide +kernel
theorem d_L_law_1331 : dec m_L_law 1331 = .ok (.aload_n 0, 1) := by decide +kernel
