/-! decode rows -/
theorem dL_law_1006 : decode cL_law 1006 = .ok (.invokestatic 233, 3) := dn_184 (oo_17 7 rfl rfl) rfl
theorem dL_law_1009 : decode cL_law 1009 = .ok (.istore 5, 2) := dn_54 (oo_17 10 rfl rfl) rfl
theorem dL_law_1011 : decode cL_law 1011 = .ok (.aload_n 2, 1) := dn_44 (oo_17 12 rfl rfl)
theorem dL_law_1012 : decode cL_law 1012 = .ok (.aload_n 0, 1) := dn_42 (oo_17 13 rfl rfl)
theorem dL_law_1013 : decode cL_law 1013 = .ok (.iload 4, 2) := dn_21 (oo_17 14 rfl rfl) rfl
theorem dL_law_1015 : decode cL_law 1015 = .ok (.iconst 1, 1) := dn_4 (oo_17 16 rfl rfl)
theorem dL_law_1016 : decode cL_law 1016 = .ok (.iadd, 1) := dn_96 (oo_17 17 rfl rfl)
theorem dL_law_1017 : decode cL_law 1017 = .ok (.iaload, 1) := dn_46 (oo_17 18 rfl rfl)
theorem dL_law_1018 : decode cL_law 1018 = .ok (.aload_n 0, 1) := dn_42 (oo_17 19 rfl rfl)
theorem dL_law_1019 : decode cL_law 1019 = .ok (.iload 4, 2) := dn_21 (oo_17 20 rfl rfl) rfl
theorem dL_law_1021 : decode cL_law 1021 = .ok (.iconst 2, 1) := dn_5 (oo_17 22 rfl rfl)
theorem dL_law_1022 : decode cL_law 1022 = .ok (.iadd, 1) := dn_96 (oo_17 23 rfl rfl)
theorem dL_law_1023 : decode cL_law 1023 = .ok (.iaload, 1) := dn_46 (oo_17 24 rfl rfl)
theorem dL_law_1024 : decode cL_law 1024 = .ok (.invokevirtual 235, 3) := dn_182 (oo_17 25 rfl rfl) rfl
theorem dL_law_1027 : decode cL_law 1027 = .ok (.istore 6, 2) := dn_54 (oo_17 28 rfl rfl) rfl
theorem dL_law_1029 : decode cL_law 1029 = .ok (.goto 1186, 3) := dn_167 (oo_17 30 rfl rfl) (by decide +kernel)
theorem dL_law_1032 : decode cL_law 1032 = .ok (.aload_n 1, 1) := dn_43 (oo_17 33 rfl rfl)
theorem dL_law_1033 : decode cL_law 1033 = .ok (.aload_n 0, 1) := dn_42 (oo_17 34 rfl rfl)
theorem dL_law_1034 : decode cL_law 1034 = .ok (.iload 4, 2) := dn_21 (oo_17 35 rfl rfl) rfl
theorem dL_law_1036 : decode cL_law 1036 = .ok (.iconst 1, 1) := dn_4 (oo_17 37 rfl rfl)
theorem dL_law_1037 : decode cL_law 1037 = .ok (.iadd, 1) := dn_96 (oo_17 38 rfl rfl)
theorem dL_law_1038 : decode cL_law 1038 = .ok (.iaload, 1) := dn_46 (oo_17 39 rfl rfl)
theorem dL_law_1039 : decode cL_law 1039 = .ok (.aload_n 0, 1) := dn_42 (oo_17 40 rfl rfl)
theorem dL_law_1040 : decode cL_law 1040 = .ok (.iload 4, 2) := dn_21 (oo_17 41 rfl rfl) rfl
theorem dL_law_1042 : decode cL_law 1042 = .ok (.iconst 2, 1) := dn_5 (oo_17 43 rfl rfl)
theorem dL_law_1043 : decode cL_law 1043 = .ok (.iadd, 1) := dn_96 (oo_17 44 rfl rfl)
theorem dL_law_1044 : decode cL_law 1044 = .ok (.iaload, 1) := dn_46 (oo_18 0 rfl rfl)
theorem dL_law_1045 : decode cL_law 1045 = .ok (.aload_n 0, 1) := dn_42 (oo_18 1 rfl rfl)
theorem dL_law_1046 : decode cL_law 1046 = .ok (.iload 4, 2) := dn_21 (oo_18 2 rfl rfl) rfl
theorem dL_law_1048 : decode cL_law 1048 = .ok (.iconst 3, 1) := dn_6 (oo_18 4 rfl rfl)
theorem dL_law_1049 : decode cL_law 1049 = .ok (.iadd, 1) := dn_96 (oo_18 5 rfl rfl)
theorem dL_law_1050 : decode cL_law 1050 = .ok (.iaload, 1) := dn_46 (oo_18 6 rfl rfl)
theorem dL_law_1051 : decode cL_law 1051 = .ok (.ifCond .eq 7, 3) := dn_153 (oo_18 7 rfl rfl) (by decide +kernel)
theorem dL_law_1054 : decode cL_law 1054 = .ok (.iconst 1, 1) := dn_4 (oo_18 10 rfl rfl)
theorem dL_law_1055 : decode cL_law 1055 = .ok (.goto 4, 3) := dn_167 (oo_18 11 rfl rfl) (by decide +kernel)
theorem dL_law_1058 : decode cL_law 1058 = .ok (.iconst 0, 1) := dn_3 (oo_18 14 rfl rfl)
theorem dL_law_1059 : decode cL_law 1059 = .ok (.aload_n 3, 1) := dn_45 (oo_18 15 rfl rfl)
theorem dL_law_1060 : decode cL_law 1060 = .ok (.invokestatic 236, 3) := dn_184 (oo_18 16 rfl rfl) rfl
theorem dL_law_1063 : decode cL_law 1063 = .ok (.istore 5, 2) := dn_54 (oo_18 19 rfl rfl) rfl
theorem dL_law_1065 : decode cL_law 1065 = .ok (.aload_n 2, 1) := dn_44 (oo_18 21 rfl rfl)
theorem dL_law_1066 : decode cL_law 1066 = .ok (.aload_n 0, 1) := dn_42 (oo_18 22 rfl rfl)
theorem dL_law_1067 : decode cL_law 1067 = .ok (.iload 4, 2) := dn_21 (oo_18 23 rfl rfl) rfl
theorem dL_law_1069 : decode cL_law 1069 = .ok (.iconst 1, 1) := dn_4 (oo_18 25 rfl rfl)
theorem dL_law_1070 : decode cL_law 1070 = .ok (.iadd, 1) := dn_96 (oo_18 26 rfl rfl)
theorem dL_law_1071 : decode cL_law 1071 = .ok (.iaload, 1) := dn_46 (oo_18 27 rfl rfl)
theorem dL_law_1072 : decode cL_law 1072 = .ok (.aload_n 0, 1) := dn_42 (oo_18 28 rfl rfl)
theorem dL_law_1073 : decode cL_law 1073 = .ok (.iload 4, 2) := dn_21 (oo_18 29 rfl rfl) rfl
theorem dL_law_1075 : decode cL_law 1075 = .ok (.iconst 2, 1) := dn_5 (oo_18 31 rfl rfl)
theorem dL_law_1076 : decode cL_law 1076 = .ok (.iadd, 1) := dn_96 (oo_18 32 rfl rfl)
theorem dL_law_1077 : decode cL_law 1077 = .ok (.iaload, 1) := dn_46 (oo_18 33 rfl rfl)
theorem dL_law_1078 : decode cL_law 1078 = .ok (.aload_n 0, 1) := dn_42 (oo_18 34 rfl rfl)
theorem dL_law_1079 : decode cL_law 1079 = .ok (.iload 4, 2) := dn_21 (oo_18 35 rfl rfl) rfl
theorem dL_law_1081 : decode cL_law 1081 = .ok (.iconst 3, 1) := dn_6 (oo_18 37 rfl rfl)
theorem dL_law_1082 : decode cL_law 1082 = .ok (.iadd, 1) := dn_96 (oo_18 38 rfl rfl)
theorem dL_law_1083 : decode cL_law 1083 = .ok (.iaload, 1) := dn_46 (oo_18 39 rfl rfl)
theorem dL_law_1084 : decode cL_law 1084 = .ok (.ifCond .eq 7, 3) := dn_153 (oo_18 40 rfl rfl) (by decide +kernel)
theorem dL_law_1087 : decode cL_law 1087 = .ok (.iconst 1, 1) := dn_4 (oo_18 43 rfl rfl)
theorem dL_law_1088 : decode cL_law 1088 = .ok (.goto 4, 3) := dn_167 (oo_18 44 rfl rfl) (by decide +kernel)
theorem dL_law_1091 : decode cL_law 1091 = .ok (.iconst 0, 1) := dn_3 (oo_19 0 rfl rfl)
theorem dL_law_1092 : decode cL_law 1092 = .ok (.invokevirtual 238, 3) := dn_182 (oo_19 1 rfl rfl) rfl
theorem dL_law_1095 : decode cL_law 1095 = .ok (.istore 6, 2) := dn_54 (oo_19 4 rfl rfl) rfl
theorem dL_law_1097 : decode cL_law 1097 = .ok (.goto 1118, 3) := dn_167 (oo_19 6 rfl rfl) (by decide +kernel)
theorem dL_law_1100 : decode cL_law 1100 = .ok (.aload_n 1, 1) := dn_43 (oo_19 9 rfl rfl)
theorem dL_law_1101 : decode cL_law 1101 = .ok (.aload_n 0, 1) := dn_42 (oo_19 10 rfl rfl)
theorem dL_law_1102 : decode cL_law 1102 = .ok (.iload 4, 2) := dn_21 (oo_19 11 rfl rfl) rfl
theorem dL_law_1104 : decode cL_law 1104 = .ok (.iconst 1, 1) := dn_4 (oo_19 13 rfl rfl)
theorem dL_law_1105 : decode cL_law 1105 = .ok (.iadd, 1) := dn_96 (oo_19 14 rfl rfl)
theorem dL_law_1106 : decode cL_law 1106 = .ok (.iaload, 1) := dn_46 (oo_19 15 rfl rfl)
theorem dL_law_1107 : decode cL_law 1107 = .ok (.aload_n 0, 1) := dn_42 (oo_19 16 rfl rfl)
theorem dL_law_1108 : decode cL_law 1108 = .ok (.iload 4, 2) := dn_21 (oo_19 17 rfl rfl) rfl
theorem dL_law_1110 : decode cL_law 1110 = .ok (.iconst 2, 1) := dn_5 (oo_19 19 rfl rfl)
theorem dL_law_1111 : decode cL_law 1111 = .ok (.iadd, 1) := dn_96 (oo_19 20 rfl rfl)
theorem dL_law_1112 : decode cL_law 1112 = .ok (.iaload, 1) := dn_46 (oo_19 21 rfl rfl)
theorem dL_law_1113 : decode cL_law 1113 = .ok (.aload_n 3, 1) := dn_45 (oo_19 22 rfl rfl)
theorem dL_law_1114 : decode cL_law 1114 = .ok (.invokestatic 239, 3) := dn_184 (oo_19 23 rfl rfl) rfl
theorem dL_law_1117 : decode cL_law 1117 = .ok (.istore 5, 2) := dn_54 (oo_19 26 rfl rfl) rfl
theorem dL_law_1119 : decode cL_law 1119 = .ok (.aload_n 2, 1) := dn_44 (oo_19 28 rfl rfl)
theorem dL_law_1120 : decode cL_law 1120 = .ok (.aload_n 0, 1) := dn_42 (oo_19 29 rfl rfl)
theorem dL_law_1121 : decode cL_law 1121 = .ok (.iload 4, 2) := dn_21 (oo_19 30 rfl rfl) rfl
theorem dL_law_1123 : decode cL_law 1123 = .ok (.iconst 1, 1) := dn_4 (oo_19 32 rfl rfl)
theorem dL_law_1124 : decode cL_law 1124 = .ok (.iadd, 1) := dn_96 (oo_19 33 rfl rfl)
theorem dL_law_1125 : decode cL_law 1125 = .ok (.iaload, 1) := dn_46 (oo_19 34 rfl rfl)
theorem dL_law_1126 : decode cL_law 1126 = .ok (.aload_n 0, 1) := dn_42 (oo_19 35 rfl rfl)
theorem dL_law_1127 : decode cL_law 1127 = .ok (.iload 4, 2) := dn_21 (oo_19 36 rfl rfl) rfl
theorem dL_law_1129 : decode cL_law 1129 = .ok (.iconst 2, 1) := dn_5 (oo_19 38 rfl rfl)
theorem dL_law_1130 : decode cL_law 1130 = .ok (.iadd, 1) := dn_96 (oo_19 39 rfl rfl)
theorem dL_law_1131 : decode cL_law 1131 = .ok (.iaload, 1) := dn_46 (oo_19 40 rfl rfl)
theorem dL_law_1132 : decode cL_law 1132 = .ok (.invokevirtual 241, 3) := dn_182 (oo_19 41 rfl rfl) rfl
theorem dL_law_1135 : decode cL_law 1135 = .ok (.istore 6, 2) := dn_54 (oo_19 44 rfl rfl) rfl
theorem dL_law_1137 : decode cL_law 1137 = .ok (.goto 1078, 3) := dn_167 (oo_19 46 rfl rfl) (by decide +kernel)
theorem dL_law_1140 : decode cL_law 1140 = .ok (.aload_n 1, 1) := dn_43 (oo_20 0 rfl rfl)
theorem dL_law_1141 : decode cL_law 1141 = .ok (.aload_n 0, 1) := dn_42 (oo_20 1 rfl rfl)
theorem dL_law_1142 : decode cL_law 1142 = .ok (.iload 4, 2) := dn_21 (oo_20 2 rfl rfl) rfl
theorem dL_law_1144 : decode cL_law 1144 = .ok (.iconst 1, 1) := dn_4 (oo_20 4 rfl rfl)
theorem dL_law_1145 : decode cL_law 1145 = .ok (.iadd, 1) := dn_96 (oo_20 5 rfl rfl)
theorem dL_law_1146 : decode cL_law 1146 = .ok (.iaload, 1) := dn_46 (oo_20 6 rfl rfl)
theorem dL_law_1147 : decode cL_law 1147 = .ok (.aload_n 0, 1) := dn_42 (oo_20 7 rfl rfl)
theorem dL_law_1148 : decode cL_law 1148 = .ok (.iload 4, 2) := dn_21 (oo_20 8 rfl rfl) rfl
theorem dL_law_1150 : decode cL_law 1150 = .ok (.iconst 2, 1) := dn_5 (oo_20 10 rfl rfl)
theorem dL_law_1151 : decode cL_law 1151 = .ok (.iadd, 1) := dn_96 (oo_20 11 rfl rfl)
theorem dL_law_1152 : decode cL_law 1152 = .ok (.iaload, 1) := dn_46 (oo_20 12 rfl rfl)
theorem dL_law_1153 : decode cL_law 1153 = .ok (.aload_n 0, 1) := dn_42 (oo_20 13 rfl rfl)
theorem dL_law_1154 : decode cL_law 1154 = .ok (.iload 4, 2) := dn_21 (oo_20 14 rfl rfl) rfl
theorem dL_law_1156 : decode cL_law 1156 = .ok (.iconst 3, 1) := dn_6 (oo_20 16 rfl rfl)
theorem dL_law_1157 : decode cL_law 1157 = .ok (.iadd, 1) := dn_96 (oo_20 17 rfl rfl)
theorem dL_law_1158 : decode cL_law 1158 = .ok (.iaload, 1) := dn_46 (oo_20 18 rfl rfl)
theorem dL_law_1159 : decode cL_law 1159 = .ok (.aload_n 3, 1) := dn_45 (oo_20 19 rfl rfl)
theorem dL_law_1160 : decode cL_law 1160 = .ok (.invokestatic 242, 3) := dn_184 (oo_20 20 rfl rfl) rfl
theorem dL_law_1163 : decode cL_law 1163 = .ok (.istore 5, 2) := dn_54 (oo_20 23 rfl rfl) rfl
theorem dL_law_1165 : decode cL_law 1165 = .ok (.aload_n 2, 1) := dn_44 (oo_20 25 rfl rfl)
theorem dL_law_1166 : decode cL_law 1166 = .ok (.aload_n 0, 1) := dn_42 (oo_20 26 rfl rfl)
theorem dL_law_1167 : decode cL_law 1167 = .ok (.iload 4, 2) := dn_21 (oo_20 27 rfl rfl) rfl
theorem dL_law_1169 : decode cL_law 1169 = .ok (.iconst 1, 1) := dn_4 (oo_20 29 rfl rfl)
theorem dL_law_1170 : decode cL_law 1170 = .ok (.iadd, 1) := dn_96 (oo_20 30 rfl rfl)
theorem dL_law_1171 : decode cL_law 1171 = .ok (.iaload, 1) := dn_46 (oo_20 31 rfl rfl)
theorem dL_law_1172 : decode cL_law 1172 = .ok (.aload_n 0, 1) := dn_42 (oo_20 32 rfl rfl)
theorem dL_law_1173 : decode cL_law 1173 = .ok (.iload 4, 2) := dn_21 (oo_20 33 rfl rfl) rfl
theorem dL_law_1175 : decode cL_law 1175 = .ok (.iconst 2, 1) := dn_5 (oo_20 35 rfl rfl)
theorem dL_law_1176 : decode cL_law 1176 = .ok (.iadd, 1) := dn_96 (oo_20 36 rfl rfl)
theorem dL_law_1177 : decode cL_law 1177 = .ok (.iaload, 1) := dn_46 (oo_20 37 rfl rfl)
theorem dL_law_1178 : decode cL_law 1178 = .ok (.aload_n 0, 1) := dn_42 (oo_20 38 rfl rfl)
theorem dL_law_1179 : decode cL_law 1179 = .ok (.iload 4, 2) := dn_21 (oo_20 39 rfl rfl) rfl
theorem dL_law_1181 : decode cL_law 1181 = .ok (.iconst 3, 1) := dn_6 (oo_21 0 rfl rfl)
theorem dL_law_1182 : decode cL_law 1182 = .ok (.iadd, 1) := dn_96 (oo_21 1 rfl rfl)
theorem dL_law_1183 : decode cL_law 1183 = .ok (.iaload, 1) := dn_46 (oo_21 2 rfl rfl)
theorem dL_law_1184 : decode cL_law 1184 = .ok (.invokevirtual 244, 3) := dn_182 (oo_21 3 rfl rfl) rfl
theorem dL_law_1187 : decode cL_law 1187 = .ok (.istore 6, 2) := dn_54 (oo_21 6 rfl rfl) rfl
theorem dL_law_1189 : decode cL_law 1189 = .ok (.goto 1026, 3) := dn_167 (oo_21 8 rfl rfl) (by decide +kernel)
theorem dL_law_1192 : decode cL_law 1192 = .ok (.aload_n 1, 1) := dn_43 (oo_21 11 rfl rfl)
theorem dL_law_1193 : decode cL_law 1193 = .ok (.aload_n 0, 1) := dn_42 (oo_21 12 rfl rfl)
theorem dL_law_1194 : decode cL_law 1194 = .ok (.iload 4, 2) := dn_21 (oo_21 13 rfl rfl) rfl
theorem dL_law_1196 : decode cL_law 1196 = .ok (.iconst 1, 1) := dn_4 (oo_21 15 rfl rfl)
theorem dL_law_1197 : decode cL_law 1197 = .ok (.iadd, 1) := dn_96 (oo_21 16 rfl rfl)
theorem dL_law_1198 : decode cL_law 1198 = .ok (.iaload, 1) := dn_46 (oo_21 17 rfl rfl)
theorem dL_law_1199 : decode cL_law 1199 = .ok (.aload_n 0, 1) := dn_42 (oo_21 18 rfl rfl)
theorem dL_law_1200 : decode cL_law 1200 = .ok (.iload 4, 2) := dn_21 (oo_21 19 rfl rfl) rfl
theorem dL_law_1202 : decode cL_law 1202 = .ok (.iconst 2, 1) := dn_5 (oo_21 21 rfl rfl)
theorem dL_law_1203 : decode cL_law 1203 = .ok (.iadd, 1) := dn_96 (oo_21 22 rfl rfl)
theorem dL_law_1204 : decode cL_law 1204 = .ok (.iaload, 1) := dn_46 (oo_21 23 rfl rfl)
theorem dL_law_1205 : decode cL_law 1205 = .ok (.aload_n 0, 1) := dn_42 (oo_21 24 rfl rfl)
theorem dL_law_1206 : decode cL_law 1206 = .ok (.iload 4, 2) := dn_21 (oo_21 25 rfl rfl) rfl
theorem dL_law_1208 : decode cL_law 1208 = .ok (.iconst 3, 1) := dn_6 (oo_21 27 rfl rfl)
theorem dL_law_1209 : decode cL_law 1209 = .ok (.iadd, 1) := dn_96 (oo_21 28 rfl rfl)
theorem dL_law_1210 : decode cL_law 1210 = .ok (.iaload, 1) := dn_46 (oo_21 29 rfl rfl)
theorem dL_law_1211 : decode cL_law 1211 = .ok (.aload_n 3, 1) := dn_45 (oo_21 30 rfl rfl)
theorem dL_law_1212 : decode cL_law 1212 = .ok (.invokestatic 245, 3) := dn_184 (oo_21 31 rfl rfl) rfl
theorem dL_law_1215 : decode cL_law 1215 = .ok (.istore 5, 2) := dn_54 (oo_21 34 rfl rfl) rfl
theorem dL_law_1217 : decode cL_law 1217 = .ok (.aload_n 2, 1) := dn_44 (oo_21 36 rfl rfl)
theorem dL_law_1218 : decode cL_law 1218 = .ok (.aload_n 0, 1) := dn_42 (oo_21 37 rfl rfl)
theorem dL_law_1219 : decode cL_law 1219 = .ok (.iload 4, 2) := dn_21 (oo_21 38 rfl rfl) rfl
theorem dL_law_1221 : decode cL_law 1221 = .ok (.iconst 1, 1) := dn_4 (oo_21 40 rfl rfl)
theorem dL_law_1222 : decode cL_law 1222 = .ok (.iadd, 1) := dn_96 (oo_21 41 rfl rfl)
theorem dL_law_1223 : decode cL_law 1223 = .ok (.iaload, 1) := dn_46 (oo_21 42 rfl rfl)
theorem dL_law_1224 : decode cL_law 1224 = .ok (.aload_n 0, 1) := dn_42 (oo_21 43 rfl rfl)
theorem dL_law_1225 : decode cL_law 1225 = .ok (.iload 4, 2) := dn_21 (oo_22 0 rfl rfl) rfl
theorem dL_law_1227 : decode cL_law 1227 = .ok (.iconst 2, 1) := dn_5 (oo_22 2 rfl rfl)
theorem dL_law_1228 : decode cL_law 1228 = .ok (.iadd, 1) := dn_96 (oo_22 3 rfl rfl)
theorem dL_law_1229 : decode cL_law 1229 = .ok (.iaload, 1) := dn_46 (oo_22 4 rfl rfl)
theorem dL_law_1230 : decode cL_law 1230 = .ok (.aload_n 0, 1) := dn_42 (oo_22 5 rfl rfl)
theorem dL_law_1231 : decode cL_law 1231 = .ok (.iload 4, 2) := dn_21 (oo_22 6 rfl rfl) rfl
theorem dL_law_1233 : decode cL_law 1233 = .ok (.iconst 3, 1) := dn_6 (oo_22 8 rfl rfl)
theorem dL_law_1234 : decode cL_law 1234 = .ok (.iadd, 1) := dn_96 (oo_22 9 rfl rfl)
theorem dL_law_1235 : decode cL_law 1235 = .ok (.iaload, 1) := dn_46 (oo_22 10 rfl rfl)
theorem dL_law_1236 : decode cL_law 1236 = .ok (.invokevirtual 247, 3) := dn_182 (oo_22 11 rfl rfl) rfl
theorem dL_law_1239 : decode cL_law 1239 = .ok (.istore 6, 2) := dn_54 (oo_22 14 rfl rfl) rfl
theorem dL_law_1241 : decode cL_law 1241 = .ok (.goto 974, 3) := dn_167 (oo_22 16 rfl rfl) (by decide +kernel)
theorem dL_law_1244 : decode cL_law 1244 = .ok (.aload_n 1, 1) := dn_43 (oo_22 19 rfl rfl)
theorem dL_law_1245 : decode cL_law 1245 = .ok (.aload_n 0, 1) := dn_42 (oo_22 20 rfl rfl)
theorem dL_law_1246 : decode cL_law 1246 = .ok (.iload 4, 2) := dn_21 (oo_22 21 rfl rfl) rfl
theorem dL_law_1248 : decode cL_law 1248 = .ok (.iconst 1, 1) := dn_4 (oo_22 23 rfl rfl)
theorem dL_law_1249 : decode cL_law 1249 = .ok (.iadd, 1) := dn_96 (oo_22 24 rfl rfl)
theorem dL_law_1250 : decode cL_law 1250 = .ok (.iaload, 1) := dn_46 (oo_22 25 rfl rfl)
theorem dL_law_1251 : decode cL_law 1251 = .ok (.aload_n 0, 1) := dn_42 (oo_22 26 rfl rfl)
theorem dL_law_1252 : decode cL_law 1252 = .ok (.iload 4, 2) := dn_21 (oo_22 27 rfl rfl) rfl
theorem dL_law_1254 : decode cL_law 1254 = .ok (.iconst 2, 1) := dn_5 (oo_22 29 rfl rfl)
theorem dL_law_1255 : decode cL_law 1255 = .ok (.iadd, 1) := dn_96 (oo_22 30 rfl rfl)
theorem dL_law_1256 : decode cL_law 1256 = .ok (.iaload, 1) := dn_46 (oo_22 31 rfl rfl)
theorem dL_law_1257 : decode cL_law 1257 = .ok (.aload_n 3, 1) := dn_45 (oo_22 32 rfl rfl)
theorem dL_law_1258 : decode cL_law 1258 = .ok (.invokestatic 248, 3) := dn_184 (oo_22 33 rfl rfl) rfl
theorem dL_law_1261 : decode cL_law 1261 = .ok (.istore 5, 2) := dn_54 (oo_22 36 rfl rfl) rfl
theorem dL_law_1263 : decode cL_law 1263 = .ok (.aload_n 2, 1) := dn_44 (oo_22 38 rfl rfl)
theorem dL_law_1264 : decode cL_law 1264 = .ok (.aload_n 0, 1) := dn_42 (oo_22 39 rfl rfl)
theorem dL_law_1265 : decode cL_law 1265 = .ok (.iload 4, 2) := dn_21 (oo_22 40 rfl rfl) rfl
theorem dL_law_1267 : decode cL_law 1267 = .ok (.iconst 1, 1) := dn_4 (oo_22 42 rfl rfl)
theorem dL_law_1268 : decode cL_law 1268 = .ok (.iadd, 1) := dn_96 (oo_22 43 rfl rfl)
theorem dL_law_1269 : decode cL_law 1269 = .ok (.iaload, 1) := dn_46 (oo_22 44 rfl rfl)
theorem dL_law_1270 : decode cL_law 1270 = .ok (.aload_n 0, 1) := dn_42 (oo_23 0 rfl rfl)
theorem dL_law_1271 : decode cL_law 1271 = .ok (.iload 4, 2) := dn_21 (oo_23 1 rfl rfl) rfl
theorem dL_law_1273 : decode cL_law 1273 = .ok (.iconst 2, 1) := dn_5 (oo_23 3 rfl rfl)
theorem dL_law_1274 : decode cL_law 1274 = .ok (.iadd, 1) := dn_96 (oo_23 4 rfl rfl)
theorem dL_law_1275 : decode cL_law 1275 = .ok (.iaload, 1) := dn_46 (oo_23 5 rfl rfl)
theorem dL_law_1276 : decode cL_law 1276 = .ok (.invokevirtual 250, 3) := dn_182 (oo_23 6 rfl rfl) rfl
theorem dL_law_1279 : decode cL_law 1279 = .ok (.istore 6, 2) := dn_54 (oo_23 9 rfl rfl) rfl
theorem dL_law_1281 : decode cL_law 1281 = .ok (.goto 934, 3) := dn_167 (oo_23 11 rfl rfl) (by decide +kernel)
theorem dL_law_1284 : decode cL_law 1284 = .ok (.aload_n 1, 1) := dn_43 (oo_23 14 rfl rfl)
theorem dL_law_1285 : decode cL_law 1285 = .ok (.aload_n 0, 1) := dn_42 (oo_23 15 rfl rfl)
theorem dL_law_1286 : decode cL_law 1286 = .ok (.iload 4, 2) := dn_21 (oo_23 16 rfl rfl) rfl
theorem dL_law_1288 : decode cL_law 1288 = .ok (.iconst 1, 1) := dn_4 (oo_23 18 rfl rfl)
theorem dL_law_1289 : decode cL_law 1289 = .ok (.iadd, 1) := dn_96 (oo_23 19 rfl rfl)
theorem dL_law_1290 : decode cL_law 1290 = .ok (.iaload, 1) := dn_46 (oo_23 20 rfl rfl)
theorem dL_law_1291 : decode cL_law 1291 = .ok (.aload_n 0, 1) := dn_42 (oo_23 21 rfl rfl)
theorem dL_law_1292 : decode cL_law 1292 = .ok (.iload 4, 2) := dn_21 (oo_23 22 rfl rfl) rfl
theorem dL_law_1294 : decode cL_law 1294 = .ok (.iconst 2, 1) := dn_5 (oo_23 24 rfl rfl)
theorem dL_law_1295 : decode cL_law 1295 = .ok (.iadd, 1) := dn_96 (oo_23 25 rfl rfl)
theorem dL_law_1296 : decode cL_law 1296 = .ok (.iaload, 1) := dn_46 (oo_23 26 rfl rfl)
theorem dL_law_1297 : decode cL_law 1297 = .ok (.aload_n 3, 1) := dn_45 (oo_23 27 rfl rfl)
theorem dL_law_1298 : decode cL_law 1298 = .ok (.invokestatic 251, 3) := dn_184 (oo_23 28 rfl rfl) rfl
theorem dL_law_1301 : decode cL_law 1301 = .ok (.istore 5, 2) := dn_54 (oo_23 31 rfl rfl) rfl
theorem dL_law_1303 : decode cL_law 1303 = .ok (.aload_n 2, 1) := dn_44 (oo_23 33 rfl rfl)
theorem dL_law_1304 : decode cL_law 1304 = .ok (.aload_n 0, 1) := dn_42 (oo_23 34 rfl rfl)
theorem dL_law_1305 : decode cL_law 1305 = .ok (.iload 4, 2) := dn_21 (oo_23 35 rfl rfl) rfl
theorem dL_law_1307 : decode cL_law 1307 = .ok (.iconst 1, 1) := dn_4 (oo_23 37 rfl rfl)
theorem dL_law_1308 : decode cL_law 1308 = .ok (.iadd, 1) := dn_96 (oo_23 38 rfl rfl)
theorem dL_law_1309 : decode cL_law 1309 = .ok (.iaload, 1) := dn_46 (oo_23 39 rfl rfl)
theorem dL_law_1310 : decode cL_law 1310 = .ok (.aload_n 0, 1) := dn_42 (oo_23 40 rfl rfl)
theorem dL_law_1311 : decode cL_law 1311 = .ok (.iload 4, 2) := dn_21 (oo_23 41 rfl rfl) rfl
theorem dL_law_1313 : decode cL_law 1313 = .ok (.iconst 2, 1) := dn_5 (oo_23 43 rfl rfl)
theorem dL_law_1314 : decode cL_law 1314 = .ok (.iadd, 1) := dn_96 (oo_23 44 rfl rfl)
theorem dL_law_1315 : decode cL_law 1315 = .ok (.iaload, 1) := dn_46 (oo_24 0 rfl rfl)
theorem dL_law_1316 : decode cL_law 1316 = .ok (.invokevirtual 253, 3) := dn_182 (oo_24 1 rfl rfl) rfl
theorem dL_law_1319 : decode cL_law 1319 = .ok (.istore 6, 2) := dn_54 (oo_24 4 rfl rfl) rfl
theorem dL_law_1321 : decode cL_law 1321 = .ok (.goto 894, 3) := dn_167 (oo_24 6 rfl rfl) (by decide +kernel)
theorem dL_law_1324 : decode cL_law 1324 = .ok (.aload_n 1, 1) := dn_43 (oo_24 9 rfl rfl)
theorem dL_law_1325 : decode cL_law 1325 = .ok (.aload_n 0, 1) := dn_42 (oo_24 10 rfl rfl)
theorem dL_law_1326 : decode cL_law 1326 = .ok (.iload 4, 2) := dn_21 (oo_24 11 rfl rfl) rfl
theorem dL_law_1328 : decode cL_law 1328 = .ok (.iconst 1, 1) := dn_4 (oo_24 13 rfl rfl)
theorem dL_law_1329 : decode cL_law 1329 = .ok (.iadd, 1) := dn_96 (oo_24 14 rfl rfl)
theorem dL_law_1330 : decode cL_law 1330 = .ok (.iaload, 1) := dn_46 (oo_24 15 rfl rfl)
theorem dL_law_1331 : decode cL_law 1331 = .ok (.aload_n 0, 1) := dn_42 (oo_24 16 rfl rfl)
theorem dL_law_1332 : decode cL_law 1332 = .ok (.iload 4, 2) := dn_21 (oo_24 17 rfl rfl) rfl
theorem dL_law_1334 : decode cL_law 1334 = .ok (.iconst 2, 1) := dn_5 (oo_24 19 rfl rfl)
theorem dL_law_1335 : decode cL_law 1335 = .ok (.iadd, 1) := dn_96 (oo_24 20 rfl rfl)
theorem dL_law_1336 : decode cL_law 1336 = .ok (.iaload, 1) := dn_46 (oo_24 21 rfl rfl)
theorem dL_law_1337 : decode cL_law 1337 = .ok (.aload_n 3, 1) := dn_45 (oo_24 22 rfl rfl)
theorem dL_law_1338 : decode cL_law 1338 = .ok (.invokestatic 254, 3) := dn_184 (oo_24 23 rfl rfl) rfl
theorem dL_law_1341 : decode cL_law 1341 = .ok (.istore 5, 2) := dn_54 (oo_24 26 rfl rfl) rfl
theorem dL_law_1343 : decode cL_law 1343 = .ok (.aload_n 2, 1) := dn_44 (oo_24 28 rfl rfl)
theorem dL_law_1344 : decode cL_law 1344 = .ok (.aload_n 0, 1) := dn_42 (oo_24 29 rfl rfl)
theorem dL_law_1345 : decode cL_law 1345 = .ok (.iload 4, 2) := dn_21 (oo_24 30 rfl rfl) rfl
theorem dL_law_1347 : decode cL_law 1347 = .ok (.iconst 1, 1) := dn_4 (oo_24 32 rfl rfl)
theorem dL_law_1348 : decode cL_law 1348 = .ok (.iadd, 1) := dn_96 (oo_24 33 rfl rfl)
theorem dL_law_1349 : decode cL_law 1349 = .ok (.iaload, 1) := dn_46 (oo_24 34 rfl rfl)
theorem dL_law_1350 : decode cL_law 1350 = .ok (.aload_n 0, 1) := dn_42 (oo_24 35 rfl rfl)
theorem dL_law_1351 : decode cL_law 1351 = .ok (.iload 4, 2) := dn_21 (oo_24 36 rfl rfl) rfl
theorem dL_law_1353 : decode cL_law 1353 = .ok (.iconst 2, 1) := dn_5 (oo_24 38 rfl rfl)
theorem dL_law_1354 : decode cL_law 1354 = .ok (.iadd, 1) := dn_96 (oo_24 39 rfl rfl)
theorem dL_law_1355 : decode cL_law 1355 = .ok (.iaload, 1) := dn_46 (oo_24 40 rfl rfl)
theorem dL_law_1356 : decode cL_law 1356 = .ok (.invokevirtual 256, 3) := dn_182 (oo_24 41 rfl rfl) rfl
theorem dL_law_1359 : decode cL_law 1359 = .ok (.istore 6, 2) := dn_54 (oo_24 44 rfl rfl) rfl
theorem dL_law_1361 : decode cL_law 1361 = .ok (.goto 854, 3) := dn_167 (oo_24 46 rfl rfl) (by decide +kernel)
theorem dL_law_1364 : decode cL_law 1364 = .ok (.aload_n 1, 1) := dn_43 (oo_25 0 rfl rfl)
theorem dL_law_1365 : decode cL_law 1365 = .ok (.aload_n 0, 1) := dn_42 (oo_25 1 rfl rfl)
theorem dL_law_1366 : decode cL_law 1366 = .ok (.iload 4, 2) := dn_21 (oo_25 2 rfl rfl) rfl
theorem dL_law_1368 : decode cL_law 1368 = .ok (.iconst 1, 1) := dn_4 (oo_25 4 rfl rfl)
theorem dL_law_1369 : decode cL_law 1369 = .ok (.iadd, 1) := dn_96 (oo_25 5 rfl rfl)
theorem dL_law_1370 : decode cL_law 1370 = .ok (.iaload, 1) := dn_46 (oo_25 6 rfl rfl)
theorem dL_law_1371 : decode cL_law 1371 = .ok (.aload_n 0, 1) := dn_42 (oo_25 7 rfl rfl)
theorem dL_law_1372 : decode cL_law 1372 = .ok (.iload 4, 2) := dn_21 (oo_25 8 rfl rfl) rfl
theorem dL_law_1374 : decode cL_law 1374 = .ok (.iconst 2, 1) := dn_5 (oo_25 10 rfl rfl)
theorem dL_law_1375 : decode cL_law 1375 = .ok (.iadd, 1) := dn_96 (oo_25 11 rfl rfl)
theorem dL_law_1376 : decode cL_law 1376 = .ok (.iaload, 1) := dn_46 (oo_25 12 rfl rfl)
theorem dL_law_1377 : decode cL_law 1377 = .ok (.aload_n 0, 1) := dn_42 (oo_25 13 rfl rfl)
theorem dL_law_1378 : decode cL_law 1378 = .ok (.iload 4, 2) := dn_21 (oo_25 14 rfl rfl) rfl
theorem dL_law_1380 : decode cL_law 1380 = .ok (.iconst 3, 1) := dn_6 (oo_25 16 rfl rfl)
theorem dL_law_1381 : decode cL_law 1381 = .ok (.iadd, 1) := dn_96 (oo_25 17 rfl rfl)
theorem dL_law_1382 : decode cL_law 1382 = .ok (.iaload, 1) := dn_46 (oo_25 18 rfl rfl)
theorem dL_law_1383 : decode cL_law 1383 = .ok (.aload_n 3, 1) := dn_45 (oo_25 19 rfl rfl)
theorem dL_law_1384 : decode cL_law 1384 = .ok (.invokestatic 257, 3) := dn_184 (oo_25 20 rfl rfl) rfl
theorem dL_law_1387 : decode cL_law 1387 = .ok (.istore 5, 2) := dn_54 (oo_25 23 rfl rfl) rfl
theorem dL_law_1389 : decode cL_law 1389 = .ok (.aload_n 2, 1) := dn_44 (oo_25 25 rfl rfl)
theorem dL_law_1390 : decode cL_law 1390 = .ok (.aload_n 0, 1) := dn_42 (oo_25 26 rfl rfl)
theorem dL_law_1391 : decode cL_law 1391 = .ok (.iload 4, 2) := dn_21 (oo_25 27 rfl rfl) rfl
theorem dL_law_1393 : decode cL_law 1393 = .ok (.iconst 1, 1) := dn_4 (oo_25 29 rfl rfl)
theorem dL_law_1394 : decode cL_law 1394 = .ok (.iadd, 1) := dn_96 (oo_25 30 rfl rfl)
theorem dL_law_1395 : decode cL_law 1395 = .ok (.iaload, 1) := dn_46 (oo_25 31 rfl rfl)
theorem dL_law_1396 : decode cL_law 1396 = .ok (.aload_n 0, 1) := dn_42 (oo_25 32 rfl rfl)
theorem dL_law_1397 : decode cL_law 1397 = .ok (.iload 4, 2) := dn_21 (oo_25 33 rfl rfl) rfl
theorem dL_law_1399 : decode cL_law 1399 = .ok (.iconst 2, 1) := dn_5 (oo_25 35 rfl rfl)
theorem dL_law_1400 : decode cL_law 1400 = .ok (.iadd, 1) := dn_96 (oo_25 36 rfl rfl)
theorem dL_law_1401 : decode cL_law 1401 = .ok (.iaload, 1) := dn_46 (oo_25 37 rfl rfl)
theorem dL_law_1402 : decode cL_law 1402 = .ok (.aload_n 0, 1) := dn_42 (oo_25 38 rfl rfl)
theorem dL_law_1403 : decode cL_law 1403 = .ok (.iload 4, 2) := dn_21 (oo_25 39 rfl rfl) rfl
theorem dL_law_1405 : decode cL_law 1405 = .ok (.iconst 3, 1) := dn_6 (oo_26 0 rfl rfl)
theorem dL_law_1406 : decode cL_law 1406 = .ok (.iadd, 1) := dn_96 (oo_26 1 rfl rfl)
theorem dL_law_1407 : decode cL_law 1407 = .ok (.iaload, 1) := dn_46 (oo_26 2 rfl rfl)
theorem dL_law_1408 : decode cL_law 1408 = .ok (.invokevirtual 259, 3) := dn_182 (oo_26 3 rfl rfl) rfl
theorem dL_law_1411 : decode cL_law 1411 = .ok (.istore 6, 2) := dn_54 (oo_26 6 rfl rfl) rfl
theorem dL_law_1413 : decode cL_law 1413 = .ok (.goto 802, 3) := dn_167 (oo_26 8 rfl rfl) (by decide +kernel)
theorem dL_law_1416 : decode cL_law 1416 = .ok (.aload_n 1, 1) := dn_43 (oo_26 11 rfl rfl)
theorem dL_law_1417 : decode cL_law 1417 = .ok (.aload_n 0, 1) := dn_42 (oo_26 12 rfl rfl)
theorem dL_law_1418 : decode cL_law 1418 = .ok (.iload 4, 2) := dn_21 (oo_26 13 rfl rfl) rfl
theorem dL_law_1420 : decode cL_law 1420 = .ok (.iconst 1, 1) := dn_4 (oo_26 15 rfl rfl)
theorem dL_law_1421 : decode cL_law 1421 = .ok (.iadd, 1) := dn_96 (oo_26 16 rfl rfl)
theorem dL_law_1422 : decode cL_law 1422 = .ok (.iaload, 1) := dn_46 (oo_26 17 rfl rfl)
theorem dL_law_1423 : decode cL_law 1423 = .ok (.aload_n 3, 1) := dn_45 (oo_26 18 rfl rfl)
theorem dL_law_1424 : decode cL_law 1424 = .ok (.invokestatic 260, 3) := dn_184 (oo_26 19 rfl rfl) rfl
theorem dL_law_1427 : decode cL_law 1427 = .ok (.istore 5, 2) := dn_54 (oo_26 22 rfl rfl) rfl
theorem dL_law_1429 : decode cL_law 1429 = .ok (.aload_n 2, 1) := dn_44 (oo_26 24 rfl rfl)
theorem dL_law_1430 : decode cL_law 1430 = .ok (.aload_n 0, 1) := dn_42 (oo_26 25 rfl rfl)
theorem dL_law_1431 : decode cL_law 1431 = .ok (.iload 4, 2) := dn_21 (oo_26 26 rfl rfl) rfl
theorem dL_law_1433 : decode cL_law 1433 = .ok (.iconst 1, 1) := dn_4 (oo_26 28 rfl rfl)
theorem dL_law_1434 : decode cL_law 1434 = .ok (.iadd, 1) := dn_96 (oo_26 29 rfl rfl)
theorem dL_law_1435 : decode cL_law 1435 = .ok (.iaload, 1) := dn_46 (oo_26 30 rfl rfl)
theorem dL_law_1436 : decode cL_law 1436 = .ok (.invokevirtual 262, 3) := dn_182 (oo_26 31 rfl rfl) rfl
theorem dL_law_1439 : decode cL_law 1439 = .ok (.istore 6, 2) := dn_54 (oo_26 34 rfl rfl) rfl
theorem dL_law_1441 : decode cL_law 1441 = .ok (.goto 774, 3) := dn_167 (oo_26 36 rfl rfl) (by decide +kernel)
theorem dL_law_1444 : decode cL_law 1444 = .ok (.aload_n 1, 1) := dn_43 (oo_26 39 rfl rfl)
theorem dL_law_1445 : decode cL_law 1445 = .ok (.aload_n 0, 1) := dn_42 (oo_26 40 rfl rfl)
theorem dL_law_1446 : decode cL_law 1446 = .ok (.iload 4, 2) := dn_21 (oo_26 41 rfl rfl) rfl
theorem dL_law_1448 : decode cL_law 1448 = .ok (.iconst 1, 1) := dn_4 (oo_26 43 rfl rfl)
theorem dL_law_1449 : decode cL_law 1449 = .ok (.iadd, 1) := dn_96 (oo_26 44 rfl rfl)
theorem dL_law_1450 : decode cL_law 1450 = .ok (.iaload, 1) := dn_46 (oo_26 45 rfl rfl)
theorem dL_law_1451 : decode cL_law 1451 = .ok (.aload_n 0, 1) := dn_42 (oo_26 46 rfl rfl)
theorem dL_law_1452 : decode cL_law 1452 = .ok (.iload 4, 2) := dn_21 (oo_26 47 rfl rfl) rfl
theorem dL_law_1454 : decode cL_law 1454 = .ok (.iconst 2, 1) := dn_5 (oo_27 0 rfl rfl)
theorem dL_law_1455 : decode cL_law 1455 = .ok (.iadd, 1) := dn_96 (oo_27 1 rfl rfl)
theorem dL_law_1456 : decode cL_law 1456 = .ok (.iaload, 1) := dn_46 (oo_27 2 rfl rfl)
theorem dL_law_1457 : decode cL_law 1457 = .ok (.aload_n 3, 1) := dn_45 (oo_27 3 rfl rfl)
theorem dL_law_1458 : decode cL_law 1458 = .ok (.invokestatic 263, 3) := dn_184 (oo_27 4 rfl rfl) rfl
theorem dL_law_1461 : decode cL_law 1461 = .ok (.istore 5, 2) := dn_54 (oo_27 7 rfl rfl) rfl
theorem dL_law_1463 : decode cL_law 1463 = .ok (.aload_n 2, 1) := dn_44 (oo_27 9 rfl rfl)
theorem dL_law_1464 : decode cL_law 1464 = .ok (.aload_n 0, 1) := dn_42 (oo_27 10 rfl rfl)
theorem dL_law_1465 : decode cL_law 1465 = .ok (.iload 4, 2) := dn_21 (oo_27 11 rfl rfl) rfl
theorem dL_law_1467 : decode cL_law 1467 = .ok (.iconst 1, 1) := dn_4 (oo_27 13 rfl rfl)
theorem dL_law_1468 : decode cL_law 1468 = .ok (.iadd, 1) := dn_96 (oo_27 14 rfl rfl)
theorem dL_law_1469 : decode cL_law 1469 = .ok (.iaload, 1) := dn_46 (oo_27 15 rfl rfl)
theorem dL_law_1470 : decode cL_law 1470 = .ok (.aload_n 0, 1) := dn_42 (oo_27 16 rfl rfl)
theorem dL_law_1471 : decode cL_law 1471 = .ok (.iload 4, 2) := dn_21 (oo_27 17 rfl rfl) rfl
theorem dL_law_1473 : decode cL_law 1473 = .ok (.iconst 2, 1) := dn_5 (oo_27 19 rfl rfl)
theorem dL_law_1474 : decode cL_law 1474 = .ok (.iadd, 1) := dn_96 (oo_27 20 rfl rfl)
theorem dL_law_1475 : decode cL_law 1475 = .ok (.iaload, 1) := dn_46 (oo_27 21 rfl rfl)
theorem dL_law_1476 : decode cL_law 1476 = .ok (.invokevirtual 265, 3) := dn_182 (oo_27 22 rfl rfl) rfl
theorem dL_law_1479 : decode cL_law 1479 = .ok (.istore 6, 2) := dn_54 (oo_27 25 rfl rfl) rfl
theorem dL_law_1481 : decode cL_law 1481 = .ok (.goto 734, 3) := dn_167 (oo_27 27 rfl rfl) (by decide +kernel)
theorem dL_law_1484 : decode cL_law 1484 = .ok (.aload_n 1, 1) := dn_43 (oo_27 30 rfl rfl)
theorem dL_law_1485 : decode cL_law 1485 = .ok (.aload_n 0, 1) := dn_42 (oo_27 31 rfl rfl)
theorem dL_law_1486 : decode cL_law 1486 = .ok (.iload 4, 2) := dn_21 (oo_27 32 rfl rfl) rfl
theorem dL_law_1488 : decode cL_law 1488 = .ok (.iconst 1, 1) := dn_4 (oo_27 34 rfl rfl)
theorem dL_law_1489 : decode cL_law 1489 = .ok (.iadd, 1) := dn_96 (oo_27 35 rfl rfl)
theorem dL_law_1490 : decode cL_law 1490 = .ok (.iaload, 1) := dn_46 (oo_27 36 rfl rfl)
theorem dL_law_1491 : decode cL_law 1491 = .ok (.aload_n 3, 1) := dn_45 (oo_27 37 rfl rfl)
theorem dL_law_1492 : decode cL_law 1492 = .ok (.invokestatic 266, 3) := dn_184 (oo_27 38 rfl rfl) rfl
theorem dL_law_1495 : decode cL_law 1495 = .ok (.istore 5, 2) := dn_54 (oo_27 41 rfl rfl) rfl
theorem dL_law_1497 : decode cL_law 1497 = .ok (.aload_n 2, 1) := dn_44 (oo_27 43 rfl rfl)
theorem dL_law_1498 : decode cL_law 1498 = .ok (.aload_n 0, 1) := dn_42 (oo_27 44 rfl rfl)
theorem dL_law_1499 : decode cL_law 1499 = .ok (.iload 4, 2) := dn_21 (oo_27 45 rfl rfl) rfl
theorem dL_law_1501 : decode cL_law 1501 = .ok (.iconst 1, 1) := dn_4 (oo_28 0 rfl rfl)
theorem dL_law_1502 : decode cL_law 1502 = .ok (.iadd, 1) := dn_96 (oo_28 1 rfl rfl)
theorem dL_law_1503 : decode cL_law 1503 = .ok (.iaload, 1) := dn_46 (oo_28 2 rfl rfl)
theorem dL_law_1504 : decode cL_law 1504 = .ok (.invokevirtual 268, 3) := dn_182 (oo_28 3 rfl rfl) rfl
theorem dL_law_1507 : decode cL_law 1507 = .ok (.astore 6, 2) := dn_58 (oo_28 6 rfl rfl) rfl
theorem dL_law_1509 : decode cL_law 1509 = .ok (.goto 706, 3) := dn_167 (oo_28 8 rfl rfl) (by decide +kernel)
theorem dL_law_1512 : decode cL_law 1512 = .ok (.aload_n 1, 1) := dn_43 (oo_28 11 rfl rfl)
theorem dL_law_1513 : decode cL_law 1513 = .ok (.aload_n 0, 1) := dn_42 (oo_28 12 rfl rfl)
theorem dL_law_1514 : decode cL_law 1514 = .ok (.iload 4, 2) := dn_21 (oo_28 13 rfl rfl) rfl
theorem dL_law_1516 : decode cL_law 1516 = .ok (.iconst 1, 1) := dn_4 (oo_28 15 rfl rfl)
theorem dL_law_1517 : decode cL_law 1517 = .ok (.iadd, 1) := dn_96 (oo_28 16 rfl rfl)
theorem dL_law_1518 : decode cL_law 1518 = .ok (.iaload, 1) := dn_46 (oo_28 17 rfl rfl)
theorem dL_law_1519 : decode cL_law 1519 = .ok (.aload_n 3, 1) := dn_45 (oo_28 18 rfl rfl)
theorem dL_law_1520 : decode cL_law 1520 = .ok (.invokestatic 269, 3) := dn_184 (oo_28 19 rfl rfl) rfl
theorem dL_law_1523 : decode cL_law 1523 = .ok (.istore 5, 2) := dn_54 (oo_28 22 rfl rfl) rfl
theorem dL_law_1525 : decode cL_law 1525 = .ok (.aload_n 2, 1) := dn_44 (oo_28 24 rfl rfl)
theorem dL_law_1526 : decode cL_law 1526 = .ok (.aload_n 0, 1) := dn_42 (oo_28 25 rfl rfl)
theorem dL_law_1527 : decode cL_law 1527 = .ok (.iload 4, 2) := dn_21 (oo_28 26 rfl rfl) rfl
theorem dL_law_1529 : decode cL_law 1529 = .ok (.iconst 1, 1) := dn_4 (oo_28 28 rfl rfl)
theorem dL_law_1530 : decode cL_law 1530 = .ok (.iadd, 1) := dn_96 (oo_28 29 rfl rfl)
theorem dL_law_1531 : decode cL_law 1531 = .ok (.iaload, 1) := dn_46 (oo_28 30 rfl rfl)
theorem dL_law_1532 : decode cL_law 1532 = .ok (.invokevirtual 271, 3) := dn_182 (oo_28 31 rfl rfl) rfl
theorem dL_law_1535 : decode cL_law 1535 = .ok (.astore 6, 2) := dn_58 (oo_28 34 rfl rfl) rfl
theorem dL_law_1537 : decode cL_law 1537 = .ok (.goto 678, 3) := dn_167 (oo_28 36 rfl rfl) (by decide +kernel)
theorem dL_law_1540 : decode cL_law 1540 = .ok (.aload_n 1, 1) := dn_43 (oo_28 39 rfl rfl)
theorem dL_law_1541 : decode cL_law 1541 = .ok (.aload_n 0, 1) := dn_42 (oo_28 40 rfl rfl)
theorem dL_law_1542 : decode cL_law 1542 = .ok (.iload 4, 2) := dn_21 (oo_28 41 rfl rfl) rfl
theorem dL_law_1544 : decode cL_law 1544 = .ok (.iconst 1, 1) := dn_4 (oo_28 43 rfl rfl)
theorem dL_law_1545 : decode cL_law 1545 = .ok (.iadd, 1) := dn_96 (oo_28 44 rfl rfl)
theorem dL_law_1546 : decode cL_law 1546 = .ok (.iaload, 1) := dn_46 (oo_28 45 rfl rfl)
theorem dL_law_1547 : decode cL_law 1547 = .ok (.aload_n 0, 1) := dn_42 (oo_28 46 rfl rfl)
theorem dL_law_1548 : decode cL_law 1548 = .ok (.iload 4, 2) := dn_21 (oo_28 47 rfl rfl) rfl
theorem dL_law_1550 : decode cL_law 1550 = .ok (.iconst 2, 1) := dn_5 (oo_29 0 rfl rfl)
theorem dL_law_1551 : decode cL_law 1551 = .ok (.iadd, 1) := dn_96 (oo_29 1 rfl rfl)
theorem dL_law_1552 : decode cL_law 1552 = .ok (.iaload, 1) := dn_46 (oo_29 2 rfl rfl)
theorem dL_law_1553 : decode cL_law 1553 = .ok (.aload_n 3, 1) := dn_45 (oo_29 3 rfl rfl)
theorem dL_law_1554 : decode cL_law 1554 = .ok (.invokestatic 272, 3) := dn_184 (oo_29 4 rfl rfl) rfl
theorem dL_law_1557 : decode cL_law 1557 = .ok (.istore 5, 2) := dn_54 (oo_29 7 rfl rfl) rfl
theorem dL_law_1559 : decode cL_law 1559 = .ok (.aload_n 2, 1) := dn_44 (oo_29 9 rfl rfl)
theorem dL_law_1560 : decode cL_law 1560 = .ok (.aload_n 0, 1) := dn_42 (oo_29 10 rfl rfl)
theorem dL_law_1561 : decode cL_law 1561 = .ok (.iload 4, 2) := dn_21 (oo_29 11 rfl rfl) rfl
theorem dL_law_1563 : decode cL_law 1563 = .ok (.iconst 1, 1) := dn_4 (oo_29 13 rfl rfl)
theorem dL_law_1564 : decode cL_law 1564 = .ok (.iadd, 1) := dn_96 (oo_29 14 rfl rfl)
theorem dL_law_1565 : decode cL_law 1565 = .ok (.iaload, 1) := dn_46 (oo_29 15 rfl rfl)
theorem dL_law_1566 : decode cL_law 1566 = .ok (.aload_n 0, 1) := dn_42 (oo_29 16 rfl rfl)
theorem dL_law_1567 : decode cL_law 1567 = .ok (.iload 4, 2) := dn_21 (oo_29 17 rfl rfl) rfl
theorem dL_law_1569 : decode cL_law 1569 = .ok (.iconst 2, 1) := dn_5 (oo_29 19 rfl rfl)
theorem dL_law_1570 : decode cL_law 1570 = .ok (.iadd, 1) := dn_96 (oo_29 20 rfl rfl)
theorem dL_law_1571 : decode cL_law 1571 = .ok (.iaload, 1) := dn_46 (oo_29 21 rfl rfl)
theorem dL_law_1572 : decode cL_law 1572 = .ok (.invokevirtual 274, 3) := dn_182 (oo_29 22 rfl rfl) rfl
theorem dL_law_1575 : decode cL_law 1575 = .ok (.istore 6, 2) := dn_54 (oo_29 25 rfl rfl) rfl
theorem dL_law_1577 : decode cL_law 1577 = .ok (.goto 638, 3) := dn_167 (oo_29 27 rfl rfl) (by decide +kernel)
theorem dL_law_1580 : decode cL_law 1580 = .ok (.aload_n 1, 1) := dn_43 (oo_29 30 rfl rfl)
theorem dL_law_1581 : decode cL_law 1581 = .ok (.aload_n 0, 1) := dn_42 (oo_29 31 rfl rfl)
theorem dL_law_1582 : decode cL_law 1582 = .ok (.iload 4, 2) := dn_21 (oo_29 32 rfl rfl) rfl
theorem dL_law_1584 : decode cL_law 1584 = .ok (.iconst 1, 1) := dn_4 (oo_29 34 rfl rfl)
theorem dL_law_1585 : decode cL_law 1585 = .ok (.iadd, 1) := dn_96 (oo_29 35 rfl rfl)
theorem dL_law_1586 : decode cL_law 1586 = .ok (.iaload, 1) := dn_46 (oo_29 36 rfl rfl)
theorem dL_law_1587 : decode cL_law 1587 = .ok (.aload_n 0, 1) := dn_42 (oo_29 37 rfl rfl)
theorem dL_law_1588 : decode cL_law 1588 = .ok (.iload 4, 2) := dn_21 (oo_29 38 rfl rfl) rfl
theorem dL_law_1590 : decode cL_law 1590 = .ok (.iconst 2, 1) := dn_5 (oo_29 40 rfl rfl)
theorem dL_law_1591 : decode cL_law 1591 = .ok (.iadd, 1) := dn_96 (oo_29 41 rfl rfl)
theorem dL_law_1592 : decode cL_law 1592 = .ok (.iaload, 1) := dn_46 (oo_29 42 rfl rfl)
theorem dL_law_1593 : decode cL_law 1593 = .ok (.aload_n 3, 1) := dn_45 (oo_29 43 rfl rfl)
theorem dL_law_1594 : decode cL_law 1594 = .ok (.invokestatic 275, 3) := dn_184 (oo_30 0 rfl rfl) rfl
theorem dL_law_1597 : decode cL_law 1597 = .ok (.istore 5, 2) := dn_54 (oo_30 3 rfl rfl) rfl
theorem dL_law_1599 : decode cL_law 1599 = .ok (.aload_n 2, 1) := dn_44 (oo_30 5 rfl rfl)
theorem dL_law_1600 : decode cL_law 1600 = .ok (.aload_n 0, 1) := dn_42 (oo_30 6 rfl rfl)
theorem dL_law_1601 : decode cL_law 1601 = .ok (.iload 4, 2) := dn_21 (oo_30 7 rfl rfl) rfl
theorem dL_law_1603 : decode cL_law 1603 = .ok (.iconst 1, 1) := dn_4 (oo_30 9 rfl rfl)
theorem dL_law_1604 : decode cL_law 1604 = .ok (.iadd, 1) := dn_96 (oo_30 10 rfl rfl)
theorem dL_law_1605 : decode cL_law 1605 = .ok (.iaload, 1) := dn_46 (oo_30 11 rfl rfl)
theorem dL_law_1606 : decode cL_law 1606 = .ok (.aload_n 0, 1) := dn_42 (oo_30 12 rfl rfl)
theorem dL_law_1607 : decode cL_law 1607 = .ok (.iload 4, 2) := dn_21 (oo_30 13 rfl rfl) rfl
theorem dL_law_1609 : decode cL_law 1609 = .ok (.iconst 2, 1) := dn_5 (oo_30 15 rfl rfl)
theorem dL_law_1610 : decode cL_law 1610 = .ok (.iadd, 1) := dn_96 (oo_30 16 rfl rfl)
theorem dL_law_1611 : decode cL_law 1611 = .ok (.iaload, 1) := dn_46 (oo_30 17 rfl rfl)
theorem dL_law_1612 : decode cL_law 1612 = .ok (.invokevirtual 277, 3) := dn_182 (oo_30 18 rfl rfl) rfl
theorem dL_law_1615 : decode cL_law 1615 = .ok (.istore 6, 2) := dn_54 (oo_30 21 rfl rfl) rfl
theorem dL_law_1617 : decode cL_law 1617 = .ok (.goto 598, 3) := dn_167 (oo_30 23 rfl rfl) (by decide +kernel)
theorem dL_law_1620 : decode cL_law 1620 = .ok (.aload_n 1, 1) := dn_43 (oo_30 26 rfl rfl)
theorem dL_law_1621 : decode cL_law 1621 = .ok (.aload_n 0, 1) := dn_42 (oo_30 27 rfl rfl)
theorem dL_law_1622 : decode cL_law 1622 = .ok (.iload 4, 2) := dn_21 (oo_30 28 rfl rfl) rfl
theorem dL_law_1624 : decode cL_law 1624 = .ok (.iconst 1, 1) := dn_4 (oo_30 30 rfl rfl)
theorem dL_law_1625 : decode cL_law 1625 = .ok (.iadd, 1) := dn_96 (oo_30 31 rfl rfl)
theorem dL_law_1626 : decode cL_law 1626 = .ok (.iaload, 1) := dn_46 (oo_30 32 rfl rfl)
theorem dL_law_1627 : decode cL_law 1627 = .ok (.aload_n 0, 1) := dn_42 (oo_30 33 rfl rfl)
theorem dL_law_1628 : decode cL_law 1628 = .ok (.iload 4, 2) := dn_21 (oo_30 34 rfl rfl) rfl
theorem dL_law_1630 : decode cL_law 1630 = .ok (.iconst 2, 1) := dn_5 (oo_30 36 rfl rfl)
theorem dL_law_1631 : decode cL_law 1631 = .ok (.iadd, 1) := dn_96 (oo_30 37 rfl rfl)
theorem dL_law_1632 : decode cL_law 1632 = .ok (.iaload, 1) := dn_46 (oo_30 38 rfl rfl)
theorem dL_law_1633 : decode cL_law 1633 = .ok (.aload_n 3, 1) := dn_45 (oo_30 39 rfl rfl)
theorem dL_law_1634 : decode cL_law 1634 = .ok (.invokestatic 278, 3) := dn_184 (oo_30 40 rfl rfl) rfl
theorem dL_law_1637 : decode cL_law 1637 = .ok (.istore 5, 2) := dn_54 (oo_30 43 rfl rfl) rfl
theorem dL_law_1639 : decode cL_law 1639 = .ok (.aload_n 2, 1) := dn_44 (oo_30 45 rfl rfl)
theorem dL_law_1640 : decode cL_law 1640 = .ok (.aload_n 0, 1) := dn_42 (oo_30 46 rfl rfl)
theorem dL_law_1641 : decode cL_law 1641 = .ok (.iload 4, 2) := dn_21 (oo_31 0 rfl rfl) rfl
theorem dL_law_1643 : decode cL_law 1643 = .ok (.iconst 1, 1) := dn_4 (oo_31 2 rfl rfl)
theorem dL_law_1644 : decode cL_law 1644 = .ok (.iadd, 1) := dn_96 (oo_31 3 rfl rfl)
theorem dL_law_1645 : decode cL_law 1645 = .ok (.iaload, 1) := dn_46 (oo_31 4 rfl rfl)
theorem dL_law_1646 : decode cL_law 1646 = .ok (.aload_n 0, 1) := dn_42 (oo_31 5 rfl rfl)
theorem dL_law_1647 : decode cL_law 1647 = .ok (.iload 4, 2) := dn_21 (oo_31 6 rfl rfl) rfl
theorem dL_law_1649 : decode cL_law 1649 = .ok (.iconst 2, 1) := dn_5 (oo_31 8 rfl rfl)
theorem dL_law_1650 : decode cL_law 1650 = .ok (.iadd, 1) := dn_96 (oo_31 9 rfl rfl)
theorem dL_law_1651 : decode cL_law 1651 = .ok (.iaload, 1) := dn_46 (oo_31 10 rfl rfl)
theorem dL_law_1652 : decode cL_law 1652 = .ok (.invokevirtual 280, 3) := dn_182 (oo_31 11 rfl rfl) rfl
theorem dL_law_1655 : decode cL_law 1655 = .ok (.istore 6, 2) := dn_54 (oo_31 14 rfl rfl) rfl
theorem dL_law_1657 : decode cL_law 1657 = .ok (.goto 558, 3) := dn_167 (oo_31 16 rfl rfl) (by decide +kernel)
theorem dL_law_1660 : decode cL_law 1660 = .ok (.aload_n 1, 1) := dn_43 (oo_31 19 rfl rfl)
theorem dL_law_1661 : decode cL_law 1661 = .ok (.aload_n 0, 1) := dn_42 (oo_31 20 rfl rfl)
theorem dL_law_1662 : decode cL_law 1662 = .ok (.iload 4, 2) := dn_21 (oo_31 21 rfl rfl) rfl
theorem dL_law_1664 : decode cL_law 1664 = .ok (.iconst 1, 1) := dn_4 (oo_31 23 rfl rfl)
theorem dL_law_1665 : decode cL_law 1665 = .ok (.iadd, 1) := dn_96 (oo_31 24 rfl rfl)
theorem dL_law_1666 : decode cL_law 1666 = .ok (.iaload, 1) := dn_46 (oo_31 25 rfl rfl)
theorem dL_law_1667 : decode cL_law 1667 = .ok (.aload_n 0, 1) := dn_42 (oo_31 26 rfl rfl)
theorem dL_law_1668 : decode cL_law 1668 = .ok (.iload 4, 2) := dn_21 (oo_31 27 rfl rfl) rfl
theorem dL_law_1670 : decode cL_law 1670 = .ok (.iconst 2, 1) := dn_5 (oo_31 29 rfl rfl)
theorem dL_law_1671 : decode cL_law 1671 = .ok (.iadd, 1) := dn_96 (oo_31 30 rfl rfl)
theorem dL_law_1672 : decode cL_law 1672 = .ok (.iaload, 1) := dn_46 (oo_31 31 rfl rfl)
theorem dL_law_1673 : decode cL_law 1673 = .ok (.aload_n 0, 1) := dn_42 (oo_31 32 rfl rfl)
theorem dL_law_1674 : decode cL_law 1674 = .ok (.iload 4, 2) := dn_21 (oo_31 33 rfl rfl) rfl
theorem dL_law_1676 : decode cL_law 1676 = .ok (.iconst 3, 1) := dn_6 (oo_31 35 rfl rfl)
theorem dL_law_1677 : decode cL_law 1677 = .ok (.iadd, 1) := dn_96 (oo_31 36 rfl rfl)
theorem dL_law_1678 : decode cL_law 1678 = .ok (.iaload, 1) := dn_46 (oo_31 37 rfl rfl)
theorem dL_law_1679 : decode cL_law 1679 = .ok (.ifCond .eq 7, 3) := dn_153 (oo_31 38 rfl rfl) (by decide +kernel)
theorem dL_law_1682 : decode cL_law 1682 = .ok (.iconst 1, 1) := dn_4 (oo_31 41 rfl rfl)
theorem dL_law_1683 : decode cL_law 1683 = .ok (.goto 4, 3) := dn_167 (oo_31 42 rfl rfl) (by decide +kernel)
theorem dL_law_1686 : decode cL_law 1686 = .ok (.iconst 0, 1) := dn_3 (oo_31 45 rfl rfl)
theorem dL_law_1687 : decode cL_law 1687 = .ok (.aload_n 3, 1) := dn_45 (oo_32 0 rfl rfl)
theorem dL_law_1688 : decode cL_law 1688 = .ok (.invokestatic 281, 3) := dn_184 (oo_32 1 rfl rfl) rfl
theorem dL_law_1691 : decode cL_law 1691 = .ok (.istore 5, 2) := dn_54 (oo_32 4 rfl rfl) rfl
theorem dL_law_1693 : decode cL_law 1693 = .ok (.aload_n 2, 1) := dn_44 (oo_32 6 rfl rfl)
theorem dL_law_1694 : decode cL_law 1694 = .ok (.aload_n 0, 1) := dn_42 (oo_32 7 rfl rfl)
theorem dL_law_1695 : decode cL_law 1695 = .ok (.iload 4, 2) := dn_21 (oo_32 8 rfl rfl) rfl
theorem dL_law_1697 : decode cL_law 1697 = .ok (.iconst 1, 1) := dn_4 (oo_32 10 rfl rfl)
theorem dL_law_1698 : decode cL_law 1698 = .ok (.iadd, 1) := dn_96 (oo_32 11 rfl rfl)
theorem dL_law_1699 : decode cL_law 1699 = .ok (.iaload, 1) := dn_46 (oo_32 12 rfl rfl)
theorem dL_law_1700 : decode cL_law 1700 = .ok (.aload_n 0, 1) := dn_42 (oo_32 13 rfl rfl)
theorem dL_law_1701 : decode cL_law 1701 = .ok (.iload 4, 2) := dn_21 (oo_32 14 rfl rfl) rfl
theorem dL_law_1703 : decode cL_law 1703 = .ok (.iconst 2, 1) := dn_5 (oo_32 16 rfl rfl)
theorem dL_law_1704 : decode cL_law 1704 = .ok (.iadd, 1) := dn_96 (oo_32 17 rfl rfl)
theorem dL_law_1705 : decode cL_law 1705 = .ok (.iaload, 1) := dn_46 (oo_32 18 rfl rfl)
theorem dL_law_1706 : decode cL_law 1706 = .ok (.aload_n 0, 1) := dn_42 (oo_32 19 rfl rfl)
theorem dL_law_1707 : decode cL_law 1707 = .ok (.iload 4, 2) := dn_21 (oo_32 20 rfl rfl) rfl
theorem dL_law_1709 : decode cL_law 1709 = .ok (.iconst 3, 1) := dn_6 (oo_32 22 rfl rfl)
theorem dL_law_1710 : decode cL_law 1710 = .ok (.iadd, 1) := dn_96 (oo_32 23 rfl rfl)
theorem dL_law_1711 : decode cL_law 1711 = .ok (.iaload, 1) := dn_46 (oo_32 24 rfl rfl)
theorem dL_law_1712 : decode cL_law 1712 = .ok (.ifCond .eq 7, 3) := dn_153 (oo_32 25 rfl rfl) (by decide +kernel)
theorem dL_law_1715 : decode cL_law 1715 = .ok (.iconst 1, 1) := dn_4 (oo_32 28 rfl rfl)
theorem dL_law_1716 : decode cL_law 1716 = .ok (.goto 4, 3) := dn_167 (oo_32 29 rfl rfl) (by decide +kernel)
theorem dL_law_1719 : decode cL_law 1719 = .ok (.iconst 0, 1) := dn_3 (oo_32 32 rfl rfl)
theorem dL_law_1720 : decode cL_law 1720 = .ok (.invokevirtual 283, 3) := dn_182 (oo_32 33 rfl rfl) rfl
theorem dL_law_1723 : decode cL_law 1723 = .ok (.istore 6, 2) := dn_54 (oo_32 36 rfl rfl) rfl
theorem dL_law_1725 : decode cL_law 1725 = .ok (.goto 490, 3) := dn_167 (oo_32 38 rfl rfl) (by decide +kernel)
theorem dL_law_1728 : decode cL_law 1728 = .ok (.aload_n 1, 1) := dn_43 (oo_32 41 rfl rfl)
theorem dL_law_1729 : decode cL_law 1729 = .ok (.aload_n 0, 1) := dn_42 (oo_32 42 rfl rfl)
theorem dL_law_1730 : decode cL_law 1730 = .ok (.iload 4, 2) := dn_21 (oo_32 43 rfl rfl) rfl
theorem dL_law_1732 : decode cL_law 1732 = .ok (.iconst 1, 1) := dn_4 (oo_32 45 rfl rfl)
theorem dL_law_1733 : decode cL_law 1733 = .ok (.iadd, 1) := dn_96 (oo_32 46 rfl rfl)
theorem dL_law_1734 : decode cL_law 1734 = .ok (.iaload, 1) := dn_46 (oo_32 47 rfl rfl)
theorem dL_law_1735 : decode cL_law 1735 = .ok (.aload_n 0, 1) := dn_42 (oo_33 0 rfl rfl)
theorem dL_law_1736 : decode cL_law 1736 = .ok (.iload 4, 2) := dn_21 (oo_33 1 rfl rfl) rfl
theorem dL_law_1738 : decode cL_law 1738 = .ok (.iconst 2, 1) := dn_5 (oo_33 3 rfl rfl)
theorem dL_law_1739 : decode cL_law 1739 = .ok (.iadd, 1) := dn_96 (oo_33 4 rfl rfl)
theorem dL_law_1740 : decode cL_law 1740 = .ok (.iaload, 1) := dn_46 (oo_33 5 rfl rfl)
theorem dL_law_1741 : decode cL_law 1741 = .ok (.aload_n 3, 1) := dn_45 (oo_33 6 rfl rfl)
theorem dL_law_1742 : decode cL_law 1742 = .ok (.invokestatic 284, 3) := dn_184 (oo_33 7 rfl rfl) rfl
theorem dL_law_1745 : decode cL_law 1745 = .ok (.istore 5, 2) := dn_54 (oo_33 10 rfl rfl) rfl
theorem dL_law_1747 : decode cL_law 1747 = .ok (.aload_n 2, 1) := dn_44 (oo_33 12 rfl rfl)
theorem dL_law_1748 : decode cL_law 1748 = .ok (.aload_n 0, 1) := dn_42 (oo_33 13 rfl rfl)
theorem dL_law_1749 : decode cL_law 1749 = .ok (.iload 4, 2) := dn_21 (oo_33 14 rfl rfl) rfl
theorem dL_law_1751 : decode cL_law 1751 = .ok (.iconst 1, 1) := dn_4 (oo_33 16 rfl rfl)
theorem dL_law_1752 : decode cL_law 1752 = .ok (.iadd, 1) := dn_96 (oo_33 17 rfl rfl)
theorem dL_law_1753 : decode cL_law 1753 = .ok (.iaload, 1) := dn_46 (oo_33 18 rfl rfl)
theorem dL_law_1754 : decode cL_law 1754 = .ok (.aload_n 0, 1) := dn_42 (oo_33 19 rfl rfl)
theorem dL_law_1755 : decode cL_law 1755 = .ok (.iload 4, 2) := dn_21 (oo_33 20 rfl rfl) rfl
theorem dL_law_1757 : decode cL_law 1757 = .ok (.iconst 2, 1) := dn_5 (oo_33 22 rfl rfl)
theorem dL_law_1758 : decode cL_law 1758 = .ok (.iadd, 1) := dn_96 (oo_33 23 rfl rfl)
theorem dL_law_1759 : decode cL_law 1759 = .ok (.iaload, 1) := dn_46 (oo_33 24 rfl rfl)
theorem dL_law_1760 : decode cL_law 1760 = .ok (.invokevirtual 286, 3) := dn_182 (oo_33 25 rfl rfl) rfl
theorem dL_law_1763 : decode cL_law 1763 = .ok (.istore 6, 2) := dn_54 (oo_33 28 rfl rfl) rfl
theorem dL_law_1765 : decode cL_law 1765 = .ok (.goto 450, 3) := dn_167 (oo_33 30 rfl rfl) (by decide +kernel)
theorem dL_law_1768 : decode cL_law 1768 = .ok (.aload_n 1, 1) := dn_43 (oo_33 33 rfl rfl)
theorem dL_law_1769 : decode cL_law 1769 = .ok (.aload_n 0, 1) := dn_42 (oo_33 34 rfl rfl)
theorem dL_law_1770 : decode cL_law 1770 = .ok (.iload 4, 2) := dn_21 (oo_33 35 rfl rfl) rfl
theorem dL_law_1772 : decode cL_law 1772 = .ok (.iconst 1, 1) := dn_4 (oo_33 37 rfl rfl)
theorem dL_law_1773 : decode cL_law 1773 = .ok (.iadd, 1) := dn_96 (oo_33 38 rfl rfl)
theorem dL_law_1774 : decode cL_law 1774 = .ok (.iaload, 1) := dn_46 (oo_33 39 rfl rfl)
theorem dL_law_1775 : decode cL_law 1775 = .ok (.aload_n 3, 1) := dn_45 (oo_33 40 rfl rfl)
theorem dL_law_1776 : decode cL_law 1776 = .ok (.invokestatic 287, 3) := dn_184 (oo_33 41 rfl rfl) rfl
theorem dL_law_1779 : decode cL_law 1779 = .ok (.istore 5, 2) := dn_54 (oo_33 44 rfl rfl) rfl
theorem dL_law_1781 : decode cL_law 1781 = .ok (.aload_n 2, 1) := dn_44 (oo_33 46 rfl rfl)
theorem dL_law_1782 : decode cL_law 1782 = .ok (.aload_n 0, 1) := dn_42 (oo_34 0 rfl rfl)
theorem dL_law_1783 : decode cL_law 1783 = .ok (.iload 4, 2) := dn_21 (oo_34 1 rfl rfl) rfl
theorem dL_law_1785 : decode cL_law 1785 = .ok (.iconst 1, 1) := dn_4 (oo_34 3 rfl rfl)
theorem dL_law_1786 : decode cL_law 1786 = .ok (.iadd, 1) := dn_96 (oo_34 4 rfl rfl)
theorem dL_law_1787 : decode cL_law 1787 = .ok (.iaload, 1) := dn_46 (oo_34 5 rfl rfl)
theorem dL_law_1788 : decode cL_law 1788 = .ok (.invokevirtual 289, 3) := dn_182 (oo_34 6 rfl rfl) rfl
theorem dL_law_1791 : decode cL_law 1791 = .ok (.istore 6, 2) := dn_54 (oo_34 9 rfl rfl) rfl
theorem dL_law_1793 : decode cL_law 1793 = .ok (.goto 422, 3) := dn_167 (oo_34 11 rfl rfl) (by decide +kernel)
theorem dL_law_1796 : decode cL_law 1796 = .ok (.aload_n 1, 1) := dn_43 (oo_34 14 rfl rfl)
theorem dL_law_1797 : decode cL_law 1797 = .ok (.aload_n 0, 1) := dn_42 (oo_34 15 rfl rfl)
theorem dL_law_1798 : decode cL_law 1798 = .ok (.iload 4, 2) := dn_21 (oo_34 16 rfl rfl) rfl
theorem dL_law_1800 : decode cL_law 1800 = .ok (.iconst 1, 1) := dn_4 (oo_34 18 rfl rfl)
