theorem dL_law_1085 : decode cL_law 1085 = .ok (.aload_n 1, 1) := oc_43 (by decide +kernel)
theorem dL_law_1086 : decode cL_law 1086 = .ok (.aload_n 0, 1) := oc_42 (by decide +kernel)
theorem dL_law_1087 : decode cL_law 1087 = .ok (.iload_n 3, 1) := oc_29 (by decide +kernel)
theorem dL_law_1088 : decode cL_law 1088 = .ok (.iconst 1, 1) := oc_4 (by decide +kernel)
theorem dL_law_1089 : decode cL_law 1089 = .ok (.iadd, 1) := oc_96 (by decide +kernel)
theorem dL_law_1090 : decode cL_law 1090 = .ok (.iaload, 1) := oc_46 (by decide +kernel)
theorem dL_law_1091 : decode cL_law 1091 = .ok (.aload_n 0, 1) := oc_42 (by decide +kernel)
theorem dL_law_1092 : decode cL_law 1092 = .ok (.iload_n 3, 1) := oc_29 (by decide +kernel)
theorem dL_law_1093 : decode cL_law 1093 = .ok (.iconst 2, 1) := oc_5 (by decide +kernel)
theorem dL_law_1094 : decode cL_law 1094 = .ok (.iadd, 1) := oc_96 (by decide +kernel)
theorem dL_law_1095 : decode cL_law 1095 = .ok (.iaload, 1) := oc_46 (by decide +kernel)
theorem dL_law_1096 : decode cL_law 1096 = .ok (.aload_n 0, 1) := oc_42 (by decide +kernel)
theorem dL_law_1097 : decode cL_law 1097 = .ok (.iload_n 3, 1) := oc_29 (by decide +kernel)
theorem dL_law_1098 : decode cL_law 1098 = .ok (.iconst 3, 1) := oc_6 (by decide +kernel)
theorem dL_law_1099 : decode cL_law 1099 = .ok (.iadd, 1) := oc_96 (by decide +kernel)
theorem dL_law_1100 : decode cL_law 1100 = .ok (.iaload, 1) := oc_46 (by decide +kernel)
theorem tw_975 : Cond.methodLink RL 108 yX11_why ∈ wsL_law := sg_41 _ (List.mem_of_getElem? (i := 15) rfl)
theorem tw_976 : Cond.instanceMethod yX11_why ∈ wsL_law := sg_41 _ (List.mem_of_getElem? (i := 16) rfl)
theorem tw_977 : Cond.selects RX11 yX11_why yX11_why ∈ wsL_law := sg_41 _ (List.mem_of_getElem? (i := 17) rfl)
theorem tw_978 : Cond.code yX11_why cX11_why 4 (some .int) ∈ wsL_law := sg_41 _ (List.mem_of_getElem? (i := 18) rfl)
theorem dL_law_1101 : decode cL_law 1101 = .ok (.invokevirtual 108, 3) := oc_182 (a := 0) (b := 108) (by decide +kernel)
theorem dL_law_1104 : decode cL_law 1104 = .ok (.pop, 1) := oc_87 (by decide +kernel)
theorem dL_law_1105 : decode cL_law 1105 = .ok (.aload_n 2, 1) := oc_44 (by decide +kernel)
theorem dL_law_1106 : decode cL_law 1106 = .ok (.aload_n 0, 1) := oc_42 (by decide +kernel)
theorem dL_law_1107 : decode cL_law 1107 = .ok (.iload_n 3, 1) := oc_29 (by decide +kernel)
theorem dL_law_1108 : decode cL_law 1108 = .ok (.iconst 1, 1) := oc_4 (by decide +kernel)
theorem dL_law_1109 : decode cL_law 1109 = .ok (.iadd, 1) := oc_96 (by decide +kernel)
theorem dL_law_1110 : decode cL_law 1110 = .ok (.iaload, 1) := oc_46 (by decide +kernel)
theorem dL_law_1111 : decode cL_law 1111 = .ok (.aload_n 0, 1) := oc_42 (by decide +kernel)
theorem dL_law_1112 : decode cL_law 1112 = .ok (.iload_n 3, 1) := oc_29 (by decide +kernel)
theorem dL_law_1113 : decode cL_law 1113 = .ok (.iconst 2, 1) := oc_5 (by decide +kernel)
theorem dL_law_1114 : decode cL_law 1114 = .ok (.iadd, 1) := oc_96 (by decide +kernel)
theorem dL_law_1115 : decode cL_law 1115 = .ok (.iaload, 1) := oc_46 (by decide +kernel)
theorem dL_law_1116 : decode cL_law 1116 = .ok (.aload_n 0, 1) := oc_42 (by decide +kernel)
theorem dL_law_1117 : decode cL_law 1117 = .ok (.iload_n 3, 1) := oc_29 (by decide +kernel)
theorem dL_law_1118 : decode cL_law 1118 = .ok (.iconst 3, 1) := oc_6 (by decide +kernel)
theorem dL_law_1119 : decode cL_law 1119 = .ok (.iadd, 1) := oc_96 (by decide +kernel)
theorem dL_law_1120 : decode cL_law 1120 = .ok (.iaload, 1) := oc_46 (by decide +kernel)
theorem tw_983 : Cond.methodLink RL 111 yX12_why ∈ wsL_law := sg_41 _ (List.mem_of_getElem? (i := 23) rfl)
theorem tw_984 : Cond.instanceMethod yX12_why ∈ wsL_law := sg_42 _ (List.mem_of_getElem? (i := 0) rfl)
theorem tw_985 : Cond.selects RX12 yX12_why yX12_why ∈ wsL_law := sg_42 _ (List.mem_of_getElem? (i := 1) rfl)
theorem tw_986 : Cond.code yX12_why cX12_why 4 (some .int) ∈ wsL_law := sg_42 _ (List.mem_of_getElem? (i := 2) rfl)
theorem dL_law_1121 : decode cL_law 1121 = .ok (.invokevirtual 111, 3) := oc_182 (a := 0) (b := 111) (by decide +kernel)
theorem dL_law_1124 : decode cL_law 1124 = .ok (.pop, 1) := oc_87 (by decide +kernel)
theorem dL_law_1125 : decode cL_law 1125 = .ok (.goto 600, 3) := oc_167 (a := 2) (b := 88) (by decide +kernel)
theorem dL_law_1128 : decode cL_law 1128 = .ok (.aload_n 1, 1) := oc_43 (by decide +kernel)
theorem dL_law_1129 : decode cL_law 1129 = .ok (.aload_n 0, 1) := oc_42 (by decide +kernel)
theorem dL_law_1130 : decode cL_law 1130 = .ok (.iload_n 3, 1) := oc_29 (by decide +kernel)
theorem dL_law_1131 : decode cL_law 1131 = .ok (.iconst 1, 1) := oc_4 (by decide +kernel)
theorem dL_law_1132 : decode cL_law 1132 = .ok (.iadd, 1) := oc_96 (by decide +kernel)
theorem dL_law_1133 : decode cL_law 1133 = .ok (.iaload, 1) := oc_46 (by decide +kernel)
theorem dL_law_1134 : decode cL_law 1134 = .ok (.aload_n 0, 1) := oc_42 (by decide +kernel)
theorem dL_law_1135 : decode cL_law 1135 = .ok (.iload_n 3, 1) := oc_29 (by decide +kernel)
theorem dL_law_1136 : decode cL_law 1136 = .ok (.iconst 2, 1) := oc_5 (by decide +kernel)
theorem dL_law_1137 : decode cL_law 1137 = .ok (.iadd, 1) := oc_96 (by decide +kernel)
theorem dL_law_1138 : decode cL_law 1138 = .ok (.iaload, 1) := oc_46 (by decide +kernel)
theorem tw_987 : Cond.methodLink RL 112 yX11_says ∈ wsL_law := sg_42 _ (List.mem_of_getElem? (i := 3) rfl)
theorem tw_988 : Cond.instanceMethod yX11_says ∈ wsL_law := sg_42 _ (List.mem_of_getElem? (i := 4) rfl)
theorem tw_989 : Cond.selects RX11 yX11_says yX11_says ∈ wsL_law := sg_42 _ (List.mem_of_getElem? (i := 5) rfl)
theorem tw_990 : Cond.code yX11_says cX11_says 3 (some .int) ∈ wsL_law := sg_42 _ (List.mem_of_getElem? (i := 6) rfl)
theorem dL_law_1139 : decode cL_law 1139 = .ok (.invokevirtual 112, 3) := oc_182 (a := 0) (b := 112) (by decide +kernel)
theorem dL_law_1142 : decode cL_law 1142 = .ok (.pop, 1) := oc_87 (by decide +kernel)
theorem dL_law_1143 : decode cL_law 1143 = .ok (.aload_n 2, 1) := oc_44 (by decide +kernel)
theorem dL_law_1144 : decode cL_law 1144 = .ok (.aload_n 0, 1) := oc_42 (by decide +kernel)
theorem dL_law_1145 : decode cL_law 1145 = .ok (.iload_n 3, 1) := oc_29 (by decide +kernel)
theorem dL_law_1146 : decode cL_law 1146 = .ok (.iconst 1, 1) := oc_4 (by decide +kernel)
theorem dL_law_1147 : decode cL_law 1147 = .ok (.iadd, 1) := oc_96 (by decide +kernel)
theorem dL_law_1148 : decode cL_law 1148 = .ok (.iaload, 1) := oc_46 (by decide +kernel)
theorem dL_law_1149 : decode cL_law 1149 = .ok (.aload_n 0, 1) := oc_42 (by decide +kernel)
theorem dL_law_1150 : decode cL_law 1150 = .ok (.iload_n 3, 1) := oc_29 (by decide +kernel)
theorem dL_law_1151 : decode cL_law 1151 = .ok (.iconst 2, 1) := oc_5 (by decide +kernel)
theorem dL_law_1152 : decode cL_law 1152 = .ok (.iadd, 1) := oc_96 (by decide +kernel)
theorem dL_law_1153 : decode cL_law 1153 = .ok (.iaload, 1) := oc_46 (by decide +kernel)
theorem tw_1012 : Cond.methodLink RL 115 yX12_says ∈ wsL_law := sg_43 _ (List.mem_of_getElem? (i := 4) rfl)
theorem tw_1013 : Cond.instanceMethod yX12_says ∈ wsL_law := sg_43 _ (List.mem_of_getElem? (i := 5) rfl)
theorem tw_1014 : Cond.selects RX12 yX12_says yX12_says ∈ wsL_law := sg_43 _ (List.mem_of_getElem? (i := 6) rfl)
theorem tw_1015 : Cond.code yX12_says cX12_says 3 (some .int) ∈ wsL_law := sg_43 _ (List.mem_of_getElem? (i := 7) rfl)
theorem dL_law_1154 : decode cL_law 1154 = .ok (.invokevirtual 115, 3) := oc_182 (a := 0) (b := 115) (by decide +kernel)
theorem dL_law_1157 : decode cL_law 1157 = .ok (.pop, 1) := oc_87 (by decide +kernel)
theorem dL_law_1158 : decode cL_law 1158 = .ok (.goto 567, 3) := oc_167 (a := 2) (b := 55) (by decide +kernel)
theorem dL_law_1161 : decode cL_law 1161 = .ok (.aload_n 1, 1) := oc_43 (by decide +kernel)
theorem dL_law_1162 : decode cL_law 1162 = .ok (.aload_n 0, 1) := oc_42 (by decide +kernel)
theorem dL_law_1163 : decode cL_law 1163 = .ok (.iload_n 3, 1) := oc_29 (by decide +kernel)
theorem dL_law_1164 : decode cL_law 1164 = .ok (.iconst 1, 1) := oc_4 (by decide +kernel)
theorem dL_law_1165 : decode cL_law 1165 = .ok (.iadd, 1) := oc_96 (by decide +kernel)
theorem dL_law_1166 : decode cL_law 1166 = .ok (.iaload, 1) := oc_46 (by decide +kernel)
theorem dL_law_1167 : decode cL_law 1167 = .ok (.aload_n 0, 1) := oc_42 (by decide +kernel)
theorem dL_law_1168 : decode cL_law 1168 = .ok (.iload_n 3, 1) := oc_29 (by decide +kernel)
theorem dL_law_1169 : decode cL_law 1169 = .ok (.iconst 2, 1) := oc_5 (by decide +kernel)
theorem dL_law_1170 : decode cL_law 1170 = .ok (.iadd, 1) := oc_96 (by decide +kernel)
theorem dL_law_1171 : decode cL_law 1171 = .ok (.iaload, 1) := oc_46 (by decide +kernel)
theorem tw_1020 : Cond.methodLink RL 116 yX11_sail ∈ wsL_law := sg_43 _ (List.mem_of_getElem? (i := 12) rfl)
theorem tw_1021 : Cond.instanceMethod yX11_sail ∈ wsL_law := sg_43 _ (List.mem_of_getElem? (i := 13) rfl)
theorem tw_1022 : Cond.selects RX11 yX11_sail yX11_sail ∈ wsL_law := sg_43 _ (List.mem_of_getElem? (i := 14) rfl)
theorem tw_1023 : Cond.code yX11_sail cX11_sail 3 (some .boolean) ∈ wsL_law := sg_43 _ (List.mem_of_getElem? (i := 15) rfl)
theorem dL_law_1172 : decode cL_law 1172 = .ok (.invokevirtual 116, 3) := oc_182 (a := 0) (b := 116) (by decide +kernel)
theorem dL_law_1175 : decode cL_law 1175 = .ok (.pop, 1) := oc_87 (by decide +kernel)
theorem dL_law_1176 : decode cL_law 1176 = .ok (.aload_n 2, 1) := oc_44 (by decide +kernel)
theorem dL_law_1177 : decode cL_law 1177 = .ok (.aload_n 0, 1) := oc_42 (by decide +kernel)
theorem dL_law_1178 : decode cL_law 1178 = .ok (.iload_n 3, 1) := oc_29 (by decide +kernel)
theorem dL_law_1179 : decode cL_law 1179 = .ok (.iconst 1, 1) := oc_4 (by decide +kernel)
theorem dL_law_1180 : decode cL_law 1180 = .ok (.iadd, 1) := oc_96 (by decide +kernel)
theorem dL_law_1181 : decode cL_law 1181 = .ok (.iaload, 1) := oc_46 (by decide +kernel)
theorem dL_law_1182 : decode cL_law 1182 = .ok (.aload_n 0, 1) := oc_42 (by decide +kernel)
theorem dL_law_1183 : decode cL_law 1183 = .ok (.iload_n 3, 1) := oc_29 (by decide +kernel)
theorem dL_law_1184 : decode cL_law 1184 = .ok (.iconst 2, 1) := oc_5 (by decide +kernel)
theorem dL_law_1185 : decode cL_law 1185 = .ok (.iadd, 1) := oc_96 (by decide +kernel)
theorem dL_law_1186 : decode cL_law 1186 = .ok (.iaload, 1) := oc_46 (by decide +kernel)
theorem tw_1027 : Cond.methodLink RL 119 yX12_sail ∈ wsL_law := sg_43 _ (List.mem_of_getElem? (i := 19) rfl)
theorem tw_1028 : Cond.instanceMethod yX12_sail ∈ wsL_law := sg_43 _ (List.mem_of_getElem? (i := 20) rfl)
theorem tw_1029 : Cond.selects RX12 yX12_sail yX12_sail ∈ wsL_law := sg_43 _ (List.mem_of_getElem? (i := 21) rfl)
theorem tw_1030 : Cond.code yX12_sail cX12_sail 3 (some .boolean) ∈ wsL_law := sg_43 _ (List.mem_of_getElem? (i := 22) rfl)
theorem dL_law_1187 : decode cL_law 1187 = .ok (.invokevirtual 119, 3) := oc_182 (a := 0) (b := 119) (by decide +kernel)
theorem dL_law_1190 : decode cL_law 1190 = .ok (.pop, 1) := oc_87 (by decide +kernel)
theorem dL_law_1191 : decode cL_law 1191 = .ok (.goto 534, 3) := oc_167 (a := 2) (b := 22) (by decide +kernel)
theorem dL_law_1194 : decode cL_law 1194 = .ok (.aload_n 1, 1) := oc_43 (by decide +kernel)
theorem dL_law_1195 : decode cL_law 1195 = .ok (.aload_n 0, 1) := oc_42 (by decide +kernel)
theorem dL_law_1196 : decode cL_law 1196 = .ok (.iload_n 3, 1) := oc_29 (by decide +kernel)
theorem dL_law_1197 : decode cL_law 1197 = .ok (.iconst 1, 1) := oc_4 (by decide +kernel)
theorem dL_law_1198 : decode cL_law 1198 = .ok (.iadd, 1) := oc_96 (by decide +kernel)
theorem dL_law_1199 : decode cL_law 1199 = .ok (.iaload, 1) := oc_46 (by decide +kernel)
theorem dL_law_1200 : decode cL_law 1200 = .ok (.aload_n 0, 1) := oc_42 (by decide +kernel)
theorem dL_law_1201 : decode cL_law 1201 = .ok (.iload_n 3, 1) := oc_29 (by decide +kernel)
theorem dL_law_1202 : decode cL_law 1202 = .ok (.iconst 2, 1) := oc_5 (by decide +kernel)
theorem dL_law_1203 : decode cL_law 1203 = .ok (.iadd, 1) := oc_96 (by decide +kernel)
theorem dL_law_1204 : decode cL_law 1204 = .ok (.iaload, 1) := oc_46 (by decide +kernel)
theorem tw_1031 : Cond.methodLink RL 120 yX11_months ∈ wsL_law := sg_43 _ (List.mem_of_getElem? (i := 23) rfl)
theorem tw_1032 : Cond.instanceMethod yX11_months ∈ wsL_law := sg_44 _ (List.mem_of_getElem? (i := 0) rfl)
theorem tw_1033 : Cond.selects RX11 yX11_months yX11_months ∈ wsL_law := sg_44 _ (List.mem_of_getElem? (i := 1) rfl)
theorem tw_1034 : Cond.code yX11_months cX11_months 4 (some .int) ∈ wsL_law := sg_44 _ (List.mem_of_getElem? (i := 2) rfl)
theorem dL_law_1205 : decode cL_law 1205 = .ok (.invokevirtual 120, 3) := oc_182 (a := 0) (b := 120) (by decide +kernel)
theorem dL_law_1208 : decode cL_law 1208 = .ok (.pop, 1) := oc_87 (by decide +kernel)
theorem dL_law_1209 : decode cL_law 1209 = .ok (.aload_n 2, 1) := oc_44 (by decide +kernel)
theorem dL_law_1210 : decode cL_law 1210 = .ok (.aload_n 0, 1) := oc_42 (by decide +kernel)
theorem dL_law_1211 : decode cL_law 1211 = .ok (.iload_n 3, 1) := oc_29 (by decide +kernel)
theorem dL_law_1212 : decode cL_law 1212 = .ok (.iconst 1, 1) := oc_4 (by decide +kernel)
theorem dL_law_1213 : decode cL_law 1213 = .ok (.iadd, 1) := oc_96 (by decide +kernel)
theorem dL_law_1214 : decode cL_law 1214 = .ok (.iaload, 1) := oc_46 (by decide +kernel)
theorem dL_law_1215 : decode cL_law 1215 = .ok (.aload_n 0, 1) := oc_42 (by decide +kernel)
theorem dL_law_1216 : decode cL_law 1216 = .ok (.iload_n 3, 1) := oc_29 (by decide +kernel)
theorem dL_law_1217 : decode cL_law 1217 = .ok (.iconst 2, 1) := oc_5 (by decide +kernel)
theorem dL_law_1218 : decode cL_law 1218 = .ok (.iadd, 1) := oc_96 (by decide +kernel)
theorem dL_law_1219 : decode cL_law 1219 = .ok (.iaload, 1) := oc_46 (by decide +kernel)
theorem tw_1185 : Cond.methodLink RL 123 yX12_months ∈ wsL_law := sg_50 _ (List.mem_of_getElem? (i := 9) rfl)
theorem tw_1186 : Cond.instanceMethod yX12_months ∈ wsL_law := sg_50 _ (List.mem_of_getElem? (i := 10) rfl)
theorem tw_1187 : Cond.selects RX12 yX12_months yX12_months ∈ wsL_law := sg_50 _ (List.mem_of_getElem? (i := 11) rfl)
theorem tw_1188 : Cond.code yX12_months cX12_months 4 (some .int) ∈ wsL_law := sg_50 _ (List.mem_of_getElem? (i := 12) rfl)
theorem dL_law_1220 : decode cL_law 1220 = .ok (.invokevirtual 123, 3) := oc_182 (a := 0) (b := 123) (by decide +kernel)
theorem dL_law_1223 : decode cL_law 1223 = .ok (.pop, 1) := oc_87 (by decide +kernel)
theorem dL_law_1224 : decode cL_law 1224 = .ok (.goto 501, 3) := oc_167 (a := 1) (b := 245) (by decide +kernel)
theorem dL_law_1227 : decode cL_law 1227 = .ok (.aload_n 1, 1) := oc_43 (by decide +kernel)
theorem dL_law_1228 : decode cL_law 1228 = .ok (.aload_n 0, 1) := oc_42 (by decide +kernel)
theorem dL_law_1229 : decode cL_law 1229 = .ok (.iload_n 3, 1) := oc_29 (by decide +kernel)
theorem dL_law_1230 : decode cL_law 1230 = .ok (.iconst 1, 1) := oc_4 (by decide +kernel)
theorem dL_law_1231 : decode cL_law 1231 = .ok (.iadd, 1) := oc_96 (by decide +kernel)
theorem dL_law_1232 : decode cL_law 1232 = .ok (.iaload, 1) := oc_46 (by decide +kernel)
theorem dL_law_1233 : decode cL_law 1233 = .ok (.aload_n 0, 1) := oc_42 (by decide +kernel)
theorem dL_law_1234 : decode cL_law 1234 = .ok (.iload_n 3, 1) := oc_29 (by decide +kernel)
theorem dL_law_1235 : decode cL_law 1235 = .ok (.iconst 2, 1) := oc_5 (by decide +kernel)
theorem dL_law_1236 : decode cL_law 1236 = .ok (.iadd, 1) := oc_96 (by decide +kernel)
theorem dL_law_1237 : decode cL_law 1237 = .ok (.iaload, 1) := oc_46 (by decide +kernel)
theorem tw_1267 : Cond.methodLink RL 124 yX11_cellOf ∈ wsL_law := sg_53 _ (List.mem_of_getElem? (i := 19) rfl)
theorem tw_1268 : Cond.instanceMethod yX11_cellOf ∈ wsL_law := sg_53 _ (List.mem_of_getElem? (i := 20) rfl)
theorem tw_1269 : Cond.selects RX11 yX11_cellOf yX11_cellOf ∈ wsL_law := sg_53 _ (List.mem_of_getElem? (i := 21) rfl)
theorem tw_1270 : Cond.code yX11_cellOf cX11_cellOf 4 (some .int) ∈ wsL_law := sg_53 _ (List.mem_of_getElem? (i := 22) rfl)
theorem dL_law_1238 : decode cL_law 1238 = .ok (.invokevirtual 124, 3) := oc_182 (a := 0) (b := 124) (by decide +kernel)
theorem dL_law_1241 : decode cL_law 1241 = .ok (.pop, 1) := oc_87 (by decide +kernel)
theorem dL_law_1242 : decode cL_law 1242 = .ok (.aload_n 2, 1) := oc_44 (by decide +kernel)
theorem dL_law_1243 : decode cL_law 1243 = .ok (.aload_n 0, 1) := oc_42 (by decide +kernel)
theorem dL_law_1244 : decode cL_law 1244 = .ok (.iload_n 3, 1) := oc_29 (by decide +kernel)
theorem dL_law_1245 : decode cL_law 1245 = .ok (.iconst 1, 1) := oc_4 (by decide +kernel)
theorem dL_law_1246 : decode cL_law 1246 = .ok (.iadd, 1) := oc_96 (by decide +kernel)
theorem dL_law_1247 : decode cL_law 1247 = .ok (.iaload, 1) := oc_46 (by decide +kernel)
theorem dL_law_1248 : decode cL_law 1248 = .ok (.aload_n 0, 1) := oc_42 (by decide +kernel)
theorem dL_law_1249 : decode cL_law 1249 = .ok (.iload_n 3, 1) := oc_29 (by decide +kernel)
theorem dL_law_1250 : decode cL_law 1250 = .ok (.iconst 2, 1) := oc_5 (by decide +kernel)
theorem dL_law_1251 : decode cL_law 1251 = .ok (.iadd, 1) := oc_96 (by decide +kernel)
theorem dL_law_1252 : decode cL_law 1252 = .ok (.iaload, 1) := oc_46 (by decide +kernel)
theorem tw_1284 : Cond.methodLink RL 127 yX12_cellOf ∈ wsL_law := sg_54 _ (List.mem_of_getElem? (i := 12) rfl)
theorem tw_1285 : Cond.instanceMethod yX12_cellOf ∈ wsL_law := sg_54 _ (List.mem_of_getElem? (i := 13) rfl)
theorem tw_1286 : Cond.selects RX12 yX12_cellOf yX12_cellOf ∈ wsL_law := sg_54 _ (List.mem_of_getElem? (i := 14) rfl)
theorem tw_1287 : Cond.code yX12_cellOf cX12_cellOf 3 (some .int) ∈ wsL_law := sg_54 _ (List.mem_of_getElem? (i := 15) rfl)
theorem dL_law_1253 : decode cL_law 1253 = .ok (.invokevirtual 127, 3) := oc_182 (a := 0) (b := 127) (by decide +kernel)
theorem dL_law_1256 : decode cL_law 1256 = .ok (.pop, 1) := oc_87 (by decide +kernel)
theorem dL_law_1257 : decode cL_law 1257 = .ok (.goto 468, 3) := oc_167 (a := 1) (b := 212) (by decide +kernel)
theorem dL_law_1260 : decode cL_law 1260 = .ok (.aload_n 1, 1) := oc_43 (by decide +kernel)
theorem dL_law_1261 : decode cL_law 1261 = .ok (.aload_n 0, 1) := oc_42 (by decide +kernel)
theorem dL_law_1262 : decode cL_law 1262 = .ok (.iload_n 3, 1) := oc_29 (by decide +kernel)
theorem dL_law_1263 : decode cL_law 1263 = .ok (.iconst 1, 1) := oc_4 (by decide +kernel)
theorem dL_law_1264 : decode cL_law 1264 = .ok (.iadd, 1) := oc_96 (by decide +kernel)
theorem dL_law_1265 : decode cL_law 1265 = .ok (.iaload, 1) := oc_46 (by decide +kernel)
theorem dL_law_1266 : decode cL_law 1266 = .ok (.aload_n 0, 1) := oc_42 (by decide +kernel)
theorem dL_law_1267 : decode cL_law 1267 = .ok (.iload_n 3, 1) := oc_29 (by decide +kernel)
theorem dL_law_1268 : decode cL_law 1268 = .ok (.iconst 2, 1) := oc_5 (by decide +kernel)
theorem dL_law_1269 : decode cL_law 1269 = .ok (.iadd, 1) := oc_96 (by decide +kernel)
theorem dL_law_1270 : decode cL_law 1270 = .ok (.iaload, 1) := oc_46 (by decide +kernel)
theorem tw_1288 : Cond.methodLink RL 128 yX11_personOf ∈ wsL_law := sg_54 _ (List.mem_of_getElem? (i := 16) rfl)
theorem tw_1289 : Cond.instanceMethod yX11_personOf ∈ wsL_law := sg_54 _ (List.mem_of_getElem? (i := 17) rfl)
theorem tw_1290 : Cond.selects RX11 yX11_personOf yX11_personOf ∈ wsL_law := sg_54 _ (List.mem_of_getElem? (i := 18) rfl)
theorem tw_1291 : Cond.code yX11_personOf cX11_personOf 4 (some .int) ∈ wsL_law := sg_54 _ (List.mem_of_getElem? (i := 19) rfl)
theorem dL_law_1271 : decode cL_law 1271 = .ok (.invokevirtual 128, 3) := oc_182 (a := 0) (b := 128) (by decide +kernel)
theorem dL_law_1274 : decode cL_law 1274 = .ok (.pop, 1) := oc_87 (by decide +kernel)
theorem dL_law_1275 : decode cL_law 1275 = .ok (.aload_n 2, 1) := oc_44 (by decide +kernel)
theorem dL_law_1276 : decode cL_law 1276 = .ok (.aload_n 0, 1) := oc_42 (by decide +kernel)
theorem dL_law_1277 : decode cL_law 1277 = .ok (.iload_n 3, 1) := oc_29 (by decide +kernel)
theorem dL_law_1278 : decode cL_law 1278 = .ok (.iconst 1, 1) := oc_4 (by decide +kernel)
theorem dL_law_1279 : decode cL_law 1279 = .ok (.iadd, 1) := oc_96 (by decide +kernel)
theorem dL_law_1280 : decode cL_law 1280 = .ok (.iaload, 1) := oc_46 (by decide +kernel)
theorem dL_law_1281 : decode cL_law 1281 = .ok (.aload_n 0, 1) := oc_42 (by decide +kernel)
theorem dL_law_1282 : decode cL_law 1282 = .ok (.iload_n 3, 1) := oc_29 (by decide +kernel)
theorem dL_law_1283 : decode cL_law 1283 = .ok (.iconst 2, 1) := oc_5 (by decide +kernel)
theorem dL_law_1284 : decode cL_law 1284 = .ok (.iadd, 1) := oc_96 (by decide +kernel)
theorem dL_law_1285 : decode cL_law 1285 = .ok (.iaload, 1) := oc_46 (by decide +kernel)
theorem tw_1299 : Cond.methodLink RL 131 yX12_personOf ∈ wsL_law := sg_55 _ (List.mem_of_getElem? (i := 3) rfl)
theorem tw_1300 : Cond.instanceMethod yX12_personOf ∈ wsL_law := sg_55 _ (List.mem_of_getElem? (i := 4) rfl)
theorem tw_1301 : Cond.selects RX12 yX12_personOf yX12_personOf ∈ wsL_law := sg_55 _ (List.mem_of_getElem? (i := 5) rfl)
theorem tw_1302 : Cond.code yX12_personOf cX12_personOf 3 (some .int) ∈ wsL_law := sg_55 _ (List.mem_of_getElem? (i := 6) rfl)
theorem dL_law_1286 : decode cL_law 1286 = .ok (.invokevirtual 131, 3) := oc_182 (a := 0) (b := 131) (by decide +kernel)
theorem dL_law_1289 : decode cL_law 1289 = .ok (.pop, 1) := oc_87 (by decide +kernel)
theorem dL_law_1290 : decode cL_law 1290 = .ok (.goto 435, 3) := oc_167 (a := 1) (b := 179) (by decide +kernel)
theorem dL_law_1293 : decode cL_law 1293 = .ok (.aload_n 1, 1) := oc_43 (by decide +kernel)
theorem dL_law_1294 : decode cL_law 1294 = .ok (.aload_n 0, 1) := oc_42 (by decide +kernel)
theorem dL_law_1295 : decode cL_law 1295 = .ok (.iload_n 3, 1) := oc_29 (by decide +kernel)
theorem dL_law_1296 : decode cL_law 1296 = .ok (.iconst 1, 1) := oc_4 (by decide +kernel)
theorem dL_law_1297 : decode cL_law 1297 = .ok (.iadd, 1) := oc_96 (by decide +kernel)
theorem dL_law_1298 : decode cL_law 1298 = .ok (.iaload, 1) := oc_46 (by decide +kernel)
theorem tw_1303 : Cond.methodLink RL 132 yX11_at ∈ wsL_law := sg_55 _ (List.mem_of_getElem? (i := 7) rfl)
theorem tw_1304 : Cond.instanceMethod yX11_at ∈ wsL_law := sg_55 _ (List.mem_of_getElem? (i := 8) rfl)
theorem tw_1305 : Cond.selects RX11 yX11_at yX11_at ∈ wsL_law := sg_55 _ (List.mem_of_getElem? (i := 9) rfl)
theorem tw_1306 : Cond.code yX11_at cX11_at 3 (some .int) ∈ wsL_law := sg_55 _ (List.mem_of_getElem? (i := 10) rfl)
theorem dL_law_1299 : decode cL_law 1299 = .ok (.invokevirtual 132, 3) := oc_182 (a := 0) (b := 132) (by decide +kernel)
theorem dL_law_1302 : decode cL_law 1302 = .ok (.pop, 1) := oc_87 (by decide +kernel)
theorem dL_law_1303 : decode cL_law 1303 = .ok (.aload_n 2, 1) := oc_44 (by decide +kernel)
theorem dL_law_1304 : decode cL_law 1304 = .ok (.aload_n 0, 1) := oc_42 (by decide +kernel)
theorem dL_law_1305 : decode cL_law 1305 = .ok (.iload_n 3, 1) := oc_29 (by decide +kernel)
theorem dL_law_1306 : decode cL_law 1306 = .ok (.iconst 1, 1) := oc_4 (by decide +kernel)
theorem dL_law_1307 : decode cL_law 1307 = .ok (.iadd, 1) := oc_96 (by decide +kernel)
theorem dL_law_1308 : decode cL_law 1308 = .ok (.iaload, 1) := oc_46 (by decide +kernel)
theorem tw_1308 : Cond.methodLink RL 135 yX12_at ∈ wsL_law := sg_55 _ (List.mem_of_getElem? (i := 12) rfl)
theorem tw_1309 : Cond.instanceMethod yX12_at ∈ wsL_law := sg_55 _ (List.mem_of_getElem? (i := 13) rfl)
theorem tw_1310 : Cond.selects RX12 yX12_at yX12_at ∈ wsL_law := sg_55 _ (List.mem_of_getElem? (i := 14) rfl)
theorem tw_1311 : Cond.code yX12_at cX12_at 2 (some .int) ∈ wsL_law := sg_55 _ (List.mem_of_getElem? (i := 15) rfl)
theorem dL_law_1309 : decode cL_law 1309 = .ok (.invokevirtual 135, 3) := oc_182 (a := 0) (b := 135) (by decide +kernel)
theorem dL_law_1312 : decode cL_law 1312 = .ok (.pop, 1) := oc_87 (by decide +kernel)
theorem dL_law_1313 : decode cL_law 1313 = .ok (.goto 412, 3) := oc_167 (a := 1) (b := 156) (by decide +kernel)
theorem dL_law_1316 : decode cL_law 1316 = .ok (.aload_n 1, 1) := oc_43 (by decide +kernel)
theorem tw_1312 : Cond.methodLink RL 136 yX11_area ∈ wsL_law := sg_55 _ (List.mem_of_getElem? (i := 16) rfl)
theorem tw_1313 : Cond.instanceMethod yX11_area ∈ wsL_law := sg_55 _ (List.mem_of_getElem? (i := 17) rfl)
theorem tw_1314 : Cond.selects RX11 yX11_area yX11_area ∈ wsL_law := sg_55 _ (List.mem_of_getElem? (i := 18) rfl)
theorem tw_1315 : Cond.code yX11_area cX11_area 1 (some .int) ∈ wsL_law := sg_55 _ (List.mem_of_getElem? (i := 19) rfl)
theorem dL_law_1317 : decode cL_law 1317 = .ok (.invokevirtual 136, 3) := oc_182 (a := 0) (b := 136) (by decide +kernel)
theorem dL_law_1320 : decode cL_law 1320 = .ok (.pop, 1) := oc_87 (by decide +kernel)
theorem dL_law_1321 : decode cL_law 1321 = .ok (.aload_n 2, 1) := oc_44 (by decide +kernel)
theorem tw_1317 : Cond.methodLink RL 139 yX12_area ∈ wsL_law := sg_55 _ (List.mem_of_getElem? (i := 21) rfl)
theorem tw_1318 : Cond.instanceMethod yX12_area ∈ wsL_law := sg_55 _ (List.mem_of_getElem? (i := 22) rfl)
theorem tw_1319 : Cond.selects RX12 yX12_area yX12_area ∈ wsL_law := sg_55 _ (List.mem_of_getElem? (i := 23) rfl)
theorem tw_1320 : Cond.code yX12_area cX12_area 1 (some .int) ∈ wsL_law := sg_56 _ (List.mem_of_getElem? (i := 0) rfl)
theorem dL_law_1322 : decode cL_law 1322 = .ok (.invokevirtual 139, 3) := oc_182 (a := 0) (b := 139) (by decide +kernel)
theorem dL_law_1325 : decode cL_law 1325 = .ok (.pop, 1) := oc_87 (by decide +kernel)
theorem dL_law_1326 : decode cL_law 1326 = .ok (.goto 399, 3) := oc_167 (a := 1) (b := 143) (by decide +kernel)
theorem dL_law_1329 : decode cL_law 1329 = .ok (.aload_n 1, 1) := oc_43 (by decide +kernel)
theorem dL_law_1330 : decode cL_law 1330 = .ok (.aload_n 0, 1) := oc_42 (by decide +kernel)
theorem dL_law_1331 : decode cL_law 1331 = .ok (.iload_n 3, 1) := oc_29 (by decide +kernel)
theorem dL_law_1332 : decode cL_law 1332 = .ok (.iconst 1, 1) := oc_4 (by decide +kernel)
theorem dL_law_1333 : decode cL_law 1333 = .ok (.iadd, 1) := oc_96 (by decide +kernel)
theorem dL_law_1334 : decode cL_law 1334 = .ok (.iaload, 1) := oc_46 (by decide +kernel)
theorem dL_law_1335 : decode cL_law 1335 = .ok (.aload_n 0, 1) := oc_42 (by decide +kernel)
theorem dL_law_1336 : decode cL_law 1336 = .ok (.iload_n 3, 1) := oc_29 (by decide +kernel)
theorem dL_law_1337 : decode cL_law 1337 = .ok (.iconst 2, 1) := oc_5 (by decide +kernel)
theorem dL_law_1338 : decode cL_law 1338 = .ok (.iadd, 1) := oc_96 (by decide +kernel)
theorem dL_law_1339 : decode cL_law 1339 = .ok (.iaload, 1) := oc_46 (by decide +kernel)
theorem tw_1321 : Cond.methodLink RL 140 yX11_choose ∈ wsL_law := sg_56 _ (List.mem_of_getElem? (i := 1) rfl)
theorem tw_1322 : Cond.instanceMethod yX11_choose ∈ wsL_law := sg_56 _ (List.mem_of_getElem? (i := 2) rfl)
theorem tw_1323 : Cond.selects RX11 yX11_choose yX11_choose ∈ wsL_law := sg_56 _ (List.mem_of_getElem? (i := 3) rfl)
theorem tw_1324 : Cond.code yX11_choose cX11_choose 3 (some .boolean) ∈ wsL_law := sg_56 _ (List.mem_of_getElem? (i := 4) rfl)
theorem dL_law_1340 : decode cL_law 1340 = .ok (.invokevirtual 140, 3) := oc_182 (a := 0) (b := 140) (by decide +kernel)
theorem dL_law_1343 : decode cL_law 1343 = .ok (.pop, 1) := oc_87 (by decide +kernel)
theorem dL_law_1344 : decode cL_law 1344 = .ok (.aload_n 2, 1) := oc_44 (by decide +kernel)
theorem dL_law_1345 : decode cL_law 1345 = .ok (.aload_n 0, 1) := oc_42 (by decide +kernel)
theorem dL_law_1346 : decode cL_law 1346 = .ok (.iload_n 3, 1) := oc_29 (by decide +kernel)
theorem dL_law_1347 : decode cL_law 1347 = .ok (.iconst 1, 1) := oc_4 (by decide +kernel)
theorem dL_law_1348 : decode cL_law 1348 = .ok (.iadd, 1) := oc_96 (by decide +kernel)
theorem dL_law_1349 : decode cL_law 1349 = .ok (.iaload, 1) := oc_46 (by decide +kernel)
theorem dL_law_1350 : decode cL_law 1350 = .ok (.aload_n 0, 1) := oc_42 (by decide +kernel)
theorem dL_law_1351 : decode cL_law 1351 = .ok (.iload_n 3, 1) := oc_29 (by decide +kernel)
theorem dL_law_1352 : decode cL_law 1352 = .ok (.iconst 2, 1) := oc_5 (by decide +kernel)
theorem dL_law_1353 : decode cL_law 1353 = .ok (.iadd, 1) := oc_96 (by decide +kernel)
theorem dL_law_1354 : decode cL_law 1354 = .ok (.iaload, 1) := oc_46 (by decide +kernel)
theorem tw_1326 : Cond.methodLink RL 143 yX12_choose ∈ wsL_law := sg_56 _ (List.mem_of_getElem? (i := 6) rfl)
theorem tw_1327 : Cond.instanceMethod yX12_choose ∈ wsL_law := sg_56 _ (List.mem_of_getElem? (i := 7) rfl)
theorem tw_1328 : Cond.selects RX12 yX12_choose yX12_choose ∈ wsL_law := sg_56 _ (List.mem_of_getElem? (i := 8) rfl)
theorem tw_1329 : Cond.code yX12_choose cX12_choose 3 (some .boolean) ∈ wsL_law := sg_56 _ (List.mem_of_getElem? (i := 9) rfl)
theorem dL_law_1355 : decode cL_law 1355 = .ok (.invokevirtual 143, 3) := oc_182 (a := 0) (b := 143) (by decide +kernel)
theorem dL_law_1358 : decode cL_law 1358 = .ok (.pop, 1) := oc_87 (by decide +kernel)
theorem dL_law_1359 : decode cL_law 1359 = .ok (.goto 366, 3) := oc_167 (a := 1) (b := 110) (by decide +kernel)
theorem dL_law_1362 : decode cL_law 1362 = .ok (.aload_n 1, 1) := oc_43 (by decide +kernel)
theorem dL_law_1363 : decode cL_law 1363 = .ok (.aload_n 0, 1) := oc_42 (by decide +kernel)
theorem dL_law_1364 : decode cL_law 1364 = .ok (.iload_n 3, 1) := oc_29 (by decide +kernel)
theorem dL_law_1365 : decode cL_law 1365 = .ok (.iconst 1, 1) := oc_4 (by decide +kernel)
theorem dL_law_1366 : decode cL_law 1366 = .ok (.iadd, 1) := oc_96 (by decide +kernel)
theorem dL_law_1367 : decode cL_law 1367 = .ok (.iaload, 1) := oc_46 (by decide +kernel)
theorem dL_law_1368 : decode cL_law 1368 = .ok (.i2l, 1) := oc_133 (by decide +kernel)
theorem dL_law_1369 : decode cL_law 1369 = .ok (.bipush 32, 2) := oc_16 (a := 32) (by decide +kernel)
theorem dL_law_1371 : decode cL_law 1371 = .ok (.lshl, 1) := oc_121 (by decide +kernel)
theorem dL_law_1372 : decode cL_law 1372 = .ok (.aload_n 0, 1) := oc_42 (by decide +kernel)
theorem dL_law_1373 : decode cL_law 1373 = .ok (.iload_n 3, 1) := oc_29 (by decide +kernel)
theorem dL_law_1374 : decode cL_law 1374 = .ok (.iconst 2, 1) := oc_5 (by decide +kernel)
theorem dL_law_1375 : decode cL_law 1375 = .ok (.iadd, 1) := oc_96 (by decide +kernel)
theorem dL_law_1376 : decode cL_law 1376 = .ok (.iaload, 1) := oc_46 (by decide +kernel)
theorem dL_law_1377 : decode cL_law 1377 = .ok (.i2l, 1) := oc_133 (by decide +kernel)
theorem tw_6 : Cond.constantLong RL 144 (4294967295) ∈ wsL_law := sg_1 _ (List.mem_of_getElem? (i := 6) rfl)
theorem dL_law_1378 : decode cL_law 1378 = .ok (.ldc2_w 144, 3) := oc_20 (a := 0) (b := 144) (by decide +kernel)
theorem dL_law_1381 : decode cL_law 1381 = .ok (.land, 1) := oc_127 (by decide +kernel)
theorem dL_law_1382 : decode cL_law 1382 = .ok (.lor, 1) := oc_129 (by decide +kernel)
theorem tw_1330 : Cond.methodLink RL 146 yX11_council ∈ wsL_law := sg_56 _ (List.mem_of_getElem? (i := 10) rfl)
theorem tw_1331 : Cond.instanceMethod yX11_council ∈ wsL_law := sg_56 _ (List.mem_of_getElem? (i := 11) rfl)
theorem tw_1332 : Cond.selects RX11 yX11_council yX11_council ∈ wsL_law := sg_56 _ (List.mem_of_getElem? (i := 12) rfl)
theorem tw_1333 : Cond.code yX11_council cX11_council 3 (some .int) ∈ wsL_law := sg_56 _ (List.mem_of_getElem? (i := 13) rfl)
theorem dL_law_1383 : decode cL_law 1383 = .ok (.invokevirtual 146, 3) := oc_182 (a := 0) (b := 146) (by decide +kernel)
theorem dL_law_1386 : decode cL_law 1386 = .ok (.pop, 1) := oc_87 (by decide +kernel)
theorem dL_law_1387 : decode cL_law 1387 = .ok (.aload_n 2, 1) := oc_44 (by decide +kernel)
theorem dL_law_1388 : decode cL_law 1388 = .ok (.aload_n 0, 1) := oc_42 (by decide +kernel)
theorem dL_law_1389 : decode cL_law 1389 = .ok (.iload_n 3, 1) := oc_29 (by decide +kernel)
theorem dL_law_1390 : decode cL_law 1390 = .ok (.iconst 1, 1) := oc_4 (by decide +kernel)
theorem dL_law_1391 : decode cL_law 1391 = .ok (.iadd, 1) := oc_96 (by decide +kernel)
theorem dL_law_1392 : decode cL_law 1392 = .ok (.iaload, 1) := oc_46 (by decide +kernel)
theorem dL_law_1393 : decode cL_law 1393 = .ok (.i2l, 1) := oc_133 (by decide +kernel)
theorem dL_law_1394 : decode cL_law 1394 = .ok (.bipush 32, 2) := oc_16 (a := 32) (by decide +kernel)
theorem dL_law_1396 : decode cL_law 1396 = .ok (.lshl, 1) := oc_121 (by decide +kernel)
theorem dL_law_1397 : decode cL_law 1397 = .ok (.aload_n 0, 1) := oc_42 (by decide +kernel)
theorem dL_law_1398 : decode cL_law 1398 = .ok (.iload_n 3, 1) := oc_29 (by decide +kernel)
theorem dL_law_1399 : decode cL_law 1399 = .ok (.iconst 2, 1) := oc_5 (by decide +kernel)
theorem dL_law_1400 : decode cL_law 1400 = .ok (.iadd, 1) := oc_96 (by decide +kernel)
theorem dL_law_1401 : decode cL_law 1401 = .ok (.iaload, 1) := oc_46 (by decide +kernel)
theorem dL_law_1402 : decode cL_law 1402 = .ok (.i2l, 1) := oc_133 (by decide +kernel)
theorem dL_law_1403 : decode cL_law 1403 = .ok (.ldc2_w 144, 3) := oc_20 (a := 0) (b := 144) (by decide +kernel)
theorem dL_law_1406 : decode cL_law 1406 = .ok (.land, 1) := oc_127 (by decide +kernel)
theorem dL_law_1407 : decode cL_law 1407 = .ok (.lor, 1) := oc_129 (by decide +kernel)
theorem tw_1354 : Cond.methodLink RL 150 yX12_council ∈ wsL_law := sg_57 _ (List.mem_of_getElem? (i := 10) rfl)
theorem tw_1355 : Cond.instanceMethod yX12_council ∈ wsL_law := sg_57 _ (List.mem_of_getElem? (i := 11) rfl)
theorem tw_1356 : Cond.selects RX12 yX12_council yX12_council ∈ wsL_law := sg_57 _ (List.mem_of_getElem? (i := 12) rfl)
theorem tw_1357 : Cond.code yX12_council cX12_council 8 (some .int) ∈ wsL_law := sg_57 _ (List.mem_of_getElem? (i := 13) rfl)
theorem dL_law_1408 : decode cL_law 1408 = .ok (.invokevirtual 150, 3) := oc_182 (a := 0) (b := 150) (by decide +kernel)
theorem dL_law_1411 : decode cL_law 1411 = .ok (.pop, 1) := oc_87 (by decide +kernel)
theorem dL_law_1412 : decode cL_law 1412 = .ok (.goto 313, 3) := oc_167 (a := 1) (b := 57) (by decide +kernel)
set_option maxHeartbeats 8000000 in
set_option maxRecDepth 100000 in
theorem lw_op_21 {p : Program} {e : Env} {s : State} {m : MethodId} {below : List Frame} {meth : Method} {c : Code} {b : Nat} (l : Launch) (hx : p.tables.exec = Jvm.exec) (hb : c.code = cL_law) (hr : meth.sig.returnType = ret) (hml : c.maxLocals = 4) (hown : s.vm.findClass RL = some m.cls) (hlocks : meth.locks = false) (hts : ∀ w ∈ (Cond.initialized RX11 :: wsL_law), w.before #[Value.ref b] s = true) {L : Nat} (xs : Nat → Int32) (hX : va_X b L xs s s.heap) (hbl : b < s.heap.size) (hM : L ≤ 3584) {D : va_G} {t : pq_T} (hK : va_K D vwCl (pq_ty t) s) (hN : pq_N s) {aK aV : Nat} {vF : Value} (hW0 : pq_W aK aV vF (fun q => s.heap.size ≤ q) s s.heap) {this that : Nat} {n : Nat} {x3 : Int32} (h3 : x3.toInt = 7 * (n : Int)) (hL : 7 * n + 7 ≤ L) {H : Heap} {locs : List Loc} {cells slots : Nat} (hc2 : cells + 4 ≤ room_1.cells) (hs2 : slots + 345 ≤ room_1.slots) (hI : LI s D t this that H locs) {ls : Array Slot} (hl : lv_has ls 4 [(3, .int x3), (2, .ref that), (1, .ref this), (0, .ref b)]) {Q : State → Prop} (kk : ∀ (cells2 slots2 : Nat) (H : Heap) (locs : List Loc) (ls : Array Slot), cells2 ≤ cells + 4 → slots2 ≤ slots + 345 → LI s D t this that H locs → lv_has ls 4 [(3, .int x3), (2, .ref that), (1, .ref this), (0, .ref b)] → W p l e room_1 s m #[Value.ref b] below meth c H locs cells2 slots2 Q (F0 m 1725 ls [])) : W p l e room_1 s m #[Value.ref b] below meth c H locs cells slots Q (F0 m 1085 ls []) := by
  have hA : ∀ q : Nat, s.heap.size ≤ q → s.heap.size ≤ q := fun _ h => h
  obtain ⟨σ, I, J, ri, rj, rq, tg, τ, I2, J2, si, sj, sq, tg2, nw, kp, tr, rd, ⟨hP, hD, hSH, hG, hFI, hL_this, hK_this⟩, ⟨hP2, hD2, hSH2, hG2, hL_that, hK_that⟩, hdis, hTR, hAP, hRN, hRK, hGN, hGK, hDN, hDK, hRDo, hRD, hTN, hTK, hS⟩ := hI
  have hG00 := hG
  have hG20 := hG2
  have hR_rd := hRDo.1
  have hL_rd := hRDo.2.1
  have hK_rd := hRDo.2.2
  obtain ⟨⟨hR_nw, hL_nw, hK_nw⟩, ⟨hR_kp, hL_kp, hK_kp⟩, ⟨hR_tr, hL_tr, hK_tr⟩, -⟩ := id hTR
  refine lv_aload_n hx hb dL_law_1085 rfl (lv_at hl 2 rfl) ?_
  refine lv_aload_n hx hb dL_law_1086 rfl (lv_at hl 3 rfl) ?_
  refine lv_iload_n hx hb dL_law_1087 rfl (lv_at hl 0 rfl) ?_
  refine lv_iconst (v := 1) hx hb dL_law_1088 (by decide +kernel) ?_
  refine lv_iadd hx hb dL_law_1089 ?_
  refine va_sld hx hb hX hbl (Nat.not_le.mpr hbl) hS (lw_ix h3 hL hM (rg_w (rg_k (1 : Int32) 1 rfl) (by decide +kernel))) dL_law_1090 ?_
  refine lv_aload_n hx hb dL_law_1091 rfl (lv_at hl 3 rfl) ?_
  refine lv_iload_n hx hb dL_law_1092 rfl (lv_at hl 0 rfl) ?_
  refine lv_iconst (v := 2) hx hb dL_law_1093 (by decide +kernel) ?_
  refine lv_iadd hx hb dL_law_1094 ?_
  refine va_sld hx hb hX hbl (Nat.not_le.mpr hbl) hS (lw_ix h3 hL hM (rg_w (rg_k (2 : Int32) 2 rfl) (by decide +kernel))) dL_law_1095 ?_
  refine lv_aload_n hx hb dL_law_1096 rfl (lv_at hl 3 rfl) ?_
  refine lv_iload_n hx hb dL_law_1097 rfl (lv_at hl 0 rfl) ?_
  refine lv_iconst (v := 3) hx hb dL_law_1098 (by decide +kernel) ?_
  refine lv_iadd hx hb dL_law_1099 ?_
  refine va_sld hx hb hX hbl (Nat.not_le.mpr hbl) hS (lw_ix h3 hL hM (rg_w (rg_k (3 : Int32) 3 rfl) (by decide +kernel))) dL_law_1100 ?_
  refine lx_i (va_runV (As := [.int (xs (x3 + 1).toNatClampNeg), .int (xs (x3 + 2).toNatClampNeg), .int (xs (x3 + 3).toNatClampNeg)]) (rest := []) ⟨hx, hb, hml, hown, hts⟩ (s_X11_why l D t σ I J ri rj rq H.size tg hSH hG this (xs (x3 + 1).toNatClampNeg : Int32) (xs (x3 + 2).toNatClampNeg : Int32) (xs (x3 + 3).toNatClampNeg : Int32) hL_this hK_this nw hR_nw hL_nw hK_nw) (cwV 3 hts (tw_V tw_975 tw_976 tw_977 tw_2 tw_978) rfl rfl rfl cv_yX11_why_3 ⟨Nat.le_of_ble_eq_true rfl, Nat.le_of_ble_eq_true rfl⟩) ⟨pq_blind, pq_recv hK hP hL_this hK_this (by decide +kernel) rfl, pq_pre hK hN hP hD⟩ rfl rfl hl.1 rfl (lv_room (Nat.le_of_ble_eq_true rfl)) dL_law_1101 ⟨Nat.le_trans (Nat.le_add_right _ 4) hc2, Nat.le_trans (Nat.le_add_right _ 345) hs2⟩) hD hS hA hP2 hdis (fun r_1 σ1 μ1 H locs hw hP hD hP2 hdis hS => ?_)
  obtain ⟨ri_2, hu, hgx, hfx, hFx, hr1⟩ := hw
  obtain ⟨hua, hub⟩ := Prod.mk.inj hu
  rw [hua, hub] at hP hD
  rw [hua] at hdis
  have hG := hgx.1
  refine lv_pop hx hb dL_law_1104 rfl ?_
  refine lv_aload_n hx hb dL_law_1105 rfl (lv_at hl 1 rfl) ?_
  refine lv_aload_n hx hb dL_law_1106 rfl (lv_at hl 3 rfl) ?_
  refine lv_iload_n hx hb dL_law_1107 rfl (lv_at hl 0 rfl) ?_
  refine lv_iconst (v := 1) hx hb dL_law_1108 (by decide +kernel) ?_
  refine lv_iadd hx hb dL_law_1109 ?_
  refine va_sld hx hb hX hbl (Nat.not_le.mpr hbl) hS (lw_ix h3 hL hM (rg_w (rg_k (1 : Int32) 1 rfl) (by decide +kernel))) dL_law_1110 ?_
  refine lv_aload_n hx hb dL_law_1111 rfl (lv_at hl 3 rfl) ?_
  refine lv_iload_n hx hb dL_law_1112 rfl (lv_at hl 0 rfl) ?_
  refine lv_iconst (v := 2) hx hb dL_law_1113 (by decide +kernel) ?_
  refine lv_iadd hx hb dL_law_1114 ?_
  refine va_sld hx hb hX hbl (Nat.not_le.mpr hbl) hS (lw_ix h3 hL hM (rg_w (rg_k (2 : Int32) 2 rfl) (by decide +kernel))) dL_law_1115 ?_
  refine lv_aload_n hx hb dL_law_1116 rfl (lv_at hl 3 rfl) ?_
  refine lv_iload_n hx hb dL_law_1117 rfl (lv_at hl 0 rfl) ?_
  refine lv_iconst (v := 3) hx hb dL_law_1118 (by decide +kernel) ?_
  refine lv_iadd hx hb dL_law_1119 ?_
  refine va_sld hx hb hX hbl (Nat.not_le.mpr hbl) hS (lw_ix h3 hL hM (rg_w (rg_k (3 : Int32) 3 rfl) (by decide +kernel))) dL_law_1120 ?_
  refine lx_i (va_runV (As := [.int (xs (x3 + 1).toNatClampNeg), .int (xs (x3 + 2).toNatClampNeg), .int (xs (x3 + 3).toNatClampNeg)]) (rest := []) ⟨hx, hb, hml, hown, hts⟩ (s_X12_why l D t τ I2 J2 si sj sq H.size tg2 hSH2 hG2 that (xs (x3 + 1).toNatClampNeg : Int32) (xs (x3 + 2).toNatClampNeg : Int32) (xs (x3 + 3).toNatClampNeg : Int32) hL_that hK_that) (cwV 3 hts (tw_V tw_983 tw_984 tw_985 tw_5 tw_986) rfl rfl rfl cv_yX12_why_3 ⟨Nat.le_of_ble_eq_true rfl, Nat.le_of_ble_eq_true rfl⟩) ⟨pq_blind, pq_recv hK hP2 hL_that hK_that (by decide +kernel) rfl, pq_pre hK hN hP2 hD2⟩ rfl rfl hl.1 rfl (lv_room (Nat.le_of_ble_eq_true rfl)) dL_law_1121 ⟨Nat.le_trans (Nat.le_add_right _ 4) hc2, Nat.le_trans (Nat.le_add_right _ 345) hs2⟩) hD2 hS hA hP (fun a h1 h2 => hdis a h2 h1) (fun r_3 τ1 ν1 H locs hw hP2 hD2 hP hdis hS => ?_)
  obtain ⟨si_4, sj_5, hu, hgr, hfr, hFr, hr2⟩ := hw
  obtain ⟨hua, hub⟩ := Prod.mk.inj hu
  rw [hua, hub] at hP2 hD2
  rw [hua] at hdis
  have hG2 := hgr.1
  have hV2 := vt_12 hSH2 hL_that hK_that
  have hVn := vt_10 hSH hL_nw hK_nw
  have hVk := vt_10 hSH hL_kp hK_kp
  have hDN := (df_rf (df_cl hDN hgx hVn (by decide +kernel) (by decide +kernel)) hgr hV2 (by decide +kernel))
  have hDK := (df_im (df_cl hDK hgx hVk (by decide +kernel) (by decide +kernel)) hgr hV2 (by decide +kernel))
  have hVr := vt_4 hSH hRDo.2.1 hRDo.2.2
  have hRD := (rd_rf (rd_fr hRD hFx hAP.1.1 hVr) hgr hV2 (by decide +kernel))
  have hTN := (tc_rf (tc_cl hTN hgx (by decide +kernel)) hgr hV2 (by decide +kernel))
  have hTK := (tc_im (tc_cl hTK hgx (by decide +kernel)) hgr hV2 (by decide +kernel))
  have hRN := (rl_rf (rl_cl hRN hgx hVn (by decide +kernel) (by decide +kernel)) hgr hV2 (by decide +kernel))
  have hRK := (rl_im (rl_cl hRK hgx hVk (by decide +kernel) (by decide +kernel)) hgr hV2 (by decide +kernel))
  have hGN := (gr_rf (gr_cl hGN hgx hVn (by decide +kernel) (by decide +kernel) (by decide +kernel)) hgr hV2 (by decide +kernel))
  have hGK := (gr_im (gr_cl hGK hgx hVk (by decide +kernel) (by decide +kernel) (by decide +kernel)) hgr hV2 (by decide +kernel))
  have hdis : ∀ a, a ∈ τ.1 → a ∉ σ.1 := fun a h1 h2 => hdis a h2 h1
  refine lv_pop hx hb dL_law_1124 rfl ?_
  refine lv_goto (tgt := 1725) hx hb dL_law_1125 (by decide +kernel) ?_
  exact kk _ _ H locs ls (by omega) (by omega) ⟨σ, I, J, ri_2, rj, rq, tg, τ, I2, J2, si_4, sj_5, sq, tg2, nw, kp, tr, rd, ⟨hP, hD, hSH, hG, hFI, hL_this, hK_this⟩, ⟨hP2, hD2, hSH2, hG2, hL_that, hK_that⟩, hdis, hTR, hAP, hRN, hRK, hGN, hGK, hDN, hDK, hRDo, hRD, hTN, hTK, hS⟩ hl
set_option maxHeartbeats 8000000 in
set_option maxRecDepth 100000 in
theorem lw_op_22 {p : Program} {e : Env} {s : State} {m : MethodId} {below : List Frame} {meth : Method} {c : Code} {b : Nat} (l : Launch) (hx : p.tables.exec = Jvm.exec) (hb : c.code = cL_law) (hr : meth.sig.returnType = ret) (hml : c.maxLocals = 4) (hown : s.vm.findClass RL = some m.cls) (hlocks : meth.locks = false) (hts : ∀ w ∈ (Cond.initialized RX11 :: wsL_law), w.before #[Value.ref b] s = true) {L : Nat} (xs : Nat → Int32) (hX : va_X b L xs s s.heap) (hbl : b < s.heap.size) (hM : L ≤ 3584) {D : va_G} {t : pq_T} (hK : va_K D vwCl (pq_ty t) s) (hN : pq_N s) {aK aV : Nat} {vF : Value} (hW0 : pq_W aK aV vF (fun q => s.heap.size ≤ q) s s.heap) {this that : Nat} {n : Nat} {x3 : Int32} (h3 : x3.toInt = 7 * (n : Int)) (hL : 7 * n + 7 ≤ L) {H : Heap} {locs : List Loc} {cells slots : Nat} (hc2 : cells + 4 ≤ room_1.cells) (hs2 : slots + 345 ≤ room_1.slots) (hI : LI s D t this that H locs) {ls : Array Slot} (hl : lv_has ls 4 [(3, .int x3), (2, .ref that), (1, .ref this), (0, .ref b)]) {Q : State → Prop} (kk : ∀ (cells2 slots2 : Nat) (H : Heap) (locs : List Loc) (ls : Array Slot), cells2 ≤ cells + 4 → slots2 ≤ slots + 345 → LI s D t this that H locs → lv_has ls 4 [(3, .int x3), (2, .ref that), (1, .ref this), (0, .ref b)] → W p l e room_1 s m #[Value.ref b] below meth c H locs cells2 slots2 Q (F0 m 1725 ls [])) : W p l e room_1 s m #[Value.ref b] below meth c H locs cells slots Q (F0 m 1128 ls []) := by
  have hA : ∀ q : Nat, s.heap.size ≤ q → s.heap.size ≤ q := fun _ h => h
  obtain ⟨σ, I, J, ri, rj, rq, tg, τ, I2, J2, si, sj, sq, tg2, nw, kp, tr, rd, ⟨hP, hD, hSH, hG, hFI, hL_this, hK_this⟩, ⟨hP2, hD2, hSH2, hG2, hL_that, hK_that⟩, hdis, hTR, hAP, hRN, hRK, hGN, hGK, hDN, hDK, hRDo, hRD, hTN, hTK, hS⟩ := hI
  have hG00 := hG
  have hG20 := hG2
  have hR_rd := hRDo.1
  have hL_rd := hRDo.2.1
  have hK_rd := hRDo.2.2
  obtain ⟨⟨hR_nw, hL_nw, hK_nw⟩, ⟨hR_kp, hL_kp, hK_kp⟩, ⟨hR_tr, hL_tr, hK_tr⟩, -⟩ := id hTR
  refine lv_aload_n hx hb dL_law_1128 rfl (lv_at hl 2 rfl) ?_
  refine lv_aload_n hx hb dL_law_1129 rfl (lv_at hl 3 rfl) ?_
  refine lv_iload_n hx hb dL_law_1130 rfl (lv_at hl 0 rfl) ?_
  refine lv_iconst (v := 1) hx hb dL_law_1131 (by decide +kernel) ?_
  refine lv_iadd hx hb dL_law_1132 ?_
  refine va_sld hx hb hX hbl (Nat.not_le.mpr hbl) hS (lw_ix h3 hL hM (rg_w (rg_k (1 : Int32) 1 rfl) (by decide +kernel))) dL_law_1133 ?_
  refine lv_aload_n hx hb dL_law_1134 rfl (lv_at hl 3 rfl) ?_
  refine lv_iload_n hx hb dL_law_1135 rfl (lv_at hl 0 rfl) ?_
  refine lv_iconst (v := 2) hx hb dL_law_1136 (by decide +kernel) ?_
  refine lv_iadd hx hb dL_law_1137 ?_
  refine va_sld hx hb hX hbl (Nat.not_le.mpr hbl) hS (lw_ix h3 hL hM (rg_w (rg_k (2 : Int32) 2 rfl) (by decide +kernel))) dL_law_1138 ?_
  refine lx_i (va_runV (As := [.int (xs (x3 + 1).toNatClampNeg), .int (xs (x3 + 2).toNatClampNeg)]) (rest := []) ⟨hx, hb, hml, hown, hts⟩ (s_X11_says l D t σ I J ri rj rq H.size tg hSH hG this (xs (x3 + 1).toNatClampNeg : Int32) (xs (x3 + 2).toNatClampNeg : Int32) hL_this hK_this nw hR_nw hL_nw hK_nw) (cwV 2 hts (tw_V tw_987 tw_988 tw_989 tw_2 tw_990) rfl rfl rfl cv_yX11_says_2 ⟨Nat.le_of_ble_eq_true rfl, Nat.le_of_ble_eq_true rfl⟩) ⟨pq_blind, pq_recv hK hP hL_this hK_this (by decide +kernel) rfl, pq_pre hK hN hP hD⟩ rfl rfl hl.1 rfl (lv_room (Nat.le_of_ble_eq_true rfl)) dL_law_1139 ⟨Nat.le_trans (Nat.le_add_right _ 4) hc2, Nat.le_trans (Nat.le_add_right _ 345) hs2⟩) hD hS hA hP2 hdis (fun r_1 σ1 μ1 H locs hw hP hD hP2 hdis hS => ?_)
  obtain ⟨hu, hfx⟩ := hw
  obtain ⟨hua, hub⟩ := Prod.mk.inj hu
  rw [hua, hub] at hP hD
  rw [hua] at hdis
  refine lv_pop hx hb dL_law_1142 rfl ?_
  refine lv_aload_n hx hb dL_law_1143 rfl (lv_at hl 1 rfl) ?_
  refine lv_aload_n hx hb dL_law_1144 rfl (lv_at hl 3 rfl) ?_
  refine lv_iload_n hx hb dL_law_1145 rfl (lv_at hl 0 rfl) ?_
  refine lv_iconst (v := 1) hx hb dL_law_1146 (by decide +kernel) ?_
  refine lv_iadd hx hb dL_law_1147 ?_
  refine va_sld hx hb hX hbl (Nat.not_le.mpr hbl) hS (lw_ix h3 hL hM (rg_w (rg_k (1 : Int32) 1 rfl) (by decide +kernel))) dL_law_1148 ?_
  refine lv_aload_n hx hb dL_law_1149 rfl (lv_at hl 3 rfl) ?_
  refine lv_iload_n hx hb dL_law_1150 rfl (lv_at hl 0 rfl) ?_
  refine lv_iconst (v := 2) hx hb dL_law_1151 (by decide +kernel) ?_
  refine lv_iadd hx hb dL_law_1152 ?_
  refine va_sld hx hb hX hbl (Nat.not_le.mpr hbl) hS (lw_ix h3 hL hM (rg_w (rg_k (2 : Int32) 2 rfl) (by decide +kernel))) dL_law_1153 ?_
  refine lx_i (va_runV (As := [.int (xs (x3 + 1).toNatClampNeg), .int (xs (x3 + 2).toNatClampNeg)]) (rest := []) ⟨hx, hb, hml, hown, hts⟩ (s_X12_says l D t τ I2 J2 si sj sq H.size tg2 hSH2 hG2 that (xs (x3 + 1).toNatClampNeg : Int32) (xs (x3 + 2).toNatClampNeg : Int32) hL_that hK_that) (cwV 2 hts (tw_V tw_1012 tw_1013 tw_1014 tw_5 tw_1015) rfl rfl rfl cv_yX12_says_2 ⟨Nat.le_of_ble_eq_true rfl, Nat.le_of_ble_eq_true rfl⟩) ⟨pq_blind, pq_recv hK hP2 hL_that hK_that (by decide +kernel) rfl, pq_pre hK hN hP2 hD2⟩ rfl rfl hl.1 rfl (lv_room (Nat.le_of_ble_eq_true rfl)) dL_law_1154 ⟨Nat.le_trans (Nat.le_add_right _ 4) hc2, Nat.le_trans (Nat.le_add_right _ 345) hs2⟩) hD2 hS hA hP (fun a h1 h2 => hdis a h2 h1) (fun r_2 τ1 ν1 H locs hw hP2 hD2 hP hdis hS => ?_)
  obtain ⟨hu, hfr⟩ := hw
  obtain ⟨hua, hub⟩ := Prod.mk.inj hu
  rw [hua, hub] at hP2 hD2
  rw [hua] at hdis
  have hV2 := vt_12 hSH2 hL_that hK_that
  have hDN := hDN
  have hDK := hDK
  have hVr := vt_4 hSH hRDo.2.1 hRDo.2.2
  have hRD := hRD
  have hTN := hTN
  have hTK := hTK
  have hRN := hRN
  have hRK := hRK
  have hGN := hGN
  have hGK := hGK
  have hdis : ∀ a, a ∈ τ.1 → a ∉ σ.1 := fun a h1 h2 => hdis a h2 h1
  refine lv_pop hx hb dL_law_1157 rfl ?_
  refine lv_goto (tgt := 1725) hx hb dL_law_1158 (by decide +kernel) ?_
  exact kk _ _ H locs ls (by omega) (by omega) ⟨σ, I, J, ri, rj, rq, tg, τ, I2, J2, si, sj, sq, tg2, nw, kp, tr, rd, ⟨hP, hD, hSH, hG, hFI, hL_this, hK_this⟩, ⟨hP2, hD2, hSH2, hG2, hL_that, hK_that⟩, hdis, hTR, hAP, hRN, hRK, hGN, hGK, hDN, hDK, hRDo, hRD, hTN, hTK, hS⟩ hl
set_option maxHeartbeats 8000000 in
set_option maxRecDepth 100000 in
theorem lw_op_23 {p : Program} {e : Env} {s : State} {m : MethodId} {below : List Frame} {meth : Method} {c : Code} {b : Nat} (l : Launch) (hx : p.tables.exec = Jvm.exec) (hb : c.code = cL_law) (hr : meth.sig.returnType = ret) (hml : c.maxLocals = 4) (hown : s.vm.findClass RL = some m.cls) (hlocks : meth.locks = false) (hts : ∀ w ∈ (Cond.initialized RX11 :: wsL_law), w.before #[Value.ref b] s = true) {L : Nat} (xs : Nat → Int32) (hX : va_X b L xs s s.heap) (hbl : b < s.heap.size) (hM : L ≤ 3584) {D : va_G} {t : pq_T} (hK : va_K D vwCl (pq_ty t) s) (hN : pq_N s) {aK aV : Nat} {vF : Value} (hW0 : pq_W aK aV vF (fun q => s.heap.size ≤ q) s s.heap) {this that : Nat} {n : Nat} {x3 : Int32} (h3 : x3.toInt = 7 * (n : Int)) (hL : 7 * n + 7 ≤ L) {H : Heap} {locs : List Loc} {cells slots : Nat} (hc2 : cells + 4 ≤ room_1.cells) (hs2 : slots + 345 ≤ room_1.slots) (hI : LI s D t this that H locs) {ls : Array Slot} (hl : lv_has ls 4 [(3, .int x3), (2, .ref that), (1, .ref this), (0, .ref b)]) {Q : State → Prop} (kk : ∀ (cells2 slots2 : Nat) (H : Heap) (locs : List Loc) (ls : Array Slot), cells2 ≤ cells + 4 → slots2 ≤ slots + 345 → LI s D t this that H locs → lv_has ls 4 [(3, .int x3), (2, .ref that), (1, .ref this), (0, .ref b)] → W p l e room_1 s m #[Value.ref b] below meth c H locs cells2 slots2 Q (F0 m 1725 ls [])) : W p l e room_1 s m #[Value.ref b] below meth c H locs cells slots Q (F0 m 1161 ls []) := by
  have hA : ∀ q : Nat, s.heap.size ≤ q → s.heap.size ≤ q := fun _ h => h
  obtain ⟨σ, I, J, ri, rj, rq, tg, τ, I2, J2, si, sj, sq, tg2, nw, kp, tr, rd, ⟨hP, hD, hSH, hG, hFI, hL_this, hK_this⟩, ⟨hP2, hD2, hSH2, hG2, hL_that, hK_that⟩, hdis, hTR, hAP, hRN, hRK, hGN, hGK, hDN, hDK, hRDo, hRD, hTN, hTK, hS⟩ := hI
  have hG00 := hG
  have hG20 := hG2
  have hR_rd := hRDo.1
  have hL_rd := hRDo.2.1
  have hK_rd := hRDo.2.2
  obtain ⟨⟨hR_nw, hL_nw, hK_nw⟩, ⟨hR_kp, hL_kp, hK_kp⟩, ⟨hR_tr, hL_tr, hK_tr⟩, -⟩ := id hTR
  refine lv_aload_n hx hb dL_law_1161 rfl (lv_at hl 2 rfl) ?_
  refine lv_aload_n hx hb dL_law_1162 rfl (lv_at hl 3 rfl) ?_
  refine lv_iload_n hx hb dL_law_1163 rfl (lv_at hl 0 rfl) ?_
  refine lv_iconst (v := 1) hx hb dL_law_1164 (by decide +kernel) ?_
  refine lv_iadd hx hb dL_law_1165 ?_
  refine va_sld hx hb hX hbl (Nat.not_le.mpr hbl) hS (lw_ix h3 hL hM (rg_w (rg_k (1 : Int32) 1 rfl) (by decide +kernel))) dL_law_1166 ?_
  refine lv_aload_n hx hb dL_law_1167 rfl (lv_at hl 3 rfl) ?_
  refine lv_iload_n hx hb dL_law_1168 rfl (lv_at hl 0 rfl) ?_
  refine lv_iconst (v := 2) hx hb dL_law_1169 (by decide +kernel) ?_
  refine lv_iadd hx hb dL_law_1170 ?_
  refine va_sld hx hb hX hbl (Nat.not_le.mpr hbl) hS (lw_ix h3 hL hM (rg_w (rg_k (2 : Int32) 2 rfl) (by decide +kernel))) dL_law_1171 ?_
  refine lx_i (va_runV (As := [.int (xs (x3 + 1).toNatClampNeg), .int (xs (x3 + 2).toNatClampNeg)]) (rest := []) ⟨hx, hb, hml, hown, hts⟩ (s_X11_sail l D t σ I J ri rj rq H.size tg hSH hG this (xs (x3 + 1).toNatClampNeg : Int32) (xs (x3 + 2).toNatClampNeg : Int32) hL_this hK_this nw hR_nw hL_nw hK_nw) (cwV 2 hts (tw_V tw_1020 tw_1021 tw_1022 tw_2 tw_1023) rfl rfl rfl cv_yX11_sail_2 ⟨Nat.le_of_ble_eq_true rfl, Nat.le_of_ble_eq_true rfl⟩) ⟨pq_blind, pq_recv hK hP hL_this hK_this (by decide +kernel) rfl, pq_pre hK hN hP hD⟩ rfl rfl hl.1 rfl (lv_room (Nat.le_of_ble_eq_true rfl)) dL_law_1172 ⟨Nat.le_trans (Nat.le_add_right _ 4) hc2, Nat.le_trans (Nat.le_add_right _ 345) hs2⟩) hD hS hA hP2 hdis (fun r_1 σ1 μ1 H locs hw hP hD hP2 hdis hS => ?_)
  obtain ⟨I_2, hu, hgx, hfx, hFx, hr1⟩ := hw
  obtain ⟨hua, hub⟩ := Prod.mk.inj hu
  rw [hua, hub] at hP hD
  rw [hua] at hdis
  have hG := hgx.1
  refine lv_pop hx hb dL_law_1175 rfl ?_
  refine lv_aload_n hx hb dL_law_1176 rfl (lv_at hl 1 rfl) ?_
  refine lv_aload_n hx hb dL_law_1177 rfl (lv_at hl 3 rfl) ?_
  refine lv_iload_n hx hb dL_law_1178 rfl (lv_at hl 0 rfl) ?_
  refine lv_iconst (v := 1) hx hb dL_law_1179 (by decide +kernel) ?_
  refine lv_iadd hx hb dL_law_1180 ?_
  refine va_sld hx hb hX hbl (Nat.not_le.mpr hbl) hS (lw_ix h3 hL hM (rg_w (rg_k (1 : Int32) 1 rfl) (by decide +kernel))) dL_law_1181 ?_
  refine lv_aload_n hx hb dL_law_1182 rfl (lv_at hl 3 rfl) ?_
  refine lv_iload_n hx hb dL_law_1183 rfl (lv_at hl 0 rfl) ?_
  refine lv_iconst (v := 2) hx hb dL_law_1184 (by decide +kernel) ?_
  refine lv_iadd hx hb dL_law_1185 ?_
  refine va_sld hx hb hX hbl (Nat.not_le.mpr hbl) hS (lw_ix h3 hL hM (rg_w (rg_k (2 : Int32) 2 rfl) (by decide +kernel))) dL_law_1186 ?_
  refine lx_i (va_runV (As := [.int (xs (x3 + 1).toNatClampNeg), .int (xs (x3 + 2).toNatClampNeg)]) (rest := []) ⟨hx, hb, hml, hown, hts⟩ (s_X12_sail l D t τ I2 J2 si sj sq H.size tg2 hSH2 hG2 that (xs (x3 + 1).toNatClampNeg : Int32) (xs (x3 + 2).toNatClampNeg : Int32) hL_that hK_that) (cwV 2 hts (tw_V tw_1027 tw_1028 tw_1029 tw_5 tw_1030) rfl rfl rfl cv_yX12_sail_2 ⟨Nat.le_of_ble_eq_true rfl, Nat.le_of_ble_eq_true rfl⟩) ⟨pq_blind, pq_recv hK hP2 hL_that hK_that (by decide +kernel) rfl, pq_pre hK hN hP2 hD2⟩ rfl rfl hl.1 rfl (lv_room (Nat.le_of_ble_eq_true rfl)) dL_law_1187 ⟨Nat.le_trans (Nat.le_add_right _ 4) hc2, Nat.le_trans (Nat.le_add_right _ 345) hs2⟩) hD2 hS hA hP (fun a h1 h2 => hdis a h2 h1) (fun r_3 τ1 ν1 H locs hw hP2 hD2 hP hdis hS => ?_)
  obtain ⟨si_4, hu, hgr, hfr, hFr, hr2⟩ := hw
  obtain ⟨hua, hub⟩ := Prod.mk.inj hu
  rw [hua, hub] at hP2 hD2
  rw [hua] at hdis
  have hG2 := hgr.1
  have hV2 := vt_12 hSH2 hL_that hK_that
  have hVn := vt_10 hSH hL_nw hK_nw
  have hVk := vt_10 hSH hL_kp hK_kp
  have hDN := (df_rf (df_cl hDN hgx hVn (by decide +kernel) (by decide +kernel)) hgr hV2 (by decide +kernel))
  have hDK := (df_im (df_cl hDK hgx hVk (by decide +kernel) (by decide +kernel)) hgr hV2 (by decide +kernel))
  have hVr := vt_4 hSH hRDo.2.1 hRDo.2.2
  have hRD := (rd_rf (rd_fr hRD hFx hAP.1.1 hVr) hgr hV2 (by decide +kernel))
  have hTN := (tc_rf (tc_cl hTN hgx (by decide +kernel)) hgr hV2 (by decide +kernel))
  have hTK := (tc_im (tc_cl hTK hgx (by decide +kernel)) hgr hV2 (by decide +kernel))
  have hRN := (rl_rf (rl_cl hRN hgx hVn (by decide +kernel) (by decide +kernel)) hgr hV2 (by decide +kernel))
  have hRK := (rl_im (rl_cl hRK hgx hVk (by decide +kernel) (by decide +kernel)) hgr hV2 (by decide +kernel))
  have hGN := (gr_rf (gr_cl hGN hgx hVn (by decide +kernel) (by decide +kernel) (by decide +kernel)) hgr hV2 (by decide +kernel))
  have hGK := (gr_im (gr_cl hGK hgx hVk (by decide +kernel) (by decide +kernel) (by decide +kernel)) hgr hV2 (by decide +kernel))
  have hdis : ∀ a, a ∈ τ.1 → a ∉ σ.1 := fun a h1 h2 => hdis a h2 h1
  refine lv_pop hx hb dL_law_1190 rfl ?_
  refine lv_goto (tgt := 1725) hx hb dL_law_1191 (by decide +kernel) ?_
  exact kk _ _ H locs ls (by omega) (by omega) ⟨σ, I_2, J, ri, rj, rq, tg, τ, I2, J2, si_4, sj, sq, tg2, nw, kp, tr, rd, ⟨hP, hD, hSH, hG, hFI, hL_this, hK_this⟩, ⟨hP2, hD2, hSH2, hG2, hL_that, hK_that⟩, hdis, hTR, hAP, hRN, hRK, hGN, hGK, hDN, hDK, hRDo, hRD, hTN, hTK, hS⟩ hl
set_option maxHeartbeats 8000000 in
set_option maxRecDepth 100000 in
theorem lw_op_24 {p : Program} {e : Env} {s : State} {m : MethodId} {below : List Frame} {meth : Method} {c : Code} {b : Nat} (l : Launch) (hx : p.tables.exec = Jvm.exec) (hb : c.code = cL_law) (hr : meth.sig.returnType = ret) (hml : c.maxLocals = 4) (hown : s.vm.findClass RL = some m.cls) (hlocks : meth.locks = false) (hts : ∀ w ∈ (Cond.initialized RX11 :: wsL_law), w.before #[Value.ref b] s = true) {L : Nat} (xs : Nat → Int32) (hX : va_X b L xs s s.heap) (hbl : b < s.heap.size) (hM : L ≤ 3584) {D : va_G} {t : pq_T} (hK : va_K D vwCl (pq_ty t) s) (hN : pq_N s) {aK aV : Nat} {vF : Value} (hW0 : pq_W aK aV vF (fun q => s.heap.size ≤ q) s s.heap) {this that : Nat} {n : Nat} {x3 : Int32} (h3 : x3.toInt = 7 * (n : Int)) (hL : 7 * n + 7 ≤ L) {H : Heap} {locs : List Loc} {cells slots : Nat} (hc2 : cells + 4 ≤ room_1.cells) (hs2 : slots + 345 ≤ room_1.slots) (hI : LI s D t this that H locs) {ls : Array Slot} (hl : lv_has ls 4 [(3, .int x3), (2, .ref that), (1, .ref this), (0, .ref b)]) {Q : State → Prop} (kk : ∀ (cells2 slots2 : Nat) (H : Heap) (locs : List Loc) (ls : Array Slot), cells2 ≤ cells + 4 → slots2 ≤ slots + 345 → LI s D t this that H locs → lv_has ls 4 [(3, .int x3), (2, .ref that), (1, .ref this), (0, .ref b)] → W p l e room_1 s m #[Value.ref b] below meth c H locs cells2 slots2 Q (F0 m 1725 ls [])) : W p l e room_1 s m #[Value.ref b] below meth c H locs cells slots Q (F0 m 1194 ls []) := by
  have hA : ∀ q : Nat, s.heap.size ≤ q → s.heap.size ≤ q := fun _ h => h
  obtain ⟨σ, I, J, ri, rj, rq, tg, τ, I2, J2, si, sj, sq, tg2, nw, kp, tr, rd, ⟨hP, hD, hSH, hG, hFI, hL_this, hK_this⟩, ⟨hP2, hD2, hSH2, hG2, hL_that, hK_that⟩, hdis, hTR, hAP, hRN, hRK, hGN, hGK, hDN, hDK, hRDo, hRD, hTN, hTK, hS⟩ := hI
  have hG00 := hG
  have hG20 := hG2
  have hR_rd := hRDo.1
  have hL_rd := hRDo.2.1
  have hK_rd := hRDo.2.2
  obtain ⟨⟨hR_nw, hL_nw, hK_nw⟩, ⟨hR_kp, hL_kp, hK_kp⟩, ⟨hR_tr, hL_tr, hK_tr⟩, -⟩ := id hTR
  refine lv_aload_n hx hb dL_law_1194 rfl (lv_at hl 2 rfl) ?_
  refine lv_aload_n hx hb dL_law_1195 rfl (lv_at hl 3 rfl) ?_
  refine lv_iload_n hx hb dL_law_1196 rfl (lv_at hl 0 rfl) ?_
  refine lv_iconst (v := 1) hx hb dL_law_1197 (by decide +kernel) ?_
  refine lv_iadd hx hb dL_law_1198 ?_
  refine va_sld hx hb hX hbl (Nat.not_le.mpr hbl) hS (lw_ix h3 hL hM (rg_w (rg_k (1 : Int32) 1 rfl) (by decide +kernel))) dL_law_1199 ?_
  refine lv_aload_n hx hb dL_law_1200 rfl (lv_at hl 3 rfl) ?_
  refine lv_iload_n hx hb dL_law_1201 rfl (lv_at hl 0 rfl) ?_
  refine lv_iconst (v := 2) hx hb dL_law_1202 (by decide +kernel) ?_
  refine lv_iadd hx hb dL_law_1203 ?_
  refine va_sld hx hb hX hbl (Nat.not_le.mpr hbl) hS (lw_ix h3 hL hM (rg_w (rg_k (2 : Int32) 2 rfl) (by decide +kernel))) dL_law_1204 ?_
  refine lx_i (va_runV (As := [.int (xs (x3 + 1).toNatClampNeg), .int (xs (x3 + 2).toNatClampNeg)]) (rest := []) ⟨hx, hb, hml, hown, hts⟩ (s_X11_months l D t σ I J ri rj rq H.size tg hSH hG this (xs (x3 + 1).toNatClampNeg : Int32) (xs (x3 + 2).toNatClampNeg : Int32) hL_this hK_this nw hR_nw hL_nw hK_nw) (cwV 2 hts (tw_V tw_1031 tw_1032 tw_1033 tw_2 tw_1034) rfl rfl rfl cv_yX11_months_2 ⟨Nat.le_of_ble_eq_true rfl, Nat.le_of_ble_eq_true rfl⟩) ⟨pq_blind, pq_recv hK hP hL_this hK_this (by decide +kernel) rfl, pq_pre hK hN hP hD⟩ rfl rfl hl.1 rfl (lv_room (Nat.le_of_ble_eq_true rfl)) dL_law_1205 ⟨Nat.le_trans (Nat.le_add_right _ 4) hc2, Nat.le_trans (Nat.le_add_right _ 345) hs2⟩) hD hS hA hP2 hdis (fun r_1 σ1 μ1 H locs hw hP hD hP2 hdis hS => ?_)
  obtain ⟨I_2, J_3, ri_4, rj_5, hu, hgx, hfx, hFx, hr1⟩ := hw
  obtain ⟨hua, hub⟩ := Prod.mk.inj hu
  rw [hua, hub] at hP hD
  rw [hua] at hdis
  have hG := hgx.1
  refine lv_pop hx hb dL_law_1208 rfl ?_
  refine lv_aload_n hx hb dL_law_1209 rfl (lv_at hl 1 rfl) ?_
  refine lv_aload_n hx hb dL_law_1210 rfl (lv_at hl 3 rfl) ?_
  refine lv_iload_n hx hb dL_law_1211 rfl (lv_at hl 0 rfl) ?_
  refine lv_iconst (v := 1) hx hb dL_law_1212 (by decide +kernel) ?_
  refine lv_iadd hx hb dL_law_1213 ?_
  refine va_sld hx hb hX hbl (Nat.not_le.mpr hbl) hS (lw_ix h3 hL hM (rg_w (rg_k (1 : Int32) 1 rfl) (by decide +kernel))) dL_law_1214 ?_
  refine lv_aload_n hx hb dL_law_1215 rfl (lv_at hl 3 rfl) ?_
  refine lv_iload_n hx hb dL_law_1216 rfl (lv_at hl 0 rfl) ?_
  refine lv_iconst (v := 2) hx hb dL_law_1217 (by decide +kernel) ?_
  refine lv_iadd hx hb dL_law_1218 ?_
  refine va_sld hx hb hX hbl (Nat.not_le.mpr hbl) hS (lw_ix h3 hL hM (rg_w (rg_k (2 : Int32) 2 rfl) (by decide +kernel))) dL_law_1219 ?_
  obtain ⟨o_6, hR_o_6, hL_o_6, hK_o_6, hN_o_6, hT_o_6⟩ := sh_a hSH2 384 (ci := 12) (kd := 13) (len := 12720) rfl (by decide +kernel) hL_that hK_that
  obtain ⟨o_7, hR_o_7, hL_o_7, hK_o_7, hN_o_7, hT_o_7⟩ := sh_a hSH2 386 (ci := 12) (kd := 13) (len := 12720) rfl (by decide +kernel) hL_that hK_that
  refine lx_i (va_runV (As := [.int (xs (x3 + 1).toNatClampNeg), .int (xs (x3 + 2).toNatClampNeg)]) (rest := []) ⟨hx, hb, hml, hown, hts⟩ (s_X12_months l D t τ I2 J2 si sj sq H.size tg2 hSH2 hG2 that (xs (x3 + 1).toNatClampNeg : Int32) (xs (x3 + 2).toNatClampNeg : Int32) hL_that hK_that o_6 hR_o_6 hL_o_6 hK_o_6 hN_o_6 hT_o_6 o_7 hR_o_7 hL_o_7 hK_o_7 hN_o_7 hT_o_7) (cwV 2 hts (tw_V tw_1185 tw_1186 tw_1187 tw_5 tw_1188) rfl rfl rfl cv_yX12_months_2 ⟨Nat.le_of_ble_eq_true rfl, Nat.le_of_ble_eq_true rfl⟩) ⟨pq_blind, pq_recv hK hP2 hL_that hK_that (by decide +kernel) rfl, pq_pre hK hN hP2 hD2⟩ rfl rfl hl.1 rfl (lv_room (Nat.le_of_ble_eq_true rfl)) dL_law_1220 ⟨Nat.le_trans (Nat.le_add_right _ 4) hc2, Nat.le_trans (Nat.le_add_right _ 345) hs2⟩) hD2 hS hA hP (fun a h1 h2 => hdis a h2 h1) (fun r_8 τ1 ν1 H locs hw hP2 hD2 hP hdis hS => ?_)
  obtain ⟨I2_9, si_10, sj_11, hu, hgr, hfr, hFr, hr2⟩ := hw
  obtain ⟨hua, hub⟩ := Prod.mk.inj hu
  rw [hua, hub] at hP2 hD2
  rw [hua] at hdis
  have hG2 := hgr.1
  have hV2 := vt_12 hSH2 hL_that hK_that
  have hVn := vt_10 hSH hL_nw hK_nw
  have hVk := vt_10 hSH hL_kp hK_kp
  have hDN := dv_st (months_D hRN hDN (d10_of hG00).2 (d15_of hG00 hVn)) hfx hfr
  have hDK := (df_im (df_fr hDK hFx hAP.1) hgr hV2 (by decide +kernel))
  have hVr := vt_4 hSH hRDo.2.1 hRDo.2.2
  have hRD := (rd_rf (rd_fr hRD hFx hAP.1.1 hVr) hgr hV2 (by decide +kernel))
  have hTN := (tc_rf (tc_cl hTN hgx (by decide +kernel)) hgr hV2 (by decide +kernel))
  have hTK := (tc_im (tc_cl hTK hgx (by decide +kernel)) hgr hV2 (by decide +kernel))
  have hcv := cv_st (months_CV hRN) hfx hfr
  have hRN := hcv.2
  have hRK := (rl_im (rl_fr hRK hFx hAP.1) hgr hV2 (by decide +kernel))
  have hGN := (gr_rf (gr_cl hGN hgx hVn (by decide +kernel) (by decide +kernel) (by decide +kernel)) hgr hV2 (by decide +kernel))
  have hGK := (gr_im (gr_fr hGK hFx hAP.1) hgr hV2 (by decide +kernel))
  have hdis : ∀ a, a ∈ τ.1 → a ∉ σ.1 := fun a h1 h2 => hdis a h2 h1
  refine lv_pop hx hb dL_law_1223 rfl ?_
  refine lv_goto (tgt := 1725) hx hb dL_law_1224 (by decide +kernel) ?_
  exact kk _ _ H locs ls (by omega) (by omega) ⟨σ, I_2, J_3, ri_4, rj_5, rq, tg, τ, I2_9, J2, si_10, sj_11, sq, tg2, nw, kp, tr, rd, ⟨hP, hD, hSH, hG, hFI, hL_this, hK_this⟩, ⟨hP2, hD2, hSH2, hG2, hL_that, hK_that⟩, hdis, hTR, hAP, hRN, hRK, hGN, hGK, hDN, hDK, hRDo, hRD, hTN, hTK, hS⟩ hl
set_option maxHeartbeats 8000000 in
set_option maxRecDepth 100000 in
theorem lw_op_25 {p : Program} {e : Env} {s : State} {m : MethodId} {below : List Frame} {meth : Method} {c : Code} {b : Nat} (l : Launch) (hx : p.tables.exec = Jvm.exec) (hb : c.code = cL_law) (hr : meth.sig.returnType = ret) (hml : c.maxLocals = 4) (hown : s.vm.findClass RL = some m.cls) (hlocks : meth.locks = false) (hts : ∀ w ∈ (Cond.initialized RX11 :: wsL_law), w.before #[Value.ref b] s = true) {L : Nat} (xs : Nat → Int32) (hX : va_X b L xs s s.heap) (hbl : b < s.heap.size) (hM : L ≤ 3584) {D : va_G} {t : pq_T} (hK : va_K D vwCl (pq_ty t) s) (hN : pq_N s) {aK aV : Nat} {vF : Value} (hW0 : pq_W aK aV vF (fun q => s.heap.size ≤ q) s s.heap) {this that : Nat} {n : Nat} {x3 : Int32} (h3 : x3.toInt = 7 * (n : Int)) (hL : 7 * n + 7 ≤ L) {H : Heap} {locs : List Loc} {cells slots : Nat} (hc2 : cells + 4 ≤ room_1.cells) (hs2 : slots + 345 ≤ room_1.slots) (hI : LI s D t this that H locs) {ls : Array Slot} (hl : lv_has ls 4 [(3, .int x3), (2, .ref that), (1, .ref this), (0, .ref b)]) {Q : State → Prop} (kk : ∀ (cells2 slots2 : Nat) (H : Heap) (locs : List Loc) (ls : Array Slot), cells2 ≤ cells + 4 → slots2 ≤ slots + 345 → LI s D t this that H locs → lv_has ls 4 [(3, .int x3), (2, .ref that), (1, .ref this), (0, .ref b)] → W p l e room_1 s m #[Value.ref b] below meth c H locs cells2 slots2 Q (F0 m 1725 ls [])) : W p l e room_1 s m #[Value.ref b] below meth c H locs cells slots Q (F0 m 1227 ls []) := by
  have hA : ∀ q : Nat, s.heap.size ≤ q → s.heap.size ≤ q := fun _ h => h
  obtain ⟨σ, I, J, ri, rj, rq, tg, τ, I2, J2, si, sj, sq, tg2, nw, kp, tr, rd, ⟨hP, hD, hSH, hG, hFI, hL_this, hK_this⟩, ⟨hP2, hD2, hSH2, hG2, hL_that, hK_that⟩, hdis, hTR, hAP, hRN, hRK, hGN, hGK, hDN, hDK, hRDo, hRD, hTN, hTK, hS⟩ := hI
  have hG00 := hG
  have hG20 := hG2
  have hR_rd := hRDo.1
  have hL_rd := hRDo.2.1
  have hK_rd := hRDo.2.2
  obtain ⟨⟨hR_nw, hL_nw, hK_nw⟩, ⟨hR_kp, hL_kp, hK_kp⟩, ⟨hR_tr, hL_tr, hK_tr⟩, -⟩ := id hTR
  refine lv_aload_n hx hb dL_law_1227 rfl (lv_at hl 2 rfl) ?_
  refine lv_aload_n hx hb dL_law_1228 rfl (lv_at hl 3 rfl) ?_
  refine lv_iload_n hx hb dL_law_1229 rfl (lv_at hl 0 rfl) ?_
  refine lv_iconst (v := 1) hx hb dL_law_1230 (by decide +kernel) ?_
  refine lv_iadd hx hb dL_law_1231 ?_
  refine va_sld hx hb hX hbl (Nat.not_le.mpr hbl) hS (lw_ix h3 hL hM (rg_w (rg_k (1 : Int32) 1 rfl) (by decide +kernel))) dL_law_1232 ?_
  refine lv_aload_n hx hb dL_law_1233 rfl (lv_at hl 3 rfl) ?_
  refine lv_iload_n hx hb dL_law_1234 rfl (lv_at hl 0 rfl) ?_
  refine lv_iconst (v := 2) hx hb dL_law_1235 (by decide +kernel) ?_
  refine lv_iadd hx hb dL_law_1236 ?_
  refine va_sld hx hb hX hbl (Nat.not_le.mpr hbl) hS (lw_ix h3 hL hM (rg_w (rg_k (2 : Int32) 2 rfl) (by decide +kernel))) dL_law_1237 ?_
  refine lx_i (va_runV (As := [.int (xs (x3 + 1).toNatClampNeg), .int (xs (x3 + 2).toNatClampNeg)]) (rest := []) ⟨hx, hb, hml, hown, hts⟩ (s_X11_cellOf l D t σ I J ri rj rq H.size tg hSH hG this (xs (x3 + 1).toNatClampNeg : Int32) (xs (x3 + 2).toNatClampNeg : Int32) hL_this hK_this nw hR_nw hL_nw hK_nw) (cwV 2 hts (tw_V tw_1267 tw_1268 tw_1269 tw_2 tw_1270) rfl rfl rfl cv_yX11_cellOf_2 ⟨Nat.le_of_ble_eq_true rfl, Nat.le_of_ble_eq_true rfl⟩) ⟨pq_blind, pq_recv hK hP hL_this hK_this (by decide +kernel) rfl, pq_pre hK hN hP hD⟩ rfl rfl hl.1 rfl (lv_room (Nat.le_of_ble_eq_true rfl)) dL_law_1238 ⟨Nat.le_trans (Nat.le_add_right _ 4) hc2, Nat.le_trans (Nat.le_add_right _ 345) hs2⟩) hD hS hA hP2 hdis (fun r_1 σ1 μ1 H locs hw hP hD hP2 hdis hS => ?_)
  obtain ⟨hu, hfx⟩ := hw
  obtain ⟨hua, hub⟩ := Prod.mk.inj hu
  rw [hua, hub] at hP hD
  rw [hua] at hdis
  refine lv_pop hx hb dL_law_1241 rfl ?_
  refine lv_aload_n hx hb dL_law_1242 rfl (lv_at hl 1 rfl) ?_
  refine lv_aload_n hx hb dL_law_1243 rfl (lv_at hl 3 rfl) ?_
  refine lv_iload_n hx hb dL_law_1244 rfl (lv_at hl 0 rfl) ?_
  refine lv_iconst (v := 1) hx hb dL_law_1245 (by decide +kernel) ?_
  refine lv_iadd hx hb dL_law_1246 ?_
  refine va_sld hx hb hX hbl (Nat.not_le.mpr hbl) hS (lw_ix h3 hL hM (rg_w (rg_k (1 : Int32) 1 rfl) (by decide +kernel))) dL_law_1247 ?_
  refine lv_aload_n hx hb dL_law_1248 rfl (lv_at hl 3 rfl) ?_
  refine lv_iload_n hx hb dL_law_1249 rfl (lv_at hl 0 rfl) ?_
  refine lv_iconst (v := 2) hx hb dL_law_1250 (by decide +kernel) ?_
  refine lv_iadd hx hb dL_law_1251 ?_
  refine va_sld hx hb hX hbl (Nat.not_le.mpr hbl) hS (lw_ix h3 hL hM (rg_w (rg_k (2 : Int32) 2 rfl) (by decide +kernel))) dL_law_1252 ?_
  refine lx_i (va_runV (As := [.int (xs (x3 + 1).toNatClampNeg), .int (xs (x3 + 2).toNatClampNeg)]) (rest := []) ⟨hx, hb, hml, hown, hts⟩ (s_X12_cellOf l D t τ I2 J2 si sj sq H.size tg2 hSH2 hG2 that (xs (x3 + 1).toNatClampNeg : Int32) (xs (x3 + 2).toNatClampNeg : Int32) hL_that hK_that) (cwV 2 hts (tw_V tw_1284 tw_1285 tw_1286 tw_5 tw_1287) rfl rfl rfl cv_yX12_cellOf_2 ⟨Nat.le_of_ble_eq_true rfl, Nat.le_of_ble_eq_true rfl⟩) ⟨pq_blind, pq_recv hK hP2 hL_that hK_that (by decide +kernel) rfl, pq_pre hK hN hP2 hD2⟩ rfl rfl hl.1 rfl (lv_room (Nat.le_of_ble_eq_true rfl)) dL_law_1253 ⟨Nat.le_trans (Nat.le_add_right _ 4) hc2, Nat.le_trans (Nat.le_add_right _ 345) hs2⟩) hD2 hS hA hP (fun a h1 h2 => hdis a h2 h1) (fun r_2 τ1 ν1 H locs hw hP2 hD2 hP hdis hS => ?_)
  obtain ⟨hu, hfr⟩ := hw
  obtain ⟨hua, hub⟩ := Prod.mk.inj hu
  rw [hua, hub] at hP2 hD2
  rw [hua] at hdis
  have hV2 := vt_12 hSH2 hL_that hK_that
  have hDN := hDN
  have hDK := hDK
  have hVr := vt_4 hSH hRDo.2.1 hRDo.2.2
  have hRD := hRD
  have hTN := hTN
  have hTK := hTK
  have hRN := hRN
  have hRK := hRK
  have hGN := hGN
  have hGK := hGK
  have hdis : ∀ a, a ∈ τ.1 → a ∉ σ.1 := fun a h1 h2 => hdis a h2 h1
  refine lv_pop hx hb dL_law_1256 rfl ?_
  refine lv_goto (tgt := 1725) hx hb dL_law_1257 (by decide +kernel) ?_
  exact kk _ _ H locs ls (by omega) (by omega) ⟨σ, I, J, ri, rj, rq, tg, τ, I2, J2, si, sj, sq, tg2, nw, kp, tr, rd, ⟨hP, hD, hSH, hG, hFI, hL_this, hK_this⟩, ⟨hP2, hD2, hSH2, hG2, hL_that, hK_that⟩, hdis, hTR, hAP, hRN, hRK, hGN, hGK, hDN, hDK, hRDo, hRD, hTN, hTK, hS⟩ hl
set_option maxHeartbeats 8000000 in
set_option maxRecDepth 100000 in
theorem lw_op_26 {p : Program} {e : Env} {s : State} {m : MethodId} {below : List Frame} {meth : Method} {c : Code} {b : Nat} (l : Launch) (hx : p.tables.exec = Jvm.exec) (hb : c.code = cL_law) (hr : meth.sig.returnType = ret) (hml : c.maxLocals = 4) (hown : s.vm.findClass RL = some m.cls) (hlocks : meth.locks = false) (hts : ∀ w ∈ (Cond.initialized RX11 :: wsL_law), w.before #[Value.ref b] s = true) {L : Nat} (xs : Nat → Int32) (hX : va_X b L xs s s.heap) (hbl : b < s.heap.size) (hM : L ≤ 3584) {D : va_G} {t : pq_T} (hK : va_K D vwCl (pq_ty t) s) (hN : pq_N s) {aK aV : Nat} {vF : Value} (hW0 : pq_W aK aV vF (fun q => s.heap.size ≤ q) s s.heap) {this that : Nat} {n : Nat} {x3 : Int32} (h3 : x3.toInt = 7 * (n : Int)) (hL : 7 * n + 7 ≤ L) {H : Heap} {locs : List Loc} {cells slots : Nat} (hc2 : cells + 4 ≤ room_1.cells) (hs2 : slots + 345 ≤ room_1.slots) (hI : LI s D t this that H locs) {ls : Array Slot} (hl : lv_has ls 4 [(3, .int x3), (2, .ref that), (1, .ref this), (0, .ref b)]) {Q : State → Prop} (kk : ∀ (cells2 slots2 : Nat) (H : Heap) (locs : List Loc) (ls : Array Slot), cells2 ≤ cells + 4 → slots2 ≤ slots + 345 → LI s D t this that H locs → lv_has ls 4 [(3, .int x3), (2, .ref that), (1, .ref this), (0, .ref b)] → W p l e room_1 s m #[Value.ref b] below meth c H locs cells2 slots2 Q (F0 m 1725 ls [])) : W p l e room_1 s m #[Value.ref b] below meth c H locs cells slots Q (F0 m 1260 ls []) := by
  have hA : ∀ q : Nat, s.heap.size ≤ q → s.heap.size ≤ q := fun _ h => h
  obtain ⟨σ, I, J, ri, rj, rq, tg, τ, I2, J2, si, sj, sq, tg2, nw, kp, tr, rd, ⟨hP, hD, hSH, hG, hFI, hL_this, hK_this⟩, ⟨hP2, hD2, hSH2, hG2, hL_that, hK_that⟩, hdis, hTR, hAP, hRN, hRK, hGN, hGK, hDN, hDK, hRDo, hRD, hTN, hTK, hS⟩ := hI
  have hG00 := hG
  have hG20 := hG2
  have hR_rd := hRDo.1
  have hL_rd := hRDo.2.1
  have hK_rd := hRDo.2.2
  obtain ⟨⟨hR_nw, hL_nw, hK_nw⟩, ⟨hR_kp, hL_kp, hK_kp⟩, ⟨hR_tr, hL_tr, hK_tr⟩, -⟩ := id hTR
  refine lv_aload_n hx hb dL_law_1260 rfl (lv_at hl 2 rfl) ?_
  refine lv_aload_n hx hb dL_law_1261 rfl (lv_at hl 3 rfl) ?_
  refine lv_iload_n hx hb dL_law_1262 rfl (lv_at hl 0 rfl) ?_
  refine lv_iconst (v := 1) hx hb dL_law_1263 (by decide +kernel) ?_
  refine lv_iadd hx hb dL_law_1264 ?_
  refine va_sld hx hb hX hbl (Nat.not_le.mpr hbl) hS (lw_ix h3 hL hM (rg_w (rg_k (1 : Int32) 1 rfl) (by decide +kernel))) dL_law_1265 ?_
  refine lv_aload_n hx hb dL_law_1266 rfl (lv_at hl 3 rfl) ?_
  refine lv_iload_n hx hb dL_law_1267 rfl (lv_at hl 0 rfl) ?_
  refine lv_iconst (v := 2) hx hb dL_law_1268 (by decide +kernel) ?_
  refine lv_iadd hx hb dL_law_1269 ?_
  refine va_sld hx hb hX hbl (Nat.not_le.mpr hbl) hS (lw_ix h3 hL hM (rg_w (rg_k (2 : Int32) 2 rfl) (by decide +kernel))) dL_law_1270 ?_
  refine lx_i (va_runV (As := [.int (xs (x3 + 1).toNatClampNeg), .int (xs (x3 + 2).toNatClampNeg)]) (rest := []) ⟨hx, hb, hml, hown, hts⟩ (s_X11_personOf l D t σ I J ri rj rq H.size tg hSH hG this (xs (x3 + 1).toNatClampNeg : Int32) (xs (x3 + 2).toNatClampNeg : Int32) hL_this hK_this nw hR_nw hL_nw hK_nw) (cwV 2 hts (tw_V tw_1288 tw_1289 tw_1290 tw_2 tw_1291) rfl rfl rfl cv_yX11_personOf_2 ⟨Nat.le_of_ble_eq_true rfl, Nat.le_of_ble_eq_true rfl⟩) ⟨pq_blind, pq_recv hK hP hL_this hK_this (by decide +kernel) rfl, pq_pre hK hN hP hD⟩ rfl rfl hl.1 rfl (lv_room (Nat.le_of_ble_eq_true rfl)) dL_law_1271 ⟨Nat.le_trans (Nat.le_add_right _ 4) hc2, Nat.le_trans (Nat.le_add_right _ 345) hs2⟩) hD hS hA hP2 hdis (fun r_1 σ1 μ1 H locs hw hP hD hP2 hdis hS => ?_)
  obtain ⟨hu, hfx⟩ := hw
  obtain ⟨hua, hub⟩ := Prod.mk.inj hu
  rw [hua, hub] at hP hD
  rw [hua] at hdis
  refine lv_pop hx hb dL_law_1274 rfl ?_
  refine lv_aload_n hx hb dL_law_1275 rfl (lv_at hl 1 rfl) ?_
  refine lv_aload_n hx hb dL_law_1276 rfl (lv_at hl 3 rfl) ?_
  refine lv_iload_n hx hb dL_law_1277 rfl (lv_at hl 0 rfl) ?_
  refine lv_iconst (v := 1) hx hb dL_law_1278 (by decide +kernel) ?_
  refine lv_iadd hx hb dL_law_1279 ?_
  refine va_sld hx hb hX hbl (Nat.not_le.mpr hbl) hS (lw_ix h3 hL hM (rg_w (rg_k (1 : Int32) 1 rfl) (by decide +kernel))) dL_law_1280 ?_
  refine lv_aload_n hx hb dL_law_1281 rfl (lv_at hl 3 rfl) ?_
  refine lv_iload_n hx hb dL_law_1282 rfl (lv_at hl 0 rfl) ?_
  refine lv_iconst (v := 2) hx hb dL_law_1283 (by decide +kernel) ?_
  refine lv_iadd hx hb dL_law_1284 ?_
  refine va_sld hx hb hX hbl (Nat.not_le.mpr hbl) hS (lw_ix h3 hL hM (rg_w (rg_k (2 : Int32) 2 rfl) (by decide +kernel))) dL_law_1285 ?_
  refine lx_i (va_runV (As := [.int (xs (x3 + 1).toNatClampNeg), .int (xs (x3 + 2).toNatClampNeg)]) (rest := []) ⟨hx, hb, hml, hown, hts⟩ (s_X12_personOf l D t τ I2 J2 si sj sq H.size tg2 hSH2 hG2 that (xs (x3 + 1).toNatClampNeg : Int32) (xs (x3 + 2).toNatClampNeg : Int32) hL_that hK_that) (cwV 2 hts (tw_V tw_1299 tw_1300 tw_1301 tw_5 tw_1302) rfl rfl rfl cv_yX12_personOf_2 ⟨Nat.le_of_ble_eq_true rfl, Nat.le_of_ble_eq_true rfl⟩) ⟨pq_blind, pq_recv hK hP2 hL_that hK_that (by decide +kernel) rfl, pq_pre hK hN hP2 hD2⟩ rfl rfl hl.1 rfl (lv_room (Nat.le_of_ble_eq_true rfl)) dL_law_1286 ⟨Nat.le_trans (Nat.le_add_right _ 4) hc2, Nat.le_trans (Nat.le_add_right _ 345) hs2⟩) hD2 hS hA hP (fun a h1 h2 => hdis a h2 h1) (fun r_2 τ1 ν1 H locs hw hP2 hD2 hP hdis hS => ?_)
  obtain ⟨hu, hfr⟩ := hw
  obtain ⟨hua, hub⟩ := Prod.mk.inj hu
  rw [hua, hub] at hP2 hD2
  rw [hua] at hdis
  have hV2 := vt_12 hSH2 hL_that hK_that
  have hDN := hDN
  have hDK := hDK
  have hVr := vt_4 hSH hRDo.2.1 hRDo.2.2
  have hRD := hRD
  have hTN := hTN
  have hTK := hTK
  have hRN := hRN
  have hRK := hRK
  have hGN := hGN
  have hGK := hGK
  have hdis : ∀ a, a ∈ τ.1 → a ∉ σ.1 := fun a h1 h2 => hdis a h2 h1
  refine lv_pop hx hb dL_law_1289 rfl ?_
  refine lv_goto (tgt := 1725) hx hb dL_law_1290 (by decide +kernel) ?_
  exact kk _ _ H locs ls (by omega) (by omega) ⟨σ, I, J, ri, rj, rq, tg, τ, I2, J2, si, sj, sq, tg2, nw, kp, tr, rd, ⟨hP, hD, hSH, hG, hFI, hL_this, hK_this⟩, ⟨hP2, hD2, hSH2, hG2, hL_that, hK_that⟩, hdis, hTR, hAP, hRN, hRK, hGN, hGK, hDN, hDK, hRDo, hRD, hTN, hTK, hS⟩ hl
set_option maxHeartbeats 8000000 in
set_option maxRecDepth 100000 in
theorem lw_op_27 {p : Program} {e : Env} {s : State} {m : MethodId} {below : List Frame} {meth : Method} {c : Code} {b : Nat} (l : Launch) (hx : p.tables.exec = Jvm.exec) (hb : c.code = cL_law) (hr : meth.sig.returnType = ret) (hml : c.maxLocals = 4) (hown : s.vm.findClass RL = some m.cls) (hlocks : meth.locks = false) (hts : ∀ w ∈ (Cond.initialized RX11 :: wsL_law), w.before #[Value.ref b] s = true) {L : Nat} (xs : Nat → Int32) (hX : va_X b L xs s s.heap) (hbl : b < s.heap.size) (hM : L ≤ 3584) {D : va_G} {t : pq_T} (hK : va_K D vwCl (pq_ty t) s) (hN : pq_N s) {aK aV : Nat} {vF : Value} (hW0 : pq_W aK aV vF (fun q => s.heap.size ≤ q) s s.heap) {this that : Nat} {n : Nat} {x3 : Int32} (h3 : x3.toInt = 7 * (n : Int)) (hL : 7 * n + 7 ≤ L) {H : Heap} {locs : List Loc} {cells slots : Nat} (hc2 : cells + 4 ≤ room_1.cells) (hs2 : slots + 345 ≤ room_1.slots) (hI : LI s D t this that H locs) {ls : Array Slot} (hl : lv_has ls 4 [(3, .int x3), (2, .ref that), (1, .ref this), (0, .ref b)]) {Q : State → Prop} (kk : ∀ (cells2 slots2 : Nat) (H : Heap) (locs : List Loc) (ls : Array Slot), cells2 ≤ cells + 4 → slots2 ≤ slots + 345 → LI s D t this that H locs → lv_has ls 4 [(3, .int x3), (2, .ref that), (1, .ref this), (0, .ref b)] → W p l e room_1 s m #[Value.ref b] below meth c H locs cells2 slots2 Q (F0 m 1725 ls [])) : W p l e room_1 s m #[Value.ref b] below meth c H locs cells slots Q (F0 m 1293 ls []) := by
  have hA : ∀ q : Nat, s.heap.size ≤ q → s.heap.size ≤ q := fun _ h => h
  obtain ⟨σ, I, J, ri, rj, rq, tg, τ, I2, J2, si, sj, sq, tg2, nw, kp, tr, rd, ⟨hP, hD, hSH, hG, hFI, hL_this, hK_this⟩, ⟨hP2, hD2, hSH2, hG2, hL_that, hK_that⟩, hdis, hTR, hAP, hRN, hRK, hGN, hGK, hDN, hDK, hRDo, hRD, hTN, hTK, hS⟩ := hI
  have hG00 := hG
  have hG20 := hG2
  have hR_rd := hRDo.1
  have hL_rd := hRDo.2.1
  have hK_rd := hRDo.2.2
  obtain ⟨⟨hR_nw, hL_nw, hK_nw⟩, ⟨hR_kp, hL_kp, hK_kp⟩, ⟨hR_tr, hL_tr, hK_tr⟩, -⟩ := id hTR
  refine lv_aload_n hx hb dL_law_1293 rfl (lv_at hl 2 rfl) ?_
  refine lv_aload_n hx hb dL_law_1294 rfl (lv_at hl 3 rfl) ?_
  refine lv_iload_n hx hb dL_law_1295 rfl (lv_at hl 0 rfl) ?_
  refine lv_iconst (v := 1) hx hb dL_law_1296 (by decide +kernel) ?_
  refine lv_iadd hx hb dL_law_1297 ?_
  refine va_sld hx hb hX hbl (Nat.not_le.mpr hbl) hS (lw_ix h3 hL hM (rg_w (rg_k (1 : Int32) 1 rfl) (by decide +kernel))) dL_law_1298 ?_
  refine lx_i (va_runV (As := [.int (xs (x3 + 1).toNatClampNeg)]) (rest := []) ⟨hx, hb, hml, hown, hts⟩ (s_X11_at l D t σ I J ri rj rq H.size tg hSH hG this (xs (x3 + 1).toNatClampNeg : Int32) hL_this hK_this nw hR_nw hL_nw hK_nw) (cwV 1 hts (tw_V tw_1303 tw_1304 tw_1305 tw_2 tw_1306) rfl rfl rfl cv_yX11_at_1 ⟨Nat.le_of_ble_eq_true rfl, Nat.le_of_ble_eq_true rfl⟩) ⟨pq_blind, pq_recv hK hP hL_this hK_this (by decide +kernel) rfl, pq_pre hK hN hP hD⟩ rfl rfl hl.1 rfl (lv_room (Nat.le_of_ble_eq_true rfl)) dL_law_1299 ⟨Nat.le_trans (Nat.le_add_right _ 4) hc2, Nat.le_trans (Nat.le_add_right _ 345) hs2⟩) hD hS hA hP2 hdis (fun r_1 σ1 μ1 H locs hw hP hD hP2 hdis hS => ?_)
  obtain ⟨hu, hfx⟩ := hw
  obtain ⟨hua, hub⟩ := Prod.mk.inj hu
  rw [hua, hub] at hP hD
  rw [hua] at hdis
  refine lv_pop hx hb dL_law_1302 rfl ?_
  refine lv_aload_n hx hb dL_law_1303 rfl (lv_at hl 1 rfl) ?_
  refine lv_aload_n hx hb dL_law_1304 rfl (lv_at hl 3 rfl) ?_
  refine lv_iload_n hx hb dL_law_1305 rfl (lv_at hl 0 rfl) ?_
  refine lv_iconst (v := 1) hx hb dL_law_1306 (by decide +kernel) ?_
  refine lv_iadd hx hb dL_law_1307 ?_
  refine va_sld hx hb hX hbl (Nat.not_le.mpr hbl) hS (lw_ix h3 hL hM (rg_w (rg_k (1 : Int32) 1 rfl) (by decide +kernel))) dL_law_1308 ?_
  refine lx_i (va_runV (As := [.int (xs (x3 + 1).toNatClampNeg)]) (rest := []) ⟨hx, hb, hml, hown, hts⟩ (s_X12_at l D t τ I2 J2 si sj sq H.size tg2 hSH2 hG2 that (xs (x3 + 1).toNatClampNeg : Int32) hL_that hK_that) (cwV 1 hts (tw_V tw_1308 tw_1309 tw_1310 tw_5 tw_1311) rfl rfl rfl cv_yX12_at_1 ⟨Nat.le_of_ble_eq_true rfl, Nat.le_of_ble_eq_true rfl⟩) ⟨pq_blind, pq_recv hK hP2 hL_that hK_that (by decide +kernel) rfl, pq_pre hK hN hP2 hD2⟩ rfl rfl hl.1 rfl (lv_room (Nat.le_of_ble_eq_true rfl)) dL_law_1309 ⟨Nat.le_trans (Nat.le_add_right _ 4) hc2, Nat.le_trans (Nat.le_add_right _ 345) hs2⟩) hD2 hS hA hP (fun a h1 h2 => hdis a h2 h1) (fun r_2 τ1 ν1 H locs hw hP2 hD2 hP hdis hS => ?_)
  obtain ⟨hu, hfr⟩ := hw
  obtain ⟨hua, hub⟩ := Prod.mk.inj hu
  rw [hua, hub] at hP2 hD2
  rw [hua] at hdis
  have hV2 := vt_12 hSH2 hL_that hK_that
  have hDN := hDN
  have hDK := hDK
  have hVr := vt_4 hSH hRDo.2.1 hRDo.2.2
  have hRD := hRD
  have hTN := hTN
  have hTK := hTK
  have hRN := hRN
  have hRK := hRK
  have hGN := hGN
  have hGK := hGK
  have hdis : ∀ a, a ∈ τ.1 → a ∉ σ.1 := fun a h1 h2 => hdis a h2 h1
  refine lv_pop hx hb dL_law_1312 rfl ?_
  refine lv_goto (tgt := 1725) hx hb dL_law_1313 (by decide +kernel) ?_
  exact kk _ _ H locs ls (by omega) (by omega) ⟨σ, I, J, ri, rj, rq, tg, τ, I2, J2, si, sj, sq, tg2, nw, kp, tr, rd, ⟨hP, hD, hSH, hG, hFI, hL_this, hK_this⟩, ⟨hP2, hD2, hSH2, hG2, hL_that, hK_that⟩, hdis, hTR, hAP, hRN, hRK, hGN, hGK, hDN, hDK, hRDo, hRD, hTN, hTK, hS⟩ hl
set_option maxHeartbeats 8000000 in
set_option maxRecDepth 100000 in
theorem lw_op_28 {p : Program} {e : Env} {s : State} {m : MethodId} {below : List Frame} {meth : Method} {c : Code} {b : Nat} (l : Launch) (hx : p.tables.exec = Jvm.exec) (hb : c.code = cL_law) (hr : meth.sig.returnType = ret) (hml : c.maxLocals = 4) (hown : s.vm.findClass RL = some m.cls) (hlocks : meth.locks = false) (hts : ∀ w ∈ (Cond.initialized RX11 :: wsL_law), w.before #[Value.ref b] s = true) {L : Nat} (xs : Nat → Int32) (hX : va_X b L xs s s.heap) (hbl : b < s.heap.size) (hM : L ≤ 3584) {D : va_G} {t : pq_T} (hK : va_K D vwCl (pq_ty t) s) (hN : pq_N s) {aK aV : Nat} {vF : Value} (hW0 : pq_W aK aV vF (fun q => s.heap.size ≤ q) s s.heap) {this that : Nat} {n : Nat} {x3 : Int32} (h3 : x3.toInt = 7 * (n : Int)) (hL : 7 * n + 7 ≤ L) {H : Heap} {locs : List Loc} {cells slots : Nat} (hc2 : cells + 4 ≤ room_1.cells) (hs2 : slots + 345 ≤ room_1.slots) (hI : LI s D t this that H locs) {ls : Array Slot} (hl : lv_has ls 4 [(3, .int x3), (2, .ref that), (1, .ref this), (0, .ref b)]) {Q : State → Prop} (kk : ∀ (cells2 slots2 : Nat) (H : Heap) (locs : List Loc) (ls : Array Slot), cells2 ≤ cells + 4 → slots2 ≤ slots + 345 → LI s D t this that H locs → lv_has ls 4 [(3, .int x3), (2, .ref that), (1, .ref this), (0, .ref b)] → W p l e room_1 s m #[Value.ref b] below meth c H locs cells2 slots2 Q (F0 m 1725 ls [])) : W p l e room_1 s m #[Value.ref b] below meth c H locs cells slots Q (F0 m 1316 ls []) := by
  have hA : ∀ q : Nat, s.heap.size ≤ q → s.heap.size ≤ q := fun _ h => h
  obtain ⟨σ, I, J, ri, rj, rq, tg, τ, I2, J2, si, sj, sq, tg2, nw, kp, tr, rd, ⟨hP, hD, hSH, hG, hFI, hL_this, hK_this⟩, ⟨hP2, hD2, hSH2, hG2, hL_that, hK_that⟩, hdis, hTR, hAP, hRN, hRK, hGN, hGK, hDN, hDK, hRDo, hRD, hTN, hTK, hS⟩ := hI
  have hG00 := hG
  have hG20 := hG2
  have hR_rd := hRDo.1
  have hL_rd := hRDo.2.1
  have hK_rd := hRDo.2.2
  obtain ⟨⟨hR_nw, hL_nw, hK_nw⟩, ⟨hR_kp, hL_kp, hK_kp⟩, ⟨hR_tr, hL_tr, hK_tr⟩, -⟩ := id hTR
  refine lv_aload_n hx hb dL_law_1316 rfl (lv_at hl 2 rfl) ?_
  refine lx_i (va_runV (As := []) (rest := []) ⟨hx, hb, hml, hown, hts⟩ (s_X11_area l D t σ I J ri rj rq H.size tg hSH hG this hL_this hK_this nw hR_nw hL_nw hK_nw) (cwV 0 hts (tw_V tw_1312 tw_1313 tw_1314 tw_2 tw_1315) rfl rfl rfl cv_yX11_area_0 ⟨Nat.le_of_ble_eq_true rfl, Nat.le_of_ble_eq_true rfl⟩) ⟨pq_blind, pq_recv hK hP hL_this hK_this (by decide +kernel) rfl, pq_pre hK hN hP hD⟩ rfl rfl hl.1 rfl (lv_room (Nat.le_of_ble_eq_true rfl)) dL_law_1317 ⟨Nat.le_trans (Nat.le_add_right _ 4) hc2, Nat.le_trans (Nat.le_add_right _ 345) hs2⟩) hD hS hA hP2 hdis (fun r_1 σ1 μ1 H locs hw hP hD hP2 hdis hS => ?_)
  obtain ⟨hu, hfx⟩ := hw
  obtain ⟨hua, hub⟩ := Prod.mk.inj hu
  rw [hua, hub] at hP hD
  rw [hua] at hdis
  refine lv_pop hx hb dL_law_1320 rfl ?_
  refine lv_aload_n hx hb dL_law_1321 rfl (lv_at hl 1 rfl) ?_
  refine lx_i (va_runV (As := []) (rest := []) ⟨hx, hb, hml, hown, hts⟩ (s_X12_area l D t τ I2 J2 si sj sq H.size tg2 hSH2 hG2 that hL_that hK_that) (cwV 0 hts (tw_V tw_1317 tw_1318 tw_1319 tw_5 tw_1320) rfl rfl rfl cv_yX12_area_0 ⟨Nat.le_of_ble_eq_true rfl, Nat.le_of_ble_eq_true rfl⟩) ⟨pq_blind, pq_recv hK hP2 hL_that hK_that (by decide +kernel) rfl, pq_pre hK hN hP2 hD2⟩ rfl rfl hl.1 rfl (lv_room (Nat.le_of_ble_eq_true rfl)) dL_law_1322 ⟨Nat.le_trans (Nat.le_add_right _ 4) hc2, Nat.le_trans (Nat.le_add_right _ 345) hs2⟩) hD2 hS hA hP (fun a h1 h2 => hdis a h2 h1) (fun r_2 τ1 ν1 H locs hw hP2 hD2 hP hdis hS => ?_)
  obtain ⟨hu, hfr⟩ := hw
  obtain ⟨hua, hub⟩ := Prod.mk.inj hu
  rw [hua, hub] at hP2 hD2
  rw [hua] at hdis
  have hV2 := vt_12 hSH2 hL_that hK_that
  have hDN := hDN
  have hDK := hDK
  have hVr := vt_4 hSH hRDo.2.1 hRDo.2.2
  have hRD := hRD
  have hTN := hTN
  have hTK := hTK
  have hRN := hRN
  have hRK := hRK
  have hGN := hGN
  have hGK := hGK
  have hdis : ∀ a, a ∈ τ.1 → a ∉ σ.1 := fun a h1 h2 => hdis a h2 h1
  refine lv_pop hx hb dL_law_1325 rfl ?_
  refine lv_goto (tgt := 1725) hx hb dL_law_1326 (by decide +kernel) ?_
  exact kk _ _ H locs ls (by omega) (by omega) ⟨σ, I, J, ri, rj, rq, tg, τ, I2, J2, si, sj, sq, tg2, nw, kp, tr, rd, ⟨hP, hD, hSH, hG, hFI, hL_this, hK_this⟩, ⟨hP2, hD2, hSH2, hG2, hL_that, hK_that⟩, hdis, hTR, hAP, hRN, hRK, hGN, hGK, hDN, hDK, hRDo, hRD, hTN, hTK, hS⟩ hl
set_option maxHeartbeats 8000000 in
set_option maxRecDepth 100000 in
theorem lw_op_29 {p : Program} {e : Env} {s : State} {m : MethodId} {below : List Frame} {meth : Method} {c : Code} {b : Nat} (l : Launch) (hx : p.tables.exec = Jvm.exec) (hb : c.code = cL_law) (hr : meth.sig.returnType = ret) (hml : c.maxLocals = 4) (hown : s.vm.findClass RL = some m.cls) (hlocks : meth.locks = false) (hts : ∀ w ∈ (Cond.initialized RX11 :: wsL_law), w.before #[Value.ref b] s = true) {L : Nat} (xs : Nat → Int32) (hX : va_X b L xs s s.heap) (hbl : b < s.heap.size) (hM : L ≤ 3584) {D : va_G} {t : pq_T} (hK : va_K D vwCl (pq_ty t) s) (hN : pq_N s) {aK aV : Nat} {vF : Value} (hW0 : pq_W aK aV vF (fun q => s.heap.size ≤ q) s s.heap) {this that : Nat} {n : Nat} {x3 : Int32} (h3 : x3.toInt = 7 * (n : Int)) (hL : 7 * n + 7 ≤ L) {H : Heap} {locs : List Loc} {cells slots : Nat} (hc2 : cells + 4 ≤ room_1.cells) (hs2 : slots + 345 ≤ room_1.slots) (hI : LI s D t this that H locs) {ls : Array Slot} (hl : lv_has ls 4 [(3, .int x3), (2, .ref that), (1, .ref this), (0, .ref b)]) {Q : State → Prop} (kk : ∀ (cells2 slots2 : Nat) (H : Heap) (locs : List Loc) (ls : Array Slot), cells2 ≤ cells + 4 → slots2 ≤ slots + 345 → LI s D t this that H locs → lv_has ls 4 [(3, .int x3), (2, .ref that), (1, .ref this), (0, .ref b)] → W p l e room_1 s m #[Value.ref b] below meth c H locs cells2 slots2 Q (F0 m 1725 ls [])) : W p l e room_1 s m #[Value.ref b] below meth c H locs cells slots Q (F0 m 1329 ls []) := by
  have hA : ∀ q : Nat, s.heap.size ≤ q → s.heap.size ≤ q := fun _ h => h
  obtain ⟨σ, I, J, ri, rj, rq, tg, τ, I2, J2, si, sj, sq, tg2, nw, kp, tr, rd, ⟨hP, hD, hSH, hG, hFI, hL_this, hK_this⟩, ⟨hP2, hD2, hSH2, hG2, hL_that, hK_that⟩, hdis, hTR, hAP, hRN, hRK, hGN, hGK, hDN, hDK, hRDo, hRD, hTN, hTK, hS⟩ := hI
  have hG00 := hG
  have hG20 := hG2
  have hR_rd := hRDo.1
  have hL_rd := hRDo.2.1
  have hK_rd := hRDo.2.2
  obtain ⟨⟨hR_nw, hL_nw, hK_nw⟩, ⟨hR_kp, hL_kp, hK_kp⟩, ⟨hR_tr, hL_tr, hK_tr⟩, -⟩ := id hTR
  refine lv_aload_n hx hb dL_law_1329 rfl (lv_at hl 2 rfl) ?_
  refine lv_aload_n hx hb dL_law_1330 rfl (lv_at hl 3 rfl) ?_
  refine lv_iload_n hx hb dL_law_1331 rfl (lv_at hl 0 rfl) ?_
  refine lv_iconst (v := 1) hx hb dL_law_1332 (by decide +kernel) ?_
  refine lv_iadd hx hb dL_law_1333 ?_
  refine va_sld hx hb hX hbl (Nat.not_le.mpr hbl) hS (lw_ix h3 hL hM (rg_w (rg_k (1 : Int32) 1 rfl) (by decide +kernel))) dL_law_1334 ?_
  refine lv_aload_n hx hb dL_law_1335 rfl (lv_at hl 3 rfl) ?_
  refine lv_iload_n hx hb dL_law_1336 rfl (lv_at hl 0 rfl) ?_
  refine lv_iconst (v := 2) hx hb dL_law_1337 (by decide +kernel) ?_
  refine lv_iadd hx hb dL_law_1338 ?_
  refine va_sld hx hb hX hbl (Nat.not_le.mpr hbl) hS (lw_ix h3 hL hM (rg_w (rg_k (2 : Int32) 2 rfl) (by decide +kernel))) dL_law_1339 ?_
  refine lx_i (va_runV (As := [.int (xs (x3 + 1).toNatClampNeg), .int (xs (x3 + 2).toNatClampNeg)]) (rest := []) ⟨hx, hb, hml, hown, hts⟩ (s_X11_choose l D t σ I J ri rj rq H.size tg hSH hG this (xs (x3 + 1).toNatClampNeg : Int32) (xs (x3 + 2).toNatClampNeg : Int32) hL_this hK_this nw hR_nw hL_nw hK_nw) (cwV 2 hts (tw_V tw_1321 tw_1322 tw_1323 tw_2 tw_1324) rfl rfl rfl cv_yX11_choose_2 ⟨Nat.le_of_ble_eq_true rfl, Nat.le_of_ble_eq_true rfl⟩) ⟨pq_blind, pq_recv hK hP hL_this hK_this (by decide +kernel) rfl, pq_pre hK hN hP hD⟩ rfl rfl hl.1 rfl (lv_room (Nat.le_of_ble_eq_true rfl)) dL_law_1340 ⟨Nat.le_trans (Nat.le_add_right _ 4) hc2, Nat.le_trans (Nat.le_add_right _ 345) hs2⟩) hD hS hA hP2 hdis (fun r_1 σ1 μ1 H locs hw hP hD hP2 hdis hS => ?_)
  obtain ⟨ri_2, hu, hgx, hfx, hFx, hr1⟩ := hw
  obtain ⟨hua, hub⟩ := Prod.mk.inj hu
  rw [hua, hub] at hP hD
  rw [hua] at hdis
  have hG := hgx.1
  refine lv_pop hx hb dL_law_1343 rfl ?_
  refine lv_aload_n hx hb dL_law_1344 rfl (lv_at hl 1 rfl) ?_
  refine lv_aload_n hx hb dL_law_1345 rfl (lv_at hl 3 rfl) ?_
  refine lv_iload_n hx hb dL_law_1346 rfl (lv_at hl 0 rfl) ?_
  refine lv_iconst (v := 1) hx hb dL_law_1347 (by decide +kernel) ?_
  refine lv_iadd hx hb dL_law_1348 ?_
  refine va_sld hx hb hX hbl (Nat.not_le.mpr hbl) hS (lw_ix h3 hL hM (rg_w (rg_k (1 : Int32) 1 rfl) (by decide +kernel))) dL_law_1349 ?_
  refine lv_aload_n hx hb dL_law_1350 rfl (lv_at hl 3 rfl) ?_
  refine lv_iload_n hx hb dL_law_1351 rfl (lv_at hl 0 rfl) ?_
  refine lv_iconst (v := 2) hx hb dL_law_1352 (by decide +kernel) ?_
  refine lv_iadd hx hb dL_law_1353 ?_
  refine va_sld hx hb hX hbl (Nat.not_le.mpr hbl) hS (lw_ix h3 hL hM (rg_w (rg_k (2 : Int32) 2 rfl) (by decide +kernel))) dL_law_1354 ?_
  refine lx_i (va_runV (As := [.int (xs (x3 + 1).toNatClampNeg), .int (xs (x3 + 2).toNatClampNeg)]) (rest := []) ⟨hx, hb, hml, hown, hts⟩ (s_X12_choose l D t τ I2 J2 si sj sq H.size tg2 hSH2 hG2 that (xs (x3 + 1).toNatClampNeg : Int32) (xs (x3 + 2).toNatClampNeg : Int32) hL_that hK_that) (cwV 2 hts (tw_V tw_1326 tw_1327 tw_1328 tw_5 tw_1329) rfl rfl rfl cv_yX12_choose_2 ⟨Nat.le_of_ble_eq_true rfl, Nat.le_of_ble_eq_true rfl⟩) ⟨pq_blind, pq_recv hK hP2 hL_that hK_that (by decide +kernel) rfl, pq_pre hK hN hP2 hD2⟩ rfl rfl hl.1 rfl (lv_room (Nat.le_of_ble_eq_true rfl)) dL_law_1355 ⟨Nat.le_trans (Nat.le_add_right _ 4) hc2, Nat.le_trans (Nat.le_add_right _ 345) hs2⟩) hD2 hS hA hP (fun a h1 h2 => hdis a h2 h1) (fun r_3 τ1 ν1 H locs hw hP2 hD2 hP hdis hS => ?_)
  obtain ⟨si_4, hu, hgr, hfr, hFr, hr2⟩ := hw
  obtain ⟨hua, hub⟩ := Prod.mk.inj hu
  rw [hua, hub] at hP2 hD2
  rw [hua] at hdis
  have hG2 := hgr.1
  have hV2 := vt_12 hSH2 hL_that hK_that
  have hVn := vt_10 hSH hL_nw hK_nw
  have hVk := vt_10 hSH hL_kp hK_kp
  have hDN := (df_rf (df_cl hDN hgx hVn (by decide +kernel) (by decide +kernel)) hgr hV2 (by decide +kernel))
  have hDK := (df_im (df_cl hDK hgx hVk (by decide +kernel) (by decide +kernel)) hgr hV2 (by decide +kernel))
  have hVr := vt_4 hSH hRDo.2.1 hRDo.2.2
  have hRD := (rd_rf (rd_fr hRD hFx hAP.1.1 hVr) hgr hV2 (by decide +kernel))
  have hTN := (tc_rf (tc_cl hTN hgx (by decide +kernel)) hgr hV2 (by decide +kernel))
  have hTK := (tc_im (tc_cl hTK hgx (by decide +kernel)) hgr hV2 (by decide +kernel))
  have hRN := (rl_rf (rl_cl hRN hgx hVn (by decide +kernel) (by decide +kernel)) hgr hV2 (by decide +kernel))
  have hRK := (rl_im (rl_cl hRK hgx hVk (by decide +kernel) (by decide +kernel)) hgr hV2 (by decide +kernel))
  have hGN := (gr_rf (gr_cl hGN hgx hVn (by decide +kernel) (by decide +kernel) (by decide +kernel)) hgr hV2 (by decide +kernel))
  have hGK := (gr_im (gr_cl hGK hgx hVk (by decide +kernel) (by decide +kernel) (by decide +kernel)) hgr hV2 (by decide +kernel))
  have hdis : ∀ a, a ∈ τ.1 → a ∉ σ.1 := fun a h1 h2 => hdis a h2 h1
  refine lv_pop hx hb dL_law_1358 rfl ?_
  refine lv_goto (tgt := 1725) hx hb dL_law_1359 (by decide +kernel) ?_
  exact kk _ _ H locs ls (by omega) (by omega) ⟨σ, I, J, ri_2, rj, rq, tg, τ, I2, J2, si_4, sj, sq, tg2, nw, kp, tr, rd, ⟨hP, hD, hSH, hG, hFI, hL_this, hK_this⟩, ⟨hP2, hD2, hSH2, hG2, hL_that, hK_that⟩, hdis, hTR, hAP, hRN, hRK, hGN, hGK, hDN, hDK, hRDo, hRD, hTN, hTK, hS⟩ hl
set_option maxHeartbeats 8000000 in
set_option maxRecDepth 100000 in
theorem lw_op_30 {p : Program} {e : Env} {s : State} {m : MethodId} {below : List Frame} {meth : Method} {c : Code} {b : Nat} (l : Launch) (hx : p.tables.exec = Jvm.exec) (hb : c.code = cL_law) (hr : meth.sig.returnType = ret) (hml : c.maxLocals = 4) (hown : s.vm.findClass RL = some m.cls) (hlocks : meth.locks = false) (hts : ∀ w ∈ (Cond.initialized RX11 :: wsL_law), w.before #[Value.ref b] s = true) {L : Nat} (xs : Nat → Int32) (hX : va_X b L xs s s.heap) (hbl : b < s.heap.size) (hM : L ≤ 3584) {D : va_G} {t : pq_T} (hK : va_K D vwCl (pq_ty t) s) (hN : pq_N s) {aK aV : Nat} {vF : Value} (hW0 : pq_W aK aV vF (fun q => s.heap.size ≤ q) s s.heap) {this that : Nat} {n : Nat} {x3 : Int32} (h3 : x3.toInt = 7 * (n : Int)) (hL : 7 * n + 7 ≤ L) {H : Heap} {locs : List Loc} {cells slots : Nat} (hc2 : cells + 4 ≤ room_1.cells) (hs2 : slots + 345 ≤ room_1.slots) (hI : LI s D t this that H locs) {ls : Array Slot} (hl : lv_has ls 4 [(3, .int x3), (2, .ref that), (1, .ref this), (0, .ref b)]) {Q : State → Prop} (kk : ∀ (cells2 slots2 : Nat) (H : Heap) (locs : List Loc) (ls : Array Slot), cells2 ≤ cells + 4 → slots2 ≤ slots + 345 → LI s D t this that H locs → lv_has ls 4 [(3, .int x3), (2, .ref that), (1, .ref this), (0, .ref b)] → W p l e room_1 s m #[Value.ref b] below meth c H locs cells2 slots2 Q (F0 m 1725 ls [])) : W p l e room_1 s m #[Value.ref b] below meth c H locs cells slots Q (F0 m 1362 ls []) := by
  have hA : ∀ q : Nat, s.heap.size ≤ q → s.heap.size ≤ q := fun _ h => h
  obtain ⟨σ, I, J, ri, rj, rq, tg, τ, I2, J2, si, sj, sq, tg2, nw, kp, tr, rd, ⟨hP, hD, hSH, hG, hFI, hL_this, hK_this⟩, ⟨hP2, hD2, hSH2, hG2, hL_that, hK_that⟩, hdis, hTR, hAP, hRN, hRK, hGN, hGK, hDN, hDK, hRDo, hRD, hTN, hTK, hS⟩ := hI
  have hG00 := hG
  have hG20 := hG2
  have hR_rd := hRDo.1
  have hL_rd := hRDo.2.1
  have hK_rd := hRDo.2.2
  obtain ⟨⟨hR_nw, hL_nw, hK_nw⟩, ⟨hR_kp, hL_kp, hK_kp⟩, ⟨hR_tr, hL_tr, hK_tr⟩, -⟩ := id hTR
  refine lv_aload_n hx hb dL_law_1362 rfl (lv_at hl 2 rfl) ?_
  refine lv_aload_n hx hb dL_law_1363 rfl (lv_at hl 3 rfl) ?_
  refine lv_iload_n hx hb dL_law_1364 rfl (lv_at hl 0 rfl) ?_
  refine lv_iconst (v := 1) hx hb dL_law_1365 (by decide +kernel) ?_
  refine lv_iadd hx hb dL_law_1366 ?_
  refine va_sld hx hb hX hbl (Nat.not_le.mpr hbl) hS (lw_ix h3 hL hM (rg_w (rg_k (1 : Int32) 1 rfl) (by decide +kernel))) dL_law_1367 ?_
  refine lv_i2l hx hb dL_law_1368 rfl ?_
  refine lv_topl (fun x_1 ex_1 => ?_)
  refine lv_bipush (v := 32) hx hb dL_law_1369 (by decide +kernel) ?_
  refine lv_lshl hx hb dL_law_1371 rfl ?_
  refine lv_topl (fun x_2 ex_2 => ?_)
  refine lv_aload_n hx hb dL_law_1372 rfl (lv_at hl 3 rfl) ?_
  refine lv_iload_n hx hb dL_law_1373 rfl (lv_at hl 0 rfl) ?_
  refine lv_iconst (v := 2) hx hb dL_law_1374 (by decide +kernel) ?_
  refine lv_iadd hx hb dL_law_1375 ?_
  refine va_sld hx hb hX hbl (Nat.not_le.mpr hbl) hS (lw_ix h3 hL hM (rg_w (rg_k (2 : Int32) 2 rfl) (by decide +kernel))) dL_law_1376 ?_
  refine lv_i2l hx hb dL_law_1377 rfl ?_
  refine lv_topl (fun x_3 ex_3 => ?_)
  refine lv_ldc2 hx hb hown (hts _ (tw_c tw_6)) dL_law_1378 ?_
  refine lv_land hx hb dL_law_1381 ?_
  refine lv_topl (fun x_4 ex_4 => ?_)
  refine lv_lor hx hb dL_law_1382 ?_
  refine lv_topl (fun x_5 ex_5 => ?_)
  refine lx_i (va_runV (As := [.long x_5]) (rest := []) ⟨hx, hb, hml, hown, hts⟩ (s_X11_council l D t σ I J ri rj rq H.size tg hSH hG this x_5 hL_this hK_this nw hR_nw hL_nw hK_nw) (cwV 1 hts (tw_V tw_1330 tw_1331 tw_1332 tw_2 tw_1333) rfl rfl rfl cv_yX11_council_1 ⟨Nat.le_of_ble_eq_true rfl, Nat.le_of_ble_eq_true rfl⟩) ⟨pq_blind, pq_recv hK hP hL_this hK_this (by decide +kernel) rfl, pq_pre hK hN hP hD⟩ rfl rfl hl.1 rfl (lv_room (Nat.le_of_ble_eq_true rfl)) dL_law_1383 ⟨Nat.le_trans (Nat.le_add_right _ 4) hc2, Nat.le_trans (Nat.le_add_right _ 345) hs2⟩) hD hS hA hP2 hdis (fun r_6 σ1 μ1 H locs hw hP hD hP2 hdis hS => ?_)
  obtain ⟨ri_7, hu, hgx, hfx, hFx, hr1⟩ := hw
  obtain ⟨hua, hub⟩ := Prod.mk.inj hu
  rw [hua, hub] at hP hD
  rw [hua] at hdis
  have hG := hgx.1
  refine lv_pop hx hb dL_law_1386 rfl ?_
  refine lv_aload_n hx hb dL_law_1387 rfl (lv_at hl 1 rfl) ?_
  refine lv_aload_n hx hb dL_law_1388 rfl (lv_at hl 3 rfl) ?_
  refine lv_iload_n hx hb dL_law_1389 rfl (lv_at hl 0 rfl) ?_
  refine lv_iconst (v := 1) hx hb dL_law_1390 (by decide +kernel) ?_
  refine lv_iadd hx hb dL_law_1391 ?_
  refine va_sld hx hb hX hbl (Nat.not_le.mpr hbl) hS (lw_ix h3 hL hM (rg_w (rg_k (1 : Int32) 1 rfl) (by decide +kernel))) dL_law_1392 ?_
  refine lv_i2l hx hb dL_law_1393 rfl ?_
  refine lv_topl (fun x_8 ex_8 => ?_)
  refine lv_bipush (v := 32) hx hb dL_law_1394 (by decide +kernel) ?_
  refine lv_lshl hx hb dL_law_1396 rfl ?_
  refine lv_topl (fun x_9 ex_9 => ?_)
  refine lv_aload_n hx hb dL_law_1397 rfl (lv_at hl 3 rfl) ?_
  refine lv_iload_n hx hb dL_law_1398 rfl (lv_at hl 0 rfl) ?_
  refine lv_iconst (v := 2) hx hb dL_law_1399 (by decide +kernel) ?_
  refine lv_iadd hx hb dL_law_1400 ?_
  refine va_sld hx hb hX hbl (Nat.not_le.mpr hbl) hS (lw_ix h3 hL hM (rg_w (rg_k (2 : Int32) 2 rfl) (by decide +kernel))) dL_law_1401 ?_
  refine lv_i2l hx hb dL_law_1402 rfl ?_
  refine lv_topl (fun x_10 ex_10 => ?_)
  refine lv_ldc2 hx hb hown (hts _ (tw_c tw_6)) dL_law_1403 ?_
  refine lv_land hx hb dL_law_1406 ?_
  refine lv_topl (fun x_11 ex_11 => ?_)
  refine lv_lor hx hb dL_law_1407 ?_
  refine lv_topl (fun x_12 ex_12 => ?_)
  refine lx_i (va_runV (As := [.long x_12]) (rest := []) ⟨hx, hb, hml, hown, hts⟩ (s_X12_council l D t τ I2 J2 si sj sq H.size tg2 hSH2 hG2 that x_12 hL_that hK_that) (cwV 1 hts (tw_V tw_1354 tw_1355 tw_1356 tw_5 tw_1357) rfl rfl rfl cv_yX12_council_1 ⟨Nat.le_of_ble_eq_true rfl, Nat.le_of_ble_eq_true rfl⟩) ⟨pq_blind, pq_recv hK hP2 hL_that hK_that (by decide +kernel) rfl, pq_pre hK hN hP2 hD2⟩ rfl rfl hl.1 rfl (lv_room (Nat.le_of_ble_eq_true rfl)) dL_law_1408 ⟨Nat.le_trans (Nat.le_add_right _ 4) hc2, Nat.le_trans (Nat.le_add_right _ 345) hs2⟩) hD2 hS hA hP (fun a h1 h2 => hdis a h2 h1) (fun r_13 τ1 ν1 H locs hw hP2 hD2 hP hdis hS => ?_)
  obtain ⟨si_14, sj_15, hu, hgr, hfr, hFr, hr2⟩ := hw
  obtain ⟨hua, hub⟩ := Prod.mk.inj hu
  rw [hua, hub] at hP2 hD2
  rw [hua] at hdis
  have hG2 := hgr.1
  have hV2 := vt_12 hSH2 hL_that hK_that
  have hVn := vt_10 hSH hL_nw hK_nw
  have hVk := vt_10 hSH hL_kp hK_kp
  have hDN := (df_rf (df_cl hDN hgx hVn (by decide +kernel) (by decide +kernel)) hgr hV2 (by decide +kernel))
  have hDK := (df_im (df_cl hDK hgx hVk (by decide +kernel) (by decide +kernel)) hgr hV2 (by decide +kernel))
  have hVr := vt_4 hSH hRDo.2.1 hRDo.2.2
  have hRD := (rd_rf (rd_fr hRD hFx hAP.1.1 hVr) hgr hV2 (by decide +kernel))
  have hTN := (tc_rf (tc_cl hTN hgx (by decide +kernel)) hgr hV2 (by decide +kernel))
  have hTK := (tc_im (tc_cl hTK hgx (by decide +kernel)) hgr hV2 (by decide +kernel))
  have hRN := (rl_rf (rl_cl hRN hgx hVn (by decide +kernel) (by decide +kernel)) hgr hV2 (by decide +kernel))
  have hRK := (rl_im (rl_cl hRK hgx hVk (by decide +kernel) (by decide +kernel)) hgr hV2 (by decide +kernel))
  have hGN := (gr_rf (gr_cl hGN hgx hVn (by decide +kernel) (by decide +kernel) (by decide +kernel)) hgr hV2 (by decide +kernel))
  have hGK := (gr_im (gr_cl hGK hgx hVk (by decide +kernel) (by decide +kernel) (by decide +kernel)) hgr hV2 (by decide +kernel))
  have hdis : ∀ a, a ∈ τ.1 → a ∉ σ.1 := fun a h1 h2 => hdis a h2 h1
  refine lv_pop hx hb dL_law_1411 rfl ?_
  refine lv_goto (tgt := 1725) hx hb dL_law_1412 (by decide +kernel) ?_
  exact kk _ _ H locs ls (by omega) (by omega) ⟨σ, I, J, ri_7, rj, rq, tg, τ, I2, J2, si_14, sj_15, sq, tg2, nw, kp, tr, rd, ⟨hP, hD, hSH, hG, hFI, hL_this, hK_this⟩, ⟨hP2, hD2, hSH2, hG2, hL_that, hK_that⟩, hdis, hTR, hAP, hRN, hRK, hGN, hGK, hDN, hDK, hRDo, hRD, hTN, hTK, hS⟩ hl
