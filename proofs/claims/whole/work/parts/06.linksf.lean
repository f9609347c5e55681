theorem KV_L_64 : b_KV RL 64 yX7_step := ⟨(b_in 1140 (by decide +kernel) rfl), (b_in 1141 (by decide +kernel) rfl), (b_in 1142 (by decide +kernel) rfl)⟩
theorem KS_X7_197 : b_KS RX7 197 yX7_stepOf := ⟨(b_in 1144 (by decide +kernel) rfl), (b_in 1145 (by decide +kernel) rfl)⟩
theorem KV_L_68 : b_KV RL 68 yX7_rule := ⟨(b_in 1147 (by decide +kernel) rfl), (b_in 1148 (by decide +kernel) rfl), (b_in 1149 (by decide +kernel) rfl)⟩
theorem KV_L_73 : b_KV RL 73 yX7_programme := ⟨(b_in 1151 (by decide +kernel) rfl), (b_in 1152 (by decide +kernel) rfl), (b_in 1153 (by decide +kernel) rfl)⟩
theorem KV_X7_200 : b_KV RX7 200 yX7_tenths := ⟨(b_in 1155 (by decide +kernel) rfl), (b_in 1065 (by decide +kernel) rfl), (b_in 1066 (by decide +kernel) rfl)⟩
theorem KV_X7_203 : b_KV RX7 203 yX7_mayBe := ⟨(b_in 1156 (by decide +kernel) rfl), (b_in 1158 (by decide +kernel) rfl), (b_in 38 (by decide +kernel) rfl)⟩
theorem KV_X7_206 : b_KV RX7 206 yX7_costTo := ⟨(b_in 1160 (by decide +kernel) rfl), (b_in 1162 (by decide +kernel) rfl), (b_in 39 (by decide +kernel) rfl)⟩
theorem KV_L_77 : b_KV RL 77 yX7_given := ⟨(b_in 1164 (by decide +kernel) rfl), (b_in 1165 (by decide +kernel) rfl), (b_in 1166 (by decide +kernel) rfl)⟩
theorem KV_L_81 : b_KV RL 81 yX7_begin := ⟨(b_in 1168 (by decide +kernel) rfl), (b_in 1169 (by decide +kernel) rfl), (b_in 1170 (by decide +kernel) rfl)⟩
theorem KV_X7_255 : b_KV RX7 255 yX7_beginPiece := ⟨(b_in 1172 (by decide +kernel) rfl), (b_in 1174 (by decide +kernel) rfl), (b_in 40 (by decide +kernel) rfl)⟩
theorem KV_L_85 : b_KV RL 85 yX7_go := ⟨(b_in 1176 (by decide +kernel) rfl), (b_in 1177 (by decide +kernel) rfl), (b_in 1178 (by decide +kernel) rfl)⟩
theorem KV_X7_267 : b_KV RX7 267 yX7_tenth := ⟨(b_in 1180 (by decide +kernel) rfl), (b_in 1182 (by decide +kernel) rfl), (b_in 41 (by decide +kernel) rfl)⟩
theorem KV_X7_258 : b_KV RX7 258 yX7_doneBeats := ⟨(b_in 1184 (by decide +kernel) rfl), (b_in 1186 (by decide +kernel) rfl), (b_in 42 (by decide +kernel) rfl)⟩
theorem KV_X7_261 : b_KV RX7 261 yX7_endBlock := ⟨(b_in 1188 (by decide +kernel) rfl), (b_in 1190 (by decide +kernel) rfl), (b_in 43 (by decide +kernel) rfl)⟩
theorem KV_X7_264 : b_KV RX7 264 yX7_blockNow := ⟨(b_in 1192 (by decide +kernel) rfl), (b_in 1194 (by decide +kernel) rfl), (b_in 44 (by decide +kernel) rfl)⟩
theorem KV_L_89 : b_KV RL 89 yX7_seen := ⟨(b_in 1196 (by decide +kernel) rfl), (b_in 1197 (by decide +kernel) rfl), (b_in 1198 (by decide +kernel) rfl)⟩
theorem KV_L_93 : b_KV RL 93 yX7_reel := ⟨(b_in 1200 (by decide +kernel) rfl), (b_in 1201 (by decide +kernel) rfl), (b_in 1202 (by decide +kernel) rfl)⟩
theorem KV_L_97 : b_KV RL 97 yX7_now := ⟨(b_in 1204 (by decide +kernel) rfl), (b_in 1205 (by decide +kernel) rfl), (b_in 1206 (by decide +kernel) rfl)⟩
theorem KV_L_101 : b_KV RL 101 yX7_played := ⟨(b_in 1208 (by decide +kernel) rfl), (b_in 1209 (by decide +kernel) rfl), (b_in 1210 (by decide +kernel) rfl)⟩
theorem KV_L_105 : b_KV RL 105 yX7_fees := ⟨(b_in 1212 (by decide +kernel) rfl), (b_in 1213 (by decide +kernel) rfl), (b_in 1214 (by decide +kernel) rfl)⟩
theorem KV_L_109 : b_KV RL 109 yX7_effect := ⟨(b_in 1216 (by decide +kernel) rfl), (b_in 1217 (by decide +kernel) rfl), (b_in 1218 (by decide +kernel) rfl)⟩
theorem KV_L_113 : b_KV RL 113 yX7_hands := ⟨(b_in 1221 (by decide +kernel) rfl), (b_in 1222 (by decide +kernel) rfl), (b_in 1223 (by decide +kernel) rfl)⟩
theorem KV_L_117 : b_KV RL 117 yX7_free := ⟨(b_in 1225 (by decide +kernel) rfl), (b_in 1226 (by decide +kernel) rfl), (b_in 1227 (by decide +kernel) rfl)⟩
theorem KV_X7_274 : b_KV RX7 274 yX7_freeIn := ⟨(b_in 1229 (by decide +kernel) rfl), (b_in 1231 (by decide +kernel) rfl), (b_in 45 (by decide +kernel) rfl)⟩
theorem KV_L_121 : b_KV RL 121 yX7_clash := ⟨(b_in 1233 (by decide +kernel) rfl), (b_in 1234 (by decide +kernel) rfl), (b_in 1235 (by decide +kernel) rfl)⟩
theorem KV_L_125 : b_KV RL 125 yX7_left := ⟨(b_in 1237 (by decide +kernel) rfl), (b_in 1238 (by decide +kernel) rfl), (b_in 1239 (by decide +kernel) rfl)⟩
theorem KS_X7_277 : b_KS RX7 277 yX7_bitsOf := ⟨(b_in 1241 (by decide +kernel) rfl), (b_in 1242 (by decide +kernel) rfl)⟩
theorem KV_L_129 : b_KV RL 129 yX7_count := ⟨(b_in 1244 (by decide +kernel) rfl), (b_in 1245 (by decide +kernel) rfl), (b_in 1246 (by decide +kernel) rfl)⟩
theorem AC_I : Cond.arrayClass .int ∈ b_T := (b_in 92 (by decide +kernel) rfl)
theorem AC_Z : Cond.arrayClass .boolean ∈ b_T := (b_in 93 (by decide +kernel) rfl)
theorem CA0 : Cond.castable RX0 "java/lang/Object" ∈ b_Ca := List.mem_filter.mpr ⟨List.mem_of_getElem? (i := 1206) (by decide +kernel), rfl⟩
theorem CA1 : Cond.castable RX1 "java/lang/Object" ∈ b_Ca := List.mem_filter.mpr ⟨List.mem_of_getElem? (i := 1203) (by decide +kernel), rfl⟩
theorem CA2 : Cond.castable RX2 "java/lang/Object" ∈ b_Ca := List.mem_filter.mpr ⟨List.mem_of_getElem? (i := 1210) (by decide +kernel), rfl⟩
theorem CA3 : Cond.castable RX3 "java/lang/Object" ∈ b_Ca := List.mem_filter.mpr ⟨List.mem_of_getElem? (i := 1209) (by decide +kernel), rfl⟩
theorem CA4 : Cond.castable RX4 "java/lang/Object" ∈ b_Ca := List.mem_filter.mpr ⟨List.mem_of_getElem? (i := 1208) (by decide +kernel), rfl⟩
theorem CA5 : Cond.castable RX5 "java/lang/Object" ∈ b_Ca := List.mem_filter.mpr ⟨List.mem_of_getElem? (i := 1205) (by decide +kernel), rfl⟩
theorem CA6 : Cond.castable RX6 "java/lang/Object" ∈ b_Ca := List.mem_filter.mpr ⟨List.mem_of_getElem? (i := 1202) (by decide +kernel), rfl⟩
theorem CA7 : Cond.castable RX7 "java/lang/Object" ∈ b_Ca := List.mem_filter.mpr ⟨List.mem_of_getElem? (i := 1207) (by decide +kernel), rfl⟩
theorem CA8 : Cond.castable RJx4a65c "java/lang/Object" ∈ b_Ca := List.mem_filter.mpr ⟨List.mem_of_getElem? (i := 1204) (by decide +kernel), rfl⟩
