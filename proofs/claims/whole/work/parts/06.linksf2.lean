theorem KV_L_109 : b_KV RL 109 yX7_effect := ⟨(b_in 1212 (by decide +kernel) rfl), (b_in 1213 (by decide +kernel) rfl), (b_in 1214 (by decide +kernel) rfl)⟩
theorem KV_L_113 : b_KV RL 113 yX7_hands := ⟨(b_in 1217 (by decide +kernel) rfl), (b_in 1218 (by decide +kernel) rfl), (b_in 1219 (by decide +kernel) rfl)⟩
theorem KV_L_117 : b_KV RL 117 yX7_free := ⟨(b_in 1221 (by decide +kernel) rfl), (b_in 1222 (by decide +kernel) rfl), (b_in 1223 (by decide +kernel) rfl)⟩
theorem KV_X7_274 : b_KV RX7 274 yX7_freeIn := ⟨(b_in 1225 (by decide +kernel) rfl), (b_in 1227 (by decide +kernel) rfl), (b_in 44 (by decide +kernel) rfl)⟩
theorem KV_L_121 : b_KV RL 121 yX7_clash := ⟨(b_in 1229 (by decide +kernel) rfl), (b_in 1230 (by decide +kernel) rfl), (b_in 1231 (by decide +kernel) rfl)⟩
theorem KV_L_125 : b_KV RL 125 yX7_left := ⟨(b_in 1233 (by decide +kernel) rfl), (b_in 1234 (by decide +kernel) rfl), (b_in 1235 (by decide +kernel) rfl)⟩
theorem KS_X7_277 : b_KS RX7 277 yX7_bitsOf := ⟨(b_in 1237 (by decide +kernel) rfl), (b_in 1238 (by decide +kernel) rfl)⟩
theorem KV_L_129 : b_KV RL 129 yX7_count := ⟨(b_in 1240 (by decide +kernel) rfl), (b_in 1241 (by decide +kernel) rfl), (b_in 1242 (by decide +kernel) rfl)⟩
theorem AC_I : Cond.arrayClass .int ∈ b_T := (b_in 91 (by decide +kernel) rfl)
theorem AC_Z : Cond.arrayClass .boolean ∈ b_T := (b_in 92 (by decide +kernel) rfl)
theorem CA0 : Cond.castable RX0 "java/lang/Object" ∈ b_Ca := List.mem_filter.mpr ⟨List.mem_of_getElem? (i := 1203) (by decide +kernel), rfl⟩
theorem CA1 : Cond.castable RX1 "java/lang/Object" ∈ b_Ca := List.mem_filter.mpr ⟨List.mem_of_getElem? (i := 1200) (by decide +kernel), rfl⟩
theorem CA2 : Cond.castable RX2 "java/lang/Object" ∈ b_Ca := List.mem_filter.mpr ⟨List.mem_of_getElem? (i := 1207) (by decide +kernel), rfl⟩
theorem CA3 : Cond.castable RX3 "java/lang/Object" ∈ b_Ca := List.mem_filter.mpr ⟨List.mem_of_getElem? (i := 1206) (by decide +kernel), rfl⟩
theorem CA4 : Cond.castable RX4 "java/lang/Object" ∈ b_Ca := List.mem_filter.mpr ⟨List.mem_of_getElem? (i := 1205) (by decide +kernel), rfl⟩
theorem CA5 : Cond.castable RX5 "java/lang/Object" ∈ b_Ca := List.mem_filter.mpr ⟨List.mem_of_getElem? (i := 1202) (by decide +kernel), rfl⟩
theorem CA6 : Cond.castable RX6 "java/lang/Object" ∈ b_Ca := List.mem_filter.mpr ⟨List.mem_of_getElem? (i := 1199) (by decide +kernel), rfl⟩
theorem CA7 : Cond.castable RX7 "java/lang/Object" ∈ b_Ca := List.mem_filter.mpr ⟨List.mem_of_getElem? (i := 1204) (by decide +kernel), rfl⟩
theorem CA8 : Cond.castable RJx4a65c "java/lang/Object" ∈ b_Ca := List.mem_filter.mpr ⟨List.mem_of_getElem? (i := 1201) (by decide +kernel), rfl⟩
