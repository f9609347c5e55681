theorem KB_X7_bitsOf : b_KB yX7_bitsOf cX7_bitsOf 3 (some .int) 1 := ⟨(b_in 1239 (by decide +kernel) rfl), (b_in 53 (by decide +kernel) rfl), by decide +kernel⟩
theorem KB_X7_count : b_KB yX7_count cX7_count 4 (some .int) 1 := ⟨(b_in 1243 (by decide +kernel) rfl), (b_in 53 (by decide +kernel) rfl), by decide +kernel⟩
theorem KI_L_9 : b_KI RL 9 yX6_init := ⟨(b_in 66 (by decide +kernel) rfl), (b_in 67 (by decide +kernel) rfl), rfl⟩
theorem OI_X6_3 : Cond.methodLink RX6 3 objectInit ∈ b_T ∧ Cond.instanceMethod objectInit ∈ b_T ∧ Cond.code objectInit ⟨#[0xb1]⟩ 1 none ∈ b_T := ⟨(b_in 69 (by decide +kernel) rfl), (b_in 70 (by decide +kernel) rfl), (b_in 71 (by decide +kernel) rfl)⟩
theorem KIN_X6_11 : b_KIN RX6 11 yX1_init := ⟨⟨"ShadowBand", List.mem_filter.mpr ⟨List.mem_of_getElem? (i := 29) (by decide +kernel), rfl⟩⟩, (b_in 75 (by decide +kernel) rfl), rfl⟩
theorem OI_X1_3 : Cond.methodLink RX1 3 objectInit ∈ b_T ∧ Cond.instanceMethod objectInit ∈ b_T ∧ Cond.code objectInit ⟨#[0xb1]⟩ 1 none ∈ b_T := ⟨(b_in 77 (by decide +kernel) rfl), (b_in 70 (by decide +kernel) rfl), (b_in 71 (by decide +kernel) rfl)⟩
theorem KI_X6_18 : b_KI RX6 18 yJx4a65c_init_da8c8 := ⟨(b_in 95 (by decide +kernel) rfl), (b_in 96 (by decide +kernel) rfl), rfl⟩
theorem KI_Jx4a65c_1 : b_KI RJx4a65c 1 yJxc12de_init_da8c8 := ⟨(b_in 98 (by decide +kernel) rfl), (b_in 99 (by decide +kernel) rfl), rfl⟩
theorem KI_Jxc12de_1 : b_KI RJxc12de 1 yJxa1e45_init_da8c8 := ⟨(b_in 101 (by decide +kernel) rfl), (b_in 102 (by decide +kernel) rfl), rfl⟩
theorem OI_Jxa1e45_1 : Cond.methodLink RJxa1e45 1 objectInit ∈ b_T ∧ Cond.instanceMethod objectInit ∈ b_T ∧ Cond.code objectInit ⟨#[0xb1]⟩ 1 none ∈ b_T := ⟨(b_in 104 (by decide +kernel) rfl), (b_in 70 (by decide +kernel) rfl), (b_in 71 (by decide +kernel) rfl)⟩
theorem KIN_X6_25 : b_KIN RX6 25 yX5_init := ⟨⟨"ShadowBand", List.mem_filter.mpr ⟨List.mem_of_getElem? (i := 76) (by decide +kernel), rfl⟩⟩, (b_in 122 (by decide +kernel) rfl), rfl⟩
theorem OI_X5_3 : Cond.methodLink RX5 3 objectInit ∈ b_T ∧ Cond.instanceMethod objectInit ∈ b_T ∧ Cond.code objectInit ⟨#[0xb1]⟩ 1 none ∈ b_T := ⟨(b_in 124 (by decide +kernel) rfl), (b_in 70 (by decide +kernel) rfl), (b_in 71 (by decide +kernel) rfl)⟩
theorem KIN_X6_32 : b_KIN RX6 32 yX0_init := ⟨⟨"ShadowBand", List.mem_filter.mpr ⟨List.mem_of_getElem? (i := 122) (by decide +kernel), rfl⟩⟩, (b_in 168 (by decide +kernel) rfl), rfl⟩
theorem OI_X0_3 : Cond.methodLink RX0 3 objectInit ∈ b_T ∧ Cond.instanceMethod objectInit ∈ b_T ∧ Cond.code objectInit ⟨#[0xb1]⟩ 1 none ∈ b_T := ⟨(b_in 170 (by decide +kernel) rfl), (b_in 70 (by decide +kernel) rfl), (b_in 71 (by decide +kernel) rfl)⟩
theorem KV_L_13 : b_KV RL 13 yX6_shot := ⟨(b_in 206 (by decide +kernel) rfl), (b_in 207 (by decide +kernel) rfl), (b_in 208 (by decide +kernel) rfl)⟩
theorem KS_X6_44 : b_KS RX6 44 yX6_within := ⟨(b_in 210 (by decide +kernel) rfl), (b_in 211 (by decide +kernel) rfl)⟩
theorem KV_X6_48 : b_KV RX6 48 yX1_add := ⟨(b_in 213 (by decide +kernel) rfl), (b_in 214 (by decide +kernel) rfl), (b_in 215 (by decide +kernel) rfl)⟩
theorem KV_L_18 : b_KV RL 18 yX6_cue := ⟨(b_in 217 (by decide +kernel) rfl), (b_in 218 (by decide +kernel) rfl), (b_in 219 (by decide +kernel) rfl)⟩
theorem KV_X6_52 : b_KV RX6 52 yX1_shotCount := ⟨(b_in 221 (by decide +kernel) rfl), (b_in 222 (by decide +kernel) rfl), (b_in 223 (by decide +kernel) rfl)⟩
theorem KV_X6_56 : b_KV RX6 56 yX1_mark := ⟨(b_in 225 (by decide +kernel) rfl), (b_in 226 (by decide +kernel) rfl), (b_in 227 (by decide +kernel) rfl)⟩
theorem KSN_X1_26 : b_KSN RX1 26 yX6_within := ⟨⟨"ShadowBand", List.mem_filter.mpr ⟨List.mem_of_getElem? (i := 184) (by decide +kernel), rfl⟩⟩, (b_in 211 (by decide +kernel) rfl)⟩
