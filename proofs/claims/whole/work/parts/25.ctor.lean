/-! objects as they are made -/
abbrev K5 (L : Nat) : r_K := [none, none, none, none, some (false, 8), some (false, 96), some (false, 96), some (false, 144), some (false, 12), none, none, none, some (false, L)]

set_option maxHeartbeats 4000000 in
theorem c_X0_init (l : Launch) (G : b_G) {o : Nat} {h : b_H} {sz : Nat} (hob : h o = some (b_ob 0 [.null, .null, .null, .int 0, .int 0])) (ho2 : o < sz) : Con l G yX0_init cX0_init 1 none 1 20 3 90 [.ref o] h sz (fun r h2 s2 => r = none ∧ s2 = sz + 3 ∧ r_O K0 0 o (fun k => sz + r_ix K0 k) (fun k => if k = 4 then 2 else 0) (fun _ _ => 0) h2 ∧ ∀ b, b < sz → b ≠ o → h2 b = h b) := by
  refine Con.ofK (by decide +kernel) rfl rfl ?_
  intro S M
  have hc := M.2.2.2.1
  have ho : s_own S = RX0 := M.2.2.1
  have hFr : (s_R S).frames = 1 := by rw [M.2.2.2.2.2.2.2.1]
  have hLo : (s_R S).locals = 20 := by rw [M.2.2.2.2.2.2.2.1]
  have hCe : (s_R S).cells = 3 := by rw [M.2.2.2.2.2.2.2.1]
  have hSl : (s_R S).slots = 90 := by rw [M.2.2.2.2.2.2.2.1]
  have hnm : s_nm S = "<init>" := M.2.2.2.2.2.2.1
  have hM : r_Mk 0 o sz h [.null, .null, .null, .int 0, .int 0] [] h := ⟨hob, fun j x hj => by simp at hj, fun _ _ _ => rfl⟩
  refine v_aload_n hc dX0_init_0 rfl ?_
  refine v_obj hc ho dX0_init_1 OI_X0_3 (by omega) (by rw [hLo]; exact Nat.le_of_ble_eq_true rfl) ?_
  refine v_aload_n hc dX0_init_4 rfl ?_
  refine z_bipush hc dX0_init_5 (by decide) ?_
  refine k_newI hc dX0_init_7 hM ho2 rfl (N := 30) rfl (by decide) (by omega) (by omega) (fun hh hM => ?_)
  replace hM : r_Mk 0 o sz h [.null, .null, .null, .int 0, .int 0] [b_iA 30 (fun _ => 0)] hh := hM
  refine k_putF hc ho hnm dX0_init_9 F_X0_9 hM ho2 rfl ⟨rfl, rfl⟩ (fun hh hM => ?_)
  replace hM : r_Mk 0 o sz h [.ref sz, .null, .null, .int 0, .int 0] [b_iA 30 (fun _ => 0)] hh := hM
  refine v_aload_n hc dX0_init_12 rfl ?_
  refine z_bipush hc dX0_init_13 (by decide) ?_
  refine k_newI hc dX0_init_15 hM ho2 rfl (N := 30) rfl (by decide) (by omega) (by omega) (fun hh hM => ?_)
  replace hM : r_Mk 0 o sz h [.ref sz, .null, .null, .int 0, .int 0] [b_iA 30 (fun _ => 0), b_iA 30 (fun _ => 0)] hh := hM
  refine k_putF hc ho hnm dX0_init_17 F_X0_15 hM ho2 rfl ⟨rfl, rfl⟩ (fun hh hM => ?_)
  replace hM : r_Mk 0 o sz h [.ref sz, .ref (sz + 1), .null, .int 0, .int 0] [b_iA 30 (fun _ => 0), b_iA 30 (fun _ => 0)] hh := hM
  refine v_aload_n hc dX0_init_20 rfl ?_
  refine z_bipush hc dX0_init_21 (by decide) ?_
  refine k_newI hc dX0_init_23 hM ho2 rfl (N := 30) rfl (by decide) (by omega) (by omega) (fun hh hM => ?_)
  replace hM : r_Mk 0 o sz h [.ref sz, .ref (sz + 1), .null, .int 0, .int 0] [b_iA 30 (fun _ => 0), b_iA 30 (fun _ => 0), b_iA 30 (fun _ => 0)] hh := hM
  refine k_putF hc ho hnm dX0_init_25 F_X0_18 hM ho2 rfl ⟨rfl, rfl⟩ (fun hh hM => ?_)
  replace hM : r_Mk 0 o sz h [.ref sz, .ref (sz + 1), .ref (sz + 2), .int 0, .int 0] [b_iA 30 (fun _ => 0), b_iA 30 (fun _ => 0), b_iA 30 (fun _ => 0)] hh := hM
  refine v_aload_n hc dX0_init_28 rfl ?_
  refine z_iconst hc dX0_init_29 ?_
  refine k_put hc ho dX0_init_30 F_X0_21 hM ho2 rfl ⟨rfl, rfl⟩ (fun hh hM => ?_)
  replace hM : r_Mk 0 o sz h [.ref sz, .ref (sz + 1), .ref (sz + 2), .int 0, .int (zI 2)] [b_iA 30 (fun _ => 0), b_iA 30 (fun _ => 0), b_iA 30 (fun _ => 0)] hh := hM
  refine v_vret M dX0_init_33 (by omega) (by omega) ?_
  exact ⟨rfl, rfl, hM.done (K := K0) (i := fun k => if k = 4 then 2 else 0) (fun k => by unfold zb; (repeat' split) <;> omega) rfl rfl, hM.2.2⟩
set_option maxHeartbeats 4000000 in
theorem c_X1_init (l : Launch) (G : b_G) {o : Nat} {h : b_H} {sz : Nat} (hob : h o = some (b_ob 1 [.null, .null, .null, .int 0])) (ho2 : o < sz) : Con l G yX1_init cX1_init 1 none 1 20 3 180 [.ref o] h sz (fun r h2 s2 => r = none ∧ s2 = sz + 3 ∧ r_O K1 1 o (fun k => sz + r_ix K1 k) (fun _ => 0) (fun _ _ => 0) h2 ∧ ∀ b, b < sz → b ≠ o → h2 b = h b) := by
  refine Con.ofK (by decide +kernel) rfl rfl ?_
  intro S M
  have hc := M.2.2.2.1
  have ho : s_own S = RX1 := M.2.2.1
  have hFr : (s_R S).frames = 1 := by rw [M.2.2.2.2.2.2.2.1]
  have hLo : (s_R S).locals = 20 := by rw [M.2.2.2.2.2.2.2.1]
  have hCe : (s_R S).cells = 3 := by rw [M.2.2.2.2.2.2.2.1]
  have hSl : (s_R S).slots = 180 := by rw [M.2.2.2.2.2.2.2.1]
  have hnm : s_nm S = "<init>" := M.2.2.2.2.2.2.1
  have hM : r_Mk 1 o sz h [.null, .null, .null, .int 0] [] h := ⟨hob, fun j x hj => by simp at hj, fun _ _ _ => rfl⟩
  refine v_aload_n hc dX1_init_0 rfl ?_
  refine v_obj hc ho dX1_init_1 OI_X1_3 (by omega) (by rw [hLo]; exact Nat.le_of_ble_eq_true rfl) ?_
  refine v_aload_n hc dX1_init_4 rfl ?_
  refine z_bipush hc dX1_init_5 (by decide) ?_
  refine k_newI hc dX1_init_7 hM ho2 rfl (N := 60) rfl (by decide) (by omega) (by omega) (fun hh hM => ?_)
  replace hM : r_Mk 1 o sz h [.null, .null, .null, .int 0] [b_iA 60 (fun _ => 0)] hh := hM
  refine k_putF hc ho hnm dX1_init_9 F_X1_9 hM ho2 rfl ⟨rfl, rfl⟩ (fun hh hM => ?_)
  replace hM : r_Mk 1 o sz h [.ref sz, .null, .null, .int 0] [b_iA 60 (fun _ => 0)] hh := hM
  refine v_aload_n hc dX1_init_12 rfl ?_
  refine z_bipush hc dX1_init_13 (by decide) ?_
  refine k_newI hc dX1_init_15 hM ho2 rfl (N := 60) rfl (by decide) (by omega) (by omega) (fun hh hM => ?_)
  replace hM : r_Mk 1 o sz h [.ref sz, .null, .null, .int 0] [b_iA 60 (fun _ => 0), b_iA 60 (fun _ => 0)] hh := hM
  refine k_putF hc ho hnm dX1_init_17 F_X1_15 hM ho2 rfl ⟨rfl, rfl⟩ (fun hh hM => ?_)
  replace hM : r_Mk 1 o sz h [.ref sz, .ref (sz + 1), .null, .int 0] [b_iA 60 (fun _ => 0), b_iA 60 (fun _ => 0)] hh := hM
  refine v_aload_n hc dX1_init_20 rfl ?_
  refine z_bipush hc dX1_init_21 (by decide) ?_
  refine k_newZ hc dX1_init_23 hM ho2 rfl (N := 60) rfl (by decide) (by omega) (by omega) (fun hh hM => ?_)
  replace hM : r_Mk 1 o sz h [.ref sz, .ref (sz + 1), .null, .int 0] [b_iA 60 (fun _ => 0), b_iA 60 (fun _ => 0), b_zA 60 (fun _ => 0)] hh := hM
  refine k_putF hc ho hnm dX1_init_25 F_X1_18 hM ho2 rfl ⟨rfl, rfl⟩ (fun hh hM => ?_)
  replace hM : r_Mk 1 o sz h [.ref sz, .ref (sz + 1), .ref (sz + 2), .int 0] [b_iA 60 (fun _ => 0), b_iA 60 (fun _ => 0), b_zA 60 (fun _ => 0)] hh := hM
  refine v_vret M dX1_init_28 (by omega) (by omega) ?_
  exact ⟨rfl, rfl, hM.done (K := K1) (i := fun _ => 0) (fun k => by unfold zb; omega) rfl rfl, hM.2.2⟩
set_option maxHeartbeats 4000000 in
theorem c_X5_init (l : Launch) (G : b_G) {o : Nat} {h : b_H} {sz : Nat} (hob : h o = some (b_ob 5 [.int 0, .int 0, .int 0, .int 0, .null, .null, .null, .null, .null, .int 0, .int 0, .int 0, .null])) (ho2 : o < sz) : Con l G yX5_init cX5_init 1 none 1 20 6 356 [.ref o] h sz (fun r h2 s2 => r = none ∧ s2 = sz + 6 ∧ r_O (K5 0) 5 o (fun k => sz + r_ix (K5 0) k) (fun k => if k = 0 then 1 else if k = 1 then 6 else 0) (fun _ _ => 0) h2 ∧ ∀ b, b < sz → b ≠ o → h2 b = h b) := by
  refine Con.ofK (by decide +kernel) rfl rfl ?_
  intro S M
  have hc := M.2.2.2.1
  have ho : s_own S = RX5 := M.2.2.1
  have hFr : (s_R S).frames = 1 := by rw [M.2.2.2.2.2.2.2.1]
  have hLo : (s_R S).locals = 20 := by rw [M.2.2.2.2.2.2.2.1]
  have hCe : (s_R S).cells = 6 := by rw [M.2.2.2.2.2.2.2.1]
  have hSl : (s_R S).slots = 356 := by rw [M.2.2.2.2.2.2.2.1]
  have hnm : s_nm S = "<init>" := M.2.2.2.2.2.2.1
  have hM : r_Mk 5 o sz h [.int 0, .int 0, .int 0, .int 0, .null, .null, .null, .null, .null, .int 0, .int 0, .int 0, .null] [] h := ⟨hob, fun j x hj => by simp at hj, fun _ _ _ => rfl⟩
  refine v_aload_n hc dX5_init_0 rfl ?_
  refine v_obj hc ho dX5_init_1 OI_X5_3 (by omega) (by rw [hLo]; exact Nat.le_of_ble_eq_true rfl) ?_
  refine v_aload_n hc dX5_init_4 rfl ?_
  refine z_iconst hc dX5_init_5 ?_
  refine k_put hc ho dX5_init_6 F_X5_9 hM ho2 rfl ⟨rfl, rfl⟩ (fun hh hM => ?_)
  replace hM : r_Mk 5 o sz h [.int (zI 1), .int 0, .int 0, .int 0, .null, .null, .null, .null, .null, .int 0, .int 0, .int 0, .null] [] hh := hM
  refine v_aload_n hc dX5_init_9 rfl ?_
  refine z_bipush hc dX5_init_10 (by decide) ?_
  refine k_put hc ho dX5_init_12 F_X5_15 hM ho2 rfl ⟨rfl, rfl⟩ (fun hh hM => ?_)
  replace hM : r_Mk 5 o sz h [.int (zI 1), .int (zI 6), .int 0, .int 0, .null, .null, .null, .null, .null, .int 0, .int 0, .int 0, .null] [] hh := hM
  refine v_aload_n hc dX5_init_15 rfl ?_
  refine z_bipush hc dX5_init_16 (by decide) ?_
  refine k_newI hc dX5_init_18 hM ho2 rfl (N := 8) rfl (by decide) (by omega) (by omega) (fun hh hM => ?_)
  replace hM : r_Mk 5 o sz h [.int (zI 1), .int (zI 6), .int 0, .int 0, .null, .null, .null, .null, .null, .int 0, .int 0, .int 0, .null] [b_iA 8 (fun _ => 0)] hh := hM
  refine k_putF hc ho hnm dX5_init_20 F_X5_18 hM ho2 rfl ⟨rfl, rfl⟩ (fun hh hM => ?_)
  replace hM : r_Mk 5 o sz h [.int (zI 1), .int (zI 6), .int 0, .int 0, .ref sz, .null, .null, .null, .null, .int 0, .int 0, .int 0, .null] [b_iA 8 (fun _ => 0)] hh := hM
  refine v_aload_n hc dX5_init_23 rfl ?_
  refine z_bipush hc dX5_init_24 (by decide) ?_
  refine k_newI hc dX5_init_26 hM ho2 rfl (N := 96) rfl (by decide) (by omega) (by omega) (fun hh hM => ?_)
  replace hM : r_Mk 5 o sz h [.int (zI 1), .int (zI 6), .int 0, .int 0, .ref sz, .null, .null, .null, .null, .int 0, .int 0, .int 0, .null] [b_iA 8 (fun _ => 0), b_iA 96 (fun _ => 0)] hh := hM
  refine k_putF hc ho hnm dX5_init_28 F_X5_22 hM ho2 rfl ⟨rfl, rfl⟩ (fun hh hM => ?_)
  replace hM : r_Mk 5 o sz h [.int (zI 1), .int (zI 6), .int 0, .int 0, .ref sz, .ref (sz + 1), .null, .null, .null, .int 0, .int 0, .int 0, .null] [b_iA 8 (fun _ => 0), b_iA 96 (fun _ => 0)] hh := hM
  refine v_aload_n hc dX5_init_31 rfl ?_
  refine z_bipush hc dX5_init_32 (by decide) ?_
  refine k_newI hc dX5_init_34 hM ho2 rfl (N := 96) rfl (by decide) (by omega) (by omega) (fun hh hM => ?_)
  replace hM : r_Mk 5 o sz h [.int (zI 1), .int (zI 6), .int 0, .int 0, .ref sz, .ref (sz + 1), .null, .null, .null, .int 0, .int 0, .int 0, .null] [b_iA 8 (fun _ => 0), b_iA 96 (fun _ => 0), b_iA 96 (fun _ => 0)] hh := hM
  refine k_putF hc ho hnm dX5_init_36 F_X5_25 hM ho2 rfl ⟨rfl, rfl⟩ (fun hh hM => ?_)
  replace hM : r_Mk 5 o sz h [.int (zI 1), .int (zI 6), .int 0, .int 0, .ref sz, .ref (sz + 1), .ref (sz + 2), .null, .null, .int 0, .int 0, .int 0, .null] [b_iA 8 (fun _ => 0), b_iA 96 (fun _ => 0), b_iA 96 (fun _ => 0)] hh := hM
  refine v_aload_n hc dX5_init_39 rfl ?_
  refine z_sipush hc dX5_init_40 (by decide) ?_
  refine k_newI hc dX5_init_43 hM ho2 rfl (N := 144) rfl (by decide) (by omega) (by omega) (fun hh hM => ?_)
  replace hM : r_Mk 5 o sz h [.int (zI 1), .int (zI 6), .int 0, .int 0, .ref sz, .ref (sz + 1), .ref (sz + 2), .null, .null, .int 0, .int 0, .int 0, .null] [b_iA 8 (fun _ => 0), b_iA 96 (fun _ => 0), b_iA 96 (fun _ => 0), b_iA 144 (fun _ => 0)] hh := hM
  refine k_putF hc ho hnm dX5_init_45 F_X5_28 hM ho2 rfl ⟨rfl, rfl⟩ (fun hh hM => ?_)
  replace hM : r_Mk 5 o sz h [.int (zI 1), .int (zI 6), .int 0, .int 0, .ref sz, .ref (sz + 1), .ref (sz + 2), .ref (sz + 3), .null, .int 0, .int 0, .int 0, .null] [b_iA 8 (fun _ => 0), b_iA 96 (fun _ => 0), b_iA 96 (fun _ => 0), b_iA 144 (fun _ => 0)] hh := hM
  refine v_aload_n hc dX5_init_48 rfl ?_
  refine z_bipush hc dX5_init_49 (by decide) ?_
  refine k_newI hc dX5_init_51 hM ho2 rfl (N := 12) rfl (by decide) (by omega) (by omega) (fun hh hM => ?_)
  replace hM : r_Mk 5 o sz h [.int (zI 1), .int (zI 6), .int 0, .int 0, .ref sz, .ref (sz + 1), .ref (sz + 2), .ref (sz + 3), .null, .int 0, .int 0, .int 0, .null] [b_iA 8 (fun _ => 0), b_iA 96 (fun _ => 0), b_iA 96 (fun _ => 0), b_iA 144 (fun _ => 0), b_iA 12 (fun _ => 0)] hh := hM
  refine k_putF hc ho hnm dX5_init_53 F_X5_31 hM ho2 rfl ⟨rfl, rfl⟩ (fun hh hM => ?_)
  replace hM : r_Mk 5 o sz h [.int (zI 1), .int (zI 6), .int 0, .int 0, .ref sz, .ref (sz + 1), .ref (sz + 2), .ref (sz + 3), .ref (sz + 4), .int 0, .int 0, .int 0, .null] [b_iA 8 (fun _ => 0), b_iA 96 (fun _ => 0), b_iA 96 (fun _ => 0), b_iA 144 (fun _ => 0), b_iA 12 (fun _ => 0)] hh := hM
  refine v_aload_n hc dX5_init_56 rfl ?_
  refine z_iconst hc dX5_init_57 ?_
  refine k_newI hc dX5_init_58 hM ho2 rfl (N := 0) rfl (by decide) (by omega) (by omega) (fun hh hM => ?_)
  replace hM : r_Mk 5 o sz h [.int (zI 1), .int (zI 6), .int 0, .int 0, .ref sz, .ref (sz + 1), .ref (sz + 2), .ref (sz + 3), .ref (sz + 4), .int 0, .int 0, .int 0, .null] [b_iA 8 (fun _ => 0), b_iA 96 (fun _ => 0), b_iA 96 (fun _ => 0), b_iA 144 (fun _ => 0), b_iA 12 (fun _ => 0), b_iA 0 (fun _ => 0)] hh := hM
  refine k_put hc ho dX5_init_60 F_X5_34 hM ho2 rfl ⟨rfl, rfl⟩ (fun hh hM => ?_)
  replace hM : r_Mk 5 o sz h [.int (zI 1), .int (zI 6), .int 0, .int 0, .ref sz, .ref (sz + 1), .ref (sz + 2), .ref (sz + 3), .ref (sz + 4), .int 0, .int 0, .int 0, .ref (sz + 5)] [b_iA 8 (fun _ => 0), b_iA 96 (fun _ => 0), b_iA 96 (fun _ => 0), b_iA 144 (fun _ => 0), b_iA 12 (fun _ => 0), b_iA 0 (fun _ => 0)] hh := hM
  refine v_vret M dX5_init_63 (by omega) (by omega) ?_
  exact ⟨rfl, rfl, hM.done (K := (K5 0)) (i := fun k => if k = 0 then 1 else if k = 1 then 6 else 0) (fun k => by unfold zb; (repeat' split) <;> omega) rfl rfl, hM.2.2⟩
