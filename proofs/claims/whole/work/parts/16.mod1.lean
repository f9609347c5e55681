/-! the reference: film and effects -/
abbrev K7 : r_K := [none, none, some (false, 60), some (false, 60), some (true, 60), none, some (false, 12), some (false, 12), some (false, 12), some (false, 12), some (true, 12), some (false, 12), some (false, 12), some (false, 96), some (false, 96), some (false, 96), some (true, 54536), some (false, 16), none, none, none, some (false, 96), some (false, 96), some (false, 9), some (false, 8), none, some (false, 8), some (false, 8), some (false, 8), some (false, 8), some (false, 8), some (false, 128), none, none, none, none, some (false, 8), some (false, 8), some (false, 8), some (false, 8), some (false, 128), none, none, none, none, none, none, none, none, some (false, 9), some (false, 12), none, none, none, some (false, 30), some (false, 30), some (false, 30), none]
def m_F (i : Nat → Int) (a : Nat → Nat → Int) : Prop := (0 ≤ i 1 ∧ i 1 ≤ 60) ∧ (∀ j, 0 ≤ a 4 j ∧ a 4 j ≤ 1) ∧ (∀ j, 0 ≤ a 2 j ∧ a 2 j ≤ 2000) ∧ (∀ j, 0 ≤ a 3 j ∧ a 3 j ≤ 5)
def m_E (i : Nat → Int) (a : Nat → Nat → Int) : Prop := (0 ≤ i 53 ∧ i 53 ≤ 30) ∧ (0 ≤ i 57 ∧ i 57 ≤ 4) ∧ (∀ j, 0 ≤ a 54 j ∧ a 54 j ≤ 100000) ∧ (∀ j, 0 ≤ a 56 j ∧ a 56 j ≤ 4)

set_option maxHeartbeats 4000000 in
theorem c_X7_shot (l : Launch) (G : b_G) {o : Nat} {ad : Nat → Nat} {i : Nat → Int} {a : Nat → Nat → Int} {h : b_H} {sz : Nat} (hO : r_O K7 7 o ad i a h) (hI : m_F i a) {x y : Int} (hx : zb x) (hy : zb y) : Con l G yX7_shot cX7_shot 3 (some .int) 1 22 0 0 [.ref o, .int (zI x), .int (zI y)] h sz (p_wr K7 7 o ad h sz (fun r i2 a2 => (¬ ((1 ≤ x ∧ x ≤ 2000) ∧ 0 ≤ y ∧ y ≤ 5) ∧ r = some (.int (zI (-1))) ∧ i2 = i ∧ a2 = a) ∨ (((1 ≤ x ∧ x ≤ 2000) ∧ 0 ≤ y ∧ y ≤ 5) ∧ i 1 = 60 ∧ r = some (.int (zI (-3))) ∧ i2 = i ∧ a2 = a) ∨ (((1 ≤ x ∧ x ≤ 2000) ∧ 0 ≤ y ∧ y ≤ 5) ∧ i 1 < 60 ∧ r = some (.int (zI (i 1))) ∧ i2 = b_up i 1 (i 1 + 1) ∧ a2 = r_up (r_up (r_up a 2 (i 1).toNat x) 3 (i 1).toNat y) 4 (i 1).toNat (bI (i 1 = 0))))) := by
  refine Con.ofK (by decide +kernel) rfl rfl ?_
  intro S M
  have hc := M.2.2.2.1
  have ho : s_own S = RX7 := M.2.2.1
  have hFr : (s_R S).frames = 1 := by rw [M.2.2.2.2.2.2.2.1]
  have hLo : (s_R S).locals = 22 := by rw [M.2.2.2.2.2.2.2.1]
  have hCe : (s_R S).cells = 0 := by rw [M.2.2.2.2.2.2.2.1]
  have hSl : (s_R S).slots = 0 := by rw [M.2.2.2.2.2.2.2.1]
  have hi := hO.2.2.2.1
  have ha := hO.2.2.2.2
  have hI3 := hI.1
  have hIc := hI.2.1
  have hIf := hI.2.2.1
  have hfr : ∀ b, ¬ r_own K7 o ad b → h b = h b := fun _ _ => rfl
  refine v_iload_n hc dX7_shot_0 rfl ?_
  refine z_iconst hc dX7_shot_1 ?_
  refine z_sipush hc dX7_shot_2 (by decide) ?_
  refine v_callS (As := [.int (zI (x)), .int (zI (1)), .int (zI (2000))]) hc ho dX7_shot_5 KS_X7_130 KB_X7_in (c_X7_in _ _ (x := x) (y := 1) (z := 2000) (by first | assumption | exact hi _ | exact ha _ _ | (unfold zb; omega)) (by first | assumption | exact hi _ | exact ha _ _ | (unfold zb; omega)) (by first | assumption | exact hi _ | exact ha _ _ | (unfold zb; omega))) rfl (Nat.le_of_ble_eq_true rfl) ⟨by omega, by omega⟩ ⟨by omega, by omega⟩ (fun r_ h_ sz_ q_ z_ => ?_)
  obtain ⟨rfl, rfl, rfl⟩ := q_
  have hb0 := @bI_0 (1 ≤ x ∧ x ≤ 2000) _
  have hb1 := @bI_1 (1 ≤ x ∧ x ≤ 2000) _
  have hbb := bI_bd (1 ≤ x ∧ x ≤ 2000)
  refine z_if_eq (tgt := 20) hc dX7_shot_8 (by decide) (by first | assumption | exact hi _ | exact ha _ _ | (unfold zb; omega)) (fun c_1 => ?_) (fun c_1 => ?_)
  · refine z_iconst hc dX7_shot_20 ?_
    refine z_iret M dX7_shot_21 (by omega) (by omega) ?_
    exact ⟨rfl, _, _, Or.inl ⟨by omega, rfl, rfl, rfl⟩, hO, hfr⟩
  · refine v_iload_n hc dX7_shot_11 rfl ?_
    refine z_iconst hc dX7_shot_12 ?_
    refine z_iconst hc dX7_shot_13 ?_
    refine v_callS (As := [.int (zI (y)), .int (zI (0)), .int (zI (5))]) hc ho dX7_shot_14 KS_X7_130 KB_X7_in (c_X7_in _ _ (x := y) (y := 0) (z := 5) (by first | assumption | exact hi _ | exact ha _ _ | (unfold zb; omega)) (by first | assumption | exact hi _ | exact ha _ _ | (unfold zb; omega)) (by first | assumption | exact hi _ | exact ha _ _ | (unfold zb; omega))) rfl (Nat.le_of_ble_eq_true rfl) ⟨by omega, by omega⟩ ⟨by omega, by omega⟩ (fun r_ h_ sz_ q_ z_ => ?_)
    obtain ⟨rfl, rfl, rfl⟩ := q_
    have hb2 := @bI_0 (0 ≤ y ∧ y ≤ 5) _
    have hb3 := @bI_1 (0 ≤ y ∧ y ≤ 5) _
    have hbb2 := bI_bd (0 ≤ y ∧ y ≤ 5)
    refine z_if_ne (tgt := 22) hc dX7_shot_17 (by decide) (by first | assumption | exact hi _ | exact ha _ _ | (unfold zb; omega)) (fun c_2 => ?_) (fun c_2 => ?_)
    · refine v_aload_n hc dX7_shot_22 rfl ?_
      refine r_get hc ho dX7_shot_23 F_X7_134 hO rfl ?_
      refine z_bipush hc dX7_shot_26 (by decide) ?_
      refine z_icmp_ne (tgt := 34) hc dX7_shot_28 (by decide) (by first | assumption | exact hi _ | exact ha _ _ | (unfold zb; omega)) (by first | assumption | exact hi _ | exact ha _ _ | (unfold zb; omega)) (fun c_3 => ?_) (fun c_3 => ?_)
      · refine v_aload_n hc dX7_shot_34 rfl ?_
        refine r_getA hc ho dX7_shot_35 F_X7_7 hO rfl ?_
        refine v_aload_n hc dX7_shot_38 rfl ?_
        refine r_get hc ho dX7_shot_39 F_X7_134 hO rfl ?_
        refine v_iload_n hc dX7_shot_42 rfl ?_
        refine r_iast hc dX7_shot_43 hO hfr 2 rfl (by decide) (by omega) (by omega) (by first | assumption | exact hi _ | exact ha _ _ | (unfold zb; omega)) (fun h hO hfr => ?_)
        have ha := hO.2.2.2.2
        refine v_aload_n hc dX7_shot_44 rfl ?_
        refine r_getA hc ho dX7_shot_45 F_X7_13 hO rfl ?_
        refine v_aload_n hc dX7_shot_48 rfl ?_
        refine r_get hc ho dX7_shot_49 F_X7_134 hO rfl ?_
        refine v_iload_n hc dX7_shot_52 rfl ?_
        refine r_iast hc dX7_shot_53 hO hfr 3 rfl (by decide) (by omega) (by omega) (by first | assumption | exact hi _ | exact ha _ _ | (unfold zb; omega)) (fun h hO hfr => ?_)
        have ha := hO.2.2.2.2
        refine v_aload_n hc dX7_shot_54 rfl ?_
        refine r_getA hc ho dX7_shot_55 F_X7_16 hO rfl ?_
        refine v_aload_n hc dX7_shot_58 rfl ?_
        refine r_get hc ho dX7_shot_59 F_X7_134 hO rfl ?_
        refine v_aload_n hc dX7_shot_62 rfl ?_
        refine r_get hc ho dX7_shot_63 F_X7_134 hO rfl ?_
        refine z_if_ne (tgt := 73) hc dX7_shot_66 (by decide) (by first | assumption | exact hi _ | exact ha _ _ | (unfold zb; omega)) (fun c_4 => ?_) (fun c_4 => ?_)
        · refine z_iconst hc dX7_shot_73 ?_
          refine r_zast hc dX7_shot_74 hO hfr 4 rfl (by decide) (by omega) (by omega) (by omega) (fun h hO hfr => ?_)
          have ha := hO.2.2.2.2
          refine v_aload_n hc dX7_shot_75 rfl ?_
          refine v_dup hc dX7_shot_76 rfl ?_
          refine r_get hc ho dX7_shot_77 F_X7_134 hO rfl ?_
          refine z_iconst hc dX7_shot_80 ?_
          refine z_iadd hc dX7_shot_81 ?_
          refine r_putI hc ho dX7_shot_82 F_X7_134 hO hfr rfl (by first | assumption | exact hi _ | exact ha _ _ | (unfold zb; omega)) (fun h hO hfr => ?_)
          have hi := hO.2.2.2.1
          refine v_aload_n hc dX7_shot_85 rfl ?_
          refine r_get hc ho dX7_shot_86 F_X7_134 hO rfl ?_
          refine z_iconst hc dX7_shot_89 ?_
          refine z_isub hc dX7_shot_90 ?_
          refine z_iret M dX7_shot_91 (by omega) (by omega) ?_
          first | exact ⟨rfl, _, _, Or.inr (Or.inr ⟨by omega, by omega, by simp [b_up], rfl, by rw [bI, if_pos (by omega)]⟩), hO, hfr⟩ | exact ⟨rfl, _, _, Or.inr (Or.inr ⟨by omega, by omega, by simp [b_up], rfl, by rw [bI, if_neg (by omega)]⟩), hO, hfr⟩
        · refine z_iconst hc dX7_shot_69 ?_
          refine v_goto (tgt := 74) hc dX7_shot_70 (by decide) ?_
          refine r_zast hc dX7_shot_74 hO hfr 4 rfl (by decide) (by omega) (by omega) (by omega) (fun h hO hfr => ?_)
          have ha := hO.2.2.2.2
          refine v_aload_n hc dX7_shot_75 rfl ?_
          refine v_dup hc dX7_shot_76 rfl ?_
          refine r_get hc ho dX7_shot_77 F_X7_134 hO rfl ?_
          refine z_iconst hc dX7_shot_80 ?_
          refine z_iadd hc dX7_shot_81 ?_
          refine r_putI hc ho dX7_shot_82 F_X7_134 hO hfr rfl (by first | assumption | exact hi _ | exact ha _ _ | (unfold zb; omega)) (fun h hO hfr => ?_)
          have hi := hO.2.2.2.1
          refine v_aload_n hc dX7_shot_85 rfl ?_
          refine r_get hc ho dX7_shot_86 F_X7_134 hO rfl ?_
          refine z_iconst hc dX7_shot_89 ?_
          refine z_isub hc dX7_shot_90 ?_
          refine z_iret M dX7_shot_91 (by omega) (by omega) ?_
          first | exact ⟨rfl, _, _, Or.inr (Or.inr ⟨by omega, by omega, by simp [b_up], rfl, by rw [bI, if_pos (by omega)]⟩), hO, hfr⟩ | exact ⟨rfl, _, _, Or.inr (Or.inr ⟨by omega, by omega, by simp [b_up], rfl, by rw [bI, if_neg (by omega)]⟩), hO, hfr⟩
      · refine z_bipush hc dX7_shot_31 (by decide) ?_
        refine z_iret M dX7_shot_33 (by omega) (by omega) ?_
        exact ⟨rfl, _, _, Or.inr (Or.inl ⟨by omega, by omega, rfl, rfl, rfl⟩), hO, hfr⟩
    · refine z_iconst hc dX7_shot_20 ?_
      refine z_iret M dX7_shot_21 (by omega) (by omega) ?_
      exact ⟨rfl, _, _, Or.inl ⟨by omega, rfl, rfl, rfl⟩, hO, hfr⟩
set_option maxHeartbeats 4000000 in
theorem c_X7_cue (l : Launch) (G : b_G) {o : Nat} {ad : Nat → Nat} {i : Nat → Int} {a : Nat → Nat → Int} {h : b_H} {sz : Nat} (hO : r_O K7 7 o ad i a h) (hI : m_F i a) {x y : Int} (hx : zb x) (hy : zb y) : Con l G yX7_cue cX7_cue 4 (some .int) 1 22 0 0 [.ref o, .int (zI x), .int (zI y)] h sz (p_wr K7 7 o ad h sz (fun r i2 a2 => (¬ ((1 ≤ x ∧ x ≤ i 1 - 1) ∧ 0 ≤ y ∧ y ≤ 1) ∧ r = some (.int (zI (-1))) ∧ i2 = i ∧ a2 = a) ∨ (((1 ≤ x ∧ x ≤ i 1 - 1) ∧ 0 ≤ y ∧ y ≤ 1) ∧ r = some (.int (zI (a 4 x.toNat))) ∧ i2 = i ∧ a2 = r_up a 4 x.toNat (bI (y = 1))))) := by
  refine Con.ofK (by decide +kernel) rfl rfl ?_
  intro S M
  have hc := M.2.2.2.1
  have ho : s_own S = RX7 := M.2.2.1
  have hFr : (s_R S).frames = 1 := by rw [M.2.2.2.2.2.2.2.1]
  have hLo : (s_R S).locals = 22 := by rw [M.2.2.2.2.2.2.2.1]
  have hCe : (s_R S).cells = 0 := by rw [M.2.2.2.2.2.2.2.1]
  have hSl : (s_R S).slots = 0 := by rw [M.2.2.2.2.2.2.2.1]
  have hi := hO.2.2.2.1
  have ha := hO.2.2.2.2
  have hI3 := hI.1
  have hIc := hI.2.1
  have hIf := hI.2.2.1
  have hfr : ∀ b, ¬ r_own K7 o ad b → h b = h b := fun _ _ => rfl
  refine v_iload_n hc dX7_cue_0 rfl ?_
  refine z_iconst hc dX7_cue_1 ?_
  refine v_aload_n hc dX7_cue_2 rfl ?_
  refine r_get hc ho dX7_cue_3 F_X7_134 hO rfl ?_
  refine z_iconst hc dX7_cue_6 ?_
  refine z_isub hc dX7_cue_7 ?_
  refine v_callS (As := [.int (zI (x)), .int (zI (1)), .int (zI (i 1 - 1))]) hc ho dX7_cue_8 KS_X7_130 KB_X7_in (c_X7_in _ _ (x := x) (y := 1) (z := i 1 - 1) (by first | assumption | exact hi _ | exact ha _ _ | (unfold zb; omega)) (by first | assumption | exact hi _ | exact ha _ _ | (unfold zb; omega)) (by first | assumption | exact hi _ | exact ha _ _ | (unfold zb; omega))) rfl (Nat.le_of_ble_eq_true rfl) ⟨by omega, by omega⟩ ⟨by omega, by omega⟩ (fun r_ h_ sz_ q_ z_ => ?_)
  obtain ⟨rfl, rfl, rfl⟩ := q_
  have hb0 := @bI_0 (1 ≤ x ∧ x ≤ i 1 - 1) _
  have hb1 := @bI_1 (1 ≤ x ∧ x ≤ i 1 - 1) _
  have hbb := bI_bd (1 ≤ x ∧ x ≤ i 1 - 1)
  refine z_if_eq (tgt := 23) hc dX7_cue_11 (by decide) (by first | assumption | exact hi _ | exact ha _ _ | (unfold zb; omega)) (fun c_1 => ?_) (fun c_1 => ?_)
  · refine z_iconst hc dX7_cue_23 ?_
    refine z_iret M dX7_cue_24 (by omega) (by omega) ?_
    exact ⟨rfl, _, _, Or.inl ⟨by omega, rfl, rfl, rfl⟩, hO, hfr⟩
  · refine v_iload_n hc dX7_cue_14 rfl ?_
    refine z_iconst hc dX7_cue_15 ?_
    refine z_iconst hc dX7_cue_16 ?_
    refine v_callS (As := [.int (zI (y)), .int (zI (0)), .int (zI (1))]) hc ho dX7_cue_17 KS_X7_130 KB_X7_in (c_X7_in _ _ (x := y) (y := 0) (z := 1) (by first | assumption | exact hi _ | exact ha _ _ | (unfold zb; omega)) (by first | assumption | exact hi _ | exact ha _ _ | (unfold zb; omega)) (by first | assumption | exact hi _ | exact ha _ _ | (unfold zb; omega))) rfl (Nat.le_of_ble_eq_true rfl) ⟨by omega, by omega⟩ ⟨by omega, by omega⟩ (fun r_ h_ sz_ q_ z_ => ?_)
    obtain ⟨rfl, rfl, rfl⟩ := q_
    have hb2 := @bI_0 (0 ≤ y ∧ y ≤ 1) _
    have hb3 := @bI_1 (0 ≤ y ∧ y ≤ 1) _
    have hbb2 := bI_bd (0 ≤ y ∧ y ≤ 1)
    refine z_if_ne (tgt := 25) hc dX7_cue_20 (by decide) (by first | assumption | exact hi _ | exact ha _ _ | (unfold zb; omega)) (fun c_2 => ?_) (fun c_2 => ?_)
    · have hcx := hIc x.toNat
      refine v_aload_n hc dX7_cue_25 rfl ?_
      refine r_getA hc ho dX7_cue_26 F_X7_16 hO rfl ?_
      refine v_iload_n hc dX7_cue_29 rfl ?_
      refine r_zald hc dX7_cue_30 hO 4 rfl (by decide) (by omega) (by omega) ?_
      refine z_if_eq (tgt := 38) hc dX7_cue_31 (by decide) (by first | assumption | exact hi _ | exact ha _ _ | (unfold zb; omega)) (fun c_3 => ?_) (fun c_3 => ?_)
      · refine z_iconst hc dX7_cue_38 ?_
        refine v_istore_n hc dX7_cue_39 (Nat.le_of_ble_eq_true rfl) ?_
        refine v_aload_n hc dX7_cue_40 rfl ?_
        refine r_getA hc ho dX7_cue_41 F_X7_16 hO rfl ?_
        refine v_iload_n hc dX7_cue_44 rfl ?_
        refine v_iload_n hc dX7_cue_45 rfl ?_
        refine z_iconst hc dX7_cue_46 ?_
        refine z_icmp_ne (tgt := 54) hc dX7_cue_47 (by decide) (by first | assumption | exact hi _ | exact ha _ _ | (unfold zb; omega)) (by first | assumption | exact hi _ | exact ha _ _ | (unfold zb; omega)) (fun c_4 => ?_) (fun c_4 => ?_)
        · refine z_iconst hc dX7_cue_54 ?_
          refine r_zast hc dX7_cue_55 hO hfr 4 rfl (by decide) (by omega) (by omega) (by omega) (fun h hO hfr => ?_)
          have ha := hO.2.2.2.2
          refine v_iload_n hc dX7_cue_56 rfl ?_
          refine z_iret M dX7_cue_57 (by omega) (by omega) ?_
          first | exact ⟨rfl, _, _, Or.inr ⟨by omega, by congr 3; omega, rfl, by rw [bI, if_pos (by omega)]⟩, hO, hfr⟩ | exact ⟨rfl, _, _, Or.inr ⟨by omega, by congr 3; omega, rfl, by rw [bI, if_neg (by omega)]⟩, hO, hfr⟩
        · refine z_iconst hc dX7_cue_50 ?_
          refine v_goto (tgt := 55) hc dX7_cue_51 (by decide) ?_
          refine r_zast hc dX7_cue_55 hO hfr 4 rfl (by decide) (by omega) (by omega) (by omega) (fun h hO hfr => ?_)
          have ha := hO.2.2.2.2
          refine v_iload_n hc dX7_cue_56 rfl ?_
          refine z_iret M dX7_cue_57 (by omega) (by omega) ?_
          first | exact ⟨rfl, _, _, Or.inr ⟨by omega, by congr 3; omega, rfl, by rw [bI, if_pos (by omega)]⟩, hO, hfr⟩ | exact ⟨rfl, _, _, Or.inr ⟨by omega, by congr 3; omega, rfl, by rw [bI, if_neg (by omega)]⟩, hO, hfr⟩
      · refine z_iconst hc dX7_cue_34 ?_
        refine v_goto (tgt := 39) hc dX7_cue_35 (by decide) ?_
        refine v_istore_n hc dX7_cue_39 (Nat.le_of_ble_eq_true rfl) ?_
        refine v_aload_n hc dX7_cue_40 rfl ?_
        refine r_getA hc ho dX7_cue_41 F_X7_16 hO rfl ?_
        refine v_iload_n hc dX7_cue_44 rfl ?_
        refine v_iload_n hc dX7_cue_45 rfl ?_
        refine z_iconst hc dX7_cue_46 ?_
        refine z_icmp_ne (tgt := 54) hc dX7_cue_47 (by decide) (by first | assumption | exact hi _ | exact ha _ _ | (unfold zb; omega)) (by first | assumption | exact hi _ | exact ha _ _ | (unfold zb; omega)) (fun c_5 => ?_) (fun c_5 => ?_)
        · refine z_iconst hc dX7_cue_54 ?_
          refine r_zast hc dX7_cue_55 hO hfr 4 rfl (by decide) (by omega) (by omega) (by omega) (fun h hO hfr => ?_)
          have ha := hO.2.2.2.2
          refine v_iload_n hc dX7_cue_56 rfl ?_
          refine z_iret M dX7_cue_57 (by omega) (by omega) ?_
          first | exact ⟨rfl, _, _, Or.inr ⟨by omega, by congr 3; omega, rfl, by rw [bI, if_pos (by omega)]⟩, hO, hfr⟩ | exact ⟨rfl, _, _, Or.inr ⟨by omega, by congr 3; omega, rfl, by rw [bI, if_neg (by omega)]⟩, hO, hfr⟩
        · refine z_iconst hc dX7_cue_50 ?_
          refine v_goto (tgt := 55) hc dX7_cue_51 (by decide) ?_
          refine r_zast hc dX7_cue_55 hO hfr 4 rfl (by decide) (by omega) (by omega) (by omega) (fun h hO hfr => ?_)
          have ha := hO.2.2.2.2
          refine v_iload_n hc dX7_cue_56 rfl ?_
          refine z_iret M dX7_cue_57 (by omega) (by omega) ?_
          first | exact ⟨rfl, _, _, Or.inr ⟨by omega, by congr 3; omega, rfl, by rw [bI, if_pos (by omega)]⟩, hO, hfr⟩ | exact ⟨rfl, _, _, Or.inr ⟨by omega, by congr 3; omega, rfl, by rw [bI, if_neg (by omega)]⟩, hO, hfr⟩
    · refine z_iconst hc dX7_cue_23 ?_
      refine z_iret M dX7_cue_24 (by omega) (by omega) ?_
      exact ⟨rfl, _, _, Or.inl ⟨by omega, rfl, rfl, rfl⟩, hO, hfr⟩
set_option maxHeartbeats 4000000 in
theorem l_X7_stretches_4 {S : b_S} {l : Launch} {G : b_G} {o : Nat} {ad : Nat → Nat} {i : Nat → Int} {a : Nat → Nat → Int} {h : b_H} {sz : Nat} {post : Option Value → b_H → Nat → Prop} (M : b_M S l G RX7 cX7_stretches 3 (some .int) "stretches" 0 0 0 0 h sz post) (hO : r_O K7 7 o ad i a h) (hI : m_F i a) (P : post (some (.int (zI (f_ct (a 4) (i 1).toNat)))) h sz) : ∀ (d : Nat) (r x : Int), (i 1 - x).toNat = d → 0 ≤ x → x ≤ i 1 → r = f_ct (a 4) x.toNat → V S 0 0 h sz 4 [some (.ref o), some (.int (zI r)), some (.int (zI x))] [] := by
  have hc := M.2.2.2.1
  have ho : s_own S = RX7 := M.2.2.1
  have hFr : (s_R S).frames = 0 := by rw [M.2.2.2.2.2.2.2.1]
  have hLo : (s_R S).locals = 0 := by rw [M.2.2.2.2.2.2.2.1]
  have hCe : (s_R S).cells = 0 := by rw [M.2.2.2.2.2.2.2.1]
  have hSl : (s_R S).slots = 0 := by rw [M.2.2.2.2.2.2.2.1]
  have hi := hO.2.2.2.1
  have ha := hO.2.2.2.2
  have hI3 := hI.1
  have hIc := hI.2.1
  have hIf := hI.2.2.1
  intro d
  induction d using Nat.strongRecOn with
  | ind d ih =>
    intro r x hd h0 h1 hr
    refine v_iload_n hc dX7_stretches_4 rfl ?_
    refine v_aload_n hc dX7_stretches_5 rfl ?_
    refine r_get hc ho dX7_stretches_6 F_X7_134 hO rfl ?_
    refine z_icmp_ge (tgt := 35) hc dX7_stretches_9 (by decide) (by first | assumption | exact hi _ | exact ha _ _ | (unfold zb; omega)) (by first | assumption | exact hi _ | exact ha _ _ | (unfold zb; omega)) (fun c_1 => ?_) (fun c_1 => ?_)
    · refine v_iload_n hc dX7_stretches_35 rfl ?_
      refine z_iret M dX7_stretches_36 (by omega) (by omega) ?_
      rw [hr, show x = i 1 by omega]
      exact P
    · refine v_iload_n hc dX7_stretches_12 rfl ?_
      refine v_aload_n hc dX7_stretches_13 rfl ?_
      refine r_getA hc ho dX7_stretches_14 F_X7_16 hO rfl ?_
      refine v_iload_n hc dX7_stretches_17 rfl ?_
      refine r_zald hc dX7_stretches_18 hO 4 rfl (by decide) (by omega) (by omega) ?_
      refine z_if_eq (tgt := 26) hc dX7_stretches_19 (by decide) (by first | assumption | exact hi _ | exact ha _ _ | (unfold zb; omega)) (fun c_2 => ?_) (fun c_2 => ?_)
      · refine z_iconst hc dX7_stretches_26 ?_
        refine z_iadd hc dX7_stretches_27 ?_
        refine v_istore_n hc dX7_stretches_28 (Nat.le_of_ble_eq_true rfl) ?_
        refine z_iinc hc dX7_stretches_29 rfl ?_
        refine v_goto (tgt := 4) hc dX7_stretches_32 (by decide) ?_
        exact ih _ (by omega) _ _ rfl (by omega) (by omega) (by rw [show (x + 1).toNat = x.toNat + 1 by omega, f_ct]; split <;> omega)
      · refine z_iconst hc dX7_stretches_22 ?_
        refine v_goto (tgt := 27) hc dX7_stretches_23 (by decide) ?_
        refine z_iadd hc dX7_stretches_27 ?_
        refine v_istore_n hc dX7_stretches_28 (Nat.le_of_ble_eq_true rfl) ?_
        refine z_iinc hc dX7_stretches_29 rfl ?_
        refine v_goto (tgt := 4) hc dX7_stretches_32 (by decide) ?_
        exact ih _ (by omega) _ _ rfl (by omega) (by omega) (by rw [show (x + 1).toNat = x.toNat + 1 by omega, f_ct]; split <;> omega)
set_option maxHeartbeats 4000000 in
theorem c_X7_stretches (l : Launch) (G : b_G) {o : Nat} {ad : Nat → Nat} {i : Nat → Int} {a : Nat → Nat → Int} {h : b_H} {sz : Nat} (hO : r_O K7 7 o ad i a h) (hI : m_F i a)  : Con l G yX7_stretches cX7_stretches 3 (some .int) 0 0 0 0 [.ref o] h sz (p_ro (some (.int (zI (f_ct (a 4) (i 1).toNat)))) h sz) := by
  refine Con.ofK (by decide +kernel) rfl rfl ?_
  intro S M
  have hc := M.2.2.2.1
  have ho : s_own S = RX7 := M.2.2.1
  have hFr : (s_R S).frames = 0 := by rw [M.2.2.2.2.2.2.2.1]
  have hLo : (s_R S).locals = 0 := by rw [M.2.2.2.2.2.2.2.1]
  have hCe : (s_R S).cells = 0 := by rw [M.2.2.2.2.2.2.2.1]
  have hSl : (s_R S).slots = 0 := by rw [M.2.2.2.2.2.2.2.1]
  have hi := hO.2.2.2.1
  have ha := hO.2.2.2.2
  have hI3 := hI.1
  have hIc := hI.2.1
  have hIf := hI.2.2.1
  refine z_iconst hc dX7_stretches_0 ?_
  refine v_istore_n hc dX7_stretches_1 (Nat.le_of_ble_eq_true rfl) ?_
  refine z_iconst hc dX7_stretches_2 ?_
  refine v_istore_n hc dX7_stretches_3 (Nat.le_of_ble_eq_true rfl) ?_
  exact l_X7_stretches_4 M hO hI ⟨rfl, rfl, rfl⟩ _ _ _ rfl (by omega) (by omega) rfl
set_option maxHeartbeats 4000000 in
theorem l_X7_firstOf_4 {S : b_S} {l : Launch} {G : b_G} {o : Nat} {ad : Nat → Nat} {i : Nat → Int} {a : Nat → Nat → Int} {h : b_H} {sz : Nat} {post : Option Value → b_H → Nat → Prop} (M : b_M S l G RX7 cX7_firstOf 4 (some .int) "firstOf" 0 0 0 0 h sz post) (hO : r_O K7 7 o ad i a h) (hI : m_F i a) {s : Int} (hs : -1000 ≤ s ∧ s ≤ 1000) {v : Nat} (P : post (some (.int (zI (v : Int)))) h sz) : ∀ (d : Nat) (t x : Int), (i 1 - x).toNat = d → 0 ≤ x → x ≤ i 1 → t = s - f_ct (a 4) x.toNat → f_fi (fun k => decide (¬ a 4 k = 0 ∧ f_ct (a 4) k = s)) ((i 1).toNat - x.toNat) x.toNat = v → V S 0 0 h sz 4 [some (.ref o), some (.int (zI s)), some (.int (zI t)), some (.int (zI x))] [] := by
  have hc := M.2.2.2.1
  have ho : s_own S = RX7 := M.2.2.1
  have hFr : (s_R S).frames = 0 := by rw [M.2.2.2.2.2.2.2.1]
  have hLo : (s_R S).locals = 0 := by rw [M.2.2.2.2.2.2.2.1]
  have hCe : (s_R S).cells = 0 := by rw [M.2.2.2.2.2.2.2.1]
  have hSl : (s_R S).slots = 0 := by rw [M.2.2.2.2.2.2.2.1]
  have hi := hO.2.2.2.1
  have ha := hO.2.2.2.2
  have hI3 := hI.1
  have hIc := hI.2.1
  have hIf := hI.2.2.1
  intro d
  induction d using Nat.strongRecOn with
  | ind d ih =>
    intro t x hd h0 h1 hr hv
    have hcb := f_ct_bd (a 4) x.toNat
    refine v_iload_n hc dX7_firstOf_4 rfl ?_
    refine v_aload_n hc dX7_firstOf_5 rfl ?_
    refine r_get hc ho dX7_firstOf_6 F_X7_134 hO rfl ?_
    refine z_icmp_ge (tgt := 39) hc dX7_firstOf_9 (by decide) (by first | assumption | exact hi _ | exact ha _ _ | (unfold zb; omega)) (by first | assumption | exact hi _ | exact ha _ _ | (unfold zb; omega)) (fun c_1 => ?_) (fun c_1 => ?_)
    · refine v_aload_n hc dX7_firstOf_39 rfl ?_
      refine r_get hc ho dX7_firstOf_40 F_X7_134 hO rfl ?_
      refine z_iret M dX7_firstOf_43 (by omega) (by omega) ?_
      rw [show (i 1).toNat - x.toNat = 0 by omega, f_fi] at hv
      rw [show i 1 = ((v : Nat) : Int) by omega]
      exact P
    · refine v_aload_n hc dX7_firstOf_12 rfl ?_
      refine r_getA hc ho dX7_firstOf_13 F_X7_16 hO rfl ?_
      refine v_iload_n hc dX7_firstOf_16 rfl ?_
      refine r_zald hc dX7_firstOf_17 hO 4 rfl (by decide) (by omega) (by omega) ?_
      refine z_if_ne (tgt := 24) hc dX7_firstOf_18 (by decide) (by first | assumption | exact hi _ | exact ha _ _ | (unfold zb; omega)) (fun c_2 => ?_) (fun c_2 => ?_)
      · refine v_iload_n hc dX7_firstOf_24 rfl ?_
        refine z_if_ne (tgt := 30) hc dX7_firstOf_25 (by decide) (by first | assumption | exact hi _ | exact ha _ _ | (unfold zb; omega)) (fun c_3 => ?_) (fun c_3 => ?_)
        · refine z_iinc hc dX7_firstOf_30 rfl ?_
          refine z_iinc hc dX7_firstOf_33 rfl ?_
          refine v_goto (tgt := 4) hc dX7_firstOf_36 (by decide) ?_
          exact ih _ (by omega) _ _ rfl (by omega) (by omega) (by rw [show (x + 1).toNat = x.toNat + 1 by omega, f_ct]; split <;> omega) (by rw [show (x + 1).toNat = x.toNat + 1 by omega, ← f_fi_st (by omega) (by simp; omega)]; exact hv)
        · refine v_iload_n hc dX7_firstOf_28 rfl ?_
          refine z_iret M dX7_firstOf_29 (by omega) (by omega) ?_
          rw [f_fi_hit (by omega) (by simp; omega)] at hv
          rw [show x = ((v : Nat) : Int) by omega]
          exact P
      · refine v_goto (tgt := 33) hc dX7_firstOf_21 (by decide) ?_
        refine z_iinc hc dX7_firstOf_33 rfl ?_
        refine v_goto (tgt := 4) hc dX7_firstOf_36 (by decide) ?_
        exact ih _ (by omega) _ _ rfl (by omega) (by omega) (by rw [show (x + 1).toNat = x.toNat + 1 by omega, f_ct]; split <;> omega) (by rw [show (x + 1).toNat = x.toNat + 1 by omega, ← f_fi_st (by omega) (by simp; omega)]; exact hv)
set_option maxHeartbeats 4000000 in
theorem c_X7_firstOf (l : Launch) (G : b_G) {o : Nat} {ad : Nat → Nat} {i : Nat → Int} {a : Nat → Nat → Int} {h : b_H} {sz : Nat} (hO : r_O K7 7 o ad i a h) (hI : m_F i a) {s : Int} (hs : -1000 ≤ s ∧ s ≤ 1000) : Con l G yX7_firstOf cX7_firstOf 4 (some .int) 0 0 0 0 [.ref o, .int (zI s)] h sz (p_ro (some (.int (zI (f_F (a 4) (i 1).toNat s : Int)))) h sz) := by
  refine Con.ofK (by decide +kernel) rfl rfl ?_
  intro S M
  have hc := M.2.2.2.1
  have ho : s_own S = RX7 := M.2.2.1
  have hFr : (s_R S).frames = 0 := by rw [M.2.2.2.2.2.2.2.1]
  have hLo : (s_R S).locals = 0 := by rw [M.2.2.2.2.2.2.2.1]
  have hCe : (s_R S).cells = 0 := by rw [M.2.2.2.2.2.2.2.1]
  have hSl : (s_R S).slots = 0 := by rw [M.2.2.2.2.2.2.2.1]
  have hi := hO.2.2.2.1
  have ha := hO.2.2.2.2
  have hI3 := hI.1
  have hIc := hI.2.1
  have hIf := hI.2.2.1
  refine v_iload_n hc dX7_firstOf_0 rfl ?_
  refine v_istore_n hc dX7_firstOf_1 (Nat.le_of_ble_eq_true rfl) ?_
  refine z_iconst hc dX7_firstOf_2 ?_
  refine v_istore_n hc dX7_firstOf_3 (Nat.le_of_ble_eq_true rfl) ?_
  exact l_X7_firstOf_4 M hO hI hs (v := f_F (a 4) (i 1).toNat s) ⟨rfl, rfl, rfl⟩ _ _ _ rfl (by omega) (by omega) (by simp [f_ct]) rfl
theorem f_F_bd (c : Nat → Int) (n : Nat) (s : Int) : f_F c n s ≤ n := by
  have h := f_fi_ge (fun k => decide (¬ c k = 0 ∧ f_ct c k = s)) n 0
  unfold f_F; omega
theorem f_ct_le (c : Nat → Int) (x : Nat) : ∀ j : Nat, f_ct c x ≤ f_ct c (x + j)
  | 0 => by simp
  | j + 1 => by
    have h := f_ct_le c x j
    rw [← Nat.add_assoc, f_ct]
    split <;> omega
theorem f_F_mono (c : Nat → Int) (n : Nat) {s : Int} (hs : 0 ≤ s) : f_F c n s ≤ f_F c n (s + 1) := by
  have h1 := f_F_bd c n s
  have h2 := f_F_bd c n (s + 1)
  rcases Nat.lt_or_ge (f_F c n (s + 1)) (f_F c n s) with q | q
  · exfalso
    have h3 := f_fi_yes (fun k => decide (¬ c k = 0 ∧ f_ct c k = s + 1)) n 0 (by show f_F c n (s + 1) < _; omega)
    have h4 : f_ct c (f_F c n (s + 1)) = s + 1 := by
      have e := of_decide_eq_true h3
      exact e.2
    rcases Nat.lt_or_ge (f_F c n s) n with r | r
    · have h5 := of_decide_eq_true (f_fi_yes (fun k => decide (¬ c k = 0 ∧ f_ct c k = s)) n 0 (by show f_F c n s < _; omega))
      have h6 : f_ct c (f_F c n s) = s := h5.2
      have h7 := f_ct_le c (f_F c n (s + 1)) (f_F c n s - f_F c n (s + 1))
      rw [show f_F c n (s + 1) + (f_F c n s - f_F c n (s + 1)) = f_F c n s by omega] at h7
      omega
    · -- no stretch s: yet the count reaches s + 1
      have key : ∀ m : Nat, m ≤ n → f_ct c m ≤ s ∨ s < 0 := by
        intro m
        induction m with
        | zero => intro _; rw [f_ct]; omega
        | succ m ih =>
          intro hm
          rcases ih (by omega) with h | h
          · rw [f_ct]
            split
            · left; omega
            · rename_i hc
              left
              by_cases z : f_ct c m < s
              · omega
              · exfalso
                have h8 := f_fi_no (fun k => decide (¬ c k = 0 ∧ f_ct c k = s)) n 0 m (by omega) (by show m < f_F c n s; omega)
                have h9 : ¬ (¬ c m = 0 ∧ f_ct c m = s) := of_decide_eq_false h8
                exact h9 ⟨hc, by omega⟩
          · right; exact h
      rcases key (f_F c n (s + 1)) (by omega) with h | h
      · omega
      · omega
  · exact q

set_option maxHeartbeats 4000000 in
theorem l_X7_framesOf_8 {S : b_S} {l : Launch} {G : b_G} {o : Nat} {ad : Nat → Nat} {i : Nat → Int} {a : Nat → Nat → Int} {h : b_H} {sz : Nat} {post : Option Value → b_H → Nat → Prop} (M : b_M S l G RX7 cX7_framesOf 4 (some .int) "framesOf" 1 23 0 0 h sz post) (hO : r_O K7 7 o ad i a h) (hI : m_F i a) {s : Int} (hs : 0 ≤ s ∧ s < 100) (P : post (some (.int (zI (f_sm (a 2) (f_F (a 4) (i 1).toNat (s + 1)) - f_sm (a 2) (f_F (a 4) (i 1).toNat s))))) h sz) : ∀ (d : Nat) (r x : Int), ((f_F (a 4) (i 1).toNat (s + 1) : Int) - x).toNat = d → 0 ≤ x → x ≤ (f_F (a 4) (i 1).toNat (s + 1) : Int) → r = f_sm (a 2) x.toNat - f_sm (a 2) (f_F (a 4) (i 1).toNat s) → V S 0 0 h sz 8 [some (.ref o), some (.int (zI s)), some (.int (zI r)), some (.int (zI x))] [] := by
  have hc := M.2.2.2.1
  have ho : s_own S = RX7 := M.2.2.1
  have hFr : (s_R S).frames = 1 := by rw [M.2.2.2.2.2.2.2.1]
  have hLo : (s_R S).locals = 23 := by rw [M.2.2.2.2.2.2.2.1]
  have hCe : (s_R S).cells = 0 := by rw [M.2.2.2.2.2.2.2.1]
  have hSl : (s_R S).slots = 0 := by rw [M.2.2.2.2.2.2.2.1]
  have hi := hO.2.2.2.1
  have ha := hO.2.2.2.2
  have hI3 := hI.1
  have hIc := hI.2.1
  have hIf := hI.2.2.1
  intro d
  induction d using Nat.strongRecOn with
  | ind d ih =>
    intro r x hd h0 h1 hr
    have hB2 := f_F_bd (a 4) (i 1).toNat (s + 1)
    refine v_iload_n hc dX7_framesOf_8 rfl ?_
    refine v_aload_n hc dX7_framesOf_9 rfl ?_
    refine v_iload_n hc dX7_framesOf_10 rfl ?_
    refine z_iconst hc dX7_framesOf_11 ?_
    refine z_iadd hc dX7_framesOf_12 ?_
    refine v_callV (As := [.int (zI (s + 1))]) hc ho dX7_framesOf_13 KV_X7_137 KB_X7_firstOf hO.1 rfl rfl (c_X7_firstOf _ _ hO hI (s := s + 1) (by omega)) rfl (Nat.le_of_ble_eq_true rfl) ⟨by omega, by omega⟩ ⟨by omega, by omega⟩ (fun r_ h_ sz_ q_ z_ => ?_)
    obtain ⟨rfl, rfl, rfl⟩ := q_
    refine z_icmp_ge (tgt := 34) hc dX7_framesOf_16 (by decide) (by first | assumption | exact hi _ | exact ha _ _ | (unfold zb; omega)) (by first | assumption | exact hi _ | exact ha _ _ | (unfold zb; omega)) (fun c_1 => ?_) (fun c_1 => ?_)
    · refine v_iload_n hc dX7_framesOf_34 rfl ?_
      refine z_iret M dX7_framesOf_35 (by omega) (by omega) ?_
      rw [hr, show x = (f_F (a 4) (i 1).toNat (s + 1) : Int) by omega, Int.toNat_natCast]
      exact P
    · refine v_iload_n hc dX7_framesOf_19 rfl ?_
      refine v_aload_n hc dX7_framesOf_20 rfl ?_
      refine r_getA hc ho dX7_framesOf_21 F_X7_7 hO rfl ?_
      refine v_iload_n hc dX7_framesOf_24 rfl ?_
      refine r_iald hc dX7_framesOf_25 hO 2 rfl (by decide) (by omega) (by omega) ?_
      refine z_iadd hc dX7_framesOf_26 ?_
      refine v_istore_n hc dX7_framesOf_27 (Nat.le_of_ble_eq_true rfl) ?_
      refine z_iinc hc dX7_framesOf_28 rfl ?_
      refine v_goto (tgt := 8) hc dX7_framesOf_31 (by decide) ?_
      exact ih _ (by omega) _ _ rfl (by omega) (by omega) (by rw [show (x + 1).toNat = x.toNat + 1 by omega, f_sm]; omega)
set_option maxHeartbeats 4000000 in
theorem c_X7_framesOf (l : Launch) (G : b_G) {o : Nat} {ad : Nat → Nat} {i : Nat → Int} {a : Nat → Nat → Int} {h : b_H} {sz : Nat} (hO : r_O K7 7 o ad i a h) (hI : m_F i a) {s : Int} (hs : 0 ≤ s ∧ s < 100) : Con l G yX7_framesOf cX7_framesOf 4 (some .int) 1 23 0 0 [.ref o, .int (zI s)] h sz (p_ro (some (.int (zI (f_sm (a 2) (f_F (a 4) (i 1).toNat (s + 1)) - f_sm (a 2) (f_F (a 4) (i 1).toNat s))))) h sz) := by
  refine Con.ofK (by decide +kernel) rfl rfl ?_
  intro S M
  have hc := M.2.2.2.1
  have ho : s_own S = RX7 := M.2.2.1
  have hFr : (s_R S).frames = 1 := by rw [M.2.2.2.2.2.2.2.1]
  have hLo : (s_R S).locals = 23 := by rw [M.2.2.2.2.2.2.2.1]
  have hCe : (s_R S).cells = 0 := by rw [M.2.2.2.2.2.2.2.1]
  have hSl : (s_R S).slots = 0 := by rw [M.2.2.2.2.2.2.2.1]
  have hi := hO.2.2.2.1
  have ha := hO.2.2.2.2
  have hI3 := hI.1
  have hIc := hI.2.1
  have hIf := hI.2.2.1
  refine z_iconst hc dX7_framesOf_0 ?_
  refine v_istore_n hc dX7_framesOf_1 (Nat.le_of_ble_eq_true rfl) ?_
  refine v_aload_n hc dX7_framesOf_2 rfl ?_
  refine v_iload_n hc dX7_framesOf_3 rfl ?_
  refine v_callV (As := [.int (zI s)]) hc ho dX7_framesOf_4 KV_X7_137 KB_X7_firstOf hO.1 rfl rfl (c_X7_firstOf _ _ hO hI (s := s) (by omega)) rfl (Nat.le_of_ble_eq_true rfl) ⟨by omega, by omega⟩ ⟨by omega, by omega⟩ (fun r_ h_ sz_ q_ z_ => ?_)
  obtain ⟨rfl, rfl, rfl⟩ := q_
  refine v_istore_n hc dX7_framesOf_7 (Nat.le_of_ble_eq_true rfl) ?_
  exact l_X7_framesOf_8 M hO hI hs ⟨rfl, rfl, rfl⟩ _ _ _ rfl (by omega) (by have := f_F_mono (a 4) (i 1).toNat (s := s) (by omega); omega) (by rw [Int.toNat_natCast]; omega)
set_option maxHeartbeats 4000000 in
theorem l_X7_allFrames_4 {S : b_S} {l : Launch} {G : b_G} {o : Nat} {ad : Nat → Nat} {i : Nat → Int} {a : Nat → Nat → Int} {h : b_H} {sz : Nat} {post : Option Value → b_H → Nat → Prop} (M : b_M S l G RX7 cX7_allFrames 3 (some .int) "allFrames" 0 0 0 0 h sz post) (hO : r_O K7 7 o ad i a h) (hI : m_F i a) (P : post (some (.int (zI (f_sm (a 2) (i 1).toNat)))) h sz) : ∀ (d : Nat) (r x : Int), (i 1 - x).toNat = d → 0 ≤ x → x ≤ i 1 → r = f_sm (a 2) x.toNat → V S 0 0 h sz 4 [some (.ref o), some (.int (zI r)), some (.int (zI x))] [] := by
  have hc := M.2.2.2.1
  have ho : s_own S = RX7 := M.2.2.1
  have hFr : (s_R S).frames = 0 := by rw [M.2.2.2.2.2.2.2.1]
  have hLo : (s_R S).locals = 0 := by rw [M.2.2.2.2.2.2.2.1]
  have hCe : (s_R S).cells = 0 := by rw [M.2.2.2.2.2.2.2.1]
  have hSl : (s_R S).slots = 0 := by rw [M.2.2.2.2.2.2.2.1]
  have hi := hO.2.2.2.1
  have ha := hO.2.2.2.2
  have hI3 := hI.1
  have hIc := hI.2.1
  have hIf := hI.2.2.1
  intro d
  induction d using Nat.strongRecOn with
  | ind d ih =>
    intro r x hd h0 h1 hr
    refine v_iload_n hc dX7_allFrames_4 rfl ?_
    refine v_aload_n hc dX7_allFrames_5 rfl ?_
    refine r_get hc ho dX7_allFrames_6 F_X7_134 hO rfl ?_
    refine z_icmp_ge (tgt := 27) hc dX7_allFrames_9 (by decide) (by first | assumption | exact hi _ | exact ha _ _ | (unfold zb; omega)) (by first | assumption | exact hi _ | exact ha _ _ | (unfold zb; omega)) (fun c_1 => ?_) (fun c_1 => ?_)
    · refine v_iload_n hc dX7_allFrames_27 rfl ?_
      refine z_iret M dX7_allFrames_28 (by omega) (by omega) ?_
      rw [hr, show x = i 1 by omega]
      exact P
    · refine v_iload_n hc dX7_allFrames_12 rfl ?_
      refine v_aload_n hc dX7_allFrames_13 rfl ?_
      refine r_getA hc ho dX7_allFrames_14 F_X7_7 hO rfl ?_
      refine v_iload_n hc dX7_allFrames_17 rfl ?_
      refine r_iald hc dX7_allFrames_18 hO 2 rfl (by decide) (by omega) (by omega) ?_
      refine z_iadd hc dX7_allFrames_19 ?_
      refine v_istore_n hc dX7_allFrames_20 (Nat.le_of_ble_eq_true rfl) ?_
      refine z_iinc hc dX7_allFrames_21 rfl ?_
      refine v_goto (tgt := 4) hc dX7_allFrames_24 (by decide) ?_
      exact ih _ (by omega) _ _ rfl (by omega) (by omega) (by rw [show (x + 1).toNat = x.toNat + 1 by omega, f_sm]; omega)
set_option maxHeartbeats 4000000 in
theorem c_X7_allFrames (l : Launch) (G : b_G) {o : Nat} {ad : Nat → Nat} {i : Nat → Int} {a : Nat → Nat → Int} {h : b_H} {sz : Nat} (hO : r_O K7 7 o ad i a h) (hI : m_F i a)  : Con l G yX7_allFrames cX7_allFrames 3 (some .int) 0 0 0 0 [.ref o] h sz (p_ro (some (.int (zI (f_sm (a 2) (i 1).toNat)))) h sz) := by
  refine Con.ofK (by decide +kernel) rfl rfl ?_
  intro S M
  have hc := M.2.2.2.1
  have ho : s_own S = RX7 := M.2.2.1
  have hFr : (s_R S).frames = 0 := by rw [M.2.2.2.2.2.2.2.1]
  have hLo : (s_R S).locals = 0 := by rw [M.2.2.2.2.2.2.2.1]
  have hCe : (s_R S).cells = 0 := by rw [M.2.2.2.2.2.2.2.1]
  have hSl : (s_R S).slots = 0 := by rw [M.2.2.2.2.2.2.2.1]
  have hi := hO.2.2.2.1
  have ha := hO.2.2.2.2
  have hI3 := hI.1
  have hIc := hI.2.1
  have hIf := hI.2.2.1
  refine z_iconst hc dX7_allFrames_0 ?_
  refine v_istore_n hc dX7_allFrames_1 (Nat.le_of_ble_eq_true rfl) ?_
  refine z_iconst hc dX7_allFrames_2 ?_
  refine v_istore_n hc dX7_allFrames_3 (Nat.le_of_ble_eq_true rfl) ?_
  exact l_X7_allFrames_4 M hO hI ⟨rfl, rfl, rfl⟩ _ _ _ rfl (by omega) (by omega) rfl
theorem f_F_ct (c : Nat → Int) (n : Nat) {s : Int} (h0 : 0 ≤ s) : f_F c n s < n ↔ s < f_ct c n := by
  constructor
  · intro h
    have h1 := of_decide_eq_true (f_fi_yes (fun k => decide (¬ c k = 0 ∧ f_ct c k = s)) n 0 (by show f_F c n s < _; omega))
    have h2 : ¬ c (f_F c n s) = 0 ∧ f_ct c (f_F c n s) = s := h1
    have h3 := f_ct_le c (f_F c n s + 1) (n - (f_F c n s + 1))
    rw [show f_F c n s + 1 + (n - (f_F c n s + 1)) = n by omega, f_ct, if_neg h2.1] at h3
    omega
  · intro h
    rcases Nat.lt_or_ge (f_F c n s) n with q | q
    · exact q
    · exfalso
      have key : ∀ m : Nat, m ≤ n → f_ct c m ≤ s := by
        intro m
        induction m with
        | zero => intro _; rw [f_ct]; omega
        | succ m ih =>
          intro hm
          have h1 := ih (by omega)
          rw [f_ct]
          split
          · omega
          · rename_i hc
            by_cases z : f_ct c m < s
            · omega
            · exfalso
              have h8 := f_fi_no (fun k => decide (¬ c k = 0 ∧ f_ct c k = s)) n 0 m (by omega) (by show m < f_F c n s; omega)
              exact (of_decide_eq_false h8 : ¬ (¬ c m = 0 ∧ f_ct c m = s)) ⟨hc, by omega⟩
      have := key n (Nat.le_refl n)
      omega

/-- of a stretch: first shot, last shot, frames, mood -/
def f_St (fr mo c : Nat → Int) (n : Nat) (s w : Int) : Int := if ¬ (0 ≤ s ∧ s ≤ f_ct c n - 1) then -1 else if w = 0 then (f_F c n s : Int) else if w = 1 then (f_F c n (s + 1) : Int) - 1 else if w = 2 then f_sm fr (f_F c n (s + 1)) - f_sm fr (f_F c n s) else if w = 3 then mo (f_F c n s) else -1
def f_Te (fr c : Nat → Int) (n : Nat) (s v : Int) : Int := if ¬ ((-1 ≤ s ∧ s ≤ f_ct c n - 1) ∧ 12 ≤ v ∧ v ≤ 30) then -1 else ((if s < 0 then f_sm fr n else f_sm fr (f_F c n (s + 1)) - f_sm fr (f_F c n s)) * 10).tdiv v

set_option maxHeartbeats 4000000 in
theorem c_X7_stretch (l : Launch) (G : b_G) {o : Nat} {ad : Nat → Nat} {i : Nat → Int} {a : Nat → Nat → Int} {h : b_H} {sz : Nat} (hO : r_O K7 7 o ad i a h) (hI : m_F i a) {s w : Int} (hs : zb s) (hw : zb w) : Con l G yX7_stretch cX7_stretch 3 (some .int) 2 46 0 0 [.ref o, .int (zI s), .int (zI w)] h sz (p_ro (some (.int (zI (f_St (a 2) (a 3) (a 4) (i 1).toNat s w)))) h sz) := by
  refine Con.ofK (by decide +kernel) rfl rfl ?_
  intro S M
  have hc := M.2.2.2.1
  have ho : s_own S = RX7 := M.2.2.1
  have hFr : (s_R S).frames = 2 := by rw [M.2.2.2.2.2.2.2.1]
  have hLo : (s_R S).locals = 46 := by rw [M.2.2.2.2.2.2.2.1]
  have hCe : (s_R S).cells = 0 := by rw [M.2.2.2.2.2.2.2.1]
  have hSl : (s_R S).slots = 0 := by rw [M.2.2.2.2.2.2.2.1]
  have hi := hO.2.2.2.1
  have ha := hO.2.2.2.2
  have hI3 := hI.1
  have hIc := hI.2.1
  have hIf := hI.2.2.1
  refine v_iload_n hc dX7_stretch_0 rfl ?_
  refine z_iconst hc dX7_stretch_1 ?_
  refine v_aload_n hc dX7_stretch_2 rfl ?_
  refine v_callV (As := []) hc ho dX7_stretch_3 KV_X7_141 KB_X7_stretches hO.1 rfl rfl (c_X7_stretches _ _ hO hI) rfl (Nat.le_of_ble_eq_true rfl) ⟨by omega, by omega⟩ ⟨by omega, by omega⟩ (fun r_ h_ sz_ q_ z_ => ?_)
  obtain ⟨rfl, rfl, rfl⟩ := q_
  have hcb := f_ct_bd (a 4) (i 1).toNat
  refine z_iconst hc dX7_stretch_6 ?_
  refine z_isub hc dX7_stretch_7 ?_
  refine v_callS (As := [.int (zI (s)), .int (zI (0)), .int (zI (f_ct (a 4) (i 1).toNat - 1))]) hc ho dX7_stretch_8 KS_X7_130 KB_X7_in (c_X7_in _ _ (x := s) (y := 0) (z := f_ct (a 4) (i 1).toNat - 1) (by first | assumption | exact hi _ | exact ha _ _ | (unfold zb; omega)) (by first | assumption | exact hi _ | exact ha _ _ | (unfold zb; omega)) (by first | assumption | exact hi _ | exact ha _ _ | (unfold zb; omega))) rfl (Nat.le_of_ble_eq_true rfl) ⟨by omega, by omega⟩ ⟨by omega, by omega⟩ (fun r_ h_ sz_ q_ z_ => ?_)
  obtain ⟨rfl, rfl, rfl⟩ := q_
  have hb0 := @bI_0 (0 ≤ s ∧ s ≤ f_ct (a 4) (i 1).toNat - 1) _
  have hb1 := @bI_1 (0 ≤ s ∧ s ≤ f_ct (a 4) (i 1).toNat - 1) _
  have hbb := bI_bd (0 ≤ s ∧ s ≤ f_ct (a 4) (i 1).toNat - 1)
  refine z_if_ne (tgt := 16) hc dX7_stretch_11 (by decide) (by first | assumption | exact hi _ | exact ha _ _ | (unfold zb; omega)) (fun c_1 => ?_) (fun c_1 => ?_)
  · refine v_iload_n hc dX7_stretch_16 rfl ?_
    by_cases w_2 : w = 0
    · refine z_tableIn (off := 31) (tgt := 48) hc dX7_stretch_17 (by first | assumption | exact hi _ | exact ha _ _ | (unfold zb; omega)) (by omega) (by omega) (by rw [w_2]; rfl) (by decide) ?_
      refine v_aload_n hc dX7_stretch_48 rfl ?_
      refine v_iload_n hc dX7_stretch_49 rfl ?_
      refine v_callV (As := [.int (zI (s))]) hc ho dX7_stretch_50 KV_X7_137 KB_X7_firstOf hO.1 rfl rfl (c_X7_firstOf _ _ hO hI (s := s) (by omega)) rfl (Nat.le_of_ble_eq_true rfl) ⟨by omega, by omega⟩ ⟨by omega, by omega⟩ (fun r_ h_ sz_ q_ z_ => ?_)
      obtain ⟨rfl, rfl, rfl⟩ := q_
      refine z_iret M dX7_stretch_53 (by omega) (by omega) ?_
      exact ⟨by rw [f_St, if_neg (by omega), if_pos (by omega)], rfl, rfl⟩
    by_cases w_3 : w = 1
    · refine z_tableIn (off := 37) (tgt := 54) hc dX7_stretch_17 (by first | assumption | exact hi _ | exact ha _ _ | (unfold zb; omega)) (by omega) (by omega) (by rw [w_3]; rfl) (by decide) ?_
      refine v_aload_n hc dX7_stretch_54 rfl ?_
      refine v_iload_n hc dX7_stretch_55 rfl ?_
      refine z_iconst hc dX7_stretch_56 ?_
      refine z_iadd hc dX7_stretch_57 ?_
      refine v_callV (As := [.int (zI (s + 1))]) hc ho dX7_stretch_58 KV_X7_137 KB_X7_firstOf hO.1 rfl rfl (c_X7_firstOf _ _ hO hI (s := s + 1) (by omega)) rfl (Nat.le_of_ble_eq_true rfl) ⟨by omega, by omega⟩ ⟨by omega, by omega⟩ (fun r_ h_ sz_ q_ z_ => ?_)
      obtain ⟨rfl, rfl, rfl⟩ := q_
      refine z_iconst hc dX7_stretch_61 ?_
      refine z_isub hc dX7_stretch_62 ?_
      refine z_iret M dX7_stretch_63 (by omega) (by omega) ?_
      exact ⟨by rw [f_St, if_neg (by omega), if_neg (by omega), if_pos (by omega)], rfl, rfl⟩
    by_cases w_4 : w = 2
    · refine z_tableIn (off := 47) (tgt := 64) hc dX7_stretch_17 (by first | assumption | exact hi _ | exact ha _ _ | (unfold zb; omega)) (by omega) (by omega) (by rw [w_4]; rfl) (by decide) ?_
      refine v_aload_n hc dX7_stretch_64 rfl ?_
      refine v_iload_n hc dX7_stretch_65 rfl ?_
      refine v_callV (As := [.int (zI s)]) hc ho dX7_stretch_66 KV_X7_145 KB_X7_framesOf hO.1 rfl rfl (c_X7_framesOf _ _ hO hI (s := s) (by omega)) rfl (Nat.le_of_ble_eq_true rfl) ⟨by omega, by omega⟩ ⟨by omega, by omega⟩ (fun r_ h_ sz_ q_ z_ => ?_)
      obtain ⟨rfl, rfl, rfl⟩ := q_
      refine z_iret M dX7_stretch_69 (by omega) (by omega) ?_
      exact ⟨by rw [f_St, if_neg (by omega), if_neg (by omega), if_neg (by omega), if_pos (by omega)], rfl, rfl⟩
    by_cases w_5 : w = 3
    · refine z_tableIn (off := 53) (tgt := 70) hc dX7_stretch_17 (by first | assumption | exact hi _ | exact ha _ _ | (unfold zb; omega)) (by omega) (by omega) (by rw [w_5]; rfl) (by decide) ?_
      refine v_aload_n hc dX7_stretch_70 rfl ?_
      refine r_getA hc ho dX7_stretch_71 F_X7_13 hO rfl ?_
      refine v_aload_n hc dX7_stretch_74 rfl ?_
      refine v_iload_n hc dX7_stretch_75 rfl ?_
      refine v_callV (As := [.int (zI (s))]) hc ho dX7_stretch_76 KV_X7_137 KB_X7_firstOf hO.1 rfl rfl (c_X7_firstOf _ _ hO hI (s := s) (by omega)) rfl (Nat.le_of_ble_eq_true rfl) ⟨by omega, by omega⟩ ⟨by omega, by omega⟩ (fun r_ h_ sz_ q_ z_ => ?_)
      obtain ⟨rfl, rfl, rfl⟩ := q_
      have hlt := (f_F_ct (a 4) (i 1).toNat (s := s) (by omega)).mpr (by omega)
      refine r_iald hc dX7_stretch_79 hO 3 rfl (by decide) (by omega) (by omega) ?_
      refine z_iret M dX7_stretch_80 (by omega) (by omega) ?_
      exact ⟨by rw [f_St, if_neg (by omega), if_neg (by omega), if_neg (by omega), if_neg (by omega), if_pos (by omega), Int.toNat_natCast], rfl, rfl⟩
    refine z_tableOut (tgt := 81) hc dX7_stretch_17 (by first | assumption | exact hi _ | exact ha _ _ | (unfold zb; omega)) (by omega) (by decide) ?_
    refine z_iconst hc dX7_stretch_81 ?_
    refine z_iret M dX7_stretch_82 (by omega) (by omega) ?_
    exact ⟨by rw [f_St, if_neg (by omega), if_neg (by omega), if_neg (by omega), if_neg (by omega), if_neg (by omega)], rfl, rfl⟩
  · refine z_iconst hc dX7_stretch_14 ?_
    refine z_iret M dX7_stretch_15 (by omega) (by omega) ?_
    exact ⟨by rw [f_St, if_pos (by omega)], rfl, rfl⟩
set_option maxHeartbeats 4000000 in
theorem c_X7_tenths (l : Launch) (G : b_G) {o : Nat} {ad : Nat → Nat} {i : Nat → Int} {a : Nat → Nat → Int} {h : b_H} {sz : Nat} (hO : r_O K7 7 o ad i a h) (hI : m_F i a) {s v : Int} (hs : zb s) (hv : zb v) : Con l G yX7_tenths cX7_tenths 3 (some .int) 2 46 0 0 [.ref o, .int (zI s), .int (zI v)] h sz (p_ro (some (.int (zI (f_Te (a 2) (a 4) (i 1).toNat s v)))) h sz) := by
  refine Con.ofK (by decide +kernel) rfl rfl ?_
  intro S M
  have hc := M.2.2.2.1
  have ho : s_own S = RX7 := M.2.2.1
  have hFr : (s_R S).frames = 2 := by rw [M.2.2.2.2.2.2.2.1]
  have hLo : (s_R S).locals = 46 := by rw [M.2.2.2.2.2.2.2.1]
  have hCe : (s_R S).cells = 0 := by rw [M.2.2.2.2.2.2.2.1]
  have hSl : (s_R S).slots = 0 := by rw [M.2.2.2.2.2.2.2.1]
  have hi := hO.2.2.2.1
  have ha := hO.2.2.2.2
  have hI3 := hI.1
  have hIc := hI.2.1
  have hIf := hI.2.2.1
  refine v_iload_n hc dX7_tenths_0 rfl ?_
  refine z_iconst hc dX7_tenths_1 ?_
  refine v_aload_n hc dX7_tenths_2 rfl ?_
  refine v_callV (As := []) hc ho dX7_tenths_3 KV_X7_141 KB_X7_stretches hO.1 rfl rfl (c_X7_stretches _ _ hO hI) rfl (Nat.le_of_ble_eq_true rfl) ⟨by omega, by omega⟩ ⟨by omega, by omega⟩ (fun r_ h_ sz_ q_ z_ => ?_)
  obtain ⟨rfl, rfl, rfl⟩ := q_
  have hcb := f_ct_bd (a 4) (i 1).toNat
  refine z_iconst hc dX7_tenths_6 ?_
  refine z_isub hc dX7_tenths_7 ?_
  refine v_callS (As := [.int (zI (s)), .int (zI (-1)), .int (zI (f_ct (a 4) (i 1).toNat - 1))]) hc ho dX7_tenths_8 KS_X7_130 KB_X7_in (c_X7_in _ _ (x := s) (y := -1) (z := f_ct (a 4) (i 1).toNat - 1) (by first | assumption | exact hi _ | exact ha _ _ | (unfold zb; omega)) (by first | assumption | exact hi _ | exact ha _ _ | (unfold zb; omega)) (by first | assumption | exact hi _ | exact ha _ _ | (unfold zb; omega))) rfl (Nat.le_of_ble_eq_true rfl) ⟨by omega, by omega⟩ ⟨by omega, by omega⟩ (fun r_ h_ sz_ q_ z_ => ?_)
  obtain ⟨rfl, rfl, rfl⟩ := q_
  have hb0 := @bI_0 (-1 ≤ s ∧ s ≤ f_ct (a 4) (i 1).toNat - 1) _
  have hb1 := @bI_1 (-1 ≤ s ∧ s ≤ f_ct (a 4) (i 1).toNat - 1) _
  have hbb := bI_bd (-1 ≤ s ∧ s ≤ f_ct (a 4) (i 1).toNat - 1)
  refine z_if_eq (tgt := 25) hc dX7_tenths_11 (by decide) (by first | assumption | exact hi _ | exact ha _ _ | (unfold zb; omega)) (fun c_1 => ?_) (fun c_1 => ?_)
  · refine z_iconst hc dX7_tenths_25 ?_
    refine z_iret M dX7_tenths_26 (by omega) (by omega) ?_
    exact ⟨by rw [f_Te, if_pos (by omega)], rfl, rfl⟩
  · refine v_iload_n hc dX7_tenths_14 rfl ?_
    refine z_bipush hc dX7_tenths_15 (by decide) ?_
    refine z_bipush hc dX7_tenths_17 (by decide) ?_
    refine v_callS (As := [.int (zI (v)), .int (zI (12)), .int (zI (30))]) hc ho dX7_tenths_19 KS_X7_130 KB_X7_in (c_X7_in _ _ (x := v) (y := 12) (z := 30) (by first | assumption | exact hi _ | exact ha _ _ | (unfold zb; omega)) (by first | assumption | exact hi _ | exact ha _ _ | (unfold zb; omega)) (by first | assumption | exact hi _ | exact ha _ _ | (unfold zb; omega))) rfl (Nat.le_of_ble_eq_true rfl) ⟨by omega, by omega⟩ ⟨by omega, by omega⟩ (fun r_ h_ sz_ q_ z_ => ?_)
    obtain ⟨rfl, rfl, rfl⟩ := q_
    have hb2 := @bI_0 (12 ≤ v ∧ v ≤ 30) _
    have hb3 := @bI_1 (12 ≤ v ∧ v ≤ 30) _
    have hbb2 := bI_bd (12 ≤ v ∧ v ≤ 30)
    refine z_if_ne (tgt := 27) hc dX7_tenths_22 (by decide) (by first | assumption | exact hi _ | exact ha _ _ | (unfold zb; omega)) (fun c_2 => ?_) (fun c_2 => ?_)
    · refine v_iload_n hc dX7_tenths_27 rfl ?_
      refine z_if_ge (tgt := 38) hc dX7_tenths_28 (by decide) (by first | assumption | exact hi _ | exact ha _ _ | (unfold zb; omega)) (fun c_3 => ?_) (fun c_3 => ?_)
      · refine v_aload_n hc dX7_tenths_38 rfl ?_
        refine v_iload_n hc dX7_tenths_39 rfl ?_
        refine v_callV (As := [.int (zI s)]) hc ho dX7_tenths_40 KV_X7_145 KB_X7_framesOf hO.1 rfl rfl (c_X7_framesOf _ _ hO hI (s := s) (by omega)) rfl (Nat.le_of_ble_eq_true rfl) ⟨by omega, by omega⟩ ⟨by omega, by omega⟩ (fun r_ h_ sz_ q_ z_ => ?_)
        obtain ⟨rfl, rfl, rfl⟩ := q_
        have hS1 := f_sm_bd hIf (i 1).toNat
        have hS2 := f_sm_bd hIf (f_F (a 4) (i 1).toNat s)
        have hS3 := f_sm_bd hIf (f_F (a 4) (i 1).toNat (s + 1))
        have hS4 := f_F_bd (a 4) (i 1).toNat s
        have hS5 := f_F_bd (a 4) (i 1).toNat (s + 1)
        refine z_bipush hc dX7_tenths_43 (by decide) ?_
        refine z_imul hc dX7_tenths_45 ?_
        refine v_iload_n hc dX7_tenths_46 rfl ?_
        refine z_idiv hc dX7_tenths_47 (by first | assumption | exact hi _ | exact ha _ _ | (unfold zb; omega)) (by first | assumption | exact hi _ | exact ha _ _ | (unfold zb; omega)) (by omega) ?_
        refine z_iret M dX7_tenths_48 (by omega) (by omega) ?_
        first | exact ⟨by rw [f_Te, if_neg (by omega), if_pos (by omega)], rfl, rfl⟩ | exact ⟨by rw [f_Te, if_neg (by omega), if_neg (by omega)], rfl, rfl⟩
      · refine v_aload_n hc dX7_tenths_31 rfl ?_
        refine v_callV (As := []) hc ho dX7_tenths_32 KV_X7_148 KB_X7_allFrames hO.1 rfl rfl (c_X7_allFrames _ _ hO hI) rfl (Nat.le_of_ble_eq_true rfl) ⟨by omega, by omega⟩ ⟨by omega, by omega⟩ (fun r_ h_ sz_ q_ z_ => ?_)
        obtain ⟨rfl, rfl, rfl⟩ := q_
        refine v_goto (tgt := 43) hc dX7_tenths_35 (by decide) ?_
        have hS1 := f_sm_bd hIf (i 1).toNat
        have hS2 := f_sm_bd hIf (f_F (a 4) (i 1).toNat s)
        have hS3 := f_sm_bd hIf (f_F (a 4) (i 1).toNat (s + 1))
        have hS4 := f_F_bd (a 4) (i 1).toNat s
        have hS5 := f_F_bd (a 4) (i 1).toNat (s + 1)
        refine z_bipush hc dX7_tenths_43 (by decide) ?_
        refine z_imul hc dX7_tenths_45 ?_
        refine v_iload_n hc dX7_tenths_46 rfl ?_
        refine z_idiv hc dX7_tenths_47 (by first | assumption | exact hi _ | exact ha _ _ | (unfold zb; omega)) (by first | assumption | exact hi _ | exact ha _ _ | (unfold zb; omega)) (by omega) ?_
        refine z_iret M dX7_tenths_48 (by omega) (by omega) ?_
        first | exact ⟨by rw [f_Te, if_neg (by omega), if_pos (by omega)], rfl, rfl⟩ | exact ⟨by rw [f_Te, if_neg (by omega), if_neg (by omega)], rfl, rfl⟩
    · refine z_iconst hc dX7_tenths_25 ?_
      refine z_iret M dX7_tenths_26 (by omega) (by omega) ?_
      exact ⟨by rw [f_Te, if_pos (by omega)], rfl, rfl⟩
