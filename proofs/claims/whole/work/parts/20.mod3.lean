/-! the reference: pieces, steps, rules -/
def p_of (a b : Int) : Int := if a < b then b - a else a - b
def p_mf (lo hi t : Int) : Int := if lo ≤ t ∧ t ≤ hi then 0 else if p_of t lo < p_of t hi then p_of t lo else p_of t hi
def p_st (a b : Int) : Int := if (7 * (b - a) + 84) % 12 < 12 - (7 * (b - a) + 84) % 12 then (7 * (b - a) + 84) % 12 else 12 - (7 * (b - a) + 84) % 12
def p_ok (x y z u : Int) : Prop := (0 ≤ x ∧ x ≤ 1163) ∧ (1 ≤ x % 100 ∧ x % 100 ≤ 63) ∧ (0 ≤ y ∧ y ≤ 240240) ∧ (30 ≤ y / 1000 ∧ y / 1000 ≤ 240) ∧ (y / 1000 ≤ y % 1000 ∧ y % 1000 ≤ 240) ∧ (0 ≤ z ∧ z ≤ 1) ∧ (0 ≤ u ∧ u ≤ 999)

set_option maxHeartbeats 4000000 in
theorem c_X7_isPiece (l : Launch) (G : b_G) {o : Nat} {ad : Nat → Nat} {i : Nat → Int} {a : Nat → Nat → Int} {h : b_H} {sz : Nat} (hO : r_O K7 7 o ad i a h) (hI : m_P i a) {x : Int} (hx : zb x) : Con l G yX7_isPiece cX7_isPiece 2 (some .boolean) 1 22 0 0 [.ref o, .int (zI x)] h sz (p_ro (some (.int (zI (bI (0 ≤ x ∧ x ≤ i 5 - 1))))) h sz) := by
  refine Con.ofK (by decide +kernel) rfl rfl ?_
  intro S M
  have hc := M.2.2.2.1
  have ho : s_own S = RX7 := M.2.2.1
  have hFr : (s_R S).frames = 1 := by rw [M.2.2.2.2.2.2.2.1]
  have hLo : (s_R S).locals = 22 := by rw [M.2.2.2.2.2.2.2.1]
  have hCe : (s_R S).cells = 0 := by rw [M.2.2.2.2.2.2.2.1]
  have hSl : (s_R S).slots = 0 := by rw [M.2.2.2.2.2.2.2.1]
  have hi := hO.2.2.2.1
  have ha := hO.2.2.2.2
  obtain ⟨hI5, hIbk, hIsf, hIky, hImd, hIth, hIfe, hIbt, hIb1, hIhw, hInx, hIen⟩ := id hI
  refine v_iload_n hc dX7_isPiece_0 rfl ?_
  refine z_iconst hc dX7_isPiece_1 ?_
  refine v_aload_n hc dX7_isPiece_2 rfl ?_
  refine r_get hc ho dX7_isPiece_3 F_X7_151 hO rfl ?_
  refine z_iconst hc dX7_isPiece_6 ?_
  refine z_isub hc dX7_isPiece_7 ?_
  refine v_callS (As := [.int (zI (x)), .int (zI (0)), .int (zI (i 5 - 1))]) hc ho dX7_isPiece_8 KS_X7_130 KB_X7_in (c_X7_in _ _ (x := x) (y := 0) (z := i 5 - 1) (by first | assumption | exact hi _ | exact ha _ _ | (unfold zb; omega)) (by first | assumption | exact hi _ | exact ha _ _ | (unfold zb; omega)) (by first | assumption | exact hi _ | exact ha _ _ | (unfold zb; omega))) rfl (Nat.le_of_ble_eq_true rfl) ⟨by omega, by omega⟩ ⟨by omega, by omega⟩ (fun r_ h_ sz_ q_ z_ => ?_)
  obtain ⟨rfl, rfl, rfl⟩ := q_
  have hb0 := @bI_0 (0 ≤ x ∧ x ≤ i 5 - 1) _
  have hb1 := @bI_1 (0 ≤ x ∧ x ≤ i 5 - 1) _
  have hbb := bI_bd (0 ≤ x ∧ x ≤ i 5 - 1)
  refine z_zret M (by omega) dX7_isPiece_11 (by omega) (by omega) ?_
  exact ⟨rfl, rfl, rfl⟩
set_option maxHeartbeats 4000000 in
theorem c_X7_piece (l : Launch) (G : b_G) {o : Nat} {ad : Nat → Nat} {i : Nat → Int} {a : Nat → Nat → Int} {h : b_H} {sz : Nat} (hO : r_O K7 7 o ad i a h) (hI : m_P i a) {x y z u : Int} (hx : zb x) (hy : zb y) (hz : zb z) (hu : zb u) : Con l G yX7_piece cX7_piece 5 (some .int) 1 22 0 0 [.ref o, .int (zI x), .int (zI y), .int (zI z), .int (zI u)] h sz (p_wr K7 7 o ad h sz (fun r i2 a2 => (¬ p_ok x y z u ∧ r = some (.int (zI (-1))) ∧ i2 = i ∧ a2 = a) ∨ (p_ok x y z u ∧ i 5 = 12 ∧ r = some (.int (zI (-3))) ∧ i2 = i ∧ a2 = a) ∨ (p_ok x y z u ∧ i 5 < 12 ∧ r = some (.int (zI (i 5))) ∧ i2 = b_up i 5 (i 5 + 1) ∧ a2 = r_up (r_up (r_up (r_up (r_up (r_up a 6 (i 5).toNat (x / 100)) 7 (i 5).toNat (x % 100)) 8 (i 5).toNat (y / 1000)) 9 (i 5).toNat (y % 1000)) 10 (i 5).toNat (bI (z = 1))) 11 (i 5).toNat u))) := by
  refine Con.ofK (by decide +kernel) rfl rfl ?_
  intro S M
  have hc := M.2.2.2.1
  have ho : s_own S = RX7 := M.2.2.1
  have hFr : (s_R S).frames = 1 := by rw [M.2.2.2.2.2.2.2.1]
  have hLo : (s_R S).locals = 22 := by rw [M.2.2.2.2.2.2.2.1]
  have hCe : (s_R S).cells = 0 := by rw [M.2.2.2.2.2.2.2.1]
  have hSl : (s_R S).slots = 0 := by rw [M.2.2.2.2.2.2.2.1]
  have hi := hO.2.2.2.1
  have ha := hO.2.2.2.2
  obtain ⟨hI5, hIbk, hIsf, hIky, hImd, hIth, hIfe, hIbt, hIb1, hIhw, hInx, hIen⟩ := id hI
  have hfr : ∀ b, ¬ r_own K7 o ad b → h b = h b := fun _ _ => rfl
  refine v_iload_n hc dX7_piece_0 rfl ?_
  refine z_iconst hc dX7_piece_1 ?_
  refine z_sipush hc dX7_piece_2 (by decide) ?_
  refine v_callS (As := [.int (zI (x)), .int (zI (0)), .int (zI (1163))]) hc ho dX7_piece_5 KS_X7_130 KB_X7_in (c_X7_in _ _ (x := x) (y := 0) (z := 1163) (by first | assumption | exact hi _ | exact ha _ _ | (unfold zb; omega)) (by first | assumption | exact hi _ | exact ha _ _ | (unfold zb; omega)) (by first | assumption | exact hi _ | exact ha _ _ | (unfold zb; omega))) rfl (Nat.le_of_ble_eq_true rfl) ⟨by omega, by omega⟩ ⟨by omega, by omega⟩ (fun r_ h_ sz_ q_ z_ => ?_)
  obtain ⟨rfl, rfl, rfl⟩ := q_
  have hp0 := @bI_0 (0 ≤ x ∧ x ≤ 1163) _
  have hp1 := @bI_1 (0 ≤ x ∧ x ≤ 1163) _
  have hpb := bI_bd (0 ≤ x ∧ x ≤ 1163)
  refine z_if_eq (tgt := 90) hc dX7_piece_8 (by decide) (by first | assumption | exact hi _ | exact ha _ _ | (unfold zb; omega)) (fun c_1 => ?_) (fun c_1 => ?_)
  · refine z_iconst hc dX7_piece_90 ?_
    refine z_iret M dX7_piece_91 (by omega) (by omega) ?_
    exact ⟨rfl, _, _, Or.inl ⟨by unfold p_ok; omega, rfl, rfl, rfl⟩, hO, hfr⟩
  · refine v_iload_n hc dX7_piece_11 rfl ?_
    refine z_bipush hc dX7_piece_12 (by decide) ?_
    refine z_iremN hc dX7_piece_14 (by first | assumption | exact hi _ | exact ha _ _ | (unfold zb; omega)) (by first | assumption | exact hi _ | exact ha _ _ | (unfold zb; omega)) (by omega) (by omega) ?_
    refine z_iconst hc dX7_piece_15 ?_
    refine z_bipush hc dX7_piece_16 (by decide) ?_
    refine v_callS (As := [.int (zI (x % 100)), .int (zI (1)), .int (zI (63))]) hc ho dX7_piece_18 KS_X7_130 KB_X7_in (c_X7_in _ _ (x := x % 100) (y := 1) (z := 63) (by first | assumption | exact hi _ | exact ha _ _ | (unfold zb; omega)) (by first | assumption | exact hi _ | exact ha _ _ | (unfold zb; omega)) (by first | assumption | exact hi _ | exact ha _ _ | (unfold zb; omega))) rfl (Nat.le_of_ble_eq_true rfl) ⟨by omega, by omega⟩ ⟨by omega, by omega⟩ (fun r_ h_ sz_ q_ z_ => ?_)
    obtain ⟨rfl, rfl, rfl⟩ := q_
    have hq0 := @bI_0 (1 ≤ x % 100 ∧ x % 100 ≤ 63) _
    have hq1 := @bI_1 (1 ≤ x % 100 ∧ x % 100 ≤ 63) _
    have hqb := bI_bd (1 ≤ x % 100 ∧ x % 100 ≤ 63)
    refine z_if_eq (tgt := 90) hc dX7_piece_21 (by decide) (by first | assumption | exact hi _ | exact ha _ _ | (unfold zb; omega)) (fun c_2 => ?_) (fun c_2 => ?_)
    · refine z_iconst hc dX7_piece_90 ?_
      refine z_iret M dX7_piece_91 (by omega) (by omega) ?_
      exact ⟨rfl, _, _, Or.inl ⟨by unfold p_ok; omega, rfl, rfl, rfl⟩, hO, hfr⟩
    · refine v_iload_n hc dX7_piece_24 rfl ?_
      refine z_iconst hc dX7_piece_25 ?_
      refine z_ldc hc ho dX7_piece_26 K_X7_154 ?_
      refine v_callS (As := [.int (zI (y)), .int (zI (0)), .int (zI (240240))]) hc ho dX7_piece_28 KS_X7_130 KB_X7_in (c_X7_in _ _ (x := y) (y := 0) (z := 240240) (by first | assumption | exact hi _ | exact ha _ _ | (unfold zb; omega)) (by first | assumption | exact hi _ | exact ha _ _ | (unfold zb; omega)) (by first | assumption | exact hi _ | exact ha _ _ | (unfold zb; omega))) rfl (Nat.le_of_ble_eq_true rfl) ⟨by omega, by omega⟩ ⟨by omega, by omega⟩ (fun r_ h_ sz_ q_ z_ => ?_)
      obtain ⟨rfl, rfl, rfl⟩ := q_
      have hr0 := @bI_0 (0 ≤ y ∧ y ≤ 240240) _
      have hr1 := @bI_1 (0 ≤ y ∧ y ≤ 240240) _
      have hrb := bI_bd (0 ≤ y ∧ y ≤ 240240)
      refine z_if_eq (tgt := 90) hc dX7_piece_31 (by decide) (by first | assumption | exact hi _ | exact ha _ _ | (unfold zb; omega)) (fun c_3 => ?_) (fun c_3 => ?_)
      · refine z_iconst hc dX7_piece_90 ?_
        refine z_iret M dX7_piece_91 (by omega) (by omega) ?_
        exact ⟨rfl, _, _, Or.inl ⟨by unfold p_ok; omega, rfl, rfl, rfl⟩, hO, hfr⟩
      · refine v_iload_n hc dX7_piece_34 rfl ?_
        refine z_sipush hc dX7_piece_35 (by decide) ?_
        refine z_idivN hc dX7_piece_38 (by first | assumption | exact hi _ | exact ha _ _ | (unfold zb; omega)) (by first | assumption | exact hi _ | exact ha _ _ | (unfold zb; omega)) (by omega) (by omega) ?_
        refine z_bipush hc dX7_piece_39 (by decide) ?_
        refine z_sipush hc dX7_piece_41 (by decide) ?_
        refine v_callS (As := [.int (zI (y / 1000)), .int (zI (30)), .int (zI (240))]) hc ho dX7_piece_44 KS_X7_130 KB_X7_in (c_X7_in _ _ (x := y / 1000) (y := 30) (z := 240) (by first | assumption | exact hi _ | exact ha _ _ | (unfold zb; omega)) (by first | assumption | exact hi _ | exact ha _ _ | (unfold zb; omega)) (by first | assumption | exact hi _ | exact ha _ _ | (unfold zb; omega))) rfl (Nat.le_of_ble_eq_true rfl) ⟨by omega, by omega⟩ ⟨by omega, by omega⟩ (fun r_ h_ sz_ q_ z_ => ?_)
        obtain ⟨rfl, rfl, rfl⟩ := q_
        have hs0 := @bI_0 (30 ≤ y / 1000 ∧ y / 1000 ≤ 240) _
        have hs1 := @bI_1 (30 ≤ y / 1000 ∧ y / 1000 ≤ 240) _
        have hsb := bI_bd (30 ≤ y / 1000 ∧ y / 1000 ≤ 240)
        refine z_if_eq (tgt := 90) hc dX7_piece_47 (by decide) (by first | assumption | exact hi _ | exact ha _ _ | (unfold zb; omega)) (fun c_4 => ?_) (fun c_4 => ?_)
        · refine z_iconst hc dX7_piece_90 ?_
          refine z_iret M dX7_piece_91 (by omega) (by omega) ?_
          exact ⟨rfl, _, _, Or.inl ⟨by unfold p_ok; omega, rfl, rfl, rfl⟩, hO, hfr⟩
        · refine v_iload_n hc dX7_piece_50 rfl ?_
          refine z_sipush hc dX7_piece_51 (by decide) ?_
          refine z_iremN hc dX7_piece_54 (by first | assumption | exact hi _ | exact ha _ _ | (unfold zb; omega)) (by first | assumption | exact hi _ | exact ha _ _ | (unfold zb; omega)) (by omega) (by omega) ?_
          refine v_iload_n hc dX7_piece_55 rfl ?_
          refine z_sipush hc dX7_piece_56 (by decide) ?_
          refine z_idivN hc dX7_piece_59 (by first | assumption | exact hi _ | exact ha _ _ | (unfold zb; omega)) (by first | assumption | exact hi _ | exact ha _ _ | (unfold zb; omega)) (by omega) (by omega) ?_
          refine z_sipush hc dX7_piece_60 (by decide) ?_
          refine v_callS (As := [.int (zI (y % 1000)), .int (zI (y / 1000)), .int (zI (240))]) hc ho dX7_piece_63 KS_X7_130 KB_X7_in (c_X7_in _ _ (x := y % 1000) (y := y / 1000) (z := 240) (by first | assumption | exact hi _ | exact ha _ _ | (unfold zb; omega)) (by first | assumption | exact hi _ | exact ha _ _ | (unfold zb; omega)) (by first | assumption | exact hi _ | exact ha _ _ | (unfold zb; omega))) rfl (Nat.le_of_ble_eq_true rfl) ⟨by omega, by omega⟩ ⟨by omega, by omega⟩ (fun r_ h_ sz_ q_ z_ => ?_)
          obtain ⟨rfl, rfl, rfl⟩ := q_
          have ht0 := @bI_0 (y / 1000 ≤ y % 1000 ∧ y % 1000 ≤ 240) _
          have ht1 := @bI_1 (y / 1000 ≤ y % 1000 ∧ y % 1000 ≤ 240) _
          have htb := bI_bd (y / 1000 ≤ y % 1000 ∧ y % 1000 ≤ 240)
          refine z_if_eq (tgt := 90) hc dX7_piece_66 (by decide) (by first | assumption | exact hi _ | exact ha _ _ | (unfold zb; omega)) (fun c_5 => ?_) (fun c_5 => ?_)
          · refine z_iconst hc dX7_piece_90 ?_
            refine z_iret M dX7_piece_91 (by omega) (by omega) ?_
            exact ⟨rfl, _, _, Or.inl ⟨by unfold p_ok; omega, rfl, rfl, rfl⟩, hO, hfr⟩
          · refine v_iload_n hc dX7_piece_69 rfl ?_
            refine z_iconst hc dX7_piece_70 ?_
            refine z_iconst hc dX7_piece_71 ?_
            refine v_callS (As := [.int (zI (z)), .int (zI (0)), .int (zI (1))]) hc ho dX7_piece_72 KS_X7_130 KB_X7_in (c_X7_in _ _ (x := z) (y := 0) (z := 1) (by first | assumption | exact hi _ | exact ha _ _ | (unfold zb; omega)) (by first | assumption | exact hi _ | exact ha _ _ | (unfold zb; omega)) (by first | assumption | exact hi _ | exact ha _ _ | (unfold zb; omega))) rfl (Nat.le_of_ble_eq_true rfl) ⟨by omega, by omega⟩ ⟨by omega, by omega⟩ (fun r_ h_ sz_ q_ z_ => ?_)
            obtain ⟨rfl, rfl, rfl⟩ := q_
            have hu0 := @bI_0 (0 ≤ z ∧ z ≤ 1) _
            have hu1 := @bI_1 (0 ≤ z ∧ z ≤ 1) _
            have hub := bI_bd (0 ≤ z ∧ z ≤ 1)
            refine z_if_eq (tgt := 90) hc dX7_piece_75 (by decide) (by first | assumption | exact hi _ | exact ha _ _ | (unfold zb; omega)) (fun c_6 => ?_) (fun c_6 => ?_)
            · refine z_iconst hc dX7_piece_90 ?_
              refine z_iret M dX7_piece_91 (by omega) (by omega) ?_
              exact ⟨rfl, _, _, Or.inl ⟨by unfold p_ok; omega, rfl, rfl, rfl⟩, hO, hfr⟩
            · refine v_iload hc dX7_piece_78 rfl ?_
              refine z_iconst hc dX7_piece_80 ?_
              refine z_sipush hc dX7_piece_81 (by decide) ?_
              refine v_callS (As := [.int (zI (u)), .int (zI (0)), .int (zI (999))]) hc ho dX7_piece_84 KS_X7_130 KB_X7_in (c_X7_in _ _ (x := u) (y := 0) (z := 999) (by first | assumption | exact hi _ | exact ha _ _ | (unfold zb; omega)) (by first | assumption | exact hi _ | exact ha _ _ | (unfold zb; omega)) (by first | assumption | exact hi _ | exact ha _ _ | (unfold zb; omega))) rfl (Nat.le_of_ble_eq_true rfl) ⟨by omega, by omega⟩ ⟨by omega, by omega⟩ (fun r_ h_ sz_ q_ z_ => ?_)
              obtain ⟨rfl, rfl, rfl⟩ := q_
              have hv0 := @bI_0 (0 ≤ u ∧ u ≤ 999) _
              have hv1 := @bI_1 (0 ≤ u ∧ u ≤ 999) _
              have hvb := bI_bd (0 ≤ u ∧ u ≤ 999)
              refine z_if_ne (tgt := 92) hc dX7_piece_87 (by decide) (by first | assumption | exact hi _ | exact ha _ _ | (unfold zb; omega)) (fun c_7 => ?_) (fun c_7 => ?_)
              · refine v_aload_n hc dX7_piece_92 rfl ?_
                refine r_get hc ho dX7_piece_93 F_X7_151 hO rfl ?_
                refine z_bipush hc dX7_piece_96 (by decide) ?_
                refine z_icmp_ne (tgt := 104) hc dX7_piece_98 (by decide) (by first | assumption | exact hi _ | exact ha _ _ | (unfold zb; omega)) (by first | assumption | exact hi _ | exact ha _ _ | (unfold zb; omega)) (fun c_8 => ?_) (fun c_8 => ?_)
                · refine v_aload_n hc dX7_piece_104 rfl ?_
                  refine r_getA hc ho dX7_piece_105 F_X7_20 hO rfl ?_
                  refine v_aload_n hc dX7_piece_108 rfl ?_
                  refine r_get hc ho dX7_piece_109 F_X7_151 hO rfl ?_
                  refine v_iload_n hc dX7_piece_112 rfl ?_
                  refine z_bipush hc dX7_piece_113 (by decide) ?_
                  refine z_idivN hc dX7_piece_115 (by first | assumption | exact hi _ | exact ha _ _ | (unfold zb; omega)) (by first | assumption | exact hi _ | exact ha _ _ | (unfold zb; omega)) (by omega) (by omega) ?_
                  refine r_iast hc dX7_piece_116 hO hfr 6 rfl (by decide) (by omega) (by omega) (by first | assumption | exact hi _ | exact ha _ _ | (unfold zb; omega)) (fun h hO hfr => ?_)
                  have ha := hO.2.2.2.2
                  refine v_aload_n hc dX7_piece_117 rfl ?_
                  refine r_getA hc ho dX7_piece_118 F_X7_23 hO rfl ?_
                  refine v_aload_n hc dX7_piece_121 rfl ?_
                  refine r_get hc ho dX7_piece_122 F_X7_151 hO rfl ?_
                  refine v_iload_n hc dX7_piece_125 rfl ?_
                  refine z_bipush hc dX7_piece_126 (by decide) ?_
                  refine z_iremN hc dX7_piece_128 (by first | assumption | exact hi _ | exact ha _ _ | (unfold zb; omega)) (by first | assumption | exact hi _ | exact ha _ _ | (unfold zb; omega)) (by omega) (by omega) ?_
                  refine r_iast hc dX7_piece_129 hO hfr 7 rfl (by decide) (by omega) (by omega) (by first | assumption | exact hi _ | exact ha _ _ | (unfold zb; omega)) (fun h hO hfr => ?_)
                  have ha := hO.2.2.2.2
                  refine v_aload_n hc dX7_piece_130 rfl ?_
                  refine r_getA hc ho dX7_piece_131 F_X7_26 hO rfl ?_
                  refine v_aload_n hc dX7_piece_134 rfl ?_
                  refine r_get hc ho dX7_piece_135 F_X7_151 hO rfl ?_
                  refine v_iload_n hc dX7_piece_138 rfl ?_
                  refine z_sipush hc dX7_piece_139 (by decide) ?_
                  refine z_idivN hc dX7_piece_142 (by first | assumption | exact hi _ | exact ha _ _ | (unfold zb; omega)) (by first | assumption | exact hi _ | exact ha _ _ | (unfold zb; omega)) (by omega) (by omega) ?_
                  refine r_iast hc dX7_piece_143 hO hfr 8 rfl (by decide) (by omega) (by omega) (by first | assumption | exact hi _ | exact ha _ _ | (unfold zb; omega)) (fun h hO hfr => ?_)
                  have ha := hO.2.2.2.2
                  refine v_aload_n hc dX7_piece_144 rfl ?_
                  refine r_getA hc ho dX7_piece_145 F_X7_29 hO rfl ?_
                  refine v_aload_n hc dX7_piece_148 rfl ?_
                  refine r_get hc ho dX7_piece_149 F_X7_151 hO rfl ?_
                  refine v_iload_n hc dX7_piece_152 rfl ?_
                  refine z_sipush hc dX7_piece_153 (by decide) ?_
                  refine z_iremN hc dX7_piece_156 (by first | assumption | exact hi _ | exact ha _ _ | (unfold zb; omega)) (by first | assumption | exact hi _ | exact ha _ _ | (unfold zb; omega)) (by omega) (by omega) ?_
                  refine r_iast hc dX7_piece_157 hO hfr 9 rfl (by decide) (by omega) (by omega) (by first | assumption | exact hi _ | exact ha _ _ | (unfold zb; omega)) (fun h hO hfr => ?_)
                  have ha := hO.2.2.2.2
                  refine v_aload_n hc dX7_piece_158 rfl ?_
                  refine r_getA hc ho dX7_piece_159 F_X7_32 hO rfl ?_
                  refine v_aload_n hc dX7_piece_162 rfl ?_
                  refine r_get hc ho dX7_piece_163 F_X7_151 hO rfl ?_
                  refine v_iload_n hc dX7_piece_166 rfl ?_
                  refine z_iconst hc dX7_piece_167 ?_
                  refine z_icmp_ne (tgt := 175) hc dX7_piece_168 (by decide) (by first | assumption | exact hi _ | exact ha _ _ | (unfold zb; omega)) (by first | assumption | exact hi _ | exact ha _ _ | (unfold zb; omega)) (fun c_9 => ?_) (fun c_9 => ?_)
                  · refine z_iconst hc dX7_piece_175 ?_
                    refine r_zast hc dX7_piece_176 hO hfr 10 rfl (by decide) (by omega) (by omega) (by omega) (fun h hO hfr => ?_)
                    have ha := hO.2.2.2.2
                    refine v_aload_n hc dX7_piece_177 rfl ?_
                    refine r_getA hc ho dX7_piece_178 F_X7_35 hO rfl ?_
                    refine v_aload_n hc dX7_piece_181 rfl ?_
                    refine r_get hc ho dX7_piece_182 F_X7_151 hO rfl ?_
                    refine v_iload hc dX7_piece_185 rfl ?_
                    refine r_iast hc dX7_piece_187 hO hfr 11 rfl (by decide) (by omega) (by omega) (by first | assumption | exact hi _ | exact ha _ _ | (unfold zb; omega)) (fun h hO hfr => ?_)
                    have ha := hO.2.2.2.2
                    refine v_aload_n hc dX7_piece_188 rfl ?_
                    refine v_dup hc dX7_piece_189 rfl ?_
                    refine r_get hc ho dX7_piece_190 F_X7_151 hO rfl ?_
                    refine z_iconst hc dX7_piece_193 ?_
                    refine z_iadd hc dX7_piece_194 ?_
                    refine r_putI hc ho dX7_piece_195 F_X7_151 hO hfr rfl (by first | assumption | exact hi _ | exact ha _ _ | (unfold zb; omega)) (fun h hO hfr => ?_)
                    have hi := hO.2.2.2.1
                    refine v_aload_n hc dX7_piece_198 rfl ?_
                    refine r_get hc ho dX7_piece_199 F_X7_151 hO rfl ?_
                    refine z_iconst hc dX7_piece_202 ?_
                    refine z_isub hc dX7_piece_203 ?_
                    refine z_iret M dX7_piece_204 (by omega) (by omega) ?_
                    first | exact ⟨rfl, _, _, Or.inr (Or.inr ⟨by unfold p_ok; omega, by omega, by simp [b_up], rfl, by rw [bI, if_pos (by omega)]⟩), hO, hfr⟩ | exact ⟨rfl, _, _, Or.inr (Or.inr ⟨by unfold p_ok; omega, by omega, by simp [b_up], rfl, by rw [bI, if_neg (by omega)]⟩), hO, hfr⟩
                  · refine z_iconst hc dX7_piece_171 ?_
                    refine v_goto (tgt := 176) hc dX7_piece_172 (by decide) ?_
                    refine r_zast hc dX7_piece_176 hO hfr 10 rfl (by decide) (by omega) (by omega) (by omega) (fun h hO hfr => ?_)
                    have ha := hO.2.2.2.2
                    refine v_aload_n hc dX7_piece_177 rfl ?_
                    refine r_getA hc ho dX7_piece_178 F_X7_35 hO rfl ?_
                    refine v_aload_n hc dX7_piece_181 rfl ?_
                    refine r_get hc ho dX7_piece_182 F_X7_151 hO rfl ?_
                    refine v_iload hc dX7_piece_185 rfl ?_
                    refine r_iast hc dX7_piece_187 hO hfr 11 rfl (by decide) (by omega) (by omega) (by first | assumption | exact hi _ | exact ha _ _ | (unfold zb; omega)) (fun h hO hfr => ?_)
                    have ha := hO.2.2.2.2
                    refine v_aload_n hc dX7_piece_188 rfl ?_
                    refine v_dup hc dX7_piece_189 rfl ?_
                    refine r_get hc ho dX7_piece_190 F_X7_151 hO rfl ?_
                    refine z_iconst hc dX7_piece_193 ?_
                    refine z_iadd hc dX7_piece_194 ?_
                    refine r_putI hc ho dX7_piece_195 F_X7_151 hO hfr rfl (by first | assumption | exact hi _ | exact ha _ _ | (unfold zb; omega)) (fun h hO hfr => ?_)
                    have hi := hO.2.2.2.1
                    refine v_aload_n hc dX7_piece_198 rfl ?_
                    refine r_get hc ho dX7_piece_199 F_X7_151 hO rfl ?_
                    refine z_iconst hc dX7_piece_202 ?_
                    refine z_isub hc dX7_piece_203 ?_
                    refine z_iret M dX7_piece_204 (by omega) (by omega) ?_
                    first | exact ⟨rfl, _, _, Or.inr (Or.inr ⟨by unfold p_ok; omega, by omega, by simp [b_up], rfl, by rw [bI, if_pos (by omega)]⟩), hO, hfr⟩ | exact ⟨rfl, _, _, Or.inr (Or.inr ⟨by unfold p_ok; omega, by omega, by simp [b_up], rfl, by rw [bI, if_neg (by omega)]⟩), hO, hfr⟩
                · refine z_bipush hc dX7_piece_101 (by decide) ?_
                  refine z_iret M dX7_piece_103 (by omega) (by omega) ?_
                  exact ⟨rfl, _, _, Or.inr (Or.inl ⟨by unfold p_ok; omega, by omega, rfl, rfl, rfl⟩), hO, hfr⟩
              · refine z_iconst hc dX7_piece_90 ?_
                refine z_iret M dX7_piece_91 (by omega) (by omega) ?_
                exact ⟨rfl, _, _, Or.inl ⟨by unfold p_ok; omega, rfl, rfl, rfl⟩, hO, hfr⟩
set_option maxHeartbeats 4000000 in
theorem c_X7_block (l : Launch) (G : b_G) {o : Nat} {ad : Nat → Nat} {i : Nat → Int} {a : Nat → Nat → Int} {h : b_H} {sz : Nat} (hO : r_O K7 7 o ad i a h) (hI : m_P i a) {p b c u : Int} (hp : zb p) (hb : zb b) (hcc : zb c) (hu : zb u) : Con l G yX7_block cX7_block 6 (some .int) 2 43 0 0 [.ref o, .int (zI p), .int (zI b), .int (zI c), .int (zI u)] h sz (p_wr K7 7 o ad h sz (fun r i2 a2 => (¬ ((0 ≤ p ∧ p ≤ i 5 - 1) ∧ (1 ≤ b ∧ b ≤ 64) ∧ (0 ≤ c ∧ c ≤ 3) ∧ (0 ≤ u ∧ u ≤ 255)) ∧ r = some (.int (zI (-1))) ∧ i2 = i ∧ a2 = a) ∨ (((0 ≤ p ∧ p ≤ i 5 - 1) ∧ (1 ≤ b ∧ b ≤ 64) ∧ (0 ≤ c ∧ c ≤ 3) ∧ (0 ≤ u ∧ u ≤ 255)) ∧ a 12 p.toNat = 8 ∧ r = some (.int (zI (-3))) ∧ i2 = i ∧ a2 = a) ∨ (((0 ≤ p ∧ p ≤ i 5 - 1) ∧ (1 ≤ b ∧ b ≤ 64) ∧ (0 ≤ c ∧ c ≤ 3) ∧ (0 ≤ u ∧ u ≤ 255)) ∧ a 12 p.toNat < 8 ∧ r = some (.int (zI (a 12 p.toNat))) ∧ i2 = i ∧ a2 = r_up (r_up (r_up (r_up a 13 (8 * p + a 12 p.toNat).toNat b) 14 (8 * p + a 12 p.toNat).toNat c) 15 (8 * p + a 12 p.toNat).toNat u) 12 p.toNat (a 12 p.toNat + 1)))) := by
  refine Con.ofK (by decide +kernel) rfl rfl ?_
  intro S M
  have hc := M.2.2.2.1
  have ho : s_own S = RX7 := M.2.2.1
  have hFr : (s_R S).frames = 2 := by rw [M.2.2.2.2.2.2.2.1]
  have hLo : (s_R S).locals = 43 := by rw [M.2.2.2.2.2.2.2.1]
  have hCe : (s_R S).cells = 0 := by rw [M.2.2.2.2.2.2.2.1]
  have hSl : (s_R S).slots = 0 := by rw [M.2.2.2.2.2.2.2.1]
  have hi := hO.2.2.2.1
  have ha := hO.2.2.2.2
  obtain ⟨hI5, hIbk, hIsf, hIky, hImd, hIth, hIfe, hIbt, hIb1, hIhw, hInx, hIen⟩ := id hI
  have hfr : ∀ b, ¬ r_own K7 o ad b → h b = h b := fun _ _ => rfl
  refine v_aload_n hc dX7_block_0 rfl ?_
  refine v_iload_n hc dX7_block_1 rfl ?_
  refine v_callV (As := [.int (zI p)]) hc ho dX7_block_2 KV_X7_155 KB_X7_isPiece hO.1 rfl rfl (c_X7_isPiece _ _ hO hI (x := p) (by first | assumption | exact hi _ | exact ha _ _ | (unfold zb; omega))) rfl (Nat.le_of_ble_eq_true rfl) ⟨by omega, by omega⟩ ⟨by omega, by omega⟩ (fun r_ h_ sz_ q_ z_ => ?_)
  obtain ⟨rfl, rfl, rfl⟩ := q_
  have hp0 := @bI_0 (0 ≤ p ∧ p ≤ i 5 - 1) _
  have hp1 := @bI_1 (0 ≤ p ∧ p ≤ i 5 - 1) _
  have hpb := bI_bd (0 ≤ p ∧ p ≤ i 5 - 1)
  refine z_if_eq (tgt := 39) hc dX7_block_5 (by decide) (by first | assumption | exact hi _ | exact ha _ _ | (unfold zb; omega)) (fun c_1 => ?_) (fun c_1 => ?_)
  · refine z_iconst hc dX7_block_39 ?_
    refine z_iret M dX7_block_40 (by omega) (by omega) ?_
    exact ⟨rfl, _, _, Or.inl ⟨by omega, rfl, rfl, rfl⟩, hO, hfr⟩
  · refine v_iload_n hc dX7_block_8 rfl ?_
    refine z_iconst hc dX7_block_9 ?_
    refine z_bipush hc dX7_block_10 (by decide) ?_
    refine v_callS (As := [.int (zI (b)), .int (zI (1)), .int (zI (64))]) hc ho dX7_block_12 KS_X7_130 KB_X7_in (c_X7_in _ _ (x := b) (y := 1) (z := 64) (by first | assumption | exact hi _ | exact ha _ _ | (unfold zb; omega)) (by first | assumption | exact hi _ | exact ha _ _ | (unfold zb; omega)) (by first | assumption | exact hi _ | exact ha _ _ | (unfold zb; omega))) rfl (Nat.le_of_ble_eq_true rfl) ⟨by omega, by omega⟩ ⟨by omega, by omega⟩ (fun r_ h_ sz_ q_ z_ => ?_)
    obtain ⟨rfl, rfl, rfl⟩ := q_
    have hq0 := @bI_0 (1 ≤ b ∧ b ≤ 64) _
    have hq1 := @bI_1 (1 ≤ b ∧ b ≤ 64) _
    have hqb := bI_bd (1 ≤ b ∧ b ≤ 64)
    refine z_if_eq (tgt := 39) hc dX7_block_15 (by decide) (by first | assumption | exact hi _ | exact ha _ _ | (unfold zb; omega)) (fun c_2 => ?_) (fun c_2 => ?_)
    · refine z_iconst hc dX7_block_39 ?_
      refine z_iret M dX7_block_40 (by omega) (by omega) ?_
      exact ⟨rfl, _, _, Or.inl ⟨by omega, rfl, rfl, rfl⟩, hO, hfr⟩
    · refine v_iload_n hc dX7_block_18 rfl ?_
      refine z_iconst hc dX7_block_19 ?_
      refine z_iconst hc dX7_block_20 ?_
      refine v_callS (As := [.int (zI (c)), .int (zI (0)), .int (zI (3))]) hc ho dX7_block_21 KS_X7_130 KB_X7_in (c_X7_in _ _ (x := c) (y := 0) (z := 3) (by first | assumption | exact hi _ | exact ha _ _ | (unfold zb; omega)) (by first | assumption | exact hi _ | exact ha _ _ | (unfold zb; omega)) (by first | assumption | exact hi _ | exact ha _ _ | (unfold zb; omega))) rfl (Nat.le_of_ble_eq_true rfl) ⟨by omega, by omega⟩ ⟨by omega, by omega⟩ (fun r_ h_ sz_ q_ z_ => ?_)
      obtain ⟨rfl, rfl, rfl⟩ := q_
      have hr0 := @bI_0 (0 ≤ c ∧ c ≤ 3) _
      have hr1 := @bI_1 (0 ≤ c ∧ c ≤ 3) _
      have hrb := bI_bd (0 ≤ c ∧ c ≤ 3)
      refine z_if_eq (tgt := 39) hc dX7_block_24 (by decide) (by first | assumption | exact hi _ | exact ha _ _ | (unfold zb; omega)) (fun c_3 => ?_) (fun c_3 => ?_)
      · refine z_iconst hc dX7_block_39 ?_
        refine z_iret M dX7_block_40 (by omega) (by omega) ?_
        exact ⟨rfl, _, _, Or.inl ⟨by omega, rfl, rfl, rfl⟩, hO, hfr⟩
      · refine v_iload hc dX7_block_27 rfl ?_
        refine z_iconst hc dX7_block_29 ?_
        refine z_sipush hc dX7_block_30 (by decide) ?_
        refine v_callS (As := [.int (zI (u)), .int (zI (0)), .int (zI (255))]) hc ho dX7_block_33 KS_X7_130 KB_X7_in (c_X7_in _ _ (x := u) (y := 0) (z := 255) (by first | assumption | exact hi _ | exact ha _ _ | (unfold zb; omega)) (by first | assumption | exact hi _ | exact ha _ _ | (unfold zb; omega)) (by first | assumption | exact hi _ | exact ha _ _ | (unfold zb; omega))) rfl (Nat.le_of_ble_eq_true rfl) ⟨by omega, by omega⟩ ⟨by omega, by omega⟩ (fun r_ h_ sz_ q_ z_ => ?_)
        obtain ⟨rfl, rfl, rfl⟩ := q_
        have hs0 := @bI_0 (0 ≤ u ∧ u ≤ 255) _
        have hs1 := @bI_1 (0 ≤ u ∧ u ≤ 255) _
        have hsb := bI_bd (0 ≤ u ∧ u ≤ 255)
        refine z_if_ne (tgt := 41) hc dX7_block_36 (by decide) (by first | assumption | exact hi _ | exact ha _ _ | (unfold zb; omega)) (fun c_4 => ?_) (fun c_4 => ?_)
        · have hbk := hIbk p.toNat
          refine v_aload_n hc dX7_block_41 rfl ?_
          refine r_getA hc ho dX7_block_42 F_X7_38 hO rfl ?_
          refine v_iload_n hc dX7_block_45 rfl ?_
          refine r_iald hc dX7_block_46 hO 12 rfl (by decide) (by omega) (by omega) ?_
          refine z_bipush hc dX7_block_47 (by decide) ?_
          refine z_icmp_ne (tgt := 55) hc dX7_block_49 (by decide) (by first | assumption | exact hi _ | exact ha _ _ | (unfold zb; omega)) (by first | assumption | exact hi _ | exact ha _ _ | (unfold zb; omega)) (fun c_5 => ?_) (fun c_5 => ?_)
          · refine z_bipush hc dX7_block_55 (by decide) ?_
            refine v_iload_n hc dX7_block_57 rfl ?_
            refine z_imul hc dX7_block_58 ?_
            refine v_aload_n hc dX7_block_59 rfl ?_
            refine r_getA hc ho dX7_block_60 F_X7_38 hO rfl ?_
            refine v_iload_n hc dX7_block_63 rfl ?_
            refine r_iald hc dX7_block_64 hO 12 rfl (by decide) (by omega) (by omega) ?_
            refine z_iadd hc dX7_block_65 ?_
            refine v_istore hc dX7_block_66 (Nat.le_of_ble_eq_true rfl) ?_
            refine v_aload_n hc dX7_block_68 rfl ?_
            refine r_getA hc ho dX7_block_69 F_X7_41 hO rfl ?_
            refine v_iload hc dX7_block_72 rfl ?_
            refine v_iload_n hc dX7_block_74 rfl ?_
            refine r_iast hc dX7_block_75 hO hfr 13 rfl (by decide) (by omega) (by omega) (by first | assumption | exact hi _ | exact ha _ _ | (unfold zb; omega)) (fun h hO hfr => ?_)
            have ha := hO.2.2.2.2
            refine v_aload_n hc dX7_block_76 rfl ?_
            refine r_getA hc ho dX7_block_77 F_X7_44 hO rfl ?_
            refine v_iload hc dX7_block_80 rfl ?_
            refine v_iload_n hc dX7_block_82 rfl ?_
            refine r_iast hc dX7_block_83 hO hfr 14 rfl (by decide) (by omega) (by omega) (by first | assumption | exact hi _ | exact ha _ _ | (unfold zb; omega)) (fun h hO hfr => ?_)
            have ha := hO.2.2.2.2
            refine v_aload_n hc dX7_block_84 rfl ?_
            refine r_getA hc ho dX7_block_85 F_X7_47 hO rfl ?_
            refine v_iload hc dX7_block_88 rfl ?_
            refine v_iload hc dX7_block_90 rfl ?_
            refine r_iast hc dX7_block_92 hO hfr 15 rfl (by decide) (by omega) (by omega) (by first | assumption | exact hi _ | exact ha _ _ | (unfold zb; omega)) (fun h hO hfr => ?_)
            have ha := hO.2.2.2.2
            refine v_aload_n hc dX7_block_93 rfl ?_
            refine r_getA hc ho dX7_block_94 F_X7_38 hO rfl ?_
            refine v_iload_n hc dX7_block_97 rfl ?_
            refine v_dup2 hc dX7_block_98 rfl rfl ?_
            refine r_iald hc dX7_block_99 hO 12 rfl (by decide) (by omega) (by omega) ?_
            have e12 : (r_up (r_up (r_up a 13 (8 * p + a 12 p.toNat).toNat b) 14 (8 * p + a 12 p.toNat).toNat c) 15 (8 * p + a 12 p.toNat).toNat u) 12 p.toNat = a 12 p.toNat := by simp [r_up, b_up]
            refine z_iconst hc dX7_block_100 ?_
            refine z_iadd hc dX7_block_101 ?_
            refine r_iast hc dX7_block_102 hO hfr 12 rfl (by decide) (by omega) (by omega) (by first | assumption | exact hi _ | exact ha _ _ | (unfold zb; omega)) (fun h hO hfr => ?_)
            have ha := hO.2.2.2.2
            refine v_aload_n hc dX7_block_103 rfl ?_
            refine r_getA hc ho dX7_block_104 F_X7_38 hO rfl ?_
            refine v_iload_n hc dX7_block_107 rfl ?_
            refine r_iald hc dX7_block_108 hO 12 rfl (by decide) (by omega) (by omega) ?_
            refine z_iconst hc dX7_block_109 ?_
            refine z_isub hc dX7_block_110 ?_
            refine z_iret M dX7_block_111 (by omega) (by omega) ?_
            exact ⟨rfl, _, _, Or.inr (Or.inr ⟨by omega, by omega, by simp [r_up, b_up], rfl, by simp [r_up, b_up]⟩), hO, hfr⟩
          · refine z_bipush hc dX7_block_52 (by decide) ?_
            refine z_iret M dX7_block_54 (by omega) (by omega) ?_
            exact ⟨rfl, _, _, Or.inr (Or.inl ⟨by omega, by omega, rfl, rfl, rfl⟩), hO, hfr⟩
        · refine z_iconst hc dX7_block_39 ?_
          refine z_iret M dX7_block_40 (by omega) (by omega) ?_
          exact ⟨rfl, _, _, Or.inl ⟨by omega, rfl, rfl, rfl⟩, hO, hfr⟩
set_option maxHeartbeats 4000000 in
theorem c_X7_at (l : Launch) (G : b_G) {h : b_H} {sz : Nat} {n x b : Int} : Con l G yX7_at cX7_at 3 (some .int) 0 0 0 0 [.int (zI n), .int (zI x), .int (zI b)] h sz (p_ro (some (.int (zI (3208 * n + 401 * x + b)))) h sz) := by
  refine Con.ofK (by decide +kernel) rfl rfl ?_
  intro S M
  have hc := M.2.2.2.1
  have ho : s_own S = RX7 := M.2.2.1
  have hFr : (s_R S).frames = 0 := by rw [M.2.2.2.2.2.2.2.1]
  have hLo : (s_R S).locals = 0 := by rw [M.2.2.2.2.2.2.2.1]
  have hCe : (s_R S).cells = 0 := by rw [M.2.2.2.2.2.2.2.1]
  have hSl : (s_R S).slots = 0 := by rw [M.2.2.2.2.2.2.2.1]
  refine z_sipush hc dX7_at_0 (by decide) ?_
  refine v_iload_n hc dX7_at_3 rfl ?_
  refine z_imul hc dX7_at_4 ?_
  refine z_sipush hc dX7_at_5 (by decide) ?_
  refine v_iload_n hc dX7_at_8 rfl ?_
  refine z_imul hc dX7_at_9 ?_
  refine z_iadd hc dX7_at_10 ?_
  refine v_iload_n hc dX7_at_11 rfl ?_
  refine z_iadd hc dX7_at_12 ?_
  refine z_iret M dX7_at_13 (by omega) (by omega) ?_
  exact ⟨rfl, rfl, rfl⟩
set_option maxHeartbeats 4000000 in
theorem c_X7_begins (l : Launch) (G : b_G) {o : Nat} {ad : Nat → Nat} {i : Nat → Int} {a : Nat → Nat → Int} {h : b_H} {sz : Nat} (hO : r_O K7 7 o ad i a h) (hI : m_P i a) {p x : Int} (hp : 0 ≤ p ∧ p ≤ 11) (hx : 0 ≤ x ∧ x ≤ 7) : Con l G yX7_begins cX7_begins 3 (some .boolean) 0 0 0 0 [.ref o, .int (zI p), .int (zI x)] h sz (p_ro (some (.int (zI (bI (2 ≤ a 14 (8 * p + x).toNat))))) h sz) := by
  refine Con.ofK (by decide +kernel) rfl rfl ?_
  intro S M
  have hc := M.2.2.2.1
  have ho : s_own S = RX7 := M.2.2.1
  have hFr : (s_R S).frames = 0 := by rw [M.2.2.2.2.2.2.2.1]
  have hLo : (s_R S).locals = 0 := by rw [M.2.2.2.2.2.2.2.1]
  have hCe : (s_R S).cells = 0 := by rw [M.2.2.2.2.2.2.2.1]
  have hSl : (s_R S).slots = 0 := by rw [M.2.2.2.2.2.2.2.1]
  have hi := hO.2.2.2.1
  have ha := hO.2.2.2.2
  obtain ⟨hI5, hIbk, hIsf, hIky, hImd, hIth, hIfe, hIbt, hIb1, hIhw, hInx, hIen⟩ := id hI
  refine v_aload_n hc dX7_begins_0 rfl ?_
  refine r_getA hc ho dX7_begins_1 F_X7_44 hO rfl ?_
  refine z_bipush hc dX7_begins_4 (by decide) ?_
  refine v_iload_n hc dX7_begins_6 rfl ?_
  refine z_imul hc dX7_begins_7 ?_
  refine v_iload_n hc dX7_begins_8 rfl ?_
  refine z_iadd hc dX7_begins_9 ?_
  refine r_iald hc dX7_begins_10 hO 14 rfl (by decide) (by omega) (by omega) ?_
  refine z_iconst hc dX7_begins_11 ?_
  refine z_icmp_lt (tgt := 19) hc dX7_begins_12 (by decide) (by first | assumption | exact hi _ | exact ha _ _ | (unfold zb; omega)) (by first | assumption | exact hi _ | exact ha _ _ | (unfold zb; omega)) (fun c_1 => ?_) (fun c_1 => ?_)
  · refine z_iconst hc dX7_begins_19 ?_
    refine z_zret M (by omega) dX7_begins_20 (by omega) (by omega) ?_
    first | exact ⟨by rw [bI, if_pos (by omega)], rfl, rfl⟩ | exact ⟨by rw [bI, if_neg (by omega)], rfl, rfl⟩
  · refine z_iconst hc dX7_begins_15 ?_
    refine v_goto (tgt := 20) hc dX7_begins_16 (by decide) ?_
    refine z_zret M (by omega) dX7_begins_20 (by omega) (by omega) ?_
    first | exact ⟨by rw [bI, if_pos (by omega)], rfl, rfl⟩ | exact ⟨by rw [bI, if_neg (by omega)], rfl, rfl⟩
set_option maxHeartbeats 4000000 in
theorem c_X7_shortest (l : Launch) (G : b_G) {o : Nat} {ad : Nat → Nat} {i : Nat → Int} {a : Nat → Nat → Int} {h : b_H} {sz : Nat} (hO : r_O K7 7 o ad i a h) (hI : m_P i a) {p b : Int} (hp : 0 ≤ p ∧ p < i 5) (hb : 0 ≤ b ∧ b ≤ 400) : Con l G yX7_shortest cX7_shortest 3 (some .int) 0 0 0 0 [.ref o, .int (zI p), .int (zI b)] h sz (p_ro (some (.int (zI (600 * b / a 9 p.toNat)))) h sz) := by
  refine Con.ofK (by decide +kernel) rfl rfl ?_
  intro S M
  have hc := M.2.2.2.1
  have ho : s_own S = RX7 := M.2.2.1
  have hFr : (s_R S).frames = 0 := by rw [M.2.2.2.2.2.2.2.1]
  have hLo : (s_R S).locals = 0 := by rw [M.2.2.2.2.2.2.2.1]
  have hCe : (s_R S).cells = 0 := by rw [M.2.2.2.2.2.2.2.1]
  have hSl : (s_R S).slots = 0 := by rw [M.2.2.2.2.2.2.2.1]
  have hi := hO.2.2.2.1
  have ha := hO.2.2.2.2
  obtain ⟨hI5, hIbk, hIsf, hIky, hImd, hIth, hIfe, hIbt, hIb1, hIhw, hInx, hIen⟩ := id hI
  have hsf := hIsf p.toNat (by omega)
  refine z_sipush hc dX7_shortest_0 (by decide) ?_
  refine v_iload_n hc dX7_shortest_3 rfl ?_
  refine z_imul hc dX7_shortest_4 ?_
  refine v_aload_n hc dX7_shortest_5 rfl ?_
  refine r_getA hc ho dX7_shortest_6 F_X7_29 hO rfl ?_
  refine v_iload_n hc dX7_shortest_9 rfl ?_
  refine r_iald hc dX7_shortest_10 hO 9 rfl (by decide) (by omega) (by omega) ?_
  refine z_idivN hc dX7_shortest_11 (by first | assumption | exact hi _ | exact ha _ _ | (unfold zb; omega)) (by first | assumption | exact hi _ | exact ha _ _ | (unfold zb; omega)) (by omega) (by omega) ?_
  refine z_iret M dX7_shortest_12 (by omega) (by omega) ?_
  exact ⟨rfl, rfl, rfl⟩
set_option maxHeartbeats 4000000 in
theorem c_X7_longest (l : Launch) (G : b_G) {o : Nat} {ad : Nat → Nat} {i : Nat → Int} {a : Nat → Nat → Int} {h : b_H} {sz : Nat} (hO : r_O K7 7 o ad i a h) (hI : m_P i a) {p b : Int} (hp : 0 ≤ p ∧ p < i 5) (hb : 0 ≤ b ∧ b ≤ 400) : Con l G yX7_longest cX7_longest 3 (some .int) 0 0 0 0 [.ref o, .int (zI p), .int (zI b)] h sz (p_ro (some (.int (zI (600 * b / a 8 p.toNat)))) h sz) := by
  refine Con.ofK (by decide +kernel) rfl rfl ?_
  intro S M
  have hc := M.2.2.2.1
  have ho : s_own S = RX7 := M.2.2.1
  have hFr : (s_R S).frames = 0 := by rw [M.2.2.2.2.2.2.2.1]
  have hLo : (s_R S).locals = 0 := by rw [M.2.2.2.2.2.2.2.1]
  have hCe : (s_R S).cells = 0 := by rw [M.2.2.2.2.2.2.2.1]
  have hSl : (s_R S).slots = 0 := by rw [M.2.2.2.2.2.2.2.1]
  have hi := hO.2.2.2.1
  have ha := hO.2.2.2.2
  obtain ⟨hI5, hIbk, hIsf, hIky, hImd, hIth, hIfe, hIbt, hIb1, hIhw, hInx, hIen⟩ := id hI
  have hsf := hIsf p.toNat (by omega)
  refine z_sipush hc dX7_longest_0 (by decide) ?_
  refine v_iload_n hc dX7_longest_3 rfl ?_
  refine z_imul hc dX7_longest_4 ?_
  refine v_aload_n hc dX7_longest_5 rfl ?_
  refine r_getA hc ho dX7_longest_6 F_X7_26 hO rfl ?_
  refine v_iload_n hc dX7_longest_9 rfl ?_
  refine r_iald hc dX7_longest_10 hO 8 rfl (by decide) (by omega) (by omega) ?_
  refine z_idivN hc dX7_longest_11 (by first | assumption | exact hi _ | exact ha _ _ | (unfold zb; omega)) (by first | assumption | exact hi _ | exact ha _ _ | (unfold zb; omega)) (by omega) (by omega) ?_
  refine z_iret M dX7_longest_12 (by omega) (by omega) ?_
  exact ⟨rfl, rfl, rfl⟩
set_option maxHeartbeats 4000000 in
theorem c_X7_off (l : Launch) (G : b_G) {h : b_H} {sz : Nat} {x y : Int} (hx : zb x) (hy : zb y) : Con l G yX7_off cX7_off 2 (some .int) 0 0 0 0 [.int (zI x), .int (zI y)] h sz (p_ro (some (.int (zI (p_of x y)))) h sz) := by
  refine Con.ofK (by decide +kernel) rfl rfl ?_
  intro S M
  have hc := M.2.2.2.1
  have ho : s_own S = RX7 := M.2.2.1
  have hFr : (s_R S).frames = 0 := by rw [M.2.2.2.2.2.2.2.1]
  have hLo : (s_R S).locals = 0 := by rw [M.2.2.2.2.2.2.2.1]
  have hCe : (s_R S).cells = 0 := by rw [M.2.2.2.2.2.2.2.1]
  have hSl : (s_R S).slots = 0 := by rw [M.2.2.2.2.2.2.2.1]
  refine v_iload_n hc dX7_off_0 rfl ?_
  refine v_iload_n hc dX7_off_1 rfl ?_
  refine z_icmp_ge (tgt := 11) hc dX7_off_2 (by decide) (by assumption) (by assumption) (fun c_1 => ?_) (fun c_1 => ?_)
  · refine v_iload_n hc dX7_off_11 rfl ?_
    refine v_iload_n hc dX7_off_12 rfl ?_
    refine z_isub hc dX7_off_13 ?_
    refine z_iret M dX7_off_14 (by omega) (by omega) ?_
    first | exact ⟨by rw [p_of, if_pos (by omega)], rfl, rfl⟩ | exact ⟨by rw [p_of, if_neg (by omega)], rfl, rfl⟩
  · refine v_iload_n hc dX7_off_5 rfl ?_
    refine v_iload_n hc dX7_off_6 rfl ?_
    refine z_isub hc dX7_off_7 ?_
    refine v_goto (tgt := 14) hc dX7_off_8 (by decide) ?_
    refine z_iret M dX7_off_14 (by omega) (by omega) ?_
    first | exact ⟨by rw [p_of, if_pos (by omega)], rfl, rfl⟩ | exact ⟨by rw [p_of, if_neg (by omega)], rfl, rfl⟩
set_option maxHeartbeats 4000000 in
theorem c_X7_misfitOf (l : Launch) (G : b_G) {o : Nat} {ad : Nat → Nat} {i : Nat → Int} {a : Nat → Nat → Int} {h : b_H} {sz : Nat} (hO : r_O K7 7 o ad i a h) (hI : m_P i a) {p b t : Int} (hp : 0 ≤ p ∧ p < i 5) (hb : 0 ≤ b ∧ b ≤ 400) (ht : 0 ≤ t ∧ t ≤ 100000) : Con l G yX7_misfitOf cX7_misfitOf 6 (some .int) 1 22 0 0 [.ref o, .int (zI p), .int (zI b), .int (zI t)] h sz (p_ro (some (.int (zI (p_mf (600 * b / a 9 p.toNat) (600 * b / a 8 p.toNat) t)))) h sz) := by
  refine Con.ofK (by decide +kernel) rfl rfl ?_
  intro S M
  have hc := M.2.2.2.1
  have ho : s_own S = RX7 := M.2.2.1
  have hFr : (s_R S).frames = 1 := by rw [M.2.2.2.2.2.2.2.1]
  have hLo : (s_R S).locals = 22 := by rw [M.2.2.2.2.2.2.2.1]
  have hCe : (s_R S).cells = 0 := by rw [M.2.2.2.2.2.2.2.1]
  have hSl : (s_R S).slots = 0 := by rw [M.2.2.2.2.2.2.2.1]
  have hi := hO.2.2.2.1
  have ha := hO.2.2.2.2
  obtain ⟨hI5, hIbk, hIsf, hIky, hImd, hIth, hIfe, hIbt, hIb1, hIhw, hInx, hIen⟩ := id hI
  have hsf := hIsf p.toNat (by omega)
  have hlo := b_div_bd (x := 600 * b) (y := a 9 p.toNat) (by omega) (by omega)
  have hhi := b_div_bd (x := 600 * b) (y := a 8 p.toNat) (by omega) (by omega)
  refine v_aload_n hc dX7_misfitOf_0 rfl ?_
  refine v_iload_n hc dX7_misfitOf_1 rfl ?_
  refine v_iload_n hc dX7_misfitOf_2 rfl ?_
  refine v_callV (As := [.int (zI p), .int (zI b)]) hc ho dX7_misfitOf_3 KV_X7_178 KB_X7_shortest hO.1 rfl rfl (c_X7_shortest _ _ hO hI hp hb) rfl (Nat.le_of_ble_eq_true rfl) ⟨by omega, by omega⟩ ⟨by omega, by omega⟩ (fun r_ h_ sz_ q_ z_ => ?_)
  obtain ⟨rfl, rfl, rfl⟩ := q_
  refine v_istore hc dX7_misfitOf_6 (Nat.le_of_ble_eq_true rfl) ?_
  refine v_aload_n hc dX7_misfitOf_8 rfl ?_
  refine v_iload_n hc dX7_misfitOf_9 rfl ?_
  refine v_iload_n hc dX7_misfitOf_10 rfl ?_
  refine v_callV (As := [.int (zI p), .int (zI b)]) hc ho dX7_misfitOf_11 KV_X7_181 KB_X7_longest hO.1 rfl rfl (c_X7_longest _ _ hO hI hp hb) rfl (Nat.le_of_ble_eq_true rfl) ⟨by omega, by omega⟩ ⟨by omega, by omega⟩ (fun r_ h_ sz_ q_ z_ => ?_)
  obtain ⟨rfl, rfl, rfl⟩ := q_
  refine v_istore hc dX7_misfitOf_14 (Nat.le_of_ble_eq_true rfl) ?_
  refine v_iload_n hc dX7_misfitOf_16 rfl ?_
  refine v_iload hc dX7_misfitOf_17 rfl ?_
  refine v_iload hc dX7_misfitOf_19 rfl ?_
  refine v_callS (As := [.int (zI (t)), .int (zI (600 * b / a 9 p.toNat)), .int (zI (600 * b / a 8 p.toNat))]) hc ho dX7_misfitOf_21 KS_X7_130 KB_X7_in (c_X7_in _ _ (x := t) (y := 600 * b / a 9 p.toNat) (z := 600 * b / a 8 p.toNat) (by first | assumption | exact hi _ | exact ha _ _ | (unfold zb; omega)) (by first | assumption | exact hi _ | exact ha _ _ | (unfold zb; omega)) (by first | assumption | exact hi _ | exact ha _ _ | (unfold zb; omega))) rfl (Nat.le_of_ble_eq_true rfl) ⟨by omega, by omega⟩ ⟨by omega, by omega⟩ (fun r_ h_ sz_ q_ z_ => ?_)
  obtain ⟨rfl, rfl, rfl⟩ := q_
  have hb0 := @bI_0 (600 * b / a 9 p.toNat ≤ t ∧ t ≤ 600 * b / a 8 p.toNat) _
  have hb1 := @bI_1 (600 * b / a 9 p.toNat ≤ t ∧ t ≤ 600 * b / a 8 p.toNat) _
  have hbb := bI_bd (600 * b / a 9 p.toNat ≤ t ∧ t ≤ 600 * b / a 8 p.toNat)
  refine z_if_eq (tgt := 29) hc dX7_misfitOf_24 (by decide) (by first | assumption | exact hi _ | exact ha _ _ | (unfold zb; omega)) (fun c_1 => ?_) (fun c_1 => ?_)
  · refine v_iload_n hc dX7_misfitOf_29 rfl ?_
    refine v_iload hc dX7_misfitOf_30 rfl ?_
    refine v_callS (As := [.int (zI (t)), .int (zI (600 * b / a 9 p.toNat))]) hc ho dX7_misfitOf_32 KS_X7_184 KB_X7_off (c_X7_off _ _ (x := t) (y := 600 * b / a 9 p.toNat) (by first | assumption | exact hi _ | exact ha _ _ | (unfold zb; omega)) (by first | assumption | exact hi _ | exact ha _ _ | (unfold zb; omega))) rfl (Nat.le_of_ble_eq_true rfl) ⟨by omega, by omega⟩ ⟨by omega, by omega⟩ (fun r_ h_ sz_ q_ z_ => ?_)
    obtain ⟨rfl, rfl, rfl⟩ := q_
    refine v_iload_n hc dX7_misfitOf_35 rfl ?_
    refine v_iload hc dX7_misfitOf_36 rfl ?_
    refine v_callS (As := [.int (zI (t)), .int (zI (600 * b / a 8 p.toNat))]) hc ho dX7_misfitOf_38 KS_X7_184 KB_X7_off (c_X7_off _ _ (x := t) (y := 600 * b / a 8 p.toNat) (by first | assumption | exact hi _ | exact ha _ _ | (unfold zb; omega)) (by first | assumption | exact hi _ | exact ha _ _ | (unfold zb; omega))) rfl (Nat.le_of_ble_eq_true rfl) ⟨by omega, by omega⟩ ⟨by omega, by omega⟩ (fun r_ h_ sz_ q_ z_ => ?_)
    obtain ⟨rfl, rfl, rfl⟩ := q_
    have ho1 : 0 ≤ p_of t (600 * b / a 9 p.toNat) ∧ p_of t (600 * b / a 9 p.toNat) ≤ 1000000 := by unfold p_of; split <;> omega
    have ho2 : 0 ≤ p_of t (600 * b / a 8 p.toNat) ∧ p_of t (600 * b / a 8 p.toNat) ≤ 1000000 := by unfold p_of; split <;> omega
    refine z_icmp_ge (tgt := 53) hc dX7_misfitOf_41 (by decide) (by first | assumption | exact hi _ | exact ha _ _ | (unfold zb; omega)) (by first | assumption | exact hi _ | exact ha _ _ | (unfold zb; omega)) (fun c_2 => ?_) (fun c_2 => ?_)
    · refine v_iload_n hc dX7_misfitOf_53 rfl ?_
      refine v_iload hc dX7_misfitOf_54 rfl ?_
      refine v_callS (As := [.int (zI (t)), .int (zI (600 * b / a 8 p.toNat))]) hc ho dX7_misfitOf_56 KS_X7_184 KB_X7_off (c_X7_off _ _ (x := t) (y := 600 * b / a 8 p.toNat) (by first | assumption | exact hi _ | exact ha _ _ | (unfold zb; omega)) (by first | assumption | exact hi _ | exact ha _ _ | (unfold zb; omega))) rfl (Nat.le_of_ble_eq_true rfl) ⟨by omega, by omega⟩ ⟨by omega, by omega⟩ (fun r_ h_ sz_ q_ z_ => ?_)
      obtain ⟨rfl, rfl, rfl⟩ := q_
      refine z_iret M dX7_misfitOf_59 (by omega) (by omega) ?_
      first | exact ⟨by rw [p_mf, if_neg (hb0.mp c_1), if_pos (by omega)], rfl, rfl⟩ | exact ⟨by rw [p_mf, if_neg (hb0.mp c_1), if_neg (by omega)], rfl, rfl⟩
    · refine v_iload_n hc dX7_misfitOf_44 rfl ?_
      refine v_iload hc dX7_misfitOf_45 rfl ?_
      refine v_callS (As := [.int (zI (t)), .int (zI (600 * b / a 9 p.toNat))]) hc ho dX7_misfitOf_47 KS_X7_184 KB_X7_off (c_X7_off _ _ (x := t) (y := 600 * b / a 9 p.toNat) (by first | assumption | exact hi _ | exact ha _ _ | (unfold zb; omega)) (by first | assumption | exact hi _ | exact ha _ _ | (unfold zb; omega))) rfl (Nat.le_of_ble_eq_true rfl) ⟨by omega, by omega⟩ ⟨by omega, by omega⟩ (fun r_ h_ sz_ q_ z_ => ?_)
      obtain ⟨rfl, rfl, rfl⟩ := q_
      refine v_goto (tgt := 59) hc dX7_misfitOf_50 (by decide) ?_
      refine z_iret M dX7_misfitOf_59 (by omega) (by omega) ?_
      first | exact ⟨by rw [p_mf, if_neg (hb0.mp c_1), if_pos (by omega)], rfl, rfl⟩ | exact ⟨by rw [p_mf, if_neg (hb0.mp c_1), if_neg (by omega)], rfl, rfl⟩
  · refine z_iconst hc dX7_misfitOf_27 ?_
    refine z_iret M dX7_misfitOf_28 (by omega) (by omega) ?_
    exact ⟨by rw [p_mf, if_pos (hb1.mp c_1)], rfl, rfl⟩
set_option maxHeartbeats 4000000 in
theorem c_X7_misfit (l : Launch) (G : b_G) {o : Nat} {ad : Nat → Nat} {i : Nat → Int} {a : Nat → Nat → Int} {h : b_H} {sz : Nat} (hO : r_O K7 7 o ad i a h) (hI : m_P i a) {p b t : Int} (hp : zb p) (hb : zb b) (ht : zb t) : Con l G yX7_misfit cX7_misfit 4 (some .int) 2 47 0 0 [.ref o, .int (zI p), .int (zI b), .int (zI t)] h sz (p_ro (some (.int (zI (if ((0 ≤ p ∧ p ≤ i 5 - 1) ∧ (1 ≤ b ∧ b ≤ 400) ∧ (0 ≤ t ∧ t ≤ 100000)) then p_mf (600 * b / a 9 p.toNat) (600 * b / a 8 p.toNat) t else -1)))) h sz) := by
  refine Con.ofK (by decide +kernel) rfl rfl ?_
  intro S M
  have hc := M.2.2.2.1
  have ho : s_own S = RX7 := M.2.2.1
  have hFr : (s_R S).frames = 2 := by rw [M.2.2.2.2.2.2.2.1]
  have hLo : (s_R S).locals = 47 := by rw [M.2.2.2.2.2.2.2.1]
  have hCe : (s_R S).cells = 0 := by rw [M.2.2.2.2.2.2.2.1]
  have hSl : (s_R S).slots = 0 := by rw [M.2.2.2.2.2.2.2.1]
  have hi := hO.2.2.2.1
  have ha := hO.2.2.2.2
  obtain ⟨hI5, hIbk, hIsf, hIky, hImd, hIth, hIfe, hIbt, hIb1, hIhw, hInx, hIen⟩ := id hI
  refine v_aload_n hc dX7_misfit_0 rfl ?_
  refine v_iload_n hc dX7_misfit_1 rfl ?_
  refine v_callV (As := [.int (zI p)]) hc ho dX7_misfit_2 KV_X7_155 KB_X7_isPiece hO.1 rfl rfl (c_X7_isPiece _ _ hO hI (x := p) (by first | assumption | exact hi _ | exact ha _ _ | (unfold zb; omega))) rfl (Nat.le_of_ble_eq_true rfl) ⟨by omega, by omega⟩ ⟨by omega, by omega⟩ (fun r_ h_ sz_ q_ z_ => ?_)
  obtain ⟨rfl, rfl, rfl⟩ := q_
  have hp0 := @bI_0 (0 ≤ p ∧ p ≤ i 5 - 1) _
  have hp1 := @bI_1 (0 ≤ p ∧ p ≤ i 5 - 1) _
  have hpb := bI_bd (0 ≤ p ∧ p ≤ i 5 - 1)
  refine z_if_eq (tgt := 39) hc dX7_misfit_5 (by decide) (by first | assumption | exact hi _ | exact ha _ _ | (unfold zb; omega)) (fun c_1 => ?_) (fun c_1 => ?_)
  · refine z_iconst hc dX7_misfit_39 ?_
    refine z_iret M dX7_misfit_40 (by omega) (by omega) ?_
    first | exact ⟨by rw [if_pos (by omega)], rfl, rfl⟩ | exact ⟨by rw [if_neg (by omega)], rfl, rfl⟩
  · refine v_iload_n hc dX7_misfit_8 rfl ?_
    refine z_iconst hc dX7_misfit_9 ?_
    refine z_sipush hc dX7_misfit_10 (by decide) ?_
    refine v_callS (As := [.int (zI (b)), .int (zI (1)), .int (zI (400))]) hc ho dX7_misfit_13 KS_X7_130 KB_X7_in (c_X7_in _ _ (x := b) (y := 1) (z := 400) (by first | assumption | exact hi _ | exact ha _ _ | (unfold zb; omega)) (by first | assumption | exact hi _ | exact ha _ _ | (unfold zb; omega)) (by first | assumption | exact hi _ | exact ha _ _ | (unfold zb; omega))) rfl (Nat.le_of_ble_eq_true rfl) ⟨by omega, by omega⟩ ⟨by omega, by omega⟩ (fun r_ h_ sz_ q_ z_ => ?_)
    obtain ⟨rfl, rfl, rfl⟩ := q_
    have hq0 := @bI_0 (1 ≤ b ∧ b ≤ 400) _
    have hq1 := @bI_1 (1 ≤ b ∧ b ≤ 400) _
    have hqb := bI_bd (1 ≤ b ∧ b ≤ 400)
    refine z_if_eq (tgt := 39) hc dX7_misfit_16 (by decide) (by first | assumption | exact hi _ | exact ha _ _ | (unfold zb; omega)) (fun c_2 => ?_) (fun c_2 => ?_)
    · refine z_iconst hc dX7_misfit_39 ?_
      refine z_iret M dX7_misfit_40 (by omega) (by omega) ?_
      first | exact ⟨by rw [if_pos (by omega)], rfl, rfl⟩ | exact ⟨by rw [if_neg (by omega)], rfl, rfl⟩
    · refine v_iload_n hc dX7_misfit_19 rfl ?_
      refine z_iconst hc dX7_misfit_20 ?_
      refine z_ldc hc ho dX7_misfit_21 K_X7_187 ?_
      refine v_callS (As := [.int (zI (t)), .int (zI (0)), .int (zI (100000))]) hc ho dX7_misfit_23 KS_X7_130 KB_X7_in (c_X7_in _ _ (x := t) (y := 0) (z := 100000) (by first | assumption | exact hi _ | exact ha _ _ | (unfold zb; omega)) (by first | assumption | exact hi _ | exact ha _ _ | (unfold zb; omega)) (by first | assumption | exact hi _ | exact ha _ _ | (unfold zb; omega))) rfl (Nat.le_of_ble_eq_true rfl) ⟨by omega, by omega⟩ ⟨by omega, by omega⟩ (fun r_ h_ sz_ q_ z_ => ?_)
      obtain ⟨rfl, rfl, rfl⟩ := q_
      have hr0 := @bI_0 (0 ≤ t ∧ t ≤ 100000) _
      have hr1 := @bI_1 (0 ≤ t ∧ t ≤ 100000) _
      have hrb := bI_bd (0 ≤ t ∧ t ≤ 100000)
      refine z_if_eq (tgt := 39) hc dX7_misfit_26 (by decide) (by first | assumption | exact hi _ | exact ha _ _ | (unfold zb; omega)) (fun c_3 => ?_) (fun c_3 => ?_)
      · refine z_iconst hc dX7_misfit_39 ?_
        refine z_iret M dX7_misfit_40 (by omega) (by omega) ?_
        first | exact ⟨by rw [if_pos (by omega)], rfl, rfl⟩ | exact ⟨by rw [if_neg (by omega)], rfl, rfl⟩
      · refine v_aload_n hc dX7_misfit_29 rfl ?_
        refine v_iload_n hc dX7_misfit_30 rfl ?_
        refine v_iload_n hc dX7_misfit_31 rfl ?_
        refine v_iload_n hc dX7_misfit_32 rfl ?_
        refine v_callV (As := [.int (zI p), .int (zI b), .int (zI t)]) hc ho dX7_misfit_33 KV_X7_188 KB_X7_misfitOf hO.1 rfl rfl (c_X7_misfitOf _ _ hO hI (p := p) (b := b) (t := t) (by omega) (by omega) (by omega)) rfl (Nat.le_of_ble_eq_true rfl) ⟨by omega, by omega⟩ ⟨by omega, by omega⟩ (fun r_ h_ sz_ q_ z_ => ?_)
        obtain ⟨rfl, rfl, rfl⟩ := q_
        refine v_goto (tgt := 40) hc dX7_misfit_36 (by decide) ?_
        refine z_iret M dX7_misfit_40 (by omega) (by omega) ?_
        first | exact ⟨by rw [if_pos (by omega)], rfl, rfl⟩ | exact ⟨by rw [if_neg (by omega)], rfl, rfl⟩
set_option maxHeartbeats 4000000 in
theorem c_X7_stepOf (l : Launch) (G : b_G) {h : b_H} {sz : Nat} {x y : Int} (hx : 0 ≤ x ∧ x ≤ 11) (hy : 0 ≤ y ∧ y ≤ 11) : Con l G yX7_stepOf cX7_stepOf 3 (some .int) 0 0 0 0 [.int (zI x), .int (zI y)] h sz (p_ro (some (.int (zI (p_st x y)))) h sz) := by
  refine Con.ofK (by decide +kernel) rfl rfl ?_
  intro S M
  have hc := M.2.2.2.1
  have ho : s_own S = RX7 := M.2.2.1
  have hFr : (s_R S).frames = 0 := by rw [M.2.2.2.2.2.2.2.1]
  have hLo : (s_R S).locals = 0 := by rw [M.2.2.2.2.2.2.2.1]
  have hCe : (s_R S).cells = 0 := by rw [M.2.2.2.2.2.2.2.1]
  have hSl : (s_R S).slots = 0 := by rw [M.2.2.2.2.2.2.2.1]
  refine z_bipush hc dX7_stepOf_0 (by decide) ?_
  refine v_iload_n hc dX7_stepOf_2 rfl ?_
  refine v_iload_n hc dX7_stepOf_3 rfl ?_
  refine z_isub hc dX7_stepOf_4 ?_
  refine z_imul hc dX7_stepOf_5 ?_
  refine z_bipush hc dX7_stepOf_6 (by decide) ?_
  refine z_iadd hc dX7_stepOf_8 ?_
  refine z_bipush hc dX7_stepOf_9 (by decide) ?_
  refine z_iremN hc dX7_stepOf_11 (by unfold zb; omega) (by unfold zb; omega) (by omega) (by omega) ?_
  refine v_istore_n hc dX7_stepOf_12 (Nat.le_of_ble_eq_true rfl) ?_
  refine v_iload_n hc dX7_stepOf_13 rfl ?_
  refine z_bipush hc dX7_stepOf_14 (by decide) ?_
  refine v_iload_n hc dX7_stepOf_16 rfl ?_
  refine z_isub hc dX7_stepOf_17 ?_
  refine z_icmp_ge (tgt := 25) hc dX7_stepOf_18 (by decide) (by unfold zb; omega) (by unfold zb; omega) (fun c_1 => ?_) (fun c_1 => ?_)
  · refine z_bipush hc dX7_stepOf_25 (by decide) ?_
    refine v_iload_n hc dX7_stepOf_27 rfl ?_
    refine z_isub hc dX7_stepOf_28 ?_
    refine z_iret M dX7_stepOf_29 (by omega) (by omega) ?_
    first | exact ⟨by rw [p_st, if_pos (by omega)], rfl, rfl⟩ | exact ⟨by rw [p_st, if_neg (by omega)], rfl, rfl⟩
  · refine v_iload_n hc dX7_stepOf_21 rfl ?_
    refine v_goto (tgt := 29) hc dX7_stepOf_22 (by decide) ?_
    refine z_iret M dX7_stepOf_29 (by omega) (by omega) ?_
    first | exact ⟨by rw [p_st, if_pos (by omega)], rfl, rfl⟩ | exact ⟨by rw [p_st, if_neg (by omega)], rfl, rfl⟩
set_option maxHeartbeats 4000000 in
theorem c_X7_step (l : Launch) (G : b_G) {h : b_H} {sz : Nat} {o : Nat} {x y : Int} (hx : zb x) (hy : zb y) : Con l G yX7_step cX7_step 3 (some .int) 1 22 0 0 [.ref o, .int (zI x), .int (zI y)] h sz (p_ro (some (.int (zI (if (0 ≤ x ∧ x ≤ 11) ∧ 0 ≤ y ∧ y ≤ 11 then p_st x y else -1)))) h sz) := by
  refine Con.ofK (by decide +kernel) rfl rfl ?_
  intro S M
  have hc := M.2.2.2.1
  have ho : s_own S = RX7 := M.2.2.1
  have hFr : (s_R S).frames = 1 := by rw [M.2.2.2.2.2.2.2.1]
  have hLo : (s_R S).locals = 22 := by rw [M.2.2.2.2.2.2.2.1]
  have hCe : (s_R S).cells = 0 := by rw [M.2.2.2.2.2.2.2.1]
  have hSl : (s_R S).slots = 0 := by rw [M.2.2.2.2.2.2.2.1]
  refine v_iload_n hc dX7_step_0 rfl ?_
  refine z_iconst hc dX7_step_1 ?_
  refine z_bipush hc dX7_step_2 (by decide) ?_
  refine v_callS (As := [.int (zI (x)), .int (zI (0)), .int (zI (11))]) hc ho dX7_step_4 KS_X7_130 KB_X7_in (c_X7_in _ _ (x := x) (y := 0) (z := 11) (by first | assumption | (unfold zb; omega)) (by first | assumption | (unfold zb; omega)) (by first | assumption | (unfold zb; omega))) rfl (Nat.le_of_ble_eq_true rfl) ⟨by omega, by omega⟩ ⟨by omega, by omega⟩ (fun r_ h_ sz_ q_ z_ => ?_)
  obtain ⟨rfl, rfl, rfl⟩ := q_
  have hp0 := @bI_0 (0 ≤ x ∧ x ≤ 11) _
  have hp1 := @bI_1 (0 ≤ x ∧ x ≤ 11) _
  have hpb := bI_bd (0 ≤ x ∧ x ≤ 11)
  refine z_if_eq (tgt := 28) hc dX7_step_7 (by decide) (by first | assumption | (unfold zb; omega)) (fun c_1 => ?_) (fun c_1 => ?_)
  · refine z_iconst hc dX7_step_28 ?_
    refine z_iret M dX7_step_29 (by omega) (by omega) ?_
    first | exact ⟨by rw [if_pos (by omega)], rfl, rfl⟩ | exact ⟨by rw [if_neg (by omega)], rfl, rfl⟩
  · refine v_iload_n hc dX7_step_10 rfl ?_
    refine z_iconst hc dX7_step_11 ?_
    refine z_bipush hc dX7_step_12 (by decide) ?_
    refine v_callS (As := [.int (zI (y)), .int (zI (0)), .int (zI (11))]) hc ho dX7_step_14 KS_X7_130 KB_X7_in (c_X7_in _ _ (x := y) (y := 0) (z := 11) (by first | assumption | (unfold zb; omega)) (by first | assumption | (unfold zb; omega)) (by first | assumption | (unfold zb; omega))) rfl (Nat.le_of_ble_eq_true rfl) ⟨by omega, by omega⟩ ⟨by omega, by omega⟩ (fun r_ h_ sz_ q_ z_ => ?_)
    obtain ⟨rfl, rfl, rfl⟩ := q_
    have hq0 := @bI_0 (0 ≤ y ∧ y ≤ 11) _
    have hq1 := @bI_1 (0 ≤ y ∧ y ≤ 11) _
    have hqb := bI_bd (0 ≤ y ∧ y ≤ 11)
    refine z_if_eq (tgt := 28) hc dX7_step_17 (by decide) (by first | assumption | (unfold zb; omega)) (fun c_2 => ?_) (fun c_2 => ?_)
    · refine z_iconst hc dX7_step_28 ?_
      refine z_iret M dX7_step_29 (by omega) (by omega) ?_
      first | exact ⟨by rw [if_pos (by omega)], rfl, rfl⟩ | exact ⟨by rw [if_neg (by omega)], rfl, rfl⟩
    · refine v_iload_n hc dX7_step_20 rfl ?_
      refine v_iload_n hc dX7_step_21 rfl ?_
      refine v_callS (As := [.int (zI x), .int (zI y)]) hc ho dX7_step_22 KS_X7_197 KB_X7_stepOf (c_X7_stepOf _ _ (x := x) (y := y) (by omega) (by omega)) rfl (Nat.le_of_ble_eq_true rfl) ⟨by omega, by omega⟩ ⟨by omega, by omega⟩ (fun r_ h_ sz_ q_ z_ => ?_)
      obtain ⟨rfl, rfl, rfl⟩ := q_
      refine v_goto (tgt := 29) hc dX7_step_25 (by decide) ?_
      refine z_iret M dX7_step_29 (by omega) (by omega) ?_
      first | exact ⟨by rw [if_pos (by omega)], rfl, rfl⟩ | exact ⟨by rw [if_neg (by omega)], rfl, rfl⟩
def m_R (i : Nat → Int) (a : Nat → Nat → Int) : Prop := (0 ≤ i 19 ∧ i 19 ≤ 99) ∧ (0 ≤ i 20 ∧ i 20 ≤ 6)
set_option maxHeartbeats 4000000 in
theorem c_X7_rule (l : Launch) (G : b_G) {o : Nat} {ad : Nat → Nat} {i : Nat → Int} {a : Nat → Nat → Int} {h : b_H} {sz : Nat} (hO : r_O K7 7 o ad i a h) (hI : m_R i a) {x v : Int} (hx : zb x) (hv : zb v) : Con l G yX7_rule cX7_rule 4 (some .int) 1 22 0 0 [.ref o, .int (zI x), .int (zI v)] h sz (p_wr K7 7 o ad h sz (fun r i2 a2 => (¬ ((x = 0 ∧ 0 ≤ v ∧ v ≤ 99) ∨ (x = 1 ∧ 0 ≤ v ∧ v ≤ 6)) ∧ r = some (.int (zI (-1))) ∧ i2 = i ∧ a2 = a) ∨ (x = 0 ∧ (0 ≤ v ∧ v ≤ 99) ∧ r = some (.int (zI (i 19))) ∧ i2 = b_up i 19 v ∧ a2 = a) ∨ (x = 1 ∧ (0 ≤ v ∧ v ≤ 6) ∧ r = some (.int (zI (i 20))) ∧ i2 = b_up i 20 v ∧ a2 = a))) := by
  refine Con.ofK (by decide +kernel) rfl rfl ?_
  intro S M
  have hc := M.2.2.2.1
  have ho : s_own S = RX7 := M.2.2.1
  have hFr : (s_R S).frames = 1 := by rw [M.2.2.2.2.2.2.2.1]
  have hLo : (s_R S).locals = 22 := by rw [M.2.2.2.2.2.2.2.1]
  have hCe : (s_R S).cells = 0 := by rw [M.2.2.2.2.2.2.2.1]
  have hSl : (s_R S).slots = 0 := by rw [M.2.2.2.2.2.2.2.1]
  have hi := hO.2.2.2.1
  have ha := hO.2.2.2.2
  have hI1 := hI.1
  have hI2 := hI.2
  have hfr : ∀ b, ¬ r_own K7 o ad b → h b = h b := fun _ _ => rfl
  refine v_iload_n hc dX7_rule_0 rfl ?_
  refine z_iconst hc dX7_rule_1 ?_
  refine z_iconst hc dX7_rule_2 ?_
  refine v_callS (As := [.int (zI (x)), .int (zI (0)), .int (zI (1))]) hc ho dX7_rule_3 KS_X7_130 KB_X7_in (c_X7_in _ _ (x := x) (y := 0) (z := 1) (by first | assumption | exact hi _ | exact ha _ _ | (unfold zb; omega)) (by first | assumption | exact hi _ | exact ha _ _ | (unfold zb; omega)) (by first | assumption | exact hi _ | exact ha _ _ | (unfold zb; omega))) rfl (Nat.le_of_ble_eq_true rfl) ⟨by omega, by omega⟩ ⟨by omega, by omega⟩ (fun r_ h_ sz_ q_ z_ => ?_)
  obtain ⟨rfl, rfl, rfl⟩ := q_
  have hp0 := @bI_0 (0 ≤ x ∧ x ≤ 1) _
  have hp1 := @bI_1 (0 ≤ x ∧ x ≤ 1) _
  have hpb := bI_bd (0 ≤ x ∧ x ≤ 1)
  refine z_if_eq (tgt := 28) hc dX7_rule_6 (by decide) (by first | assumption | exact hi _ | exact ha _ _ | (unfold zb; omega)) (fun c_1 => ?_) (fun c_1 => ?_)
  · refine z_iconst hc dX7_rule_28 ?_
    refine z_iret M dX7_rule_29 (by omega) (by omega) ?_
    exact ⟨rfl, _, _, Or.inl ⟨by omega, rfl, rfl, rfl⟩, hO, hfr⟩
  · refine v_iload_n hc dX7_rule_9 rfl ?_
    refine z_iconst hc dX7_rule_10 ?_
    refine v_iload_n hc dX7_rule_11 rfl ?_
    refine z_if_ne (tgt := 20) hc dX7_rule_12 (by decide) (by first | assumption | exact hi _ | exact ha _ _ | (unfold zb; omega)) (fun c_2 => ?_) (fun c_2 => ?_)
    · refine z_bipush hc dX7_rule_20 (by decide) ?_
      refine v_callS (As := [.int (zI (v)), .int (zI (0)), .int (zI (6))]) hc ho dX7_rule_22 KS_X7_130 KB_X7_in (c_X7_in _ _ (x := v) (y := 0) (z := 6) (by first | assumption | exact hi _ | exact ha _ _ | (unfold zb; omega)) (by first | assumption | exact hi _ | exact ha _ _ | (unfold zb; omega)) (by first | assumption | exact hi _ | exact ha _ _ | (unfold zb; omega))) rfl (Nat.le_of_ble_eq_true rfl) ⟨by omega, by omega⟩ ⟨by omega, by omega⟩ (fun r_ h_ sz_ q_ z_ => ?_)
      obtain ⟨rfl, rfl, rfl⟩ := q_
      have hq0 := @bI_0 (0 ≤ v ∧ v ≤ 99) _
      have hq1 := @bI_1 (0 ≤ v ∧ v ≤ 99) _
      have hqb := bI_bd (0 ≤ v ∧ v ≤ 99)
      have hr0 := @bI_0 (0 ≤ v ∧ v ≤ 6) _
      have hr1 := @bI_1 (0 ≤ v ∧ v ≤ 6) _
      have hrb := bI_bd (0 ≤ v ∧ v ≤ 6)
      refine z_if_ne (tgt := 30) hc dX7_rule_25 (by decide) (by first | assumption | exact hi _ | exact ha _ _ | (unfold zb; omega)) (fun c_3 => ?_) (fun c_3 => ?_)
      · refine v_iload_n hc dX7_rule_30 rfl ?_
        refine z_if_ne (tgt := 41) hc dX7_rule_31 (by decide) (by first | assumption | exact hi _ | exact ha _ _ | (unfold zb; omega)) (fun c_4 => ?_) (fun c_4 => ?_)
        · refine v_aload_n hc dX7_rule_41 rfl ?_
          refine r_get hc ho dX7_rule_42 F_X7_61 hO rfl ?_
          refine v_istore_n hc dX7_rule_45 (Nat.le_of_ble_eq_true rfl) ?_
          refine v_iload_n hc dX7_rule_46 rfl ?_
          refine z_if_ne (tgt := 58) hc dX7_rule_47 (by decide) (by first | assumption | exact hi _ | exact ha _ _ | (unfold zb; omega)) (fun c_5 => ?_) (fun c_5 => ?_)
          · refine v_aload_n hc dX7_rule_58 rfl ?_
            refine v_iload_n hc dX7_rule_59 rfl ?_
            refine r_putI hc ho dX7_rule_60 F_X7_61 hO hfr rfl (by first | assumption | exact hi _ | exact ha _ _ | (unfold zb; omega)) (fun h hO hfr => ?_)
            have hi := hO.2.2.2.1
            refine v_iload_n hc dX7_rule_63 rfl ?_
            refine z_iret M dX7_rule_64 (by omega) (by omega) ?_
            first | (exfalso; omega) | exact ⟨rfl, _, _, Or.inr (Or.inl ⟨by omega, by omega, rfl, rfl, rfl⟩), hO, hfr⟩ | exact ⟨rfl, _, _, Or.inr (Or.inr ⟨by omega, by omega, rfl, rfl, rfl⟩), hO, hfr⟩
          · refine v_aload_n hc dX7_rule_50 rfl ?_
            refine v_iload_n hc dX7_rule_51 rfl ?_
            refine r_putI hc ho dX7_rule_52 F_X7_57 hO hfr rfl (by first | assumption | exact hi _ | exact ha _ _ | (unfold zb; omega)) (fun h hO hfr => ?_)
            have hi := hO.2.2.2.1
            refine v_goto (tgt := 63) hc dX7_rule_55 (by decide) ?_
            refine v_iload_n hc dX7_rule_63 rfl ?_
            refine z_iret M dX7_rule_64 (by omega) (by omega) ?_
            first | (exfalso; omega) | exact ⟨rfl, _, _, Or.inr (Or.inl ⟨by omega, by omega, rfl, rfl, rfl⟩), hO, hfr⟩ | exact ⟨rfl, _, _, Or.inr (Or.inr ⟨by omega, by omega, rfl, rfl, rfl⟩), hO, hfr⟩
        · refine v_aload_n hc dX7_rule_34 rfl ?_
          refine r_get hc ho dX7_rule_35 F_X7_57 hO rfl ?_
          refine v_goto (tgt := 45) hc dX7_rule_38 (by decide) ?_
          refine v_istore_n hc dX7_rule_45 (Nat.le_of_ble_eq_true rfl) ?_
          refine v_iload_n hc dX7_rule_46 rfl ?_
          refine z_if_ne (tgt := 58) hc dX7_rule_47 (by decide) (by first | assumption | exact hi _ | exact ha _ _ | (unfold zb; omega)) (fun c_6 => ?_) (fun c_6 => ?_)
          · refine v_aload_n hc dX7_rule_58 rfl ?_
            refine v_iload_n hc dX7_rule_59 rfl ?_
            refine r_putI hc ho dX7_rule_60 F_X7_61 hO hfr rfl (by first | assumption | exact hi _ | exact ha _ _ | (unfold zb; omega)) (fun h hO hfr => ?_)
            have hi := hO.2.2.2.1
            refine v_iload_n hc dX7_rule_63 rfl ?_
            refine z_iret M dX7_rule_64 (by omega) (by omega) ?_
            first | (exfalso; omega) | exact ⟨rfl, _, _, Or.inr (Or.inl ⟨by omega, by omega, rfl, rfl, rfl⟩), hO, hfr⟩ | exact ⟨rfl, _, _, Or.inr (Or.inr ⟨by omega, by omega, rfl, rfl, rfl⟩), hO, hfr⟩
          · refine v_aload_n hc dX7_rule_50 rfl ?_
            refine v_iload_n hc dX7_rule_51 rfl ?_
            refine r_putI hc ho dX7_rule_52 F_X7_57 hO hfr rfl (by first | assumption | exact hi _ | exact ha _ _ | (unfold zb; omega)) (fun h hO hfr => ?_)
            have hi := hO.2.2.2.1
            refine v_goto (tgt := 63) hc dX7_rule_55 (by decide) ?_
            refine v_iload_n hc dX7_rule_63 rfl ?_
            refine z_iret M dX7_rule_64 (by omega) (by omega) ?_
            first | (exfalso; omega) | exact ⟨rfl, _, _, Or.inr (Or.inl ⟨by omega, by omega, rfl, rfl, rfl⟩), hO, hfr⟩ | exact ⟨rfl, _, _, Or.inr (Or.inr ⟨by omega, by omega, rfl, rfl, rfl⟩), hO, hfr⟩
      · refine z_iconst hc dX7_rule_28 ?_
        refine z_iret M dX7_rule_29 (by omega) (by omega) ?_
        exact ⟨rfl, _, _, Or.inl ⟨by omega, rfl, rfl, rfl⟩, hO, hfr⟩
    · refine z_bipush hc dX7_rule_15 (by decide) ?_
      refine v_goto (tgt := 22) hc dX7_rule_17 (by decide) ?_
      refine v_callS (As := [.int (zI (v)), .int (zI (0)), .int (zI (99))]) hc ho dX7_rule_22 KS_X7_130 KB_X7_in (c_X7_in _ _ (x := v) (y := 0) (z := 99) (by first | assumption | exact hi _ | exact ha _ _ | (unfold zb; omega)) (by first | assumption | exact hi _ | exact ha _ _ | (unfold zb; omega)) (by first | assumption | exact hi _ | exact ha _ _ | (unfold zb; omega))) rfl (Nat.le_of_ble_eq_true rfl) ⟨by omega, by omega⟩ ⟨by omega, by omega⟩ (fun r_ h_ sz_ q_ z_ => ?_)
      obtain ⟨rfl, rfl, rfl⟩ := q_
      have hq0 := @bI_0 (0 ≤ v ∧ v ≤ 99) _
      have hq1 := @bI_1 (0 ≤ v ∧ v ≤ 99) _
      have hqb := bI_bd (0 ≤ v ∧ v ≤ 99)
      have hr0 := @bI_0 (0 ≤ v ∧ v ≤ 6) _
      have hr1 := @bI_1 (0 ≤ v ∧ v ≤ 6) _
      have hrb := bI_bd (0 ≤ v ∧ v ≤ 6)
      refine z_if_ne (tgt := 30) hc dX7_rule_25 (by decide) (by first | assumption | exact hi _ | exact ha _ _ | (unfold zb; omega)) (fun c_7 => ?_) (fun c_7 => ?_)
      · refine v_iload_n hc dX7_rule_30 rfl ?_
        refine z_if_ne (tgt := 41) hc dX7_rule_31 (by decide) (by first | assumption | exact hi _ | exact ha _ _ | (unfold zb; omega)) (fun c_8 => ?_) (fun c_8 => ?_)
        · refine v_aload_n hc dX7_rule_41 rfl ?_
          refine r_get hc ho dX7_rule_42 F_X7_61 hO rfl ?_
          refine v_istore_n hc dX7_rule_45 (Nat.le_of_ble_eq_true rfl) ?_
          refine v_iload_n hc dX7_rule_46 rfl ?_
          refine z_if_ne (tgt := 58) hc dX7_rule_47 (by decide) (by first | assumption | exact hi _ | exact ha _ _ | (unfold zb; omega)) (fun c_9 => ?_) (fun c_9 => ?_)
          · refine v_aload_n hc dX7_rule_58 rfl ?_
            refine v_iload_n hc dX7_rule_59 rfl ?_
            refine r_putI hc ho dX7_rule_60 F_X7_61 hO hfr rfl (by first | assumption | exact hi _ | exact ha _ _ | (unfold zb; omega)) (fun h hO hfr => ?_)
            have hi := hO.2.2.2.1
            refine v_iload_n hc dX7_rule_63 rfl ?_
            refine z_iret M dX7_rule_64 (by omega) (by omega) ?_
            first | (exfalso; omega) | exact ⟨rfl, _, _, Or.inr (Or.inl ⟨by omega, by omega, rfl, rfl, rfl⟩), hO, hfr⟩ | exact ⟨rfl, _, _, Or.inr (Or.inr ⟨by omega, by omega, rfl, rfl, rfl⟩), hO, hfr⟩
          · refine v_aload_n hc dX7_rule_50 rfl ?_
            refine v_iload_n hc dX7_rule_51 rfl ?_
            refine r_putI hc ho dX7_rule_52 F_X7_57 hO hfr rfl (by first | assumption | exact hi _ | exact ha _ _ | (unfold zb; omega)) (fun h hO hfr => ?_)
            have hi := hO.2.2.2.1
            refine v_goto (tgt := 63) hc dX7_rule_55 (by decide) ?_
            refine v_iload_n hc dX7_rule_63 rfl ?_
            refine z_iret M dX7_rule_64 (by omega) (by omega) ?_
            first | (exfalso; omega) | exact ⟨rfl, _, _, Or.inr (Or.inl ⟨by omega, by omega, rfl, rfl, rfl⟩), hO, hfr⟩ | exact ⟨rfl, _, _, Or.inr (Or.inr ⟨by omega, by omega, rfl, rfl, rfl⟩), hO, hfr⟩
        · refine v_aload_n hc dX7_rule_34 rfl ?_
          refine r_get hc ho dX7_rule_35 F_X7_57 hO rfl ?_
          refine v_goto (tgt := 45) hc dX7_rule_38 (by decide) ?_
          refine v_istore_n hc dX7_rule_45 (Nat.le_of_ble_eq_true rfl) ?_
          refine v_iload_n hc dX7_rule_46 rfl ?_
          refine z_if_ne (tgt := 58) hc dX7_rule_47 (by decide) (by first | assumption | exact hi _ | exact ha _ _ | (unfold zb; omega)) (fun c_10 => ?_) (fun c_10 => ?_)
          · refine v_aload_n hc dX7_rule_58 rfl ?_
            refine v_iload_n hc dX7_rule_59 rfl ?_
            refine r_putI hc ho dX7_rule_60 F_X7_61 hO hfr rfl (by first | assumption | exact hi _ | exact ha _ _ | (unfold zb; omega)) (fun h hO hfr => ?_)
            have hi := hO.2.2.2.1
            refine v_iload_n hc dX7_rule_63 rfl ?_
            refine z_iret M dX7_rule_64 (by omega) (by omega) ?_
            first | (exfalso; omega) | exact ⟨rfl, _, _, Or.inr (Or.inl ⟨by omega, by omega, rfl, rfl, rfl⟩), hO, hfr⟩ | exact ⟨rfl, _, _, Or.inr (Or.inr ⟨by omega, by omega, rfl, rfl, rfl⟩), hO, hfr⟩
          · refine v_aload_n hc dX7_rule_50 rfl ?_
            refine v_iload_n hc dX7_rule_51 rfl ?_
            refine r_putI hc ho dX7_rule_52 F_X7_57 hO hfr rfl (by first | assumption | exact hi _ | exact ha _ _ | (unfold zb; omega)) (fun h hO hfr => ?_)
            have hi := hO.2.2.2.1
            refine v_goto (tgt := 63) hc dX7_rule_55 (by decide) ?_
            refine v_iload_n hc dX7_rule_63 rfl ?_
            refine z_iret M dX7_rule_64 (by omega) (by omega) ?_
            first | (exfalso; omega) | exact ⟨rfl, _, _, Or.inr (Or.inl ⟨by omega, by omega, rfl, rfl, rfl⟩), hO, hfr⟩ | exact ⟨rfl, _, _, Or.inr (Or.inr ⟨by omega, by omega, rfl, rfl, rfl⟩), hO, hfr⟩
      · refine z_iconst hc dX7_rule_28 ?_
        refine z_iret M dX7_rule_29 (by omega) (by omega) ?_
        exact ⟨rfl, _, _, Or.inl ⟨by omega, rfl, rfl, rfl⟩, hO, hfr⟩
