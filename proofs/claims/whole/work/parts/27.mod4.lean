/-! the reference: what was given, the night's readers -/
theorem b_long {s b t : Int} (hs : 0 ≤ s) (hs2 : s < 2147483648) (hb : 0 ≤ b) (hb2 : b < 2147483648) (ht : 0 < t) (ht2 : t < 2147483648) : ((zI s).toInt64 * (zI b).toInt64 / (zI t).toInt64).toInt32 = zI (s * b / t) := by
  obtain ⟨x, rfl⟩ : ∃ x : Nat, s = x := ⟨s.toNat, by omega⟩
  obtain ⟨y, rfl⟩ : ∃ y : Nat, b = y := ⟨b.toNat, by omega⟩
  obtain ⟨z, rfl⟩ : ∃ z : Nat, t = z := ⟨t.toNat, by omega⟩
  have hxy : x * y < 2 ^ 63 := by
    have h1 : x * y ≤ 2147483648 * 2147483648 := Nat.mul_le_mul (by omega) (by omega)
    omega
  rw [← zI_nat, ← zI_nat, ← zI_nat, nI_l (by omega), nI_l (by omega), nI_l (by omega), lN_mul, pk_lDiv hxy (by omega) (by omega), lN_i, zI_nat]
  congr 1
theorem b_long0 {t : Int} (ht : 0 < t) (ht2 : t < 2147483648) : ¬ (zI t).toInt64 = 0 := by
  obtain ⟨z, rfl⟩ : ∃ z : Nat, t = z := ⟨t.toNat, by omega⟩
  rw [← zI_nat, nI_l (by omega)]
  intro e
  have := (lN_eq (a := z) (b := 0) (by omega) (by omega)).mp e
  omega

set_option maxHeartbeats 4000000 in
theorem c_X7_doneBeats (l : Launch) (G : b_G) {o : Nat} {ad : Nat → Nat} {i : Nat → Int} {a : Nat → Nat → Int} {h : b_H} {sz : Nat} (hO : r_O K7 7 o ad i a h) (hp : 0 ≤ i 42 ∧ i 42 ≤ 7) (hs : 0 ≤ i 43) (hbt : 0 ≤ a 37 (i 42).toNat) (htn : 0 < a 38 (i 42).toNat) : Con l G yX7_doneBeats cX7_doneBeats 1 (some .int) 0 0 0 0 [.ref o] h sz (p_ro (some (.int (zI (i 43 * a 37 (i 42).toNat / a 38 (i 42).toNat)))) h sz) := by
  refine Con.ofK (by decide +kernel) rfl rfl ?_
  intro S M
  have hc := M.2.2.2.1
  have ho : s_own S = RX7 := M.2.2.1
  have hFr : (s_R S).frames = 0 := by rw [M.2.2.2.2.2.2.2.1]
  have hLo : (s_R S).locals = 0 := by rw [M.2.2.2.2.2.2.2.1]
  have hCe : (s_R S).cells = 0 := by rw [M.2.2.2.2.2.2.2.1]
  have hSl : (s_R S).slots = 0 := by rw [M.2.2.2.2.2.2.2.1]
  have hi := hO.2.2.2.1
  have ha := hO.2.2.2.2
  have hz1 := hi 43
  have hz2 := ha 37 (i 42).toNat
  have hz3 := ha 38 (i 42).toNat
  unfold zb at hz1 hz2 hz3
  refine v_aload_n hc dX7_doneBeats_0 rfl ?_
  refine r_get hc ho dX7_doneBeats_1 F_X7_215 hO rfl ?_
  refine v_i2l hc dX7_doneBeats_4 ?_
  refine v_aload_n hc dX7_doneBeats_5 rfl ?_
  refine r_getA hc ho dX7_doneBeats_6 F_X7_97 hO rfl ?_
  refine v_aload_n hc dX7_doneBeats_9 rfl ?_
  refine r_get hc ho dX7_doneBeats_10 F_X7_212 hO rfl ?_
  refine r_iald hc dX7_doneBeats_13 hO 37 rfl (by decide) (by omega) (by omega) ?_
  refine v_i2l hc dX7_doneBeats_14 ?_
  refine v_lmul hc dX7_doneBeats_15 ?_
  refine v_aload_n hc dX7_doneBeats_16 rfl ?_
  refine r_getA hc ho dX7_doneBeats_17 F_X7_100 hO rfl ?_
  refine v_aload_n hc dX7_doneBeats_20 rfl ?_
  refine r_get hc ho dX7_doneBeats_21 F_X7_212 hO rfl ?_
  refine r_iald hc dX7_doneBeats_24 hO 38 rfl (by decide) (by omega) (by omega) ?_
  refine v_i2l hc dX7_doneBeats_25 ?_
  refine v_ldiv hc dX7_doneBeats_26 (b_long0 (by omega) (by omega)) ?_
  refine v_l2i hc dX7_doneBeats_27 (b_long (by omega) (by omega) (by omega) (by omega) (by omega) (by omega)) ?_
  refine z_iret M dX7_doneBeats_28 (by omega) (by omega) ?_
  exact ⟨rfl, rfl, rfl⟩
set_option maxHeartbeats 4000000 in
theorem c_X7_blockNow (l : Launch) (G : b_G) {o : Nat} {ad : Nat → Nat} {i : Nat → Int} {a : Nat → Nat → Int} {h : b_H} {sz : Nat} (hO : r_O K7 7 o ad i a h) (hp : 0 ≤ i 42 ∧ i 42 ≤ 7) (hpl : 0 ≤ i 44) (hnb : 1 ≤ a 39 (i 42).toNat ∧ a 39 (i 42).toNat ≤ 16) : Con l G yX7_blockNow cX7_blockNow 2 (some .int) 0 0 0 0 [.ref o] h sz (p_ro (some (.int (zI (a 40 (16 * i 42 + min (i 44) (a 39 (i 42).toNat - 1)).toNat)))) h sz) := by
  refine Con.ofK (by decide +kernel) rfl rfl ?_
  intro S M
  have hc := M.2.2.2.1
  have ho : s_own S = RX7 := M.2.2.1
  have hFr : (s_R S).frames = 0 := by rw [M.2.2.2.2.2.2.2.1]
  have hLo : (s_R S).locals = 0 := by rw [M.2.2.2.2.2.2.2.1]
  have hCe : (s_R S).cells = 0 := by rw [M.2.2.2.2.2.2.2.1]
  have hSl : (s_R S).slots = 0 := by rw [M.2.2.2.2.2.2.2.1]
  have hi := hO.2.2.2.1
  have ha := hO.2.2.2.2
  refine v_aload_n hc dX7_blockNow_0 rfl ?_
  refine r_getA hc ho dX7_blockNow_1 F_X7_103 hO rfl ?_
  refine v_aload_n hc dX7_blockNow_4 rfl ?_
  refine r_get hc ho dX7_blockNow_5 F_X7_212 hO rfl ?_
  refine r_iald hc dX7_blockNow_8 hO 39 rfl (by decide) (by omega) (by omega) ?_
  refine z_iconst hc dX7_blockNow_9 ?_
  refine z_isub hc dX7_blockNow_10 ?_
  refine v_istore_n hc dX7_blockNow_11 (Nat.le_of_ble_eq_true rfl) ?_
  refine v_aload_n hc dX7_blockNow_12 rfl ?_
  refine r_getA hc ho dX7_blockNow_13 F_X7_106 hO rfl ?_
  refine z_bipush hc dX7_blockNow_16 (by decide) ?_
  refine v_aload_n hc dX7_blockNow_18 rfl ?_
  refine r_get hc ho dX7_blockNow_19 F_X7_212 hO rfl ?_
  refine z_imul hc dX7_blockNow_22 ?_
  refine v_aload_n hc dX7_blockNow_23 rfl ?_
  refine r_get hc ho dX7_blockNow_24 F_X7_218 hO rfl ?_
  refine v_iload_n hc dX7_blockNow_27 rfl ?_
  refine z_icmp_ge (tgt := 38) hc dX7_blockNow_28 (by decide) (by first | assumption | exact hi _ | exact ha _ _ | (unfold zb; omega)) (by first | assumption | exact hi _ | exact ha _ _ | (unfold zb; omega)) (fun c_1 => ?_) (fun c_1 => ?_)
  · refine v_iload_n hc dX7_blockNow_38 rfl ?_
    refine z_iadd hc dX7_blockNow_39 ?_
    refine r_iald hc dX7_blockNow_40 hO 40 rfl (by decide) (by omega) (by omega) ?_
    refine z_iret M dX7_blockNow_41 (by omega) (by omega) ?_
    first | exact ⟨by rw [show min (i 44) (a 39 (i 42).toNat - 1) = i 44 by omega], rfl, rfl⟩ | exact ⟨by rw [show min (i 44) (a 39 (i 42).toNat - 1) = a 39 (i 42).toNat - 1 by omega], rfl, rfl⟩
  · refine v_aload_n hc dX7_blockNow_31 rfl ?_
    refine r_get hc ho dX7_blockNow_32 F_X7_218 hO rfl ?_
    refine v_goto (tgt := 39) hc dX7_blockNow_35 (by decide) ?_
    refine z_iadd hc dX7_blockNow_39 ?_
    refine r_iald hc dX7_blockNow_40 hO 40 rfl (by decide) (by omega) (by omega) ?_
    refine z_iret M dX7_blockNow_41 (by omega) (by omega) ?_
    first | exact ⟨by rw [show min (i 44) (a 39 (i 42).toNat - 1) = i 44 by omega], rfl, rfl⟩ | exact ⟨by rw [show min (i 44) (a 39 (i 42).toNat - 1) = a 39 (i 42).toNat - 1 by omega], rfl, rfl⟩
def m_Gv (i : Nat → Int) (a : Nat → Nat → Int) (s w : Int) : Int := if ¬ (0 ≤ s ∧ s ≤ i 25 - 1) then -1 else if w = 0 then a 26 s.toNat else if w = 1 then a 27 s.toNat else if w = 2 then a 28 s.toNat else if w = 3 then (if s = i 25 - 1 then 0 else p_st (a 6 (a 26 s.toNat).toNat) (a 6 (a 26 (s + 1).toNat).toNat)) else -1

set_option maxHeartbeats 4000000 in
theorem c_X7_given (l : Launch) (G : b_G) {o : Nat} {ad : Nat → Nat} {i : Nat → Int} {a : Nat → Nat → Int} {h : b_H} {sz : Nat} (hO : r_O K7 7 o ad i a h) (hgm : 0 ≤ i 25 ∧ i 25 ≤ 8) (hgv : ∀ j : Nat, (j : Int) < i 25 → 0 ≤ a 26 j ∧ a 26 j ≤ 11) (hky : ∀ j, 0 ≤ a 6 j ∧ a 6 j ≤ 11) {s w : Int} (hs : zb s) (hw : zb w) : Con l G yX7_given cX7_given 3 (some .int) 1 22 0 0 [.ref o, .int (zI s), .int (zI w)] h sz (p_ro (some (.int (zI (m_Gv i a s w)))) h sz) := by
  refine Con.ofK (by decide +kernel) rfl rfl ?_
  intro S M
  have hc := M.2.2.2.1
  have ho : s_own S = RX7 := M.2.2.1
  have hFr : (s_R S).frames = 1 := by rw [M.2.2.2.2.2.2.2.1]
  have hLo : (s_R S).locals = 22 := by rw [M.2.2.2.2.2.2.2.1]
  have hCe : (s_R S).cells = 0 := by rw [M.2.2.2.2.2.2.2.1]
  have hSl : (s_R S).slots = 0 := by rw [M.2.2.2.2.2.2.2.1]
  have hi := hO.2.2.2.1
  have ha := hO.2.2.2.2
  refine v_iload_n hc dX7_given_0 rfl ?_
  refine z_iconst hc dX7_given_1 ?_
  refine v_aload_n hc dX7_given_2 rfl ?_
  refine r_get hc ho dX7_given_3 F_X7_209 hO rfl ?_
  refine z_iconst hc dX7_given_6 ?_
  refine z_isub hc dX7_given_7 ?_
  refine v_callS (As := [.int (zI (s)), .int (zI (0)), .int (zI (i 25 - 1))]) hc ho dX7_given_8 KS_X7_130 KB_X7_in (c_X7_in _ _ (x := s) (y := 0) (z := i 25 - 1) (by first | assumption | exact hi _ | exact ha _ _ | (unfold zb; omega)) (by first | assumption | exact hi _ | exact ha _ _ | (unfold zb; omega)) (by first | assumption | exact hi _ | exact ha _ _ | (unfold zb; omega))) rfl (Nat.le_of_ble_eq_true rfl) ⟨by omega, by omega⟩ ⟨by omega, by omega⟩ (fun r_ h_ sz_ q_ z_ => ?_)
  obtain ⟨rfl, rfl, rfl⟩ := q_
  have hb0 := @bI_0 (0 ≤ s ∧ s ≤ i 25 - 1) _
  have hb1 := @bI_1 (0 ≤ s ∧ s ≤ i 25 - 1) _
  have hbb := bI_bd (0 ≤ s ∧ s ≤ i 25 - 1)
  refine z_if_ne (tgt := 16) hc dX7_given_11 (by decide) (by first | assumption | exact hi _ | exact ha _ _ | (unfold zb; omega)) (fun c_1 => ?_) (fun c_1 => ?_)
  · refine v_iload_n hc dX7_given_16 rfl ?_
    by_cases w_2 : w = 0
    · refine z_tableIn (off := 31) (tgt := 48) hc dX7_given_17 (by first | assumption | exact hi _ | exact ha _ _ | (unfold zb; omega)) (by omega) (by omega) (by rw [w_2]; rfl) (by decide) ?_
      refine v_aload_n hc dX7_given_48 rfl ?_
      refine r_getA hc ho dX7_given_49 F_X7_76 hO rfl ?_
      refine v_iload_n hc dX7_given_52 rfl ?_
      refine r_iald hc dX7_given_53 hO 26 rfl (by decide) (by omega) (by omega) ?_
      refine z_iret M dX7_given_54 (by omega) (by omega) ?_
      exact ⟨by rw [m_Gv, if_neg (by omega), if_pos (by omega)], rfl, rfl⟩
    by_cases w_3 : w = 1
    · refine z_tableIn (off := 38) (tgt := 55) hc dX7_given_17 (by first | assumption | exact hi _ | exact ha _ _ | (unfold zb; omega)) (by omega) (by omega) (by rw [w_3]; rfl) (by decide) ?_
      refine v_aload_n hc dX7_given_55 rfl ?_
      refine r_getA hc ho dX7_given_56 F_X7_79 hO rfl ?_
      refine v_iload_n hc dX7_given_59 rfl ?_
      refine r_iald hc dX7_given_60 hO 27 rfl (by decide) (by omega) (by omega) ?_
      refine z_iret M dX7_given_61 (by omega) (by omega) ?_
      exact ⟨by rw [m_Gv, if_neg (by omega), if_neg (by omega), if_pos (by omega)], rfl, rfl⟩
    by_cases w_4 : w = 2
    · refine z_tableIn (off := 45) (tgt := 62) hc dX7_given_17 (by first | assumption | exact hi _ | exact ha _ _ | (unfold zb; omega)) (by omega) (by omega) (by rw [w_4]; rfl) (by decide) ?_
      refine v_aload_n hc dX7_given_62 rfl ?_
      refine r_getA hc ho dX7_given_63 F_X7_82 hO rfl ?_
      refine v_iload_n hc dX7_given_66 rfl ?_
      refine r_iald hc dX7_given_67 hO 28 rfl (by decide) (by omega) (by omega) ?_
      refine z_iret M dX7_given_68 (by omega) (by omega) ?_
      exact ⟨by rw [m_Gv, if_neg (by omega), if_neg (by omega), if_neg (by omega), if_pos (by omega)], rfl, rfl⟩
    by_cases w_5 : w = 3
    · refine z_tableIn (off := 52) (tgt := 69) hc dX7_given_17 (by first | assumption | exact hi _ | exact ha _ _ | (unfold zb; omega)) (by omega) (by omega) (by rw [w_5]; rfl) (by decide) ?_
      refine v_iload_n hc dX7_given_69 rfl ?_
      refine v_aload_n hc dX7_given_70 rfl ?_
      refine r_get hc ho dX7_given_71 F_X7_209 hO rfl ?_
      refine z_iconst hc dX7_given_74 ?_
      refine z_isub hc dX7_given_75 ?_
      refine z_icmp_ne (tgt := 83) hc dX7_given_76 (by decide) (by first | assumption | exact hi _ | exact ha _ _ | (unfold zb; omega)) (by first | assumption | exact hi _ | exact ha _ _ | (unfold zb; omega)) (fun c_6 => ?_) (fun c_6 => ?_)
      · have hg1 := hgv s.toNat (by omega)
        have hg2 := hgv (s + 1).toNat (by omega)
        refine v_aload_n hc dX7_given_83 rfl ?_
        refine r_getA hc ho dX7_given_84 F_X7_20 hO rfl ?_
        refine v_aload_n hc dX7_given_87 rfl ?_
        refine r_getA hc ho dX7_given_88 F_X7_76 hO rfl ?_
        refine v_iload_n hc dX7_given_91 rfl ?_
        refine r_iald hc dX7_given_92 hO 26 rfl (by decide) (by omega) (by omega) ?_
        refine r_iald hc dX7_given_93 hO 6 rfl (by decide) (by omega) (by omega) ?_
        refine v_aload_n hc dX7_given_94 rfl ?_
        refine r_getA hc ho dX7_given_95 F_X7_20 hO rfl ?_
        refine v_aload_n hc dX7_given_98 rfl ?_
        refine r_getA hc ho dX7_given_99 F_X7_76 hO rfl ?_
        refine v_iload_n hc dX7_given_102 rfl ?_
        refine z_iconst hc dX7_given_103 ?_
        refine z_iadd hc dX7_given_104 ?_
        refine r_iald hc dX7_given_105 hO 26 rfl (by decide) (by omega) (by omega) ?_
        refine r_iald hc dX7_given_106 hO 6 rfl (by decide) (by omega) (by omega) ?_
        refine v_callS (As := [.int (zI (a 6 (a 26 s.toNat).toNat)), .int (zI (a 6 (a 26 (s + 1).toNat).toNat))]) hc ho dX7_given_107 KS_X7_197 KB_X7_stepOf (c_X7_stepOf _ _ (x := a 6 (a 26 s.toNat).toNat) (y := a 6 (a 26 (s + 1).toNat).toNat) (hky _) (hky _)) rfl (Nat.le_of_ble_eq_true rfl) ⟨by omega, by omega⟩ ⟨by omega, by omega⟩ (fun r_ h_ sz_ q_ z_ => ?_)
        obtain ⟨rfl, rfl, rfl⟩ := q_
        refine z_iret M dX7_given_110 (by omega) (by omega) ?_
        first | exact ⟨by rw [m_Gv, if_neg (by omega), if_neg (by omega), if_neg (by omega), if_neg (by omega), if_pos (by omega), if_pos (by omega)], rfl, rfl⟩ | exact ⟨by rw [m_Gv, if_neg (by omega), if_neg (by omega), if_neg (by omega), if_neg (by omega), if_pos (by omega), if_neg (by omega)], rfl, rfl⟩
      · refine z_iconst hc dX7_given_79 ?_
        refine v_goto (tgt := 110) hc dX7_given_80 (by decide) ?_
        refine z_iret M dX7_given_110 (by omega) (by omega) ?_
        first | exact ⟨by rw [m_Gv, if_neg (by omega), if_neg (by omega), if_neg (by omega), if_neg (by omega), if_pos (by omega), if_pos (by omega)], rfl, rfl⟩ | exact ⟨by rw [m_Gv, if_neg (by omega), if_neg (by omega), if_neg (by omega), if_neg (by omega), if_pos (by omega), if_neg (by omega)], rfl, rfl⟩
    refine z_tableOut (tgt := 111) hc dX7_given_17 (by first | assumption | exact hi _ | exact ha _ _ | (unfold zb; omega)) (by omega) (by decide) ?_
    refine z_iconst hc dX7_given_111 ?_
    refine z_iret M dX7_given_112 (by omega) (by omega) ?_
    exact ⟨by rw [m_Gv, if_neg (by omega), if_neg (by omega), if_neg (by omega), if_neg (by omega), if_neg (by omega)], rfl, rfl⟩
  · refine z_iconst hc dX7_given_14 ?_
    refine z_iret M dX7_given_15 (by omega) (by omega) ?_
    exact ⟨by rw [m_Gv, if_pos (by omega)], rfl, rfl⟩
set_option maxHeartbeats 4000000 in
theorem c_X7_seen (l : Launch) (G : b_G) {o : Nat} {ad : Nat → Nat} {i : Nat → Int} {a : Nat → Nat → Int} {h : b_H} {sz : Nat} (hO : r_O K7 7 o ad i a h) (hcu : 0 ≤ i 48 ∧ i 48 ≤ 7) (hnm2 : -8 ≤ i 35 ∧ i 35 ≤ 8) : Con l G yX7_seen cX7_seen 1 (some .int) 0 0 0 0 [.ref o] h sz (p_wr K7 7 o ad h sz (fun r i2 a2 => ((i 32 = 0 ∨ ¬ i 33 = 0 ∨ ¬ i 34 = 0 ∨ i 48 = i 35 - 1) ∧ r = some (.int (zI (-2))) ∧ i2 = i ∧ a2 = a) ∨ (¬ (i 32 = 0 ∨ ¬ i 33 = 0 ∨ ¬ i 34 = 0 ∨ i 48 = i 35 - 1) ∧ r = some (.int (zI (i 48 + 1))) ∧ i2 48 = i 48 + 1 ∧ (∀ k, k ≠ 48 → i2 k = i k) ∧ a2 49 = b_up (a 49) (i 48 + 1).toNat (i 41) ∧ (∀ k, k ≠ 49 → a2 k = a k)))) := by
  refine Con.ofK (by decide +kernel) rfl rfl ?_
  intro S M
  have hc := M.2.2.2.1
  have ho : s_own S = RX7 := M.2.2.1
  have hFr : (s_R S).frames = 0 := by rw [M.2.2.2.2.2.2.2.1]
  have hLo : (s_R S).locals = 0 := by rw [M.2.2.2.2.2.2.2.1]
  have hCe : (s_R S).cells = 0 := by rw [M.2.2.2.2.2.2.2.1]
  have hSl : (s_R S).slots = 0 := by rw [M.2.2.2.2.2.2.2.1]
  have hi := hO.2.2.2.1
  have ha := hO.2.2.2.2
  have hfr : ∀ b, ¬ r_own K7 o ad b → h b = h b := fun _ _ => rfl
  refine v_aload_n hc dX7_seen_0 rfl ?_
  refine r_get hc ho dX7_seen_1 F_X7_230 hO rfl ?_
  refine z_if_eq (tgt := 34) hc dX7_seen_4 (by decide) (by first | assumption | exact hi _ | exact ha _ _ | (unfold zb; omega)) (fun c_1 => ?_) (fun c_1 => ?_)
  · refine z_bipush hc dX7_seen_34 (by decide) ?_
    refine z_iret M dX7_seen_36 (by omega) (by omega) ?_
    exact ⟨rfl, _, _, Or.inl ⟨by omega, rfl, rfl, rfl⟩, hO, hfr⟩
  · refine v_aload_n hc dX7_seen_7 rfl ?_
    refine r_get hc ho dX7_seen_8 F_X7_234 hO rfl ?_
    refine z_if_ne (tgt := 34) hc dX7_seen_11 (by decide) (by first | assumption | exact hi _ | exact ha _ _ | (unfold zb; omega)) (fun c_2 => ?_) (fun c_2 => ?_)
    · refine z_bipush hc dX7_seen_34 (by decide) ?_
      refine z_iret M dX7_seen_36 (by omega) (by omega) ?_
      exact ⟨rfl, _, _, Or.inl ⟨by omega, rfl, rfl, rfl⟩, hO, hfr⟩
    · refine v_aload_n hc dX7_seen_14 rfl ?_
      refine r_get hc ho dX7_seen_15 F_X7_237 hO rfl ?_
      refine z_if_ne (tgt := 34) hc dX7_seen_18 (by decide) (by first | assumption | exact hi _ | exact ha _ _ | (unfold zb; omega)) (fun c_3 => ?_) (fun c_3 => ?_)
      · refine z_bipush hc dX7_seen_34 (by decide) ?_
        refine z_iret M dX7_seen_36 (by omega) (by omega) ?_
        exact ⟨rfl, _, _, Or.inl ⟨by omega, rfl, rfl, rfl⟩, hO, hfr⟩
      · refine v_aload_n hc dX7_seen_21 rfl ?_
        refine r_get hc ho dX7_seen_22 F_X7_252 hO rfl ?_
        refine v_aload_n hc dX7_seen_25 rfl ?_
        refine r_get hc ho dX7_seen_26 F_X7_240 hO rfl ?_
        refine z_iconst hc dX7_seen_29 ?_
        refine z_isub hc dX7_seen_30 ?_
        refine z_icmp_ne (tgt := 37) hc dX7_seen_31 (by decide) (by first | assumption | exact hi _ | exact ha _ _ | (unfold zb; omega)) (by first | assumption | exact hi _ | exact ha _ _ | (unfold zb; omega)) (fun c_4 => ?_) (fun c_4 => ?_)
        · refine v_aload_n hc dX7_seen_37 rfl ?_
          refine v_dup hc dX7_seen_38 rfl ?_
          refine r_get hc ho dX7_seen_39 F_X7_252 hO rfl ?_
          refine z_iconst hc dX7_seen_42 ?_
          refine z_iadd hc dX7_seen_43 ?_
          refine r_putIf hc ho dX7_seen_44 F_X7_252 hO hfr rfl (by first | assumption | exact hi _ | exact ha _ _ | (unfold zb; omega)) (fun h i_5 g_5 k_5 hO hfr => ?_)
          have hi := hO.2.2.2.1
          have e_5_41 := k_5 41 (by decide)
          refine v_aload_n hc dX7_seen_47 rfl ?_
          refine r_getA hc ho dX7_seen_48 F_X7_109 hO rfl ?_
          refine v_aload_n hc dX7_seen_51 rfl ?_
          refine r_get hc ho dX7_seen_52 F_X7_252 hO rfl ?_
          refine v_aload_n hc dX7_seen_55 rfl ?_
          refine r_get hc ho dX7_seen_56 F_X7_243 hO rfl ?_
          refine r_iastf hc dX7_seen_59 hO hfr 49 rfl (by decide) (by omega) (by omega) (by first | assumption | exact hi _ | exact ha _ _ | (unfold zb; omega)) (fun h a_6 g_6 k_6 hO hfr => ?_)
          have ha := hO.2.2.2.2
          refine v_aload_n hc dX7_seen_60 rfl ?_
          refine r_get hc ho dX7_seen_61 F_X7_252 hO rfl ?_
          refine z_iret M dX7_seen_64 (by omega) (by omega) ?_
          exact ⟨rfl, _, _, Or.inr ⟨by omega, by first | (congr 3; done) | (congr 3; omega), by omega, k_5, by rw [g_6]; first | (congr 1; done) | (congr 1 <;> first | (congr 1; omega) | omega), k_6⟩, hO, hfr⟩
        · refine z_bipush hc dX7_seen_34 (by decide) ?_
          refine z_iret M dX7_seen_36 (by omega) (by omega) ?_
          exact ⟨rfl, _, _, Or.inl ⟨by omega, rfl, rfl, rfl⟩, hO, hfr⟩
set_option maxHeartbeats 4000000 in
theorem c_X7_reel (l : Launch) (G : b_G) {o : Nat} {ad : Nat → Nat} {i : Nat → Int} {a : Nat → Nat → Int} {h : b_H} {sz : Nat} (hO : r_O K7 7 o ad i a h) (hbr : 0 ≤ i 34 ∧ i 34 ≤ 1) {x : Int} (hx : zb x) : Con l G yX7_reel cX7_reel 3 (some .int) 1 22 0 0 [.ref o, .int (zI x)] h sz (p_wr K7 7 o ad h sz (fun r i2 a2 => (¬ (0 ≤ x ∧ x ≤ 1) ∧ r = some (.int (zI (-1))) ∧ i2 = i ∧ a2 = a) ∨ ((0 ≤ x ∧ x ≤ 1) ∧ i 32 = 0 ∧ r = some (.int (zI (-2))) ∧ i2 = i ∧ a2 = a) ∨ ((0 ≤ x ∧ x ≤ 1) ∧ ¬ i 32 = 0 ∧ r = some (.int (zI (i 34))) ∧ i2 = b_up i 34 x ∧ a2 = a))) := by
  refine Con.ofK (by decide +kernel) rfl rfl ?_
  intro S M
  have hc := M.2.2.2.1
  have ho : s_own S = RX7 := M.2.2.1
  have hFr : (s_R S).frames = 1 := by rw [M.2.2.2.2.2.2.2.1]
  have hLo : (s_R S).locals = 22 := by rw [M.2.2.2.2.2.2.2.1]
  have hCe : (s_R S).cells = 0 := by rw [M.2.2.2.2.2.2.2.1]
  have hSl : (s_R S).slots = 0 := by rw [M.2.2.2.2.2.2.2.1]
  have hi := hO.2.2.2.1
  have ha := hO.2.2.2.2
  have hfr : ∀ b, ¬ r_own K7 o ad b → h b = h b := fun _ _ => rfl
  refine v_iload_n hc dX7_reel_0 rfl ?_
  refine z_iconst hc dX7_reel_1 ?_
  refine z_iconst hc dX7_reel_2 ?_
  refine v_callS (As := [.int (zI (x)), .int (zI (0)), .int (zI (1))]) hc ho dX7_reel_3 KS_X7_130 KB_X7_in (c_X7_in _ _ (x := x) (y := 0) (z := 1) (by first | assumption | exact hi _ | exact ha _ _ | (unfold zb; omega)) (by first | assumption | exact hi _ | exact ha _ _ | (unfold zb; omega)) (by first | assumption | exact hi _ | exact ha _ _ | (unfold zb; omega))) rfl (Nat.le_of_ble_eq_true rfl) ⟨by omega, by omega⟩ ⟨by omega, by omega⟩ (fun r_ h_ sz_ q_ z_ => ?_)
  obtain ⟨rfl, rfl, rfl⟩ := q_
  have hb0 := @bI_0 (0 ≤ x ∧ x ≤ 1) _
  have hb1 := @bI_1 (0 ≤ x ∧ x ≤ 1) _
  have hbb := bI_bd (0 ≤ x ∧ x ≤ 1)
  refine z_if_ne (tgt := 11) hc dX7_reel_6 (by decide) (by first | assumption | exact hi _ | exact ha _ _ | (unfold zb; omega)) (fun c_1 => ?_) (fun c_1 => ?_)
  · refine v_aload_n hc dX7_reel_11 rfl ?_
    refine r_get hc ho dX7_reel_12 F_X7_230 hO rfl ?_
    refine z_if_ne (tgt := 21) hc dX7_reel_15 (by decide) (by first | assumption | exact hi _ | exact ha _ _ | (unfold zb; omega)) (fun c_2 => ?_) (fun c_2 => ?_)
    · refine v_aload_n hc dX7_reel_21 rfl ?_
      refine r_get hc ho dX7_reel_22 F_X7_237 hO rfl ?_
      refine z_if_eq (tgt := 32) hc dX7_reel_25 (by decide) (by first | assumption | exact hi _ | exact ha _ _ | (unfold zb; omega)) (fun c_3 => ?_) (fun c_3 => ?_)
      · refine z_iconst hc dX7_reel_32 ?_
        refine v_istore_n hc dX7_reel_33 (Nat.le_of_ble_eq_true rfl) ?_
        refine v_aload_n hc dX7_reel_34 rfl ?_
        refine v_iload_n hc dX7_reel_35 rfl ?_
        refine z_iconst hc dX7_reel_36 ?_
        refine z_icmp_ne (tgt := 44) hc dX7_reel_37 (by decide) (by first | assumption | exact hi _ | exact ha _ _ | (unfold zb; omega)) (by first | assumption | exact hi _ | exact ha _ _ | (unfold zb; omega)) (fun c_4 => ?_) (fun c_4 => ?_)
        · refine z_iconst hc dX7_reel_44 ?_
          refine r_putZ hc ho dX7_reel_45 F_X7_237 hO hfr rfl (by omega) (fun h hO hfr => ?_)
          have hi := hO.2.2.2.1
          refine v_iload_n hc dX7_reel_48 rfl ?_
          refine z_iret M dX7_reel_49 (by omega) (by omega) ?_
          first | exact ⟨rfl, _, _, Or.inr (Or.inr ⟨by omega, by omega, by congr 3; omega, by congr 1; omega, rfl⟩), hO, hfr⟩
        · refine z_iconst hc dX7_reel_40 ?_
          refine v_goto (tgt := 45) hc dX7_reel_41 (by decide) ?_
          refine r_putZ hc ho dX7_reel_45 F_X7_237 hO hfr rfl (by omega) (fun h hO hfr => ?_)
          have hi := hO.2.2.2.1
          refine v_iload_n hc dX7_reel_48 rfl ?_
          refine z_iret M dX7_reel_49 (by omega) (by omega) ?_
          first | exact ⟨rfl, _, _, Or.inr (Or.inr ⟨by omega, by omega, by congr 3; omega, by congr 1; omega, rfl⟩), hO, hfr⟩
      · refine z_iconst hc dX7_reel_28 ?_
        refine v_goto (tgt := 33) hc dX7_reel_29 (by decide) ?_
        refine v_istore_n hc dX7_reel_33 (Nat.le_of_ble_eq_true rfl) ?_
        refine v_aload_n hc dX7_reel_34 rfl ?_
        refine v_iload_n hc dX7_reel_35 rfl ?_
        refine z_iconst hc dX7_reel_36 ?_
        refine z_icmp_ne (tgt := 44) hc dX7_reel_37 (by decide) (by first | assumption | exact hi _ | exact ha _ _ | (unfold zb; omega)) (by first | assumption | exact hi _ | exact ha _ _ | (unfold zb; omega)) (fun c_5 => ?_) (fun c_5 => ?_)
        · refine z_iconst hc dX7_reel_44 ?_
          refine r_putZ hc ho dX7_reel_45 F_X7_237 hO hfr rfl (by omega) (fun h hO hfr => ?_)
          have hi := hO.2.2.2.1
          refine v_iload_n hc dX7_reel_48 rfl ?_
          refine z_iret M dX7_reel_49 (by omega) (by omega) ?_
          first | exact ⟨rfl, _, _, Or.inr (Or.inr ⟨by omega, by omega, by congr 3; omega, by congr 1; omega, rfl⟩), hO, hfr⟩
        · refine z_iconst hc dX7_reel_40 ?_
          refine v_goto (tgt := 45) hc dX7_reel_41 (by decide) ?_
          refine r_putZ hc ho dX7_reel_45 F_X7_237 hO hfr rfl (by omega) (fun h hO hfr => ?_)
          have hi := hO.2.2.2.1
          refine v_iload_n hc dX7_reel_48 rfl ?_
          refine z_iret M dX7_reel_49 (by omega) (by omega) ?_
          first | exact ⟨rfl, _, _, Or.inr (Or.inr ⟨by omega, by omega, by congr 3; omega, by congr 1; omega, rfl⟩), hO, hfr⟩
    · refine z_bipush hc dX7_reel_18 (by decide) ?_
      refine z_iret M dX7_reel_20 (by omega) (by omega) ?_
      exact ⟨rfl, _, _, Or.inr (Or.inl ⟨by omega, by omega, rfl, rfl, rfl⟩), hO, hfr⟩
  · refine z_iconst hc dX7_reel_9 ?_
    refine z_iret M dX7_reel_10 (by omega) (by omega) ?_
    exact ⟨rfl, _, _, Or.inl ⟨by omega, rfl, rfl, rfl⟩, hO, hfr⟩
def m_Nw (i : Nat → Int) (a : Nat → Nat → Int) (w : Int) : Int := if i 32 = 0 then -1 else if w = 0 then i 42 else if w = 1 then a 40 (16 * i 42 + min (i 44) (a 39 (i 42).toNat - 1)).toNat else if w = 2 then a 36 (i 42).toNat else if w = 3 then i 46 else if w = 4 then i 47 else if w = 5 then i 41 else if w = 6 then i 33 else if w = 7 then i 48 else if w = 8 then i 43 * a 37 (i 42).toNat / a 38 (i 42).toNat else -1

set_option maxHeartbeats 4000000 in
theorem c_X7_now (l : Launch) (G : b_G) {o : Nat} {ad : Nat → Nat} {i : Nat → Int} {a : Nat → Nat → Int} {h : b_H} {sz : Nat} (hO : r_O K7 7 o ad i a h) (hen : 0 ≤ i 33 ∧ i 33 ≤ 1) (hq1 : ¬ i 32 = 0 → 0 ≤ i 42 ∧ i 42 ≤ 7) (hq2 : ¬ i 32 = 0 → 0 ≤ i 44) (hq3 : ¬ i 32 = 0 → 1 ≤ a 39 (i 42).toNat ∧ a 39 (i 42).toNat ≤ 16) (hq4 : ¬ i 32 = 0 → 0 ≤ i 43) (hq5 : ¬ i 32 = 0 → 0 ≤ a 37 (i 42).toNat) (hq6 : ¬ i 32 = 0 → 0 < a 38 (i 42).toNat) {w : Int} (hw : zb w) : Con l G yX7_now cX7_now 2 (some .int) 1 21 0 0 [.ref o, .int (zI w)] h sz (p_ro (some (.int (zI (m_Nw i a w)))) h sz) := by
  refine Con.ofK (by decide +kernel) rfl rfl ?_
  intro S M
  have hc := M.2.2.2.1
  have ho : s_own S = RX7 := M.2.2.1
  have hFr : (s_R S).frames = 1 := by rw [M.2.2.2.2.2.2.2.1]
  have hLo : (s_R S).locals = 21 := by rw [M.2.2.2.2.2.2.2.1]
  have hCe : (s_R S).cells = 0 := by rw [M.2.2.2.2.2.2.2.1]
  have hSl : (s_R S).slots = 0 := by rw [M.2.2.2.2.2.2.2.1]
  have hi := hO.2.2.2.1
  have ha := hO.2.2.2.2
  refine v_aload_n hc dX7_now_0 rfl ?_
  refine r_get hc ho dX7_now_1 F_X7_230 hO rfl ?_
  refine z_if_ne (tgt := 9) hc dX7_now_4 (by decide) (by first | assumption | exact hi _ | exact ha _ _ | (unfold zb; omega)) (fun c_1 => ?_) (fun c_1 => ?_)
  · have hp := hq1 (by omega)
    have hpl := hq2 (by omega)
    have hnb := hq3 (by omega)
    have hs := hq4 (by omega)
    have hbt := hq5 (by omega)
    have htn := hq6 (by omega)
    refine v_iload_n hc dX7_now_9 rfl ?_
    by_cases w_2 : w = 0
    · refine z_tableIn (off := 50) (tgt := 60) hc dX7_now_10 (by first | assumption | exact hi _ | exact ha _ _ | (unfold zb; omega)) (by omega) (by omega) (by rw [w_2]; rfl) (by decide) ?_
      refine v_aload_n hc dX7_now_60 rfl ?_
      refine r_get hc ho dX7_now_61 F_X7_212 hO rfl ?_
      refine z_iret M dX7_now_64 (by omega) (by omega) ?_
      exact ⟨by rw [m_Nw, if_neg (by omega), if_pos (by omega)], rfl, rfl⟩
    by_cases w_3 : w = 1
    · refine z_tableIn (off := 55) (tgt := 65) hc dX7_now_10 (by first | assumption | exact hi _ | exact ha _ _ | (unfold zb; omega)) (by omega) (by omega) (by rw [w_3]; rfl) (by decide) ?_
      refine v_aload_n hc dX7_now_65 rfl ?_
      refine v_callV (As := []) hc ho dX7_now_66 KV_X7_264 KB_X7_blockNow hO.1 rfl rfl (c_X7_blockNow _ _ hO hp hpl hnb) rfl (Nat.le_of_ble_eq_true rfl) ⟨by omega, by omega⟩ ⟨by omega, by omega⟩ (fun r_ h_ sz_ q_ z_ => ?_)
      obtain ⟨rfl, rfl, rfl⟩ := q_
      refine z_iret M dX7_now_69 (by omega) (by omega) ?_
      exact ⟨by rw [m_Nw, if_neg (by omega), if_neg (by omega), if_pos (by omega)], rfl, rfl⟩
    by_cases w_4 : w = 2
    · refine z_tableIn (off := 60) (tgt := 70) hc dX7_now_10 (by first | assumption | exact hi _ | exact ha _ _ | (unfold zb; omega)) (by omega) (by omega) (by rw [w_4]; rfl) (by decide) ?_
      refine v_aload_n hc dX7_now_70 rfl ?_
      refine r_getA hc ho dX7_now_71 F_X7_94 hO rfl ?_
      refine v_aload_n hc dX7_now_74 rfl ?_
      refine r_get hc ho dX7_now_75 F_X7_212 hO rfl ?_
      refine r_iald hc dX7_now_78 hO 36 rfl (by decide) (by omega) (by omega) ?_
      refine z_iret M dX7_now_79 (by omega) (by omega) ?_
      exact ⟨by rw [m_Nw, if_neg (by omega), if_neg (by omega), if_neg (by omega), if_pos (by omega)], rfl, rfl⟩
    by_cases w_5 : w = 3
    · refine z_tableIn (off := 70) (tgt := 80) hc dX7_now_10 (by first | assumption | exact hi _ | exact ha _ _ | (unfold zb; omega)) (by omega) (by omega) (by rw [w_5]; rfl) (by decide) ?_
      refine v_aload_n hc dX7_now_80 rfl ?_
      refine r_get hc ho dX7_now_81 F_X7_246 hO rfl ?_
      refine z_iret M dX7_now_84 (by omega) (by omega) ?_
      exact ⟨by rw [m_Nw, if_neg (by omega), if_neg (by omega), if_neg (by omega), if_neg (by omega), if_pos (by omega)], rfl, rfl⟩
    by_cases w_6 : w = 4
    · refine z_tableIn (off := 75) (tgt := 85) hc dX7_now_10 (by first | assumption | exact hi _ | exact ha _ _ | (unfold zb; omega)) (by omega) (by omega) (by rw [w_6]; rfl) (by decide) ?_
      refine v_aload_n hc dX7_now_85 rfl ?_
      refine r_get hc ho dX7_now_86 F_X7_249 hO rfl ?_
      refine z_iret M dX7_now_89 (by omega) (by omega) ?_
      exact ⟨by rw [m_Nw, if_neg (by omega), if_neg (by omega), if_neg (by omega), if_neg (by omega), if_neg (by omega), if_pos (by omega)], rfl, rfl⟩
    by_cases w_7 : w = 5
    · refine z_tableIn (off := 80) (tgt := 90) hc dX7_now_10 (by first | assumption | exact hi _ | exact ha _ _ | (unfold zb; omega)) (by omega) (by omega) (by rw [w_7]; rfl) (by decide) ?_
      refine v_aload_n hc dX7_now_90 rfl ?_
      refine r_get hc ho dX7_now_91 F_X7_243 hO rfl ?_
      refine z_iret M dX7_now_94 (by omega) (by omega) ?_
      exact ⟨by rw [m_Nw, if_neg (by omega), if_neg (by omega), if_neg (by omega), if_neg (by omega), if_neg (by omega), if_neg (by omega), if_pos (by omega)], rfl, rfl⟩
    by_cases w_8 : w = 6
    · refine z_tableIn (off := 85) (tgt := 95) hc dX7_now_10 (by first | assumption | exact hi _ | exact ha _ _ | (unfold zb; omega)) (by omega) (by omega) (by rw [w_8]; rfl) (by decide) ?_
      refine v_aload_n hc dX7_now_95 rfl ?_
      refine r_get hc ho dX7_now_96 F_X7_234 hO rfl ?_
      refine z_if_eq (tgt := 106) hc dX7_now_99 (by decide) (by first | assumption | exact hi _ | exact ha _ _ | (unfold zb; omega)) (fun c_9 => ?_) (fun c_9 => ?_)
      · refine z_iconst hc dX7_now_106 ?_
        refine z_iret M dX7_now_107 (by omega) (by omega) ?_
        exact ⟨by rw [m_Nw, if_neg (by omega), if_neg (by omega), if_neg (by omega), if_neg (by omega), if_neg (by omega), if_neg (by omega), if_neg (by omega), if_pos (by omega)]; congr 3; omega, rfl, rfl⟩
      · refine z_iconst hc dX7_now_102 ?_
        refine v_goto (tgt := 107) hc dX7_now_103 (by decide) ?_
        refine z_iret M dX7_now_107 (by omega) (by omega) ?_
        exact ⟨by rw [m_Nw, if_neg (by omega), if_neg (by omega), if_neg (by omega), if_neg (by omega), if_neg (by omega), if_neg (by omega), if_neg (by omega), if_pos (by omega)]; congr 3; omega, rfl, rfl⟩
    by_cases w_10 : w = 7
    · refine z_tableIn (off := 98) (tgt := 108) hc dX7_now_10 (by first | assumption | exact hi _ | exact ha _ _ | (unfold zb; omega)) (by omega) (by omega) (by rw [w_10]; rfl) (by decide) ?_
      refine v_aload_n hc dX7_now_108 rfl ?_
      refine r_get hc ho dX7_now_109 F_X7_252 hO rfl ?_
      refine z_iret M dX7_now_112 (by omega) (by omega) ?_
      exact ⟨by rw [m_Nw, if_neg (by omega), if_neg (by omega), if_neg (by omega), if_neg (by omega), if_neg (by omega), if_neg (by omega), if_neg (by omega), if_neg (by omega), if_pos (by omega)], rfl, rfl⟩
    by_cases w_11 : w = 8
    · refine z_tableIn (off := 103) (tgt := 113) hc dX7_now_10 (by first | assumption | exact hi _ | exact ha _ _ | (unfold zb; omega)) (by omega) (by omega) (by rw [w_11]; rfl) (by decide) ?_
      refine v_aload_n hc dX7_now_113 rfl ?_
      refine v_callV (As := []) hc ho dX7_now_114 KV_X7_258 KB_X7_doneBeats hO.1 rfl rfl (c_X7_doneBeats _ _ hO hp hs hbt htn) rfl (Nat.le_of_ble_eq_true rfl) ⟨by omega, by omega⟩ ⟨by omega, by omega⟩ (fun r_ h_ sz_ q_ z_ => ?_)
      obtain ⟨rfl, rfl, rfl⟩ := q_
      refine z_iret M dX7_now_117 (by omega) (by omega) ?_
      exact ⟨by rw [m_Nw, if_neg (by omega), if_neg (by omega), if_neg (by omega), if_neg (by omega), if_neg (by omega), if_neg (by omega), if_neg (by omega), if_neg (by omega), if_neg (by omega), if_pos (by omega)], rfl, rfl⟩
    refine z_tableOut (tgt := 118) hc dX7_now_10 (by first | assumption | exact hi _ | exact ha _ _ | (unfold zb; omega)) (by omega) (by decide) ?_
    refine z_iconst hc dX7_now_118 ?_
    refine z_iret M dX7_now_119 (by omega) (by omega) ?_
    exact ⟨by rw [m_Nw, if_neg (by omega), if_neg (by omega), if_neg (by omega), if_neg (by omega), if_neg (by omega), if_neg (by omega), if_neg (by omega), if_neg (by omega), if_neg (by omega), if_neg (by omega)], rfl, rfl⟩
  · refine z_iconst hc dX7_now_7 ?_
    refine z_iret M dX7_now_8 (by omega) (by omega) ?_
    exact ⟨by rw [m_Nw, if_pos (by omega)], rfl, rfl⟩
set_option maxHeartbeats 4000000 in
theorem c_X7_played (l : Launch) (G : b_G) {o : Nat} {ad : Nat → Nat} {i : Nat → Int} {a : Nat → Nat → Int} {h : b_H} {sz : Nat} (hO : r_O K7 7 o ad i a h) (hP : m_P i a) {x : Int} (hx : zb x) : Con l G yX7_played cX7_played 2 (some .int) 2 43 0 0 [.ref o, .int (zI x)] h sz (p_ro (some (.int (zI (if 0 ≤ x ∧ x ≤ i 5 - 1 then a 50 x.toNat else -1)))) h sz) := by
  refine Con.ofK (by decide +kernel) rfl rfl ?_
  intro S M
  have hc := M.2.2.2.1
  have ho : s_own S = RX7 := M.2.2.1
  have hFr : (s_R S).frames = 2 := by rw [M.2.2.2.2.2.2.2.1]
  have hLo : (s_R S).locals = 43 := by rw [M.2.2.2.2.2.2.2.1]
  have hCe : (s_R S).cells = 0 := by rw [M.2.2.2.2.2.2.2.1]
  have hSl : (s_R S).slots = 0 := by rw [M.2.2.2.2.2.2.2.1]
  have hi := hO.2.2.2.1
  have ha := hO.2.2.2.2
  refine v_aload_n hc dX7_played_0 rfl ?_
  refine v_iload_n hc dX7_played_1 rfl ?_
  refine v_callV (As := [.int (zI x)]) hc ho dX7_played_2 KV_X7_155 KB_X7_isPiece hO.1 rfl rfl (c_X7_isPiece _ _ hO hP (x := x) (by first | assumption | exact hi _ | exact ha _ _ | (unfold zb; omega))) rfl (Nat.le_of_ble_eq_true rfl) ⟨by omega, by omega⟩ ⟨by omega, by omega⟩ (fun r_ h_ sz_ q_ z_ => ?_)
  obtain ⟨rfl, rfl, rfl⟩ := q_
  have hb0 := @bI_0 (0 ≤ x ∧ x ≤ i 5 - 1) _
  have hb1 := @bI_1 (0 ≤ x ∧ x ≤ i 5 - 1) _
  have hbb := bI_bd (0 ≤ x ∧ x ≤ i 5 - 1)
  have hP5 := hP.1
  refine z_if_eq (tgt := 17) hc dX7_played_5 (by decide) (by first | assumption | exact hi _ | exact ha _ _ | (unfold zb; omega)) (fun c_1 => ?_) (fun c_1 => ?_)
  · refine z_iconst hc dX7_played_17 ?_
    refine z_iret M dX7_played_18 (by omega) (by omega) ?_
    first | exact ⟨by rw [if_pos (by omega)], rfl, rfl⟩ | exact ⟨by rw [if_neg (by omega)], rfl, rfl⟩
  · refine v_aload_n hc dX7_played_8 rfl ?_
    refine r_getA hc ho dX7_played_9 F_X7_112 hO rfl ?_
    refine v_iload_n hc dX7_played_12 rfl ?_
    refine r_iald hc dX7_played_13 hO 50 rfl (by decide) (by omega) (by omega) ?_
    refine v_goto (tgt := 18) hc dX7_played_14 (by decide) ?_
    refine z_iret M dX7_played_18 (by omega) (by omega) ?_
    first | exact ⟨by rw [if_pos (by omega)], rfl, rfl⟩ | exact ⟨by rw [if_neg (by omega)], rfl, rfl⟩
set_option maxHeartbeats 4000000 in
theorem c_X7_fees (l : Launch) (G : b_G) {o : Nat} {ad : Nat → Nat} {i : Nat → Int} {a : Nat → Nat → Int} {h : b_H} {sz : Nat} (hO : r_O K7 7 o ad i a h)  : Con l G yX7_fees cX7_fees 1 (some .int) 0 0 0 0 [.ref o] h sz (p_ro (some (.int (zI (i 51)))) h sz) := by
  refine Con.ofK (by decide +kernel) rfl rfl ?_
  intro S M
  have hc := M.2.2.2.1
  have ho : s_own S = RX7 := M.2.2.1
  have hFr : (s_R S).frames = 0 := by rw [M.2.2.2.2.2.2.2.1]
  have hLo : (s_R S).locals = 0 := by rw [M.2.2.2.2.2.2.2.1]
  have hCe : (s_R S).cells = 0 := by rw [M.2.2.2.2.2.2.2.1]
  have hSl : (s_R S).slots = 0 := by rw [M.2.2.2.2.2.2.2.1]
  have hi := hO.2.2.2.1
  have ha := hO.2.2.2.2
  refine v_aload_n hc dX7_fees_0 rfl ?_
  refine r_get hc ho dX7_fees_1 F_X7_224 hO rfl ?_
  refine z_iret M dX7_fees_4 (by omega) (by omega) ?_
  exact ⟨rfl, rfl, rfl⟩
set_option maxHeartbeats 4000000 in
theorem l_X7_count_57 {S : b_S} {l : Launch} {G : b_G} {o : Nat} {ad : Nat → Nat} {i : Nat → Int} {a : Nat → Nat → Int} {h : b_H} {sz : Nat} {post : Option Value → b_H → Nat → Prop} (M : b_M S l G RX7 cX7_count 4 (some .int) "count" 1 22 0 0 h sz post) (hO : r_O K7 7 o ad i a h) (hP : 0 ≤ i 5 ∧ i 5 ≤ 12) {w : Int} (P : post (some (.int (zI (f_sm (a 12) (i 5).toNat)))) h sz) : ∀ (d : Nat) (r x : Int), ((i 5 - x).toNat = d) → (0 ≤ x) → (x ≤ i 5) → (r = f_sm (a 12) x.toNat) → V S 0 0 h sz 57 [some (.ref o), some (.int (zI w)), some (.int (zI r)), some (.int (zI x))] [] := by
  have hc := M.2.2.2.1
  have ho : s_own S = RX7 := M.2.2.1
  have hFr : (s_R S).frames = 1 := by rw [M.2.2.2.2.2.2.2.1]
  have hLo : (s_R S).locals = 22 := by rw [M.2.2.2.2.2.2.2.1]
  have hCe : (s_R S).cells = 0 := by rw [M.2.2.2.2.2.2.2.1]
  have hSl : (s_R S).slots = 0 := by rw [M.2.2.2.2.2.2.2.1]
  have hi := hO.2.2.2.1
  have ha := hO.2.2.2.2
  intro d
  induction d using Nat.strongRecOn with
  | ind d ih =>
    intro r x hd h0 h1 hr
    refine v_iload_n hc dX7_count_57 rfl ?_
    refine v_aload_n hc dX7_count_58 rfl ?_
    refine r_get hc ho dX7_count_59 F_X7_151 hO rfl ?_
    refine z_icmp_ge (tgt := 80) hc dX7_count_62 (by decide) (by first | assumption | exact hi _ | exact ha _ _ | (unfold zb; omega)) (by first | assumption | exact hi _ | exact ha _ _ | (unfold zb; omega)) (fun c_1 => ?_) (fun c_1 => ?_)
    · refine v_iload_n hc dX7_count_80 rfl ?_
      refine z_iret M dX7_count_81 (by omega) (by omega) ?_
      rw [hr, show x = i 5 by omega]
      exact P
    · refine v_iload_n hc dX7_count_65 rfl ?_
      refine v_aload_n hc dX7_count_66 rfl ?_
      refine r_getA hc ho dX7_count_67 F_X7_38 hO rfl ?_
      refine v_iload_n hc dX7_count_70 rfl ?_
      refine r_iald hc dX7_count_71 hO 12 rfl (by decide) (by omega) (by omega) ?_
      refine z_iadd hc dX7_count_72 ?_
      refine v_istore_n hc dX7_count_73 (Nat.le_of_ble_eq_true rfl) ?_
      refine z_iinc hc dX7_count_74 rfl ?_
      refine v_goto (tgt := 57) hc dX7_count_77 (by decide) ?_
      exact ih _ (by omega) _ _ rfl (by omega) (by omega) (by rw [show (x + 1).toNat = x.toNat + 1 by omega, f_sm]; omega)
def m_Ct (i : Nat → Int) (a : Nat → Nat → Int) (w : Int) : Int := if w = 0 then i 1 else if w = 1 then f_sm (a 2) (i 1).toNat else if w = 2 then i 5 else if w = 3 then f_sm (a 12) (i 5).toNat else if w = 4 then i 53 else if w = 5 then i 52 else -1

set_option maxHeartbeats 4000000 in
theorem c_X7_count (l : Launch) (G : b_G) {o : Nat} {ad : Nat → Nat} {i : Nat → Int} {a : Nat → Nat → Int} {h : b_H} {sz : Nat} (hO : r_O K7 7 o ad i a h) (hF : m_F i a) (hP : 0 ≤ i 5 ∧ i 5 ≤ 12) {w : Int} (hw : zb w) : Con l G yX7_count cX7_count 4 (some .int) 1 22 0 0 [.ref o, .int (zI w)] h sz (p_ro (some (.int (zI (m_Ct i a w)))) h sz) := by
  refine Con.ofK (by decide +kernel) rfl rfl ?_
  intro S M
  have hc := M.2.2.2.1
  have ho : s_own S = RX7 := M.2.2.1
  have hFr : (s_R S).frames = 1 := by rw [M.2.2.2.2.2.2.2.1]
  have hLo : (s_R S).locals = 22 := by rw [M.2.2.2.2.2.2.2.1]
  have hCe : (s_R S).cells = 0 := by rw [M.2.2.2.2.2.2.2.1]
  have hSl : (s_R S).slots = 0 := by rw [M.2.2.2.2.2.2.2.1]
  have hi := hO.2.2.2.1
  have ha := hO.2.2.2.2
  refine z_iconst hc dX7_count_0 ?_
  refine v_istore_n hc dX7_count_1 (Nat.le_of_ble_eq_true rfl) ?_
  refine v_iload_n hc dX7_count_2 rfl ?_
  by_cases w_1 : w = 0
  · refine z_tableIn (off := 37) (tgt := 40) hc dX7_count_3 (by first | assumption | exact hi _ | exact ha _ _ | (unfold zb; omega)) (by omega) (by omega) (by rw [w_1]; rfl) (by decide) ?_
    refine v_aload_n hc dX7_count_40 rfl ?_
    refine r_get hc ho dX7_count_41 F_X7_134 hO rfl ?_
    refine z_iret M dX7_count_44 (by omega) (by omega) ?_
    exact ⟨by rw [m_Ct, if_pos (by omega)], rfl, rfl⟩
  by_cases w_2 : w = 1
  · refine z_tableIn (off := 42) (tgt := 45) hc dX7_count_3 (by first | assumption | exact hi _ | exact ha _ _ | (unfold zb; omega)) (by omega) (by omega) (by rw [w_2]; rfl) (by decide) ?_
    refine v_aload_n hc dX7_count_45 rfl ?_
    refine v_callV (As := []) hc ho dX7_count_46 KV_X7_148 KB_X7_allFrames hO.1 rfl rfl (c_X7_allFrames _ _ hO hF) rfl (Nat.le_of_ble_eq_true rfl) ⟨by omega, by omega⟩ ⟨by omega, by omega⟩ (fun r_ h_ sz_ q_ z_ => ?_)
    obtain ⟨rfl, rfl, rfl⟩ := q_
    refine z_iret M dX7_count_49 (by omega) (by omega) ?_
    exact ⟨by rw [m_Ct, if_neg (by omega), if_pos (by omega)], rfl, rfl⟩
  by_cases w_3 : w = 2
  · refine z_tableIn (off := 47) (tgt := 50) hc dX7_count_3 (by first | assumption | exact hi _ | exact ha _ _ | (unfold zb; omega)) (by omega) (by omega) (by rw [w_3]; rfl) (by decide) ?_
    refine v_aload_n hc dX7_count_50 rfl ?_
    refine r_get hc ho dX7_count_51 F_X7_151 hO rfl ?_
    refine z_iret M dX7_count_54 (by omega) (by omega) ?_
    exact ⟨by rw [m_Ct, if_neg (by omega), if_neg (by omega), if_pos (by omega)], rfl, rfl⟩
  by_cases w_4 : w = 3
  · refine z_tableIn (off := 52) (tgt := 55) hc dX7_count_3 (by first | assumption | exact hi _ | exact ha _ _ | (unfold zb; omega)) (by omega) (by omega) (by rw [w_4]; rfl) (by decide) ?_
    refine z_iconst hc dX7_count_55 ?_
    refine v_istore_n hc dX7_count_56 (Nat.le_of_ble_eq_true rfl) ?_
    exact l_X7_count_57 M hO hP ⟨by rw [m_Ct, if_neg (by omega), if_neg (by omega), if_neg (by omega), if_pos (by omega)], rfl, rfl⟩ _ _ _ rfl (by omega) (by omega) rfl
  by_cases w_5 : w = 4
  · refine z_tableIn (off := 79) (tgt := 82) hc dX7_count_3 (by first | assumption | exact hi _ | exact ha _ _ | (unfold zb; omega)) (by omega) (by omega) (by rw [w_5]; rfl) (by decide) ?_
    refine v_aload_n hc dX7_count_82 rfl ?_
    refine r_get hc ho dX7_count_83 F_X7_271 hO rfl ?_
    refine z_iret M dX7_count_86 (by omega) (by omega) ?_
    exact ⟨by rw [m_Ct, if_neg (by omega), if_neg (by omega), if_neg (by omega), if_neg (by omega), if_pos (by omega)], rfl, rfl⟩
  by_cases w_6 : w = 5
  · refine z_tableIn (off := 84) (tgt := 87) hc dX7_count_3 (by first | assumption | exact hi _ | exact ha _ _ | (unfold zb; omega)) (by omega) (by omega) (by rw [w_6]; rfl) (by decide) ?_
    refine v_aload_n hc dX7_count_87 rfl ?_
    refine r_get hc ho dX7_count_88 F_X7_227 hO rfl ?_
    refine z_iret M dX7_count_91 (by omega) (by omega) ?_
    exact ⟨by rw [m_Ct, if_neg (by omega), if_neg (by omega), if_neg (by omega), if_neg (by omega), if_neg (by omega), if_pos (by omega)], rfl, rfl⟩
  refine z_tableOut (tgt := 92) hc dX7_count_3 (by first | assumption | exact hi _ | exact ha _ _ | (unfold zb; omega)) (by omega) (by decide) ?_
  refine z_iconst hc dX7_count_92 ?_
  refine z_iret M dX7_count_93 (by omega) (by omega) ?_
  exact ⟨by rw [m_Ct, if_neg (by omega), if_neg (by omega), if_neg (by omega), if_neg (by omega), if_neg (by omega), if_neg (by omega)], rfl, rfl⟩
