/-! the reference: effects -/
def m_P (i : Nat → Int) (a : Nat → Nat → Int) : Prop := (0 ≤ i 5 ∧ i 5 ≤ 12) ∧ (∀ j, 0 ≤ a 12 j ∧ a 12 j ≤ 8) ∧ (∀ j : Nat, (j : Int) < i 5 → 30 ≤ a 8 j ∧ a 8 j ≤ a 9 j ∧ a 9 j ≤ 240) ∧ (∀ j, 0 ≤ a 6 j ∧ a 6 j ≤ 11) ∧ (∀ j, 0 ≤ a 7 j ∧ a 7 j ≤ 63) ∧ (∀ j, 0 ≤ a 10 j ∧ a 10 j ≤ 1) ∧ (∀ j, 0 ≤ a 11 j ∧ a 11 j ≤ 999) ∧ (∀ j, 0 ≤ a 13 j ∧ a 13 j ≤ 64) ∧ (∀ p x : Nat, p < 12 → (x : Int) < a 12 p → 1 ≤ a 13 (8 * p + x)) ∧ (∀ j, 0 ≤ a 14 j ∧ a 14 j ≤ 3) ∧ (∀ j, 0 ≤ a 15 j ∧ a 15 j ≤ 255) ∧ (∀ j, 0 ≤ a 16 j ∧ a 16 j ≤ 1)

set_option maxHeartbeats 4000000 in
theorem c_X7_effect (l : Launch) (G : b_G) {o : Nat} {ad : Nat → Nat} {i : Nat → Int} {a : Nat → Nat → Int} {h : b_H} {sz : Nat} (hO : r_O K7 7 o ad i a h) (hI : m_E i a) {x y z : Int} (hx : zb x) (hy : zb y) (hz : zb z) : Con l G yX7_effect cX7_effect 4 (some .int) 1 22 0 0 [.ref o, .int (zI x), .int (zI y), .int (zI z)] h sz (p_wr K7 7 o ad h sz (fun r i2 a2 => (¬ ((0 ≤ x ∧ x ≤ 99999) ∧ (x + 1 ≤ y ∧ y ≤ 100000) ∧ 1 ≤ z ∧ z ≤ 4) ∧ r = some (.int (zI (-1))) ∧ i2 = i ∧ a2 = a) ∨ (((0 ≤ x ∧ x ≤ 99999) ∧ (x + 1 ≤ y ∧ y ≤ 100000) ∧ 1 ≤ z ∧ z ≤ 4) ∧ i 53 = 30 ∧ r = some (.int (zI (-3))) ∧ i2 = i ∧ a2 = a) ∨ (((0 ≤ x ∧ x ≤ 99999) ∧ (x + 1 ≤ y ∧ y ≤ 100000) ∧ 1 ≤ z ∧ z ≤ 4) ∧ i 53 < 30 ∧ r = some (.int (zI (i 53))) ∧ i2 = b_up i 53 (i 53 + 1) ∧ a2 = r_up (r_up (r_up a 54 (i 53).toNat x) 55 (i 53).toNat y) 56 (i 53).toNat z))) := by
  refine Con.ofK (by decide +kernel) rfl rfl ?_
  intro S M
  have hc := M.2.2.2.1
  have ho : s_own S = RX7 := M.2.2.1
  have hFr : (s_R S).frames = 1 := by rw [M.2.2.2.2.2.2.2.1]
  have hLo : (s_R S).locals = 22 := by rw [M.2.2.2.2.2.2.2.1]
  have hCe : (s_R S).cells = 0 := by rw [M.2.2.2.2.2.2.2.1]
  have hSl : (s_R S).slots = 0 := by rw [M.2.2.2.2.2.2.2.1]
  have hi := hO.2.2.2.1
  have ha := hO.2.2.2.2
  have hI3 := hI.1
  have hI4 := hI.2.1
  have hIf := hI.2.2.1
  have hIw := hI.2.2.2
  have hfr : ∀ b, ¬ r_own K7 o ad b → h b = h b := fun _ _ => rfl
  refine v_iload_n hc dX7_effect_0 rfl ?_
  refine z_iconst hc dX7_effect_1 ?_
  refine z_ldcw hc ho dX7_effect_2 K_X7_270 ?_
  refine v_callS (As := [.int (zI (x)), .int (zI (0)), .int (zI (99999))]) hc ho dX7_effect_5 KS_X7_130 KB_X7_in (c_X7_in _ _ (x := x) (y := 0) (z := 99999) (by first | assumption | exact hi _ | exact ha _ _ | (unfold zb; omega)) (by first | assumption | exact hi _ | exact ha _ _ | (unfold zb; omega)) (by first | assumption | exact hi _ | exact ha _ _ | (unfold zb; omega))) rfl (Nat.le_of_ble_eq_true rfl) ⟨by omega, by omega⟩ ⟨by omega, by omega⟩ (fun r_ h_ sz_ q_ z_ => ?_)
  obtain ⟨rfl, rfl, rfl⟩ := q_
  have hb0 := @bI_0 (0 ≤ x ∧ x ≤ 99999) _
  have hb1 := @bI_1 (0 ≤ x ∧ x ≤ 99999) _
  have hbb := bI_bd (0 ≤ x ∧ x ≤ 99999)
  refine z_if_eq (tgt := 32) hc dX7_effect_8 (by decide) (by first | assumption | exact hi _ | exact ha _ _ | (unfold zb; omega)) (fun c_1 => ?_) (fun c_1 => ?_)
  · refine z_iconst hc dX7_effect_32 ?_
    refine z_iret M dX7_effect_33 (by omega) (by omega) ?_
    exact ⟨rfl, _, _, Or.inl ⟨by omega, rfl, rfl, rfl⟩, hO, hfr⟩
  · refine v_iload_n hc dX7_effect_11 rfl ?_
    refine v_iload_n hc dX7_effect_12 rfl ?_
    refine z_iconst hc dX7_effect_13 ?_
    refine z_iadd hc dX7_effect_14 ?_
    refine z_ldc hc ho dX7_effect_15 K_X7_187 ?_
    refine v_callS (As := [.int (zI (y)), .int (zI (x + 1)), .int (zI (100000))]) hc ho dX7_effect_17 KS_X7_130 KB_X7_in (c_X7_in _ _ (x := y) (y := x + 1) (z := 100000) (by first | assumption | exact hi _ | exact ha _ _ | (unfold zb; omega)) (by first | assumption | exact hi _ | exact ha _ _ | (unfold zb; omega)) (by first | assumption | exact hi _ | exact ha _ _ | (unfold zb; omega))) rfl (Nat.le_of_ble_eq_true rfl) ⟨by omega, by omega⟩ ⟨by omega, by omega⟩ (fun r_ h_ sz_ q_ z_ => ?_)
    obtain ⟨rfl, rfl, rfl⟩ := q_
    have hc0 := @bI_0 (x + 1 ≤ y ∧ y ≤ 100000) _
    have hc1 := @bI_1 (x + 1 ≤ y ∧ y ≤ 100000) _
    have hcb := bI_bd (x + 1 ≤ y ∧ y ≤ 100000)
    refine z_if_eq (tgt := 32) hc dX7_effect_20 (by decide) (by first | assumption | exact hi _ | exact ha _ _ | (unfold zb; omega)) (fun c_2 => ?_) (fun c_2 => ?_)
    · refine z_iconst hc dX7_effect_32 ?_
      refine z_iret M dX7_effect_33 (by omega) (by omega) ?_
      exact ⟨rfl, _, _, Or.inl ⟨by omega, rfl, rfl, rfl⟩, hO, hfr⟩
    · refine v_iload_n hc dX7_effect_23 rfl ?_
      refine z_iconst hc dX7_effect_24 ?_
      refine z_iconst hc dX7_effect_25 ?_
      refine v_callS (As := [.int (zI (z)), .int (zI (1)), .int (zI (4))]) hc ho dX7_effect_26 KS_X7_130 KB_X7_in (c_X7_in _ _ (x := z) (y := 1) (z := 4) (by first | assumption | exact hi _ | exact ha _ _ | (unfold zb; omega)) (by first | assumption | exact hi _ | exact ha _ _ | (unfold zb; omega)) (by first | assumption | exact hi _ | exact ha _ _ | (unfold zb; omega))) rfl (Nat.le_of_ble_eq_true rfl) ⟨by omega, by omega⟩ ⟨by omega, by omega⟩ (fun r_ h_ sz_ q_ z_ => ?_)
      obtain ⟨rfl, rfl, rfl⟩ := q_
      have hd0 := @bI_0 (1 ≤ z ∧ z ≤ 4) _
      have hd1 := @bI_1 (1 ≤ z ∧ z ≤ 4) _
      have hdb := bI_bd (1 ≤ z ∧ z ≤ 4)
      refine z_if_ne (tgt := 34) hc dX7_effect_29 (by decide) (by first | assumption | exact hi _ | exact ha _ _ | (unfold zb; omega)) (fun c_3 => ?_) (fun c_3 => ?_)
      · refine v_aload_n hc dX7_effect_34 rfl ?_
        refine r_get hc ho dX7_effect_35 F_X7_271 hO rfl ?_
        refine z_bipush hc dX7_effect_38 (by decide) ?_
        refine z_icmp_ne (tgt := 46) hc dX7_effect_40 (by decide) (by first | assumption | exact hi _ | exact ha _ _ | (unfold zb; omega)) (by first | assumption | exact hi _ | exact ha _ _ | (unfold zb; omega)) (fun c_4 => ?_) (fun c_4 => ?_)
        · refine v_aload_n hc dX7_effect_46 rfl ?_
          refine r_getA hc ho dX7_effect_47 F_X7_115 hO rfl ?_
          refine v_aload_n hc dX7_effect_50 rfl ?_
          refine r_get hc ho dX7_effect_51 F_X7_271 hO rfl ?_
          refine v_iload_n hc dX7_effect_54 rfl ?_
          refine r_iast hc dX7_effect_55 hO hfr 54 rfl (by decide) (by omega) (by omega) (by first | assumption | exact hi _ | exact ha _ _ | (unfold zb; omega)) (fun h hO hfr => ?_)
          have ha := hO.2.2.2.2
          refine v_aload_n hc dX7_effect_56 rfl ?_
          refine r_getA hc ho dX7_effect_57 F_X7_118 hO rfl ?_
          refine v_aload_n hc dX7_effect_60 rfl ?_
          refine r_get hc ho dX7_effect_61 F_X7_271 hO rfl ?_
          refine v_iload_n hc dX7_effect_64 rfl ?_
          refine r_iast hc dX7_effect_65 hO hfr 55 rfl (by decide) (by omega) (by omega) (by first | assumption | exact hi _ | exact ha _ _ | (unfold zb; omega)) (fun h hO hfr => ?_)
          have ha := hO.2.2.2.2
          refine v_aload_n hc dX7_effect_66 rfl ?_
          refine r_getA hc ho dX7_effect_67 F_X7_121 hO rfl ?_
          refine v_aload_n hc dX7_effect_70 rfl ?_
          refine r_get hc ho dX7_effect_71 F_X7_271 hO rfl ?_
          refine v_iload_n hc dX7_effect_74 rfl ?_
          refine r_iast hc dX7_effect_75 hO hfr 56 rfl (by decide) (by omega) (by omega) (by first | assumption | exact hi _ | exact ha _ _ | (unfold zb; omega)) (fun h hO hfr => ?_)
          have ha := hO.2.2.2.2
          refine v_aload_n hc dX7_effect_76 rfl ?_
          refine v_dup hc dX7_effect_77 rfl ?_
          refine r_get hc ho dX7_effect_78 F_X7_271 hO rfl ?_
          refine z_iconst hc dX7_effect_81 ?_
          refine z_iadd hc dX7_effect_82 ?_
          refine r_putI hc ho dX7_effect_83 F_X7_271 hO hfr rfl (by first | assumption | exact hi _ | exact ha _ _ | (unfold zb; omega)) (fun h hO hfr => ?_)
          have hi := hO.2.2.2.1
          refine v_aload_n hc dX7_effect_86 rfl ?_
          refine r_get hc ho dX7_effect_87 F_X7_271 hO rfl ?_
          refine z_iconst hc dX7_effect_90 ?_
          refine z_isub hc dX7_effect_91 ?_
          refine z_iret M dX7_effect_92 (by omega) (by omega) ?_
          exact ⟨rfl, _, _, Or.inr (Or.inr ⟨by omega, by omega, by simp [b_up], rfl, rfl⟩), hO, hfr⟩
        · refine z_bipush hc dX7_effect_43 (by decide) ?_
          refine z_iret M dX7_effect_45 (by omega) (by omega) ?_
          exact ⟨rfl, _, _, Or.inr (Or.inl ⟨by omega, by omega, rfl, rfl, rfl⟩), hO, hfr⟩
      · refine z_iconst hc dX7_effect_32 ?_
        refine z_iret M dX7_effect_33 (by omega) (by omega) ?_
        exact ⟨rfl, _, _, Or.inl ⟨by omega, rfl, rfl, rfl⟩, hO, hfr⟩
set_option maxHeartbeats 4000000 in
theorem c_X7_hands (l : Launch) (G : b_G) {o : Nat} {ad : Nat → Nat} {i : Nat → Int} {a : Nat → Nat → Int} {h : b_H} {sz : Nat} (hO : r_O K7 7 o ad i a h) (hI : m_E i a) {x : Int} (hx : zb x) : Con l G yX7_hands cX7_hands 3 (some .int) 1 22 0 0 [.ref o, .int (zI x)] h sz (p_wr K7 7 o ad h sz (fun r i2 a2 => (¬ (0 ≤ x ∧ x ≤ 4) ∧ r = some (.int (zI (-1))) ∧ i2 = i ∧ a2 = a) ∨ ((0 ≤ x ∧ x ≤ 4) ∧ r = some (.int (zI (i 57))) ∧ i2 = b_up i 57 x ∧ a2 = a))) := by
  refine Con.ofK (by decide +kernel) rfl rfl ?_
  intro S M
  have hc := M.2.2.2.1
  have ho : s_own S = RX7 := M.2.2.1
  have hFr : (s_R S).frames = 1 := by rw [M.2.2.2.2.2.2.2.1]
  have hLo : (s_R S).locals = 22 := by rw [M.2.2.2.2.2.2.2.1]
  have hCe : (s_R S).cells = 0 := by rw [M.2.2.2.2.2.2.2.1]
  have hSl : (s_R S).slots = 0 := by rw [M.2.2.2.2.2.2.2.1]
  have hi := hO.2.2.2.1
  have ha := hO.2.2.2.2
  have hI3 := hI.1
  have hI4 := hI.2.1
  have hIf := hI.2.2.1
  have hIw := hI.2.2.2
  have hfr : ∀ b, ¬ r_own K7 o ad b → h b = h b := fun _ _ => rfl
  refine v_iload_n hc dX7_hands_0 rfl ?_
  refine z_iconst hc dX7_hands_1 ?_
  refine z_iconst hc dX7_hands_2 ?_
  refine v_callS (As := [.int (zI (x)), .int (zI (0)), .int (zI (4))]) hc ho dX7_hands_3 KS_X7_130 KB_X7_in (c_X7_in _ _ (x := x) (y := 0) (z := 4) (by first | assumption | exact hi _ | exact ha _ _ | (unfold zb; omega)) (by first | assumption | exact hi _ | exact ha _ _ | (unfold zb; omega)) (by first | assumption | exact hi _ | exact ha _ _ | (unfold zb; omega))) rfl (Nat.le_of_ble_eq_true rfl) ⟨by omega, by omega⟩ ⟨by omega, by omega⟩ (fun r_ h_ sz_ q_ z_ => ?_)
  obtain ⟨rfl, rfl, rfl⟩ := q_
  have hb0 := @bI_0 (0 ≤ x ∧ x ≤ 4) _
  have hb1 := @bI_1 (0 ≤ x ∧ x ≤ 4) _
  have hbb := bI_bd (0 ≤ x ∧ x ≤ 4)
  refine z_if_ne (tgt := 11) hc dX7_hands_6 (by decide) (by first | assumption | exact hi _ | exact ha _ _ | (unfold zb; omega)) (fun c_1 => ?_) (fun c_1 => ?_)
  · refine v_aload_n hc dX7_hands_11 rfl ?_
    refine r_get hc ho dX7_hands_12 F_X7_124 hO rfl ?_
    refine v_istore_n hc dX7_hands_15 (Nat.le_of_ble_eq_true rfl) ?_
    refine v_aload_n hc dX7_hands_16 rfl ?_
    refine v_iload_n hc dX7_hands_17 rfl ?_
    refine r_putI hc ho dX7_hands_18 F_X7_124 hO hfr rfl (by first | assumption | exact hi _ | exact ha _ _ | (unfold zb; omega)) (fun h hO hfr => ?_)
    have hi := hO.2.2.2.1
    refine v_iload_n hc dX7_hands_21 rfl ?_
    refine z_iret M dX7_hands_22 (by omega) (by omega) ?_
    exact ⟨rfl, _, _, Or.inr ⟨by omega, rfl, rfl, rfl⟩, hO, hfr⟩
  · refine z_iconst hc dX7_hands_9 ?_
    refine z_iret M dX7_hands_10 (by omega) (by omega) ?_
    exact ⟨rfl, _, _, Or.inl ⟨by omega, rfl, rfl, rfl⟩, hO, hfr⟩
set_option maxHeartbeats 4000000 in
theorem l_X7_freeIn_8 {S : b_S} {l : Launch} {G : b_G} {o : Nat} {ad : Nat → Nat} {i : Nat → Int} {a : Nat → Nat → Int} {h : b_H} {sz : Nat} {post : Option Value → b_H → Nat → Prop} (M : b_M S l G RX7 cX7_freeIn 5 (some .int) "freeIn" 0 0 0 0 h sz post) (hO : r_O K7 7 o ad i a h) (hI : m_E i a) {t out : Int} (ht : zb t) (hout : 0 ≤ out ∧ out < 2147483648) (P : post (some (.int (zI (d_Fr (a 54) (a 55) (a 56) (i 57) t out (i 53).toNat)))) h sz) : ∀ (d : Nat) (x r : Int), (i 53 - x).toNat = d → 0 ≤ x → x ≤ i 53 → r = d_Fr (a 54) (a 55) (a 56) (i 57) t out x.toNat → V S 0 0 h sz 8 [some (.ref o), some (.int (zI t)), some (.int (zI out)), some (.int (zI r)), some (.int (zI x))] [] := by
  have hc := M.2.2.2.1
  have ho : s_own S = RX7 := M.2.2.1
  have hFr : (s_R S).frames = 0 := by rw [M.2.2.2.2.2.2.2.1]
  have hLo : (s_R S).locals = 0 := by rw [M.2.2.2.2.2.2.2.1]
  have hCe : (s_R S).cells = 0 := by rw [M.2.2.2.2.2.2.2.1]
  have hSl : (s_R S).slots = 0 := by rw [M.2.2.2.2.2.2.2.1]
  have hi := hO.2.2.2.1
  have ha := hO.2.2.2.2
  have hI3 := hI.1
  have hI4 := hI.2.1
  have hIf := hI.2.2.1
  have hIw := hI.2.2.2
  intro d
  induction d using Nat.strongRecOn with
  | ind d ih =>
    intro x r hd h0 h1 hr
    have hq : 0 ≤ out / 2 ^ x.toNat ∧ out / 2 ^ x.toNat < 2147483648 := ⟨Int.ediv_nonneg hout.1 (Int.pow_nonneg (by omega)), Int.lt_of_le_of_lt (Int.ediv_le_self _ hout.1) hout.2⟩
    refine v_iload hc dX7_freeIn_8 rfl ?_
    refine v_aload_n hc dX7_freeIn_10 rfl ?_
    refine r_get hc ho dX7_freeIn_11 F_X7_271 hO rfl ?_
    refine z_icmp_ge (tgt := 64) hc dX7_freeIn_14 (by decide) (by first | assumption | exact hi _ | exact ha _ _ | (unfold zb; omega)) (by first | assumption | exact hi _ | exact ha _ _ | (unfold zb; omega)) (fun c_1 => ?_) (fun c_1 => ?_)
    · refine v_iload_n hc dX7_freeIn_64 rfl ?_
      refine z_iret M dX7_freeIn_65 (by omega) (by omega) ?_
      rw [hr, show x = i 53 by omega]
      exact P
    · refine v_iload_n hc dX7_freeIn_17 rfl ?_
      refine v_aload_n hc dX7_freeIn_18 rfl ?_
      refine r_getA hc ho dX7_freeIn_19 F_X7_115 hO rfl ?_
      refine v_iload hc dX7_freeIn_22 rfl ?_
      refine r_iald hc dX7_freeIn_24 hO 54 rfl (by decide) (by omega) (by omega) ?_
      refine z_icmp_lt (tgt := 58) hc dX7_freeIn_25 (by decide) (by first | assumption | exact hi _ | exact ha _ _ | (unfold zb; omega)) (by first | assumption | exact hi _ | exact ha _ _ | (unfold zb; omega)) (fun c_2 => ?_) (fun c_2 => ?_)
      · refine z_iinc hc dX7_freeIn_58 rfl ?_
        refine v_goto (tgt := 8) hc dX7_freeIn_61 (by decide) ?_
        exact ih _ (by omega) _ _ rfl (by omega) (by omega) (by rw [show (x + 1).toNat = x.toNat + 1 by omega, d_Fr]; split <;> omega)
      · refine v_iload_n hc dX7_freeIn_28 rfl ?_
        refine v_aload_n hc dX7_freeIn_29 rfl ?_
        refine r_getA hc ho dX7_freeIn_30 F_X7_118 hO rfl ?_
        refine v_iload hc dX7_freeIn_33 rfl ?_
        refine r_iald hc dX7_freeIn_35 hO 55 rfl (by decide) (by omega) (by omega) ?_
        refine z_icmp_ge (tgt := 58) hc dX7_freeIn_36 (by decide) (by first | assumption | exact hi _ | exact ha _ _ | (unfold zb; omega)) (by first | assumption | exact hi _ | exact ha _ _ | (unfold zb; omega)) (fun c_3 => ?_) (fun c_3 => ?_)
        · refine z_iinc hc dX7_freeIn_58 rfl ?_
          refine v_goto (tgt := 8) hc dX7_freeIn_61 (by decide) ?_
          exact ih _ (by omega) _ _ rfl (by omega) (by omega) (by rw [show (x + 1).toNat = x.toNat + 1 by omega, d_Fr]; split <;> omega)
        · refine v_iload_n hc dX7_freeIn_39 rfl ?_
          refine v_iload hc dX7_freeIn_40 rfl ?_
          refine v_ishr hc dX7_freeIn_42 (zI_shr (by omega) (by omega) (by omega) (by omega)) ?_
          refine z_iconst hc dX7_freeIn_43 ?_
          refine v_iand hc dX7_freeIn_44 (zI_and1 (by omega) (by omega)) ?_
          refine z_if_ne (tgt := 58) hc dX7_freeIn_45 (by decide) (by first | assumption | exact hi _ | exact ha _ _ | (unfold zb; omega)) (fun c_4 => ?_) (fun c_4 => ?_)
          · refine z_iinc hc dX7_freeIn_58 rfl ?_
            refine v_goto (tgt := 8) hc dX7_freeIn_61 (by decide) ?_
            exact ih _ (by omega) _ _ rfl (by omega) (by omega) (by rw [show (x + 1).toNat = x.toNat + 1 by omega, d_Fr]; split <;> omega)
          · refine v_iload_n hc dX7_freeIn_48 rfl ?_
            refine v_aload_n hc dX7_freeIn_49 rfl ?_
            refine r_getA hc ho dX7_freeIn_50 F_X7_121 hO rfl ?_
            refine v_iload hc dX7_freeIn_53 rfl ?_
            refine r_iald hc dX7_freeIn_55 hO 56 rfl (by decide) (by omega) (by omega) ?_
            refine z_isub hc dX7_freeIn_56 ?_
            refine v_istore_n hc dX7_freeIn_57 (Nat.le_of_ble_eq_true rfl) ?_
            refine z_iinc hc dX7_freeIn_58 rfl ?_
            refine v_goto (tgt := 8) hc dX7_freeIn_61 (by decide) ?_
            exact ih _ (by omega) _ _ rfl (by omega) (by omega) (by rw [show (x + 1).toNat = x.toNat + 1 by omega, d_Fr]; split <;> omega)
set_option maxHeartbeats 4000000 in
theorem c_X7_freeIn (l : Launch) (G : b_G) {o : Nat} {ad : Nat → Nat} {i : Nat → Int} {a : Nat → Nat → Int} {h : b_H} {sz : Nat} (hO : r_O K7 7 o ad i a h) (hI : m_E i a) {t out : Int} (ht : zb t) (hout : 0 ≤ out ∧ out < 2147483648) : Con l G yX7_freeIn cX7_freeIn 5 (some .int) 0 0 0 0 [.ref o, .int (zI t), .int (zI out)] h sz (p_ro (some (.int (zI (d_Fr (a 54) (a 55) (a 56) (i 57) t out (i 53).toNat)))) h sz) := by
  refine Con.ofK (by decide +kernel) rfl rfl ?_
  intro S M
  have hc := M.2.2.2.1
  have ho : s_own S = RX7 := M.2.2.1
  have hFr : (s_R S).frames = 0 := by rw [M.2.2.2.2.2.2.2.1]
  have hLo : (s_R S).locals = 0 := by rw [M.2.2.2.2.2.2.2.1]
  have hCe : (s_R S).cells = 0 := by rw [M.2.2.2.2.2.2.2.1]
  have hSl : (s_R S).slots = 0 := by rw [M.2.2.2.2.2.2.2.1]
  have hi := hO.2.2.2.1
  have ha := hO.2.2.2.2
  have hI3 := hI.1
  have hI4 := hI.2.1
  have hIf := hI.2.2.1
  have hIw := hI.2.2.2
  refine v_aload_n hc dX7_freeIn_0 rfl ?_
  refine r_get hc ho dX7_freeIn_1 F_X7_124 hO rfl ?_
  refine v_istore_n hc dX7_freeIn_4 (Nat.le_of_ble_eq_true rfl) ?_
  refine z_iconst hc dX7_freeIn_5 ?_
  refine v_istore hc dX7_freeIn_6 (Nat.le_of_ble_eq_true rfl) ?_
  exact l_X7_freeIn_8 M hO hI ht hout ⟨rfl, rfl, rfl⟩ _ _ _ rfl (by omega) (by omega) rfl
set_option maxHeartbeats 4000000 in
theorem c_X7_free (l : Launch) (G : b_G) {o : Nat} {ad : Nat → Nat} {i : Nat → Int} {a : Nat → Nat → Int} {h : b_H} {sz : Nat} (hO : r_O K7 7 o ad i a h) (hI : m_E i a) {x : Int} (hx : zb x) : Con l G yX7_free cX7_free 2 (some .int) 1 24 0 0 [.ref o, .int (zI x)] h sz (p_ro (some (.int (zI (if 0 ≤ x ∧ x ≤ 99999 then d_Fr (a 54) (a 55) (a 56) (i 57) x 0 (i 53).toNat else -99)))) h sz) := by
  refine Con.ofK (by decide +kernel) rfl rfl ?_
  intro S M
  have hc := M.2.2.2.1
  have ho : s_own S = RX7 := M.2.2.1
  have hFr : (s_R S).frames = 1 := by rw [M.2.2.2.2.2.2.2.1]
  have hLo : (s_R S).locals = 24 := by rw [M.2.2.2.2.2.2.2.1]
  have hCe : (s_R S).cells = 0 := by rw [M.2.2.2.2.2.2.2.1]
  have hSl : (s_R S).slots = 0 := by rw [M.2.2.2.2.2.2.2.1]
  have hi := hO.2.2.2.1
  have ha := hO.2.2.2.2
  have hI3 := hI.1
  have hI4 := hI.2.1
  have hIf := hI.2.2.1
  have hIw := hI.2.2.2
  refine v_iload_n hc dX7_free_0 rfl ?_
  refine z_iconst hc dX7_free_1 ?_
  refine z_ldcw hc ho dX7_free_2 K_X7_270 ?_
  refine v_callS (As := [.int (zI (x)), .int (zI (0)), .int (zI (99999))]) hc ho dX7_free_5 KS_X7_130 KB_X7_in (c_X7_in _ _ (x := x) (y := 0) (z := 99999) (by first | assumption | exact hi _ | exact ha _ _ | (unfold zb; omega)) (by first | assumption | exact hi _ | exact ha _ _ | (unfold zb; omega)) (by first | assumption | exact hi _ | exact ha _ _ | (unfold zb; omega))) rfl (Nat.le_of_ble_eq_true rfl) ⟨by omega, by omega⟩ ⟨by omega, by omega⟩ (fun r_ h_ sz_ q_ z_ => ?_)
  obtain ⟨rfl, rfl, rfl⟩ := q_
  have hb0 := @bI_0 (0 ≤ x ∧ x ≤ 99999) _
  have hb1 := @bI_1 (0 ≤ x ∧ x ≤ 99999) _
  have hbb := bI_bd (0 ≤ x ∧ x ≤ 99999)
  refine z_if_eq (tgt := 20) hc dX7_free_8 (by decide) (by first | assumption | exact hi _ | exact ha _ _ | (unfold zb; omega)) (fun c_1 => ?_) (fun c_1 => ?_)
  · refine z_bipush hc dX7_free_20 (by decide) ?_
    refine z_iret M dX7_free_22 (by omega) (by omega) ?_
    first | exact ⟨by rw [if_pos (by omega)], rfl, rfl⟩ | exact ⟨by rw [if_neg (by omega)], rfl, rfl⟩
  · refine v_aload_n hc dX7_free_11 rfl ?_
    refine v_iload_n hc dX7_free_12 rfl ?_
    refine z_iconst hc dX7_free_13 ?_
    refine v_callV (As := [.int (zI (x)), .int (zI (0))]) hc ho dX7_free_14 KV_X7_274 KB_X7_freeIn hO.1 rfl rfl (c_X7_freeIn _ _ hO hI (t := x) (out := 0) (by first | assumption | exact hi _ | exact ha _ _ | (unfold zb; omega)) (by omega)) rfl (Nat.le_of_ble_eq_true rfl) ⟨by omega, by omega⟩ ⟨by omega, by omega⟩ (fun r_ h_ sz_ q_ z_ => ?_)
    obtain ⟨rfl, rfl, rfl⟩ := q_
    refine v_goto (tgt := 22) hc dX7_free_17 (by decide) ?_
    refine z_iret M dX7_free_22 (by omega) (by omega) ?_
    first | exact ⟨by rw [if_pos (by omega)], rfl, rfl⟩ | exact ⟨by rw [if_neg (by omega)], rfl, rfl⟩
theorem d_cl_nn {f : Nat → Int} (hf : ∀ j, 0 ≤ f j ∧ f j ≤ 100000) (fr : Int → Int) : ∀ j : Nat, d_cl f fr j = -2 ∨ 0 ≤ d_cl f fr j
  | 0 => by simp [d_cl]
  | j + 1 => by
    have h1 := d_cl_nn hf fr j
    have h2 := hf j
    rw [d_cl]
    split <;> omega

set_option maxHeartbeats 4000000 in
theorem l_X7_clash_5 {S : b_S} {l : Launch} {G : b_G} {o : Nat} {ad : Nat → Nat} {i : Nat → Int} {a : Nat → Nat → Int} {h : b_H} {sz : Nat} {post : Option Value → b_H → Nat → Prop} (M : b_M S l G RX7 cX7_clash 3 (some .int) "clash" 1 24 0 0 h sz post) (hO : r_O K7 7 o ad i a h) (hI : m_E i a) (P : post (some (.int (zI (d_cl (a 54) (fun t => d_Fr (a 54) (a 55) (a 56) (i 57) t 0 (i 53).toNat) (i 53).toNat)))) h sz) : ∀ (d : Nat) (r x : Int), (i 53 - x).toNat = d → 0 ≤ x → x ≤ i 53 → r = d_cl (a 54) (fun t => d_Fr (a 54) (a 55) (a 56) (i 57) t 0 (i 53).toNat) x.toNat → V S 0 0 h sz 5 [some (.ref o), some (.int (zI r)), some (.int (zI x))] [] := by
  have hc := M.2.2.2.1
  have ho : s_own S = RX7 := M.2.2.1
  have hFr : (s_R S).frames = 1 := by rw [M.2.2.2.2.2.2.2.1]
  have hLo : (s_R S).locals = 24 := by rw [M.2.2.2.2.2.2.2.1]
  have hCe : (s_R S).cells = 0 := by rw [M.2.2.2.2.2.2.2.1]
  have hSl : (s_R S).slots = 0 := by rw [M.2.2.2.2.2.2.2.1]
  have hi := hO.2.2.2.1
  have ha := hO.2.2.2.2
  have hI3 := hI.1
  have hI4 := hI.2.1
  have hIf := hI.2.2.1
  have hIw := hI.2.2.2
  intro d
  induction d using Nat.strongRecOn with
  | ind d ih =>
    intro r x hd h0 h1 hr
    have hrb := d_cl_bd hIf (fun t => d_Fr (a 54) (a 55) (a 56) (i 57) t 0 (i 53).toNat) x.toNat
    have hrn := d_cl_nn hIf (fun t => d_Fr (a 54) (a 55) (a 56) (i 57) t 0 (i 53).toNat) x.toNat
    have hfx := hIf x.toNat
    refine v_iload_n hc dX7_clash_5 rfl ?_
    refine v_aload_n hc dX7_clash_6 rfl ?_
    refine r_get hc ho dX7_clash_7 F_X7_271 hO rfl ?_
    refine z_icmp_ge (tgt := 54) hc dX7_clash_10 (by decide) (by first | assumption | exact hi _ | exact ha _ _ | (unfold zb; omega)) (by first | assumption | exact hi _ | exact ha _ _ | (unfold zb; omega)) (fun c_1 => ?_) (fun c_1 => ?_)
    · refine v_iload_n hc dX7_clash_54 rfl ?_
      refine z_iret M dX7_clash_55 (by omega) (by omega) ?_
      rw [hr, show x = i 53 by omega]
      exact P
    · refine v_aload_n hc dX7_clash_13 rfl ?_
      refine v_aload_n hc dX7_clash_14 rfl ?_
      refine r_getA hc ho dX7_clash_15 F_X7_115 hO rfl ?_
      refine v_iload_n hc dX7_clash_18 rfl ?_
      refine r_iald hc dX7_clash_19 hO 54 rfl (by decide) (by omega) (by omega) ?_
      refine z_iconst hc dX7_clash_20 ?_
      refine v_callV (As := [.int (zI (a 54 x.toNat)), .int (zI (0))]) hc ho dX7_clash_21 KV_X7_274 KB_X7_freeIn hO.1 rfl rfl (c_X7_freeIn _ _ hO hI (t := a 54 x.toNat) (out := 0) (by first | assumption | exact hi _ | exact ha _ _ | (unfold zb; omega)) (by omega)) rfl (Nat.le_of_ble_eq_true rfl) ⟨by omega, by omega⟩ ⟨by omega, by omega⟩ (fun r_ h_ sz_ q_ z_ => ?_)
      obtain ⟨rfl, rfl, rfl⟩ := q_
      have hfb := d_Fr_bd (f := a 54) (t := a 55) (own := i 57) (x := a 54 x.toNat) (out := 0) hI4 hIw (i 53).toNat
      refine z_if_ge (tgt := 48) hc dX7_clash_24 (by decide) (by first | assumption | exact hi _ | exact ha _ _ | (unfold zb; omega)) (fun c_2 => ?_) (fun c_2 => ?_)
      · refine z_iinc hc dX7_clash_48 rfl ?_
        refine v_goto (tgt := 5) hc dX7_clash_51 (by decide) ?_
        exact ih _ (by omega) _ _ rfl (by omega) (by omega) (by rw [show (x + 1).toNat = x.toNat + 1 by omega, d_cl]; split <;> omega)
      · refine v_iload_n hc dX7_clash_27 rfl ?_
        refine z_if_lt (tgt := 41) hc dX7_clash_28 (by decide) (by first | assumption | exact hi _ | exact ha _ _ | (unfold zb; omega)) (fun c_3 => ?_) (fun c_3 => ?_)
        · refine v_aload_n hc dX7_clash_41 rfl ?_
          refine r_getA hc ho dX7_clash_42 F_X7_115 hO rfl ?_
          refine v_iload_n hc dX7_clash_45 rfl ?_
          refine r_iald hc dX7_clash_46 hO 54 rfl (by decide) (by omega) (by omega) ?_
          refine v_istore_n hc dX7_clash_47 (Nat.le_of_ble_eq_true rfl) ?_
          refine z_iinc hc dX7_clash_48 rfl ?_
          refine v_goto (tgt := 5) hc dX7_clash_51 (by decide) ?_
          exact ih _ (by omega) _ _ rfl (by omega) (by omega) (by rw [show (x + 1).toNat = x.toNat + 1 by omega, d_cl]; split <;> omega)
        · refine v_aload_n hc dX7_clash_31 rfl ?_
          refine r_getA hc ho dX7_clash_32 F_X7_115 hO rfl ?_
          refine v_iload_n hc dX7_clash_35 rfl ?_
          refine r_iald hc dX7_clash_36 hO 54 rfl (by decide) (by omega) (by omega) ?_
          refine v_iload_n hc dX7_clash_37 rfl ?_
          refine z_icmp_ge (tgt := 48) hc dX7_clash_38 (by decide) (by first | assumption | exact hi _ | exact ha _ _ | (unfold zb; omega)) (by first | assumption | exact hi _ | exact ha _ _ | (unfold zb; omega)) (fun c_4 => ?_) (fun c_4 => ?_)
          · refine z_iinc hc dX7_clash_48 rfl ?_
            refine v_goto (tgt := 5) hc dX7_clash_51 (by decide) ?_
            exact ih _ (by omega) _ _ rfl (by omega) (by omega) (by rw [show (x + 1).toNat = x.toNat + 1 by omega, d_cl]; split <;> omega)
          · refine v_aload_n hc dX7_clash_41 rfl ?_
            refine r_getA hc ho dX7_clash_42 F_X7_115 hO rfl ?_
            refine v_iload_n hc dX7_clash_45 rfl ?_
            refine r_iald hc dX7_clash_46 hO 54 rfl (by decide) (by omega) (by omega) ?_
            refine v_istore_n hc dX7_clash_47 (Nat.le_of_ble_eq_true rfl) ?_
            refine z_iinc hc dX7_clash_48 rfl ?_
            refine v_goto (tgt := 5) hc dX7_clash_51 (by decide) ?_
            exact ih _ (by omega) _ _ rfl (by omega) (by omega) (by rw [show (x + 1).toNat = x.toNat + 1 by omega, d_cl]; split <;> omega)
set_option maxHeartbeats 4000000 in
theorem c_X7_clash (l : Launch) (G : b_G) {o : Nat} {ad : Nat → Nat} {i : Nat → Int} {a : Nat → Nat → Int} {h : b_H} {sz : Nat} (hO : r_O K7 7 o ad i a h) (hI : m_E i a)  : Con l G yX7_clash cX7_clash 3 (some .int) 1 24 0 0 [.ref o] h sz (p_ro (some (.int (zI (d_cl (a 54) (fun t => d_Fr (a 54) (a 55) (a 56) (i 57) t 0 (i 53).toNat) (i 53).toNat)))) h sz) := by
  refine Con.ofK (by decide +kernel) rfl rfl ?_
  intro S M
  have hc := M.2.2.2.1
  have ho : s_own S = RX7 := M.2.2.1
  have hFr : (s_R S).frames = 1 := by rw [M.2.2.2.2.2.2.2.1]
  have hLo : (s_R S).locals = 24 := by rw [M.2.2.2.2.2.2.2.1]
  have hCe : (s_R S).cells = 0 := by rw [M.2.2.2.2.2.2.2.1]
  have hSl : (s_R S).slots = 0 := by rw [M.2.2.2.2.2.2.2.1]
  have hi := hO.2.2.2.1
  have ha := hO.2.2.2.2
  have hI3 := hI.1
  have hI4 := hI.2.1
  have hIf := hI.2.2.1
  have hIw := hI.2.2.2
  refine z_bipush hc dX7_clash_0 (by decide) ?_
  refine v_istore_n hc dX7_clash_2 (Nat.le_of_ble_eq_true rfl) ?_
  refine z_iconst hc dX7_clash_3 ?_
  refine v_istore_n hc dX7_clash_4 (Nat.le_of_ble_eq_true rfl) ?_
  exact l_X7_clash_5 M hO hI ⟨rfl, rfl, rfl⟩ _ _ _ rfl (by omega) (by omega) rfl
set_option maxHeartbeats 4000000 in
theorem l_X7_bitsOf_4 {S : b_S} {l : Launch} {G : b_G} {h : b_H} {sz : Nat} {post : Option Value → b_H → Nat → Prop} (M : b_M S l G RX7 cX7_bitsOf 3 (some .int) "bitsOf" 0 0 0 0 h sz post) {x : Int} (P : post (some (.int (zI (d_bc x)))) h sz) : ∀ (d : Nat) (r t : Int), t.toNat = d → 0 ≤ t → t < 4096 → r + d_bc t = d_bc x → V S 0 0 h sz 4 [some (.int (zI x)), some (.int (zI r)), some (.int (zI t))] [] := by
  have hc := M.2.2.2.1
  have ho : s_own S = RX7 := M.2.2.1
  have hFr : (s_R S).frames = 0 := by rw [M.2.2.2.2.2.2.2.1]
  have hLo : (s_R S).locals = 0 := by rw [M.2.2.2.2.2.2.2.1]
  have hCe : (s_R S).cells = 0 := by rw [M.2.2.2.2.2.2.2.1]
  have hSl : (s_R S).slots = 0 := by rw [M.2.2.2.2.2.2.2.1]
  intro d
  induction d using Nat.strongRecOn with
  | ind d ih =>
    intro r t hd h0 h1 hr
    refine v_iload_n hc dX7_bitsOf_4 rfl ?_
    refine z_if_eq (tgt := 20) hc dX7_bitsOf_5 (by decide) (by unfold zb; omega) (fun c_1 => ?_) (fun c_1 => ?_)
    · refine v_iload_n hc dX7_bitsOf_20 rfl ?_
      refine z_iret M dX7_bitsOf_21 (by omega) (by omega) ?_
      rw [show t = 0 by omega, d_bc_0] at hr
      rw [show r = d_bc x by omega]
      exact P
    · have hst := d_st (t := t) (by omega) (by omega)
      have hun : d_an t (t - 1) = (zI t &&& zI (t - 1)).toInt := rfl
      rw [hun] at hst
      refine z_iinc hc dX7_bitsOf_8 rfl ?_
      refine v_iload_n hc dX7_bitsOf_11 rfl ?_
      refine v_iload_n hc dX7_bitsOf_12 rfl ?_
      refine z_iconst hc dX7_bitsOf_13 ?_
      refine z_isub hc dX7_bitsOf_14 ?_
      refine v_iand hc dX7_bitsOf_15 (zI_of _) ?_
      refine v_istore_n hc dX7_bitsOf_16 (Nat.le_of_ble_eq_true rfl) ?_
      refine v_goto (tgt := 4) hc dX7_bitsOf_17 (by decide) ?_
      exact ih _ (by omega) _ _ rfl (by omega) (by omega) (by omega)
set_option maxHeartbeats 4000000 in
theorem c_X7_bitsOf (l : Launch) (G : b_G) {h : b_H} {sz : Nat} {x : Int} (hx : 0 ≤ x ∧ x < 4096) : Con l G yX7_bitsOf cX7_bitsOf 3 (some .int) 0 0 0 0 [.int (zI x)] h sz (p_ro (some (.int (zI (d_bc x)))) h sz) := by
  refine Con.ofK (by decide +kernel) rfl rfl ?_
  intro S M
  have hc := M.2.2.2.1
  have ho : s_own S = RX7 := M.2.2.1
  have hFr : (s_R S).frames = 0 := by rw [M.2.2.2.2.2.2.2.1]
  have hLo : (s_R S).locals = 0 := by rw [M.2.2.2.2.2.2.2.1]
  have hCe : (s_R S).cells = 0 := by rw [M.2.2.2.2.2.2.2.1]
  have hSl : (s_R S).slots = 0 := by rw [M.2.2.2.2.2.2.2.1]
  refine z_iconst hc dX7_bitsOf_0 ?_
  refine v_istore_n hc dX7_bitsOf_1 (Nat.le_of_ble_eq_true rfl) ?_
  refine v_iload_n hc dX7_bitsOf_2 rfl ?_
  refine v_istore_n hc dX7_bitsOf_3 (Nat.le_of_ble_eq_true rfl) ?_
  exact l_X7_bitsOf_4 M ⟨rfl, rfl, rfl⟩ _ _ _ rfl (by omega) (by omega) (by omega)
def m_gb (f : Nat → Int) (fr : Int → Int) : Nat → Bool
  | 0 => true
  | j + 1 => m_gb f fr j && decide (0 ≤ fr (f j))
theorem m_gb_no {f : Nat → Int} {fr : Int → Int} {x : Nat} (h : m_gb f fr x = false) : ∀ n : Nat, m_gb f fr (x + n) = false
  | 0 => h
  | n + 1 => by rw [← Nat.add_assoc, m_gb, m_gb_no h n]; rfl
def m_ll (gb : Int → Bool) : Nat → Int
  | 0 => -1
  | j + 1 => if gb j = true ∧ (m_ll gb j < 0 ∨ ¬ (0 < d_bc j - d_bc (m_ll gb j) ∨ (d_bc j - d_bc (m_ll gb j) = 0 ∧ d_lb j (m_ll gb j) = 0))) then j else m_ll gb j
theorem m_ll_bd (gb : Int → Bool) : ∀ j : Nat, -1 ≤ m_ll gb j ∧ m_ll gb j < j ∨ j = 0
  | 0 => Or.inr rfl
  | j + 1 => by
    left
    have h1 := m_ll_bd gb j
    rw [m_ll]
    split
    · push_cast; omega
    · rcases h1 with h1 | h1
      · push_cast; omega
      · subst h1; simp [m_ll]

set_option maxHeartbeats 4000000 in
theorem l_X7_left_31 {S : b_S} {l : Launch} {G : b_G} {o : Nat} {ad : Nat → Nat} {i : Nat → Int} {a : Nat → Nat → Int} {h : b_H} {sz : Nat} {post : Option Value → b_H → Nat → Prop} (M : b_M S l G RX7 cX7_left 6 (some .int) "left" 1 24 0 0 h sz post) (hO : r_O K7 7 o ad i a h) (hI : m_E i a) {b u : Int} {x5 : Option Value} (hu : 0 ≤ u ∧ u < 2147483648) (P71 : ∀ x : Int, x = bI (m_gb (a 54) (fun t => d_Fr (a 54) (a 55) (a 56) (i 57) t u (i 53).toNat) (i 53).toNat = true) → ∀ z : Int, V S 0 0 h sz 71 [some (.ref o), some (.int (zI b)), some (.int (zI u)), some (.int (zI x)), some (.int (zI z)), x5] []) : ∀ (d : Nat) (g x : Int), (i 53 - x).toNat = d → 0 ≤ x → x ≤ i 53 → g = bI (m_gb (a 54) (fun t => d_Fr (a 54) (a 55) (a 56) (i 57) t u (i 53).toNat) x.toNat = true) → V S 0 0 h sz 31 [some (.ref o), some (.int (zI b)), some (.int (zI u)), some (.int (zI g)), some (.int (zI x)), x5] [] := by
  have hc := M.2.2.2.1
  have ho : s_own S = RX7 := M.2.2.1
  have hFr : (s_R S).frames = 1 := by rw [M.2.2.2.2.2.2.2.1]
  have hLo : (s_R S).locals = 24 := by rw [M.2.2.2.2.2.2.2.1]
  have hCe : (s_R S).cells = 0 := by rw [M.2.2.2.2.2.2.2.1]
  have hSl : (s_R S).slots = 0 := by rw [M.2.2.2.2.2.2.2.1]
  have hi := hO.2.2.2.1
  have ha := hO.2.2.2.2
  have hI3 := hI.1
  have hI4 := hI.2.1
  have hIf := hI.2.2.1
  have hIw := hI.2.2.2
  intro d
  induction d using Nat.strongRecOn with
  | ind d ih =>
    intro g x hd h0 h1 hr
    have hgb := bI_bd (m_gb (a 54) (fun t => d_Fr (a 54) (a 55) (a 56) (i 57) t u (i 53).toNat) x.toNat = true)
    refine v_iload hc dX7_left_31 rfl ?_
    refine v_aload_n hc dX7_left_33 rfl ?_
    refine r_get hc ho dX7_left_34 F_X7_271 hO rfl ?_
    refine z_icmp_ge (tgt := 71) hc dX7_left_37 (by decide) (by first | assumption | exact hi _ | exact ha _ _ | (unfold zb; omega)) (by first | assumption | exact hi _ | exact ha _ _ | (unfold zb; omega)) (fun c_1 => ?_) (fun c_1 => ?_)
    · exact P71 g (by
        by_cases e : x = i 53
        · rw [hr, e]
        · have hz : g = 0 := by omega
          have hf : m_gb (a 54) (fun t => d_Fr (a 54) (a 55) (a 56) (i 57) t u (i 53).toNat) x.toNat = false := by
            rw [hz, bI] at hr; by_cases q : m_gb (a 54) (fun t => d_Fr (a 54) (a 55) (a 56) (i 57) t u (i 53).toNat) x.toNat = true
            · rw [if_pos q] at hr; omega
            · simpa using q
          have hf2 := m_gb_no hf ((i 53).toNat - x.toNat)
          rw [show x.toNat + ((i 53).toNat - x.toNat) = (i 53).toNat by omega] at hf2
          rw [hz, bI, hf2]
          simp) x
    · refine v_iload_n hc dX7_left_40 rfl ?_
      refine z_if_eq (tgt := 71) hc dX7_left_41 (by decide) (by first | assumption | exact hi _ | exact ha _ _ | (unfold zb; omega)) (fun c_2 => ?_) (fun c_2 => ?_)
      · exact P71 g (by
          by_cases e : x = i 53
          · rw [hr, e]
          · have hz : g = 0 := by omega
            have hf : m_gb (a 54) (fun t => d_Fr (a 54) (a 55) (a 56) (i 57) t u (i 53).toNat) x.toNat = false := by
              rw [hz, bI] at hr; by_cases q : m_gb (a 54) (fun t => d_Fr (a 54) (a 55) (a 56) (i 57) t u (i 53).toNat) x.toNat = true
              · rw [if_pos q] at hr; omega
              · simpa using q
            have hf2 := m_gb_no hf ((i 53).toNat - x.toNat)
            rw [show x.toNat + ((i 53).toNat - x.toNat) = (i 53).toNat by omega] at hf2
            rw [hz, bI, hf2]
            simp) x
      · have hg1 : m_gb (a 54) (fun t => d_Fr (a 54) (a 55) (a 56) (i 57) t u (i 53).toNat) x.toNat = true := by
          rw [bI] at hr; by_cases q : m_gb (a 54) (fun t => d_Fr (a 54) (a 55) (a 56) (i 57) t u (i 53).toNat) x.toNat = true
          · exact q
          · rw [if_neg q] at hr; omega
        refine v_aload_n hc dX7_left_44 rfl ?_
        refine v_aload_n hc dX7_left_45 rfl ?_
        refine r_getA hc ho dX7_left_46 F_X7_115 hO rfl ?_
        refine v_iload hc dX7_left_49 rfl ?_
        refine r_iald hc dX7_left_51 hO 54 rfl (by decide) (by omega) (by omega) ?_
        refine v_iload_n hc dX7_left_52 rfl ?_
        refine v_callV (As := [.int (zI (a 54 x.toNat)), .int (zI (u))]) hc ho dX7_left_53 KV_X7_274 KB_X7_freeIn hO.1 rfl rfl (c_X7_freeIn _ _ hO hI (t := a 54 x.toNat) (out := u) (by first | assumption | exact hi _ | exact ha _ _ | (unfold zb; omega)) (by omega)) rfl (Nat.le_of_ble_eq_true rfl) ⟨by omega, by omega⟩ ⟨by omega, by omega⟩ (fun r_ h_ sz_ q_ z_ => ?_)
        obtain ⟨rfl, rfl, rfl⟩ := q_
        have hfb := d_Fr_bd (f := a 54) (t := a 55) (own := i 57) (x := a 54 x.toNat) (out := u) hI4 hIw (i 53).toNat
        refine z_if_lt (tgt := 63) hc dX7_left_56 (by decide) (by first | assumption | exact hi _ | exact ha _ _ | (unfold zb; omega)) (fun c_3 => ?_) (fun c_3 => ?_)
        · refine z_iconst hc dX7_left_63 ?_
          refine v_istore_n hc dX7_left_64 (Nat.le_of_ble_eq_true rfl) ?_
          refine z_iinc hc dX7_left_65 rfl ?_
          refine v_goto (tgt := 31) hc dX7_left_68 (by decide) ?_
          exact ih _ (by omega) _ _ rfl (by omega) (by omega) (by rw [show (x + 1).toNat = x.toNat + 1 by omega, m_gb, hg1, Bool.true_and, bI]; simp only [decide_eq_true_eq]; first | rw [if_pos (by omega)] | rw [if_neg (by omega)])
        · refine z_iconst hc dX7_left_59 ?_
          refine v_goto (tgt := 64) hc dX7_left_60 (by decide) ?_
          refine v_istore_n hc dX7_left_64 (Nat.le_of_ble_eq_true rfl) ?_
          refine z_iinc hc dX7_left_65 rfl ?_
          refine v_goto (tgt := 31) hc dX7_left_68 (by decide) ?_
          exact ih _ (by omega) _ _ rfl (by omega) (by omega) (by rw [show (x + 1).toNat = x.toNat + 1 by omega, m_gb, hg1, Bool.true_and, bI]; simp only [decide_eq_true_eq]; first | rw [if_pos (by omega)] | rw [if_neg (by omega)])
set_option maxHeartbeats 4000000 in
theorem l_X7_left_16 {S : b_S} {l : Launch} {G : b_G} {o : Nat} {ad : Nat → Nat} {i : Nat → Int} {a : Nat → Nat → Int} {h : b_H} {sz : Nat} {post : Option Value → b_H → Nat → Prop} (M : b_M S l G RX7 cX7_left 6 (some .int) "left" 1 24 0 0 h sz post) (hO : r_O K7 7 o ad i a h) (hI : m_E i a) (h12 : i 53 ≤ 12) (P : post (some (.int (zI (m_ll (fun u => m_gb (a 54) (fun t => d_Fr (a 54) (a 55) (a 56) (i 57) t u (i 53).toNat) (i 53).toNat) ((2 : Int) ^ (i 53).toNat).toNat)))) h sz) : ∀ (d : Nat) (r x : Int) (x3 x4 x5 : Option Value), ((2 : Int) ^ (i 53).toNat - x).toNat = d → 0 ≤ x → x ≤ (2 : Int) ^ (i 53).toNat → r = m_ll (fun u => m_gb (a 54) (fun t => d_Fr (a 54) (a 55) (a 56) (i 57) t u (i 53).toNat) (i 53).toNat) x.toNat → V S 0 0 h sz 16 [some (.ref o), some (.int (zI r)), some (.int (zI x)), x3, x4, x5] [] := by
  have hc := M.2.2.2.1
  have ho : s_own S = RX7 := M.2.2.1
  have hFr : (s_R S).frames = 1 := by rw [M.2.2.2.2.2.2.2.1]
  have hLo : (s_R S).locals = 24 := by rw [M.2.2.2.2.2.2.2.1]
  have hCe : (s_R S).cells = 0 := by rw [M.2.2.2.2.2.2.2.1]
  have hSl : (s_R S).slots = 0 := by rw [M.2.2.2.2.2.2.2.1]
  have hi := hO.2.2.2.1
  have ha := hO.2.2.2.2
  have hI3 := hI.1
  have hI4 := hI.2.1
  have hIf := hI.2.2.1
  have hIw := hI.2.2.2
  intro d
  induction d using Nat.strongRecOn with
  | ind d ih =>
    intro r x x3 x4 x5 hd h0 h1 hr
    have hp := d_pw (n := (i 53).toNat) (by omega)
    have hr0 : x.toNat = 0 → r = -1 := fun q => by rw [hr, q, m_ll]
    have hrb := m_ll_bd (fun u => m_gb (a 54) (fun t => d_Fr (a 54) (a 55) (a 56) (i 57) t u (i 53).toNat) (i 53).toNat) x.toNat
    rw [← hr] at hrb
    refine v_iload_n hc dX7_left_16 rfl ?_
    refine z_iconst hc dX7_left_17 ?_
    refine v_aload_n hc dX7_left_18 rfl ?_
    refine r_get hc ho dX7_left_19 F_X7_271 hO rfl ?_
    refine v_ishl hc dX7_left_22 (zI_shl (by omega) (by omega) (by omega) (by omega)) ?_
    refine z_icmp_ge (tgt := 130) hc dX7_left_23 (by decide) (by first | assumption | exact hi _ | exact ha _ _ | exact zb_of _ | (unfold zb; omega)) (by first | assumption | exact hi _ | exact ha _ _ | exact zb_of _ | (unfold zb; omega)) (fun c_1 => ?_) (fun c_1 => ?_)
    · refine v_iload_n hc dX7_left_130 rfl ?_
      refine z_iret M dX7_left_131 (by omega) (by omega) ?_
      rw [hr, show x = 2 ^ (i 53).toNat by omega]
      exact P
    · refine z_iconst hc dX7_left_26 ?_
      refine v_istore_n hc dX7_left_27 (Nat.le_of_ble_eq_true rfl) ?_
      refine z_iconst hc dX7_left_28 ?_
      refine v_istore hc dX7_left_29 (Nat.le_of_ble_eq_true rfl) ?_
      refine l_X7_left_31 M hO hI (b := r) (u := x) (by omega) (fun gg hg zz => ?_) _ _ _ rfl (by omega) (by omega) rfl
      have hgb : 0 ≤ gg ∧ gg ≤ 1 := by rw [hg]; exact bI_bd _
      refine v_iload_n hc dX7_left_71 rfl ?_
      refine z_if_ne (tgt := 78) hc dX7_left_72 (by decide) (by first | assumption | exact hi _ | exact ha _ _ | exact zb_of _ | (unfold zb; omega)) (fun c_2 => ?_) (fun c_2 => ?_)
      · refine v_iload_n hc dX7_left_78 rfl ?_
        refine z_if_lt (tgt := 122) hc dX7_left_79 (by decide) (by first | assumption | exact hi _ | exact ha _ _ | exact zb_of _ | (unfold zb; omega)) (fun c_3 => ?_) (fun c_3 => ?_)
        · refine v_iload_n hc dX7_left_122 rfl ?_
          refine v_istore_n hc dX7_left_123 (Nat.le_of_ble_eq_true rfl) ?_
          refine z_iinc hc dX7_left_124 rfl ?_
          refine v_goto (tgt := 16) hc dX7_left_127 (by decide) ?_
          exact ih _ (by omega) _ _ _ _ _ rfl (by omega) (by omega) (by
            rw [show (x + 1).toNat = x.toNat + 1 by omega, m_ll, show ((x.toNat : Nat) : Int) = x by omega, ← hr]
            by_cases hG : m_gb (a 54) (fun t => d_Fr (a 54) (a 55) (a 56) (i 57) t x (i 53).toNat) (i 53).toNat = true
            · have hgg : gg = 1 := by rw [hg, bI, if_pos hG]
              first | (exfalso; omega) | (rw [if_pos ⟨hG, by omega⟩]; done) | (rw [if_neg (fun q => by have q2 := q.2; omega)]; done)
            · have hgg : gg = 0 := by rw [hg, bI, if_neg hG]
              first | (exfalso; omega) | rw [if_neg (fun q => hG q.1)])
        · refine v_iload_n hc dX7_left_82 rfl ?_
          refine v_callS (As := [.int (zI x)]) hc ho dX7_left_83 KS_X7_277 KB_X7_bitsOf (c_X7_bitsOf _ _ (x := x) (by omega)) rfl (Nat.le_of_ble_eq_true rfl) ⟨by omega, by omega⟩ ⟨by omega, by omega⟩ (fun r_ h_ sz_ q_ z_ => ?_)
          obtain ⟨rfl, rfl, rfl⟩ := q_
          refine v_iload_n hc dX7_left_86 rfl ?_
          refine v_callS (As := [.int (zI r)]) hc ho dX7_left_87 KS_X7_277 KB_X7_bitsOf (c_X7_bitsOf _ _ (x := r) (by omega)) rfl (Nat.le_of_ble_eq_true rfl) ⟨by omega, by omega⟩ ⟨by omega, by omega⟩ (fun r_ h_ sz_ q_ z_ => ?_)
          obtain ⟨rfl, rfl, rfl⟩ := q_
          have hd1 := d_bc_bd (t := x) (by omega) (by omega)
          have hd2 := d_bc_bd (t := r) (by omega) (by omega)
          refine z_isub hc dX7_left_90 ?_
          refine v_istore hc dX7_left_91 (Nat.le_of_ble_eq_true rfl) ?_
          refine v_iload_n hc dX7_left_93 rfl ?_
          refine v_iload_n hc dX7_left_94 rfl ?_
          refine v_ixor hc dX7_left_95 (zI_of _) ?_
          refine v_istore hc dX7_left_96 (Nat.le_of_ble_eq_true rfl) ?_
          refine v_iload hc dX7_left_98 rfl ?_
          refine z_if_gt (tgt := 124) hc dX7_left_100 (by decide) (by first | assumption | exact hi _ | exact ha _ _ | exact zb_of _ | (unfold zb; omega)) (fun c_4 => ?_) (fun c_4 => ?_)
          · refine z_iinc hc dX7_left_124 rfl ?_
            refine v_goto (tgt := 16) hc dX7_left_127 (by decide) ?_
            exact ih _ (by omega) _ _ _ _ _ rfl (by omega) (by omega) (by
              rw [show (x + 1).toNat = x.toNat + 1 by omega, m_ll, show ((x.toNat : Nat) : Int) = x by omega, ← hr]
              by_cases hG : m_gb (a 54) (fun t => d_Fr (a 54) (a 55) (a 56) (i 57) t x (i 53).toNat) (i 53).toNat = true
              · have hgg : gg = 1 := by rw [hg, bI, if_pos hG]
                first | (exfalso; omega) | (rw [if_pos ⟨hG, by omega⟩]; done) | (rw [if_neg (fun q => by have q2 := q.2; omega)]; done)
              · have hgg : gg = 0 := by rw [hg, bI, if_neg hG]
                first | (exfalso; omega) | rw [if_neg (fun q => hG q.1)])
          · refine v_iload hc dX7_left_103 rfl ?_
            refine z_if_ne (tgt := 122) hc dX7_left_105 (by decide) (by first | assumption | exact hi _ | exact ha _ _ | exact zb_of _ | (unfold zb; omega)) (fun c_5 => ?_) (fun c_5 => ?_)
            · refine v_iload_n hc dX7_left_122 rfl ?_
              refine v_istore_n hc dX7_left_123 (Nat.le_of_ble_eq_true rfl) ?_
              refine z_iinc hc dX7_left_124 rfl ?_
              refine v_goto (tgt := 16) hc dX7_left_127 (by decide) ?_
              exact ih _ (by omega) _ _ _ _ _ rfl (by omega) (by omega) (by
                rw [show (x + 1).toNat = x.toNat + 1 by omega, m_ll, show ((x.toNat : Nat) : Int) = x by omega, ← hr]
                by_cases hG : m_gb (a 54) (fun t => d_Fr (a 54) (a 55) (a 56) (i 57) t x (i 53).toNat) (i 53).toNat = true
                · have hgg : gg = 1 := by rw [hg, bI, if_pos hG]
                  first | (exfalso; omega) | (rw [if_pos ⟨hG, by omega⟩]; done) | (rw [if_neg (fun q => by have q2 := q.2; omega)]; done)
                · have hgg : gg = 0 := by rw [hg, bI, if_neg hG]
                  first | (exfalso; omega) | rw [if_neg (fun q => hG q.1)])
            · refine v_iload_n hc dX7_left_108 rfl ?_
              refine v_iload hc dX7_left_109 rfl ?_
              refine v_iand hc dX7_left_111 (zI_of _) ?_
              refine v_iload hc dX7_left_112 rfl ?_
              refine z_ineg hc dX7_left_114 ?_
              refine v_iand hc dX7_left_115 (zI_of _) ?_
              have hlb : d_lb x r = (zI (zI x &&& zI (zI x ^^^ zI r).toInt).toInt &&& zI (-(zI x ^^^ zI r).toInt)).toInt := rfl
              refine z_if_ne (tgt := 122) hc dX7_left_116 (by decide) (by first | assumption | exact hi _ | exact ha _ _ | exact zb_of _ | (unfold zb; omega)) (fun c_6 => ?_) (fun c_6 => ?_)
              · refine v_iload_n hc dX7_left_122 rfl ?_
                refine v_istore_n hc dX7_left_123 (Nat.le_of_ble_eq_true rfl) ?_
                refine z_iinc hc dX7_left_124 rfl ?_
                refine v_goto (tgt := 16) hc dX7_left_127 (by decide) ?_
                exact ih _ (by omega) _ _ _ _ _ rfl (by omega) (by omega) (by
                  rw [show (x + 1).toNat = x.toNat + 1 by omega, m_ll, show ((x.toNat : Nat) : Int) = x by omega, ← hr]
                  by_cases hG : m_gb (a 54) (fun t => d_Fr (a 54) (a 55) (a 56) (i 57) t x (i 53).toNat) (i 53).toNat = true
                  · have hgg : gg = 1 := by rw [hg, bI, if_pos hG]
                    first | (exfalso; omega) | (rw [if_pos ⟨hG, by omega⟩]; done) | (rw [if_neg (fun q => by have q2 := q.2; omega)]; done)
                  · have hgg : gg = 0 := by rw [hg, bI, if_neg hG]
                    first | (exfalso; omega) | rw [if_neg (fun q => hG q.1)])
              · refine v_goto (tgt := 124) hc dX7_left_119 (by decide) ?_
                refine z_iinc hc dX7_left_124 rfl ?_
                refine v_goto (tgt := 16) hc dX7_left_127 (by decide) ?_
                exact ih _ (by omega) _ _ _ _ _ rfl (by omega) (by omega) (by
                  rw [show (x + 1).toNat = x.toNat + 1 by omega, m_ll, show ((x.toNat : Nat) : Int) = x by omega, ← hr]
                  by_cases hG : m_gb (a 54) (fun t => d_Fr (a 54) (a 55) (a 56) (i 57) t x (i 53).toNat) (i 53).toNat = true
                  · have hgg : gg = 1 := by rw [hg, bI, if_pos hG]
                    first | (exfalso; omega) | (rw [if_pos ⟨hG, by omega⟩]; done) | (rw [if_neg (fun q => by have q2 := q.2; omega)]; done)
                  · have hgg : gg = 0 := by rw [hg, bI, if_neg hG]
                    first | (exfalso; omega) | rw [if_neg (fun q => hG q.1)])
      · refine v_goto (tgt := 124) hc dX7_left_75 (by decide) ?_
        refine z_iinc hc dX7_left_124 rfl ?_
        refine v_goto (tgt := 16) hc dX7_left_127 (by decide) ?_
        exact ih _ (by omega) _ _ _ _ _ rfl (by omega) (by omega) (by
          rw [show (x + 1).toNat = x.toNat + 1 by omega, m_ll, show ((x.toNat : Nat) : Int) = x by omega, ← hr]
          by_cases hG : m_gb (a 54) (fun t => d_Fr (a 54) (a 55) (a 56) (i 57) t x (i 53).toNat) (i 53).toNat = true
          · have hgg : gg = 1 := by rw [hg, bI, if_pos hG]
            first | (exfalso; omega) | (rw [if_pos ⟨hG, by omega⟩]; done) | (rw [if_neg (fun q => by have q2 := q.2; omega)]; done)
          · have hgg : gg = 0 := by rw [hg, bI, if_neg hG]
            first | (exfalso; omega) | rw [if_neg (fun q => hG q.1)])
set_option maxHeartbeats 4000000 in
theorem c_X7_left (l : Launch) (G : b_G) {o : Nat} {ad : Nat → Nat} {i : Nat → Int} {a : Nat → Nat → Int} {h : b_H} {sz : Nat} (hO : r_O K7 7 o ad i a h) (hI : m_E i a)  : Con l G yX7_left cX7_left 6 (some .int) 1 24 0 0 [.ref o] h sz (p_ro (some (.int (zI (if 12 < i 53 then -4 else m_ll (fun u => m_gb (a 54) (fun t => d_Fr (a 54) (a 55) (a 56) (i 57) t u (i 53).toNat) (i 53).toNat) ((2 : Int) ^ (i 53).toNat).toNat)))) h sz) := by
  refine Con.ofK (by decide +kernel) rfl rfl ?_
  intro S M
  have hc := M.2.2.2.1
  have ho : s_own S = RX7 := M.2.2.1
  have hFr : (s_R S).frames = 1 := by rw [M.2.2.2.2.2.2.2.1]
  have hLo : (s_R S).locals = 24 := by rw [M.2.2.2.2.2.2.2.1]
  have hCe : (s_R S).cells = 0 := by rw [M.2.2.2.2.2.2.2.1]
  have hSl : (s_R S).slots = 0 := by rw [M.2.2.2.2.2.2.2.1]
  have hi := hO.2.2.2.1
  have ha := hO.2.2.2.2
  have hI3 := hI.1
  have hI4 := hI.2.1
  have hIf := hI.2.2.1
  have hIw := hI.2.2.2
  refine v_aload_n hc dX7_left_0 rfl ?_
  refine r_get hc ho dX7_left_1 F_X7_271 hO rfl ?_
  refine z_bipush hc dX7_left_4 (by decide) ?_
  refine z_icmp_le (tgt := 12) hc dX7_left_6 (by decide) (by first | assumption | exact hi _ | exact ha _ _ | (unfold zb; omega)) (by first | assumption | exact hi _ | exact ha _ _ | (unfold zb; omega)) (fun c_1 => ?_) (fun c_1 => ?_)
  · refine z_iconst hc dX7_left_12 ?_
    refine v_istore_n hc dX7_left_13 (Nat.le_of_ble_eq_true rfl) ?_
    refine z_iconst hc dX7_left_14 ?_
    refine v_istore_n hc dX7_left_15 (Nat.le_of_ble_eq_true rfl) ?_
    exact l_X7_left_16 M hO hI (by omega) ⟨by rw [if_neg (by omega)], rfl, rfl⟩ _ _ _ _ _ _ rfl (by omega) (by have := d_pw (n := (i 53).toNat) (by omega); omega) rfl
  · refine z_bipush hc dX7_left_9 (by decide) ?_
    refine z_iret M dX7_left_11 (by omega) (by omega) ?_
    exact ⟨by rw [if_pos (by omega)], rfl, rfl⟩
