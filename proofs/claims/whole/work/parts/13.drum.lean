/-! the drummer -/
abbrev K0 : r_K := [some (false, 30), some (false, 30), some (false, 30), none, none]
def d_Fr (f t w : Nat → Int) (own x out : Int) : Nat → Int
  | 0 => own
  | j + 1 => if out / 2 ^ j % 2 = 0 ∧ f j ≤ x ∧ x < t j then d_Fr f t w own x out j - w j else d_Fr f t w own x out j
theorem d_Fr_bd {f t w : Nat → Int} {own x out : Int} (ho : 0 ≤ own ∧ own ≤ 4) (hw : ∀ j, 0 ≤ w j ∧ w j ≤ 4) : ∀ j : Nat, -(4 * (j : Int)) ≤ d_Fr f t w own x out j ∧ d_Fr f t w own x out j ≤ 4
  | 0 => by simp [d_Fr]; omega
  | j + 1 => by
    have h1 := d_Fr_bd (f := f) (t := t) (own := own) (x := x) (out := out) ho hw j
    have h2 := hw j
    rw [d_Fr]
    split <;> (constructor <;> push_cast <;> omega)
def d_I (i : Nat → Int) (a : Nat → Nat → Int) : Prop := (0 ≤ i 3 ∧ i 3 ≤ 30) ∧ (0 ≤ i 4 ∧ i 4 ≤ 4) ∧ (∀ j, 0 ≤ a 0 j ∧ a 0 j ≤ 100000) ∧ (∀ j, 0 ≤ a 2 j ∧ a 2 j ≤ 4)

set_option maxHeartbeats 4000000 in
theorem c_X0_effectCount (l : Launch) (G : b_G) {o : Nat} {ad : Nat → Nat} {i : Nat → Int} {a : Nat → Nat → Int} {h : b_H} {sz : Nat} (hO : r_O K0 0 o ad i a h) (hI : d_I i a) : Con l G yX0_effectCount cX0_effectCount 1 (some .int) 0 0 0 0 [.ref o] h sz (p_ro (some (.int (zI (i 3)))) h sz) := by
  refine Con.ofK (by decide +kernel) rfl rfl ?_
  intro S M
  have hc := M.2.2.2.1
  have ho : s_own S = RX0 := M.2.2.1
  have hFr : (s_R S).frames = 0 := by rw [M.2.2.2.2.2.2.2.1]
  have hLo : (s_R S).locals = 0 := by rw [M.2.2.2.2.2.2.2.1]
  have hCe : (s_R S).cells = 0 := by rw [M.2.2.2.2.2.2.2.1]
  have hSl : (s_R S).slots = 0 := by rw [M.2.2.2.2.2.2.2.1]
  have hi := hO.2.2.2.1
  have ha := hO.2.2.2.2
  have hI3 := hI.1
  have hI4 := hI.2.1
  refine v_aload_n hc dX0_effectCount_0 rfl ?_
  refine r_get hc ho dX0_effectCount_1 F_X0_25 hO rfl ?_
  refine z_iret M dX0_effectCount_4 (by omega) (by omega) ?_
  exact ⟨rfl, rfl, rfl⟩
set_option maxHeartbeats 4000000 in
theorem c_X0_changeHands (l : Launch) (G : b_G) {o : Nat} {ad : Nat → Nat} {i : Nat → Int} {a : Nat → Nat → Int} {h : b_H} {sz : Nat} (hO : r_O K0 0 o ad i a h) (hI : d_I i a) {x : Int} (hx : zb x) : Con l G yX0_changeHands cX0_changeHands 3 (some .int) 0 0 0 0 [.ref o, .int (zI x)] h sz (p_wr K0 0 o ad h sz (fun r i2 a2 => r = some (.int (zI (i 4))) ∧ i2 = b_up i 4 x ∧ a2 = a)) := by
  refine Con.ofK (by decide +kernel) rfl rfl ?_
  intro S M
  have hc := M.2.2.2.1
  have ho : s_own S = RX0 := M.2.2.1
  have hFr : (s_R S).frames = 0 := by rw [M.2.2.2.2.2.2.2.1]
  have hLo : (s_R S).locals = 0 := by rw [M.2.2.2.2.2.2.2.1]
  have hCe : (s_R S).cells = 0 := by rw [M.2.2.2.2.2.2.2.1]
  have hSl : (s_R S).slots = 0 := by rw [M.2.2.2.2.2.2.2.1]
  have hi := hO.2.2.2.1
  have ha := hO.2.2.2.2
  have hI3 := hI.1
  have hI4 := hI.2.1
  have hfr : ∀ b, ¬ r_own K0 o ad b → h b = h b := fun _ _ => rfl
  refine v_aload_n hc dX0_changeHands_0 rfl ?_
  refine r_get hc ho dX0_changeHands_1 F_X0_21 hO rfl ?_
  refine v_istore_n hc dX0_changeHands_4 (Nat.le_of_ble_eq_true rfl) ?_
  refine v_aload_n hc dX0_changeHands_5 rfl ?_
  refine v_iload_n hc dX0_changeHands_6 rfl ?_
  refine r_putI hc ho dX0_changeHands_7 F_X0_21 hO hfr rfl (by first | assumption | exact hi _ | exact ha _ _ | (unfold zb; omega)) (fun h hO hfr => ?_)
  have hi := hO.2.2.2.1
  refine v_iload_n hc dX0_changeHands_10 rfl ?_
  refine z_iret M dX0_changeHands_11 (by omega) (by omega) ?_
  exact ⟨rfl, _, _, ⟨rfl, rfl, rfl⟩, hO, hfr⟩
set_option maxHeartbeats 4000000 in
theorem c_X0_add (l : Launch) (G : b_G) {o : Nat} {ad : Nat → Nat} {i : Nat → Int} {a : Nat → Nat → Int} {h : b_H} {sz : Nat} (hO : r_O K0 0 o ad i a h) (hI : d_I i a) {x y z : Int} (hx : zb x) (hy : zb y) (hz : zb z) : Con l G yX0_add cX0_add 4 (some .int) 0 0 0 0 [.ref o, .int (zI x), .int (zI y), .int (zI z)] h sz (p_wr K0 0 o ad h sz (fun r i2 a2 => (i 3 = 30 ∧ r = some (.int (zI (-3))) ∧ i2 = i ∧ a2 = a) ∨ (i 3 < 30 ∧ r = some (.int (zI (i 3))) ∧ i2 = b_up i 3 (i 3 + 1) ∧ a2 = r_up (r_up (r_up a 0 (i 3).toNat x) 1 (i 3).toNat y) 2 (i 3).toNat z))) := by
  refine Con.ofK (by decide +kernel) rfl rfl ?_
  intro S M
  have hc := M.2.2.2.1
  have ho : s_own S = RX0 := M.2.2.1
  have hFr : (s_R S).frames = 0 := by rw [M.2.2.2.2.2.2.2.1]
  have hLo : (s_R S).locals = 0 := by rw [M.2.2.2.2.2.2.2.1]
  have hCe : (s_R S).cells = 0 := by rw [M.2.2.2.2.2.2.2.1]
  have hSl : (s_R S).slots = 0 := by rw [M.2.2.2.2.2.2.2.1]
  have hi := hO.2.2.2.1
  have ha := hO.2.2.2.2
  have hI3 := hI.1
  have hI4 := hI.2.1
  have hfr : ∀ b, ¬ r_own K0 o ad b → h b = h b := fun _ _ => rfl
  refine v_aload_n hc dX0_add_0 rfl ?_
  refine r_get hc ho dX0_add_1 F_X0_25 hO rfl ?_
  refine z_bipush hc dX0_add_4 (by decide) ?_
  refine z_icmp_lt (tgt := 12) hc dX0_add_6 (by decide) (by first | assumption | exact hi _ | exact ha _ _ | (unfold zb; omega)) (by first | assumption | exact hi _ | exact ha _ _ | (unfold zb; omega)) (fun c_1 => ?_) (fun c_1 => ?_)
  · refine v_aload_n hc dX0_add_12 rfl ?_
    refine r_getA hc ho dX0_add_13 F_X0_9 hO rfl ?_
    refine v_aload_n hc dX0_add_16 rfl ?_
    refine r_get hc ho dX0_add_17 F_X0_25 hO rfl ?_
    refine v_iload_n hc dX0_add_20 rfl ?_
    refine r_iast hc dX0_add_21 hO hfr 0 rfl (by decide) (by omega) (by omega) (by first | assumption | exact hi _ | exact ha _ _ | (unfold zb; omega)) (fun h hO hfr => ?_)
    have ha := hO.2.2.2.2
    refine v_aload_n hc dX0_add_22 rfl ?_
    refine r_getA hc ho dX0_add_23 F_X0_15 hO rfl ?_
    refine v_aload_n hc dX0_add_26 rfl ?_
    refine r_get hc ho dX0_add_27 F_X0_25 hO rfl ?_
    refine v_iload_n hc dX0_add_30 rfl ?_
    refine r_iast hc dX0_add_31 hO hfr 1 rfl (by decide) (by omega) (by omega) (by first | assumption | exact hi _ | exact ha _ _ | (unfold zb; omega)) (fun h hO hfr => ?_)
    have ha := hO.2.2.2.2
    refine v_aload_n hc dX0_add_32 rfl ?_
    refine r_getA hc ho dX0_add_33 F_X0_18 hO rfl ?_
    refine v_aload_n hc dX0_add_36 rfl ?_
    refine r_get hc ho dX0_add_37 F_X0_25 hO rfl ?_
    refine v_iload_n hc dX0_add_40 rfl ?_
    refine r_iast hc dX0_add_41 hO hfr 2 rfl (by decide) (by omega) (by omega) (by first | assumption | exact hi _ | exact ha _ _ | (unfold zb; omega)) (fun h hO hfr => ?_)
    have ha := hO.2.2.2.2
    refine v_aload_n hc dX0_add_42 rfl ?_
    refine v_dup hc dX0_add_43 rfl ?_
    refine r_get hc ho dX0_add_44 F_X0_25 hO rfl ?_
    refine z_iconst hc dX0_add_47 ?_
    refine z_iadd hc dX0_add_48 ?_
    refine r_putI hc ho dX0_add_49 F_X0_25 hO hfr rfl (by first | assumption | exact hi _ | exact ha _ _ | (unfold zb; omega)) (fun h hO hfr => ?_)
    have hi := hO.2.2.2.1
    refine v_aload_n hc dX0_add_52 rfl ?_
    refine r_get hc ho dX0_add_53 F_X0_25 hO rfl ?_
    refine z_iconst hc dX0_add_56 ?_
    refine z_isub hc dX0_add_57 ?_
    refine z_iret M dX0_add_58 (by omega) (by omega) ?_
    exact ⟨rfl, _, _, Or.inr ⟨by omega, by simp [b_up], rfl, rfl⟩, hO, hfr⟩
  · refine z_bipush hc dX0_add_9 (by decide) ?_
    refine z_iret M dX0_add_11 (by omega) (by omega) ?_
    exact ⟨rfl, _, _, Or.inl ⟨by omega, rfl, rfl, rfl⟩, hO, hfr⟩
set_option maxHeartbeats 4000000 in
theorem l_X0_freeHands_8 {S : b_S} {l : Launch} {G : b_G} {o : Nat} {ad : Nat → Nat} {i : Nat → Int} {a : Nat → Nat → Int} {h : b_H} {sz : Nat} {post : Option Value → b_H → Nat → Prop} (M : b_M S l G RX0 cX0_freeHands 6 (some .int) "freeHands" 0 0 0 0 h sz post) (hO : r_O K0 0 o ad i a h) (hI : d_I i a) {t out : Int} (ht : zb t) (hout : 0 ≤ out ∧ out < 2147483648) (P : post (some (.int (zI (d_Fr (a 0) (a 1) (a 2) (i 4) t out (i 3).toNat)))) h sz) : ∀ (d : Nat) (x r : Int) (x5 : Option Value), (i 3 - x).toNat = d → 0 ≤ x → x ≤ i 3 → r = d_Fr (a 0) (a 1) (a 2) (i 4) t out x.toNat → V S 0 0 h sz 8 [some (.ref o), some (.int (zI t)), some (.int (zI out)), some (.int (zI r)), some (.int (zI x)), x5] [] := by
  have hc := M.2.2.2.1
  have ho : s_own S = RX0 := M.2.2.1
  have hFr : (s_R S).frames = 0 := by rw [M.2.2.2.2.2.2.2.1]
  have hLo : (s_R S).locals = 0 := by rw [M.2.2.2.2.2.2.2.1]
  have hCe : (s_R S).cells = 0 := by rw [M.2.2.2.2.2.2.2.1]
  have hSl : (s_R S).slots = 0 := by rw [M.2.2.2.2.2.2.2.1]
  have hi := hO.2.2.2.1
  have ha := hO.2.2.2.2
  have hI3 := hI.1
  have hI4 := hI.2.1
  intro d
  induction d using Nat.strongRecOn with
  | ind d ih =>
    intro x r x5 hd h0 h1 hr
    have hq : 0 ≤ out / 2 ^ x.toNat ∧ out / 2 ^ x.toNat < 2147483648 := ⟨Int.ediv_nonneg hout.1 (Int.pow_nonneg (by omega)), Int.lt_of_le_of_lt (Int.ediv_le_self _ hout.1) hout.2⟩
    refine v_iload hc dX0_freeHands_8 rfl ?_
    refine v_aload_n hc dX0_freeHands_10 rfl ?_
    refine r_get hc ho dX0_freeHands_11 F_X0_25 hO rfl ?_
    refine z_icmp_ge (tgt := 76) hc dX0_freeHands_14 (by decide) (by first | assumption | exact hi _ | exact ha _ _ | (unfold zb; omega)) (by first | assumption | exact hi _ | exact ha _ _ | (unfold zb; omega)) (fun c_1 => ?_) (fun c_1 => ?_)
    · refine v_iload_n hc dX0_freeHands_76 rfl ?_
      refine z_iret M dX0_freeHands_77 (by omega) (by omega) ?_
      rw [hr, show x = i 3 by omega]
      exact P
    · refine v_iload_n hc dX0_freeHands_17 rfl ?_
      refine v_iload hc dX0_freeHands_18 rfl ?_
      refine v_ishr hc dX0_freeHands_20 (zI_shr (by omega) (by omega) (by omega) (by omega)) ?_
      refine z_iconst hc dX0_freeHands_21 ?_
      refine v_iand hc dX0_freeHands_22 (zI_and1 (by omega) (by omega)) ?_
      refine z_if_ne (tgt := 30) hc dX0_freeHands_23 (by decide) (by first | assumption | exact hi _ | exact ha _ _ | (unfold zb; omega)) (fun c_2 => ?_) (fun c_2 => ?_)
      · refine z_iconst hc dX0_freeHands_30 ?_
        refine v_istore hc dX0_freeHands_31 (Nat.le_of_ble_eq_true rfl) ?_
        refine v_iload hc dX0_freeHands_33 rfl ?_
        refine z_if_eq (tgt := 70) hc dX0_freeHands_35 (by decide) (by first | assumption | exact hi _ | exact ha _ _ | (unfold zb; omega)) (fun c_3 => ?_) (fun c_3 => absurd c_3 (by decide))
        refine z_iinc hc dX0_freeHands_70 rfl ?_
        refine v_goto (tgt := 8) hc dX0_freeHands_73 (by decide) ?_
        exact ih _ (by omega) _ _ _ rfl (by omega) (by omega) (by rw [show (x + 1).toNat = x.toNat + 1 by omega, d_Fr]; split <;> omega)
      · refine z_iconst hc dX0_freeHands_26 ?_
        refine v_goto (tgt := 31) hc dX0_freeHands_27 (by decide) ?_
        refine v_istore hc dX0_freeHands_31 (Nat.le_of_ble_eq_true rfl) ?_
        refine v_iload hc dX0_freeHands_33 rfl ?_
        refine z_if_eq (tgt := 70) hc dX0_freeHands_35 (by decide) (by first | assumption | exact hi _ | exact ha _ _ | (unfold zb; omega)) (fun c_4 => absurd c_4 (by decide)) (fun c_4 => ?_)
        refine v_aload_n hc dX0_freeHands_38 rfl ?_
        refine r_getA hc ho dX0_freeHands_39 F_X0_9 hO rfl ?_
        refine v_iload hc dX0_freeHands_42 rfl ?_
        refine r_iald hc dX0_freeHands_44 hO 0 rfl (by decide) (by omega) (by omega) ?_
        refine v_iload_n hc dX0_freeHands_45 rfl ?_
        refine z_icmp_gt (tgt := 70) hc dX0_freeHands_46 (by decide) (by first | assumption | exact hi _ | exact ha _ _ | (unfold zb; omega)) (by first | assumption | exact hi _ | exact ha _ _ | (unfold zb; omega)) (fun c_5 => ?_) (fun c_5 => ?_)
        · refine z_iinc hc dX0_freeHands_70 rfl ?_
          refine v_goto (tgt := 8) hc dX0_freeHands_73 (by decide) ?_
          exact ih _ (by omega) _ _ _ rfl (by omega) (by omega) (by rw [show (x + 1).toNat = x.toNat + 1 by omega, d_Fr]; split <;> omega)
        · refine v_iload_n hc dX0_freeHands_49 rfl ?_
          refine v_aload_n hc dX0_freeHands_50 rfl ?_
          refine r_getA hc ho dX0_freeHands_51 F_X0_15 hO rfl ?_
          refine v_iload hc dX0_freeHands_54 rfl ?_
          refine r_iald hc dX0_freeHands_56 hO 1 rfl (by decide) (by omega) (by omega) ?_
          refine z_icmp_ge (tgt := 70) hc dX0_freeHands_57 (by decide) (by first | assumption | exact hi _ | exact ha _ _ | (unfold zb; omega)) (by first | assumption | exact hi _ | exact ha _ _ | (unfold zb; omega)) (fun c_6 => ?_) (fun c_6 => ?_)
          · refine z_iinc hc dX0_freeHands_70 rfl ?_
            refine v_goto (tgt := 8) hc dX0_freeHands_73 (by decide) ?_
            exact ih _ (by omega) _ _ _ rfl (by omega) (by omega) (by rw [show (x + 1).toNat = x.toNat + 1 by omega, d_Fr]; split <;> omega)
          · refine v_iload_n hc dX0_freeHands_60 rfl ?_
            refine v_aload_n hc dX0_freeHands_61 rfl ?_
            refine r_getA hc ho dX0_freeHands_62 F_X0_18 hO rfl ?_
            refine v_iload hc dX0_freeHands_65 rfl ?_
            refine r_iald hc dX0_freeHands_67 hO 2 rfl (by decide) (by omega) (by omega) ?_
            refine z_isub hc dX0_freeHands_68 ?_
            refine v_istore_n hc dX0_freeHands_69 (Nat.le_of_ble_eq_true rfl) ?_
            refine z_iinc hc dX0_freeHands_70 rfl ?_
            refine v_goto (tgt := 8) hc dX0_freeHands_73 (by decide) ?_
            exact ih _ (by omega) _ _ _ rfl (by omega) (by omega) (by rw [show (x + 1).toNat = x.toNat + 1 by omega, d_Fr]; split <;> omega)
set_option maxHeartbeats 4000000 in
theorem c_X0_freeHands (l : Launch) (G : b_G) {o : Nat} {ad : Nat → Nat} {i : Nat → Int} {a : Nat → Nat → Int} {h : b_H} {sz : Nat} (hO : r_O K0 0 o ad i a h) (hI : d_I i a) {t out : Int} (ht : zb t) (hout : 0 ≤ out ∧ out < 2147483648) : Con l G yX0_freeHands cX0_freeHands 6 (some .int) 0 0 0 0 [.ref o, .int (zI t), .int (zI out)] h sz (p_ro (some (.int (zI (d_Fr (a 0) (a 1) (a 2) (i 4) t out (i 3).toNat)))) h sz) := by
  refine Con.ofK (by decide +kernel) rfl rfl ?_
  intro S M
  have hc := M.2.2.2.1
  have ho : s_own S = RX0 := M.2.2.1
  have hFr : (s_R S).frames = 0 := by rw [M.2.2.2.2.2.2.2.1]
  have hLo : (s_R S).locals = 0 := by rw [M.2.2.2.2.2.2.2.1]
  have hCe : (s_R S).cells = 0 := by rw [M.2.2.2.2.2.2.2.1]
  have hSl : (s_R S).slots = 0 := by rw [M.2.2.2.2.2.2.2.1]
  have hi := hO.2.2.2.1
  have ha := hO.2.2.2.2
  have hI3 := hI.1
  have hI4 := hI.2.1
  refine v_aload_n hc dX0_freeHands_0 rfl ?_
  refine r_get hc ho dX0_freeHands_1 F_X0_21 hO rfl ?_
  refine v_istore_n hc dX0_freeHands_4 (Nat.le_of_ble_eq_true rfl) ?_
  refine z_iconst hc dX0_freeHands_5 ?_
  refine v_istore hc dX0_freeHands_6 (Nat.le_of_ble_eq_true rfl) ?_
  exact l_X0_freeHands_8 M hO hI ht hout ⟨rfl, rfl, rfl⟩ _ _ _ _ rfl (by omega) (by omega) rfl
