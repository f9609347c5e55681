/-! the film -/
def bI (p : Prop) [Decidable p] : Int := if p then 1 else 0
theorem bI_01 (p : Prop) [Decidable p] : bI p = 0 ∨ bI p = 1 := by unfold bI; split <;> simp
theorem bI_bd (p : Prop) [Decidable p] : 0 ≤ bI p ∧ bI p ≤ 1 := by unfold bI; split <;> omega
theorem bI_0 {p : Prop} [Decidable p] : bI p = 0 ↔ ¬ p := by unfold bI; split <;> simp_all
theorem bI_1 {p : Prop} [Decidable p] : ¬ bI p = 0 ↔ p := by unfold bI; split <;> simp_all
abbrev K1 : r_K := [some (false, 60), some (false, 60), some (true, 60), none]
def f_I (i : Nat → Int) (a : Nat → Nat → Int) : Prop := (0 ≤ i 3 ∧ i 3 ≤ 60) ∧ (∀ j, 0 ≤ a 2 j ∧ a 2 j ≤ 1) ∧ (∀ j, 0 ≤ a 0 j ∧ a 0 j ≤ 2000) ∧ (∀ j, 0 ≤ a 1 j ∧ a 1 j ≤ 5)
/-- how many of the first ones aren't 0; their sum; the first one from x on -/
def f_ct (c : Nat → Int) : Nat → Int
  | 0 => 0
  | j + 1 => f_ct c j + (if c j = 0 then 0 else 1)
def f_sm (c : Nat → Int) : Nat → Int
  | 0 => 0
  | j + 1 => f_sm c j + c j
def f_fi (p : Nat → Bool) : Nat → Nat → Nat
  | 0, x => x
  | d + 1, x => if p x then x else f_fi p d (x + 1)
theorem f_ct_bd (c : Nat → Int) : ∀ j : Nat, 0 ≤ f_ct c j ∧ f_ct c j ≤ j
  | 0 => by simp [f_ct]
  | j + 1 => by
    have h := f_ct_bd c j
    rw [f_ct]
    split <;> (constructor <;> push_cast <;> omega)
theorem f_sm_bd {c : Nat → Int} {m : Int} (hc : ∀ j, 0 ≤ c j ∧ c j ≤ m) : ∀ j : Nat, 0 ≤ f_sm c j ∧ f_sm c j ≤ m * j
  | 0 => by simp [f_sm]
  | j + 1 => by
    have h := f_sm_bd hc j
    have h2 := hc j
    rw [f_sm]
    constructor
    · omega
    · have e : m * ((j + 1 : Nat) : Int) = m * (j : Int) + m := by push_cast; rw [Int.mul_add]; omega
      omega
theorem f_sm_le {c : Nat → Int} {m : Int} (hc : ∀ j, 0 ≤ c j ∧ c j ≤ m) (x : Nat) : ∀ j : Nat, f_sm c x ≤ f_sm c (x + j)
  | 0 => by simp
  | j + 1 => by
    have h := f_sm_le hc x j
    have h2 := hc (x + j)
    rw [← Nat.add_assoc, f_sm]
    omega
theorem f_fi_ge (p : Nat → Bool) : ∀ d x : Nat, x ≤ f_fi p d x ∧ f_fi p d x ≤ x + d
  | 0, x => by simp [f_fi]
  | d + 1, x => by
    have h := f_fi_ge p d (x + 1)
    rw [f_fi]
    split <;> omega
theorem f_fi_yes (p : Nat → Bool) : ∀ d x : Nat, f_fi p d x < x + d → p (f_fi p d x) = true
  | 0, x, h => by simp [f_fi] at h
  | d + 1, x, h => by
    rw [f_fi] at h ⊢
    split
    · assumption
    · rename_i q
      rw [if_neg q] at h
      exact f_fi_yes p d (x + 1) (by omega)
theorem f_fi_no (p : Nat → Bool) : ∀ d x k : Nat, x ≤ k → k < f_fi p d x → p k = false
  | 0, x, k, h1, h2 => by simp [f_fi] at h2; omega
  | d + 1, x, k, h1, h2 => by
    rw [f_fi] at h2
    split at h2
    · omega
    · rename_i q
      by_cases e : k = x
      · subst e; simpa using q
      · exact f_fi_no p d (x + 1) k (by omega) h2

set_option maxHeartbeats 4000000 in
theorem c_X6_within (l : Launch) (G : b_G) {h : b_H} {sz : Nat} {x y z : Int} (hx : zb x) (hy : zb y) (hz : zb z) : Con l G yX6_within cX6_within 3 (some .boolean) 0 0 0 0 [.int (zI x), .int (zI y), .int (zI z)] h sz (p_ro (some (.int (zI (bI (y ≤ x ∧ x ≤ z))))) h sz) := by
  refine Con.ofK (by decide +kernel) rfl rfl ?_
  intro S M
  have hc := M.2.2.2.1
  have ho : s_own S = RX6 := M.2.2.1
  have hFr : (s_R S).frames = 0 := by rw [M.2.2.2.2.2.2.2.1]
  have hLo : (s_R S).locals = 0 := by rw [M.2.2.2.2.2.2.2.1]
  have hCe : (s_R S).cells = 0 := by rw [M.2.2.2.2.2.2.2.1]
  have hSl : (s_R S).slots = 0 := by rw [M.2.2.2.2.2.2.2.1]
  refine v_iload_n hc dX6_within_0 rfl ?_
  refine v_iload_n hc dX6_within_1 rfl ?_
  refine z_icmp_lt (tgt := 14) hc dX6_within_2 (by decide) (by assumption) (by assumption) (fun c_1 => ?_) (fun c_1 => ?_)
  · refine z_iconst hc dX6_within_14 ?_
    refine z_zret M (by omega) dX6_within_15 (by omega) (by omega) ?_
    exact ⟨by rw [bI, if_neg (by omega)], rfl, rfl⟩
  · refine v_iload_n hc dX6_within_5 rfl ?_
    refine v_iload_n hc dX6_within_6 rfl ?_
    refine z_icmp_gt (tgt := 14) hc dX6_within_7 (by decide) (by assumption) (by assumption) (fun c_2 => ?_) (fun c_2 => ?_)
    · refine z_iconst hc dX6_within_14 ?_
      refine z_zret M (by omega) dX6_within_15 (by omega) (by omega) ?_
      exact ⟨by rw [bI, if_neg (by omega)], rfl, rfl⟩
    · refine z_iconst hc dX6_within_10 ?_
      refine v_goto (tgt := 15) hc dX6_within_11 (by decide) ?_
      refine z_zret M (by omega) dX6_within_15 (by omega) (by omega) ?_
      exact ⟨by rw [bI, if_pos ⟨by omega, by omega⟩], rfl, rfl⟩
set_option maxHeartbeats 4000000 in
theorem c_X7_in (l : Launch) (G : b_G) {h : b_H} {sz : Nat} {x y z : Int} (hx : zb x) (hy : zb y) (hz : zb z) : Con l G yX7_in cX7_in 3 (some .boolean) 0 0 0 0 [.int (zI x), .int (zI y), .int (zI z)] h sz (p_ro (some (.int (zI (bI (y ≤ x ∧ x ≤ z))))) h sz) := by
  refine Con.ofK (by decide +kernel) rfl rfl ?_
  intro S M
  have hc := M.2.2.2.1
  have ho : s_own S = RX7 := M.2.2.1
  have hFr : (s_R S).frames = 0 := by rw [M.2.2.2.2.2.2.2.1]
  have hLo : (s_R S).locals = 0 := by rw [M.2.2.2.2.2.2.2.1]
  have hCe : (s_R S).cells = 0 := by rw [M.2.2.2.2.2.2.2.1]
  have hSl : (s_R S).slots = 0 := by rw [M.2.2.2.2.2.2.2.1]
  refine v_iload_n hc dX7_in_0 rfl ?_
  refine v_iload_n hc dX7_in_1 rfl ?_
  refine z_icmp_lt (tgt := 14) hc dX7_in_2 (by decide) (by assumption) (by assumption) (fun c_1 => ?_) (fun c_1 => ?_)
  · refine z_iconst hc dX7_in_14 ?_
    refine z_zret M (by omega) dX7_in_15 (by omega) (by omega) ?_
    exact ⟨by rw [bI, if_neg (by omega)], rfl, rfl⟩
  · refine v_iload_n hc dX7_in_5 rfl ?_
    refine v_iload_n hc dX7_in_6 rfl ?_
    refine z_icmp_gt (tgt := 14) hc dX7_in_7 (by decide) (by assumption) (by assumption) (fun c_2 => ?_) (fun c_2 => ?_)
    · refine z_iconst hc dX7_in_14 ?_
      refine z_zret M (by omega) dX7_in_15 (by omega) (by omega) ?_
      exact ⟨by rw [bI, if_neg (by omega)], rfl, rfl⟩
    · refine z_iconst hc dX7_in_10 ?_
      refine v_goto (tgt := 15) hc dX7_in_11 (by decide) ?_
      refine z_zret M (by omega) dX7_in_15 (by omega) (by omega) ?_
      exact ⟨by rw [bI, if_pos ⟨by omega, by omega⟩], rfl, rfl⟩
set_option maxHeartbeats 4000000 in
theorem c_X1_shotCount (l : Launch) (G : b_G) {o : Nat} {ad : Nat → Nat} {i : Nat → Int} {a : Nat → Nat → Int} {h : b_H} {sz : Nat} (hO : r_O K1 1 o ad i a h) (hI : f_I i a)  : Con l G yX1_shotCount cX1_shotCount 1 (some .int) 0 0 0 0 [.ref o] h sz (p_ro (some (.int (zI (i 3)))) h sz) := by
  refine Con.ofK (by decide +kernel) rfl rfl ?_
  intro S M
  have hc := M.2.2.2.1
  have ho : s_own S = RX1 := M.2.2.1
  have hFr : (s_R S).frames = 0 := by rw [M.2.2.2.2.2.2.2.1]
  have hLo : (s_R S).locals = 0 := by rw [M.2.2.2.2.2.2.2.1]
  have hCe : (s_R S).cells = 0 := by rw [M.2.2.2.2.2.2.2.1]
  have hSl : (s_R S).slots = 0 := by rw [M.2.2.2.2.2.2.2.1]
  have hi := hO.2.2.2.1
  have ha := hO.2.2.2.2
  have hI3 := hI.1
  have hIc := hI.2.1
  have hIf := hI.2.2.1
  refine v_aload_n hc dX1_shotCount_0 rfl ?_
  refine r_get hc ho dX1_shotCount_1 F_X1_22 hO rfl ?_
  refine z_iret M dX1_shotCount_4 (by omega) (by omega) ?_
  exact ⟨rfl, rfl, rfl⟩
set_option maxHeartbeats 4000000 in
theorem c_X1_add (l : Launch) (G : b_G) {o : Nat} {ad : Nat → Nat} {i : Nat → Int} {a : Nat → Nat → Int} {h : b_H} {sz : Nat} (hO : r_O K1 1 o ad i a h) (hI : f_I i a) {x y : Int} (hx : zb x) (hy : zb y) : Con l G yX1_add cX1_add 3 (some .int) 0 0 0 0 [.ref o, .int (zI x), .int (zI y)] h sz (p_wr K1 1 o ad h sz (fun r i2 a2 => (i 3 = 60 ∧ r = some (.int (zI (-3))) ∧ i2 = i ∧ a2 = a) ∨ (i 3 < 60 ∧ r = some (.int (zI (i 3))) ∧ i2 = b_up i 3 (i 3 + 1) ∧ a2 = r_up (r_up (r_up a 0 (i 3).toNat x) 1 (i 3).toNat y) 2 (i 3).toNat (bI (i 3 = 0))))) := by
  refine Con.ofK (by decide +kernel) rfl rfl ?_
  intro S M
  have hc := M.2.2.2.1
  have ho : s_own S = RX1 := M.2.2.1
  have hFr : (s_R S).frames = 0 := by rw [M.2.2.2.2.2.2.2.1]
  have hLo : (s_R S).locals = 0 := by rw [M.2.2.2.2.2.2.2.1]
  have hCe : (s_R S).cells = 0 := by rw [M.2.2.2.2.2.2.2.1]
  have hSl : (s_R S).slots = 0 := by rw [M.2.2.2.2.2.2.2.1]
  have hi := hO.2.2.2.1
  have ha := hO.2.2.2.2
  have hI3 := hI.1
  have hIc := hI.2.1
  have hIf := hI.2.2.1
  have hfr : ∀ b, ¬ r_own K1 o ad b → h b = h b := fun _ _ => rfl
  refine v_aload_n hc dX1_add_0 rfl ?_
  refine r_get hc ho dX1_add_1 F_X1_22 hO rfl ?_
  refine z_bipush hc dX1_add_4 (by decide) ?_
  refine z_icmp_lt (tgt := 12) hc dX1_add_6 (by decide) (by first | assumption | exact hi _ | exact ha _ _ | (unfold zb; omega)) (by first | assumption | exact hi _ | exact ha _ _ | (unfold zb; omega)) (fun c_1 => ?_) (fun c_1 => ?_)
  · refine v_aload_n hc dX1_add_12 rfl ?_
    refine r_getA hc ho dX1_add_13 F_X1_9 hO rfl ?_
    refine v_aload_n hc dX1_add_16 rfl ?_
    refine r_get hc ho dX1_add_17 F_X1_22 hO rfl ?_
    refine v_iload_n hc dX1_add_20 rfl ?_
    refine r_iast hc dX1_add_21 hO hfr 0 rfl (by decide) (by omega) (by omega) (by first | assumption | exact hi _ | exact ha _ _ | (unfold zb; omega)) (fun h hO hfr => ?_)
    have ha := hO.2.2.2.2
    refine v_aload_n hc dX1_add_22 rfl ?_
    refine r_getA hc ho dX1_add_23 F_X1_15 hO rfl ?_
    refine v_aload_n hc dX1_add_26 rfl ?_
    refine r_get hc ho dX1_add_27 F_X1_22 hO rfl ?_
    refine v_iload_n hc dX1_add_30 rfl ?_
    refine r_iast hc dX1_add_31 hO hfr 1 rfl (by decide) (by omega) (by omega) (by first | assumption | exact hi _ | exact ha _ _ | (unfold zb; omega)) (fun h hO hfr => ?_)
    have ha := hO.2.2.2.2
    refine v_aload_n hc dX1_add_32 rfl ?_
    refine r_getA hc ho dX1_add_33 F_X1_18 hO rfl ?_
    refine v_aload_n hc dX1_add_36 rfl ?_
    refine r_get hc ho dX1_add_37 F_X1_22 hO rfl ?_
    refine v_aload_n hc dX1_add_40 rfl ?_
    refine r_get hc ho dX1_add_41 F_X1_22 hO rfl ?_
    refine z_if_ne (tgt := 51) hc dX1_add_44 (by decide) (by first | assumption | exact hi _ | exact ha _ _ | (unfold zb; omega)) (fun c_2 => ?_) (fun c_2 => ?_)
    · skip
      refine z_iconst hc dX1_add_51 ?_
      refine r_zast hc dX1_add_52 hO hfr 2 rfl (by decide) (by omega) (by omega) (by omega) (fun h hO hfr => ?_)
      have ha := hO.2.2.2.2
      refine v_aload_n hc dX1_add_53 rfl ?_
      refine v_dup hc dX1_add_54 rfl ?_
      refine r_get hc ho dX1_add_55 F_X1_22 hO rfl ?_
      refine z_iconst hc dX1_add_58 ?_
      refine z_iadd hc dX1_add_59 ?_
      refine r_putI hc ho dX1_add_60 F_X1_22 hO hfr rfl (by first | assumption | exact hi _ | exact ha _ _ | (unfold zb; omega)) (fun h hO hfr => ?_)
      have hi := hO.2.2.2.1
      refine v_aload_n hc dX1_add_63 rfl ?_
      refine r_get hc ho dX1_add_64 F_X1_22 hO rfl ?_
      refine z_iconst hc dX1_add_67 ?_
      refine z_isub hc dX1_add_68 ?_
      refine z_iret M dX1_add_69 (by omega) (by omega) ?_
      first | exact ⟨rfl, _, _, Or.inr ⟨by omega, by simp [b_up], rfl, by rw [bI, if_pos (by omega)]⟩, hO, hfr⟩ | exact ⟨rfl, _, _, Or.inr ⟨by omega, by simp [b_up], rfl, by rw [bI, if_neg (by omega)]⟩, hO, hfr⟩
    · skip
      refine z_iconst hc dX1_add_47 ?_
      refine v_goto (tgt := 52) hc dX1_add_48 (by decide) ?_
      refine r_zast hc dX1_add_52 hO hfr 2 rfl (by decide) (by omega) (by omega) (by omega) (fun h hO hfr => ?_)
      have ha := hO.2.2.2.2
      refine v_aload_n hc dX1_add_53 rfl ?_
      refine v_dup hc dX1_add_54 rfl ?_
      refine r_get hc ho dX1_add_55 F_X1_22 hO rfl ?_
      refine z_iconst hc dX1_add_58 ?_
      refine z_iadd hc dX1_add_59 ?_
      refine r_putI hc ho dX1_add_60 F_X1_22 hO hfr rfl (by first | assumption | exact hi _ | exact ha _ _ | (unfold zb; omega)) (fun h hO hfr => ?_)
      have hi := hO.2.2.2.1
      refine v_aload_n hc dX1_add_63 rfl ?_
      refine r_get hc ho dX1_add_64 F_X1_22 hO rfl ?_
      refine z_iconst hc dX1_add_67 ?_
      refine z_isub hc dX1_add_68 ?_
      refine z_iret M dX1_add_69 (by omega) (by omega) ?_
      first | exact ⟨rfl, _, _, Or.inr ⟨by omega, by simp [b_up], rfl, by rw [bI, if_pos (by omega)]⟩, hO, hfr⟩ | exact ⟨rfl, _, _, Or.inr ⟨by omega, by simp [b_up], rfl, by rw [bI, if_neg (by omega)]⟩, hO, hfr⟩
  · refine z_bipush hc dX1_add_9 (by decide) ?_
    refine z_iret M dX1_add_11 (by omega) (by omega) ?_
    exact ⟨rfl, _, _, Or.inl ⟨by omega, rfl, rfl, rfl⟩, hO, hfr⟩
set_option maxHeartbeats 4000000 in
theorem c_X1_mark (l : Launch) (G : b_G) {o : Nat} {ad : Nat → Nat} {i : Nat → Int} {a : Nat → Nat → Int} {h : b_H} {sz : Nat} (hO : r_O K1 1 o ad i a h) (hI : f_I i a) {x y : Int} (hx : zb x) (hy : zb y) : Con l G yX1_mark cX1_mark 4 (some .int) 1 22 0 0 [.ref o, .int (zI x), .int (zI y)] h sz (p_wr K1 1 o ad h sz (fun r i2 a2 => (¬ (0 ≤ x ∧ x ≤ i 3 - 1) ∧ r = some (.int (zI (-1))) ∧ i2 = i ∧ a2 = a) ∨ ((0 ≤ x ∧ x ≤ i 3 - 1) ∧ r = some (.int (zI (a 2 x.toNat))) ∧ i2 = i ∧ a2 = r_up a 2 x.toNat (bI (y = 1))))) := by
  refine Con.ofK (by decide +kernel) rfl rfl ?_
  intro S M
  have hc := M.2.2.2.1
  have ho : s_own S = RX1 := M.2.2.1
  have hFr : (s_R S).frames = 1 := by rw [M.2.2.2.2.2.2.2.1]
  have hLo : (s_R S).locals = 22 := by rw [M.2.2.2.2.2.2.2.1]
  have hCe : (s_R S).cells = 0 := by rw [M.2.2.2.2.2.2.2.1]
  have hSl : (s_R S).slots = 0 := by rw [M.2.2.2.2.2.2.2.1]
  have hi := hO.2.2.2.1
  have ha := hO.2.2.2.2
  have hI3 := hI.1
  have hIc := hI.2.1
  have hIf := hI.2.2.1
  have hfr : ∀ b, ¬ r_own K1 o ad b → h b = h b := fun _ _ => rfl
  refine v_iload_n hc dX1_mark_0 rfl ?_
  refine z_iconst hc dX1_mark_1 ?_
  refine v_aload_n hc dX1_mark_2 rfl ?_
  refine r_get hc ho dX1_mark_3 F_X1_22 hO rfl ?_
  refine z_iconst hc dX1_mark_6 ?_
  refine z_isub hc dX1_mark_7 ?_
  refine v_callSN (As := [.int (zI (x)), .int (zI (0)), .int (zI (i 3 - 1))]) hc ho dX1_mark_8 KSN_X1_26 KB_X6_within (c_X6_within _ _ (x := x) (y := 0) (z := i 3 - 1) (by first | assumption | exact hi _ | exact ha _ _ | (unfold zb; omega)) (by first | assumption | exact hi _ | exact ha _ _ | (unfold zb; omega)) (by first | assumption | exact hi _ | exact ha _ _ | (unfold zb; omega))) rfl (Nat.le_of_ble_eq_true rfl) ⟨by omega, by omega⟩ ⟨by omega, by omega⟩ (fun r_ h_ sz_ q_ z_ => ?_)
  obtain ⟨rfl, rfl, rfl⟩ := q_
  have hw := bI_bd (0 ≤ x ∧ x ≤ i 3 - 1)
  refine z_if_ne (tgt := 16) hc dX1_mark_11 (by decide) (by first | assumption | exact hi _ | exact ha _ _ | (unfold zb; omega)) (fun c_1 => ?_) (fun c_1 => ?_)
  · have hx2 := bI_1.mp c_1
    have hcx := hIc x.toNat
    refine v_aload_n hc dX1_mark_16 rfl ?_
    refine r_getA hc ho dX1_mark_17 F_X1_18 hO rfl ?_
    refine v_iload_n hc dX1_mark_20 rfl ?_
    refine r_zald hc dX1_mark_21 hO 2 rfl (by decide) (by omega) (by omega) ?_
    refine z_if_eq (tgt := 29) hc dX1_mark_22 (by decide) (by first | assumption | exact hi _ | exact ha _ _ | (unfold zb; omega)) (fun c_2 => ?_) (fun c_2 => ?_)
    · refine z_iconst hc dX1_mark_29 ?_
      refine v_istore_n hc dX1_mark_30 (Nat.le_of_ble_eq_true rfl) ?_
      refine v_aload_n hc dX1_mark_31 rfl ?_
      refine r_getA hc ho dX1_mark_32 F_X1_18 hO rfl ?_
      refine v_iload_n hc dX1_mark_35 rfl ?_
      refine v_iload_n hc dX1_mark_36 rfl ?_
      refine z_iconst hc dX1_mark_37 ?_
      refine z_icmp_ne (tgt := 45) hc dX1_mark_38 (by decide) (by first | assumption | exact hi _ | exact ha _ _ | (unfold zb; omega)) (by first | assumption | exact hi _ | exact ha _ _ | (unfold zb; omega)) (fun c_3 => ?_) (fun c_3 => ?_)
      · refine z_iconst hc dX1_mark_45 ?_
        refine r_zast hc dX1_mark_46 hO hfr 2 rfl (by decide) (by omega) (by omega) (by omega) (fun h hO hfr => ?_)
        have ha := hO.2.2.2.2
        refine v_iload_n hc dX1_mark_47 rfl ?_
        refine z_iret M dX1_mark_48 (by omega) (by omega) ?_
        first | exact ⟨rfl, _, _, Or.inr ⟨hx2, by congr 3; omega, rfl, by rw [bI, if_pos (by omega)]⟩, hO, hfr⟩ | exact ⟨rfl, _, _, Or.inr ⟨hx2, by congr 3; omega, rfl, by rw [bI, if_neg (by omega)]⟩, hO, hfr⟩
      · refine z_iconst hc dX1_mark_41 ?_
        refine v_goto (tgt := 46) hc dX1_mark_42 (by decide) ?_
        refine r_zast hc dX1_mark_46 hO hfr 2 rfl (by decide) (by omega) (by omega) (by omega) (fun h hO hfr => ?_)
        have ha := hO.2.2.2.2
        refine v_iload_n hc dX1_mark_47 rfl ?_
        refine z_iret M dX1_mark_48 (by omega) (by omega) ?_
        first | exact ⟨rfl, _, _, Or.inr ⟨hx2, by congr 3; omega, rfl, by rw [bI, if_pos (by omega)]⟩, hO, hfr⟩ | exact ⟨rfl, _, _, Or.inr ⟨hx2, by congr 3; omega, rfl, by rw [bI, if_neg (by omega)]⟩, hO, hfr⟩
    · refine z_iconst hc dX1_mark_25 ?_
      refine v_goto (tgt := 30) hc dX1_mark_26 (by decide) ?_
      refine v_istore_n hc dX1_mark_30 (Nat.le_of_ble_eq_true rfl) ?_
      refine v_aload_n hc dX1_mark_31 rfl ?_
      refine r_getA hc ho dX1_mark_32 F_X1_18 hO rfl ?_
      refine v_iload_n hc dX1_mark_35 rfl ?_
      refine v_iload_n hc dX1_mark_36 rfl ?_
      refine z_iconst hc dX1_mark_37 ?_
      refine z_icmp_ne (tgt := 45) hc dX1_mark_38 (by decide) (by first | assumption | exact hi _ | exact ha _ _ | (unfold zb; omega)) (by first | assumption | exact hi _ | exact ha _ _ | (unfold zb; omega)) (fun c_4 => ?_) (fun c_4 => ?_)
      · refine z_iconst hc dX1_mark_45 ?_
        refine r_zast hc dX1_mark_46 hO hfr 2 rfl (by decide) (by omega) (by omega) (by omega) (fun h hO hfr => ?_)
        have ha := hO.2.2.2.2
        refine v_iload_n hc dX1_mark_47 rfl ?_
        refine z_iret M dX1_mark_48 (by omega) (by omega) ?_
        first | exact ⟨rfl, _, _, Or.inr ⟨hx2, by congr 3; omega, rfl, by rw [bI, if_pos (by omega)]⟩, hO, hfr⟩ | exact ⟨rfl, _, _, Or.inr ⟨hx2, by congr 3; omega, rfl, by rw [bI, if_neg (by omega)]⟩, hO, hfr⟩
      · refine z_iconst hc dX1_mark_41 ?_
        refine v_goto (tgt := 46) hc dX1_mark_42 (by decide) ?_
        refine r_zast hc dX1_mark_46 hO hfr 2 rfl (by decide) (by omega) (by omega) (by omega) (fun h hO hfr => ?_)
        have ha := hO.2.2.2.2
        refine v_iload_n hc dX1_mark_47 rfl ?_
        refine z_iret M dX1_mark_48 (by omega) (by omega) ?_
        first | exact ⟨rfl, _, _, Or.inr ⟨hx2, by congr 3; omega, rfl, by rw [bI, if_pos (by omega)]⟩, hO, hfr⟩ | exact ⟨rfl, _, _, Or.inr ⟨hx2, by congr 3; omega, rfl, by rw [bI, if_neg (by omega)]⟩, hO, hfr⟩
  · refine z_iconst hc dX1_mark_14 ?_
    refine z_iret M dX1_mark_15 (by omega) (by omega) ?_
    exact ⟨rfl, _, _, Or.inl ⟨bI_0.mp (by omega), rfl, rfl, rfl⟩, hO, hfr⟩
set_option maxHeartbeats 4000000 in
theorem l_X1_stretchCount_4 {S : b_S} {l : Launch} {G : b_G} {o : Nat} {ad : Nat → Nat} {i : Nat → Int} {a : Nat → Nat → Int} {h : b_H} {sz : Nat} {post : Option Value → b_H → Nat → Prop} (M : b_M S l G RX1 cX1_stretchCount 3 (some .int) "stretchCount" 0 0 0 0 h sz post) (hO : r_O K1 1 o ad i a h) (hI : f_I i a) (P : post (some (.int (zI (f_ct (a 2) (i 3).toNat)))) h sz) : ∀ (d : Nat) (r x : Int), (i 3 - x).toNat = d → 0 ≤ x → x ≤ i 3 → r = f_ct (a 2) x.toNat → V S 0 0 h sz 4 [some (.ref o), some (.int (zI r)), some (.int (zI x))] [] := by
  have hc := M.2.2.2.1
  have ho : s_own S = RX1 := M.2.2.1
  have hFr : (s_R S).frames = 0 := by rw [M.2.2.2.2.2.2.2.1]
  have hLo : (s_R S).locals = 0 := by rw [M.2.2.2.2.2.2.2.1]
  have hCe : (s_R S).cells = 0 := by rw [M.2.2.2.2.2.2.2.1]
  have hSl : (s_R S).slots = 0 := by rw [M.2.2.2.2.2.2.2.1]
  have hi := hO.2.2.2.1
  have ha := hO.2.2.2.2
  have hI3 := hI.1
  have hIc := hI.2.1
  have hIf := hI.2.2.1
  intro d
  induction d using Nat.strongRecOn with
  | ind d ih =>
    intro r x hd h0 h1 hr
    refine v_iload_n hc dX1_stretchCount_4 rfl ?_
    refine v_aload_n hc dX1_stretchCount_5 rfl ?_
    refine r_get hc ho dX1_stretchCount_6 F_X1_22 hO rfl ?_
    refine z_icmp_ge (tgt := 30) hc dX1_stretchCount_9 (by decide) (by first | assumption | exact hi _ | exact ha _ _ | (unfold zb; omega)) (by first | assumption | exact hi _ | exact ha _ _ | (unfold zb; omega)) (fun c_1 => ?_) (fun c_1 => ?_)
    · refine v_iload_n hc dX1_stretchCount_30 rfl ?_
      refine z_iret M dX1_stretchCount_31 (by omega) (by omega) ?_
      rw [hr, show x = i 3 by omega]
      exact P
    · refine v_aload_n hc dX1_stretchCount_12 rfl ?_
      refine r_getA hc ho dX1_stretchCount_13 F_X1_18 hO rfl ?_
      refine v_iload_n hc dX1_stretchCount_16 rfl ?_
      refine r_zald hc dX1_stretchCount_17 hO 2 rfl (by decide) (by omega) (by omega) ?_
      refine z_if_eq (tgt := 24) hc dX1_stretchCount_18 (by decide) (by first | assumption | exact hi _ | exact ha _ _ | (unfold zb; omega)) (fun c_2 => ?_) (fun c_2 => ?_)
      · refine z_iinc hc dX1_stretchCount_24 rfl ?_
        refine v_goto (tgt := 4) hc dX1_stretchCount_27 (by decide) ?_
        exact ih _ (by omega) _ _ rfl (by omega) (by omega) (by rw [show (x + 1).toNat = x.toNat + 1 by omega, f_ct]; split <;> omega)
      · refine z_iinc hc dX1_stretchCount_21 rfl ?_
        refine z_iinc hc dX1_stretchCount_24 rfl ?_
        refine v_goto (tgt := 4) hc dX1_stretchCount_27 (by decide) ?_
        exact ih _ (by omega) _ _ rfl (by omega) (by omega) (by rw [show (x + 1).toNat = x.toNat + 1 by omega, f_ct]; split <;> omega)
set_option maxHeartbeats 4000000 in
theorem c_X1_stretchCount (l : Launch) (G : b_G) {o : Nat} {ad : Nat → Nat} {i : Nat → Int} {a : Nat → Nat → Int} {h : b_H} {sz : Nat} (hO : r_O K1 1 o ad i a h) (hI : f_I i a)  : Con l G yX1_stretchCount cX1_stretchCount 3 (some .int) 0 0 0 0 [.ref o] h sz (p_ro (some (.int (zI (f_ct (a 2) (i 3).toNat)))) h sz) := by
  refine Con.ofK (by decide +kernel) rfl rfl ?_
  intro S M
  have hc := M.2.2.2.1
  have ho : s_own S = RX1 := M.2.2.1
  have hFr : (s_R S).frames = 0 := by rw [M.2.2.2.2.2.2.2.1]
  have hLo : (s_R S).locals = 0 := by rw [M.2.2.2.2.2.2.2.1]
  have hCe : (s_R S).cells = 0 := by rw [M.2.2.2.2.2.2.2.1]
  have hSl : (s_R S).slots = 0 := by rw [M.2.2.2.2.2.2.2.1]
  have hi := hO.2.2.2.1
  have ha := hO.2.2.2.2
  have hI3 := hI.1
  have hIc := hI.2.1
  have hIf := hI.2.2.1
  refine z_iconst hc dX1_stretchCount_0 ?_
  refine v_istore_n hc dX1_stretchCount_1 (Nat.le_of_ble_eq_true rfl) ?_
  refine z_iconst hc dX1_stretchCount_2 ?_
  refine v_istore_n hc dX1_stretchCount_3 (Nat.le_of_ble_eq_true rfl) ?_
  exact l_X1_stretchCount_4 M hO hI ⟨rfl, rfl, rfl⟩ _ _ _ rfl (by omega) (by omega) rfl
def f_F (c : Nat → Int) (n : Nat) (s : Int) : Nat := f_fi (fun k => decide (¬ c k = 0 ∧ f_ct c k = s)) n 0
theorem f_fi_st {p : Nat → Bool} {n x : Nat} (h : x < n) (hp : p x = false) : f_fi p (n - x) x = f_fi p (n - (x + 1)) (x + 1) := by
  rw [show n - x = (n - (x + 1)) + 1 by omega, f_fi, hp]; simp
theorem f_fi_hit {p : Nat → Bool} {n x : Nat} (h : x < n) (hp : p x = true) : f_fi p (n - x) x = x := by
  rw [show n - x = (n - (x + 1)) + 1 by omega, f_fi, hp]; simp

set_option maxHeartbeats 4000000 in
theorem l_X1_firstShot_4 {S : b_S} {l : Launch} {G : b_G} {o : Nat} {ad : Nat → Nat} {i : Nat → Int} {a : Nat → Nat → Int} {h : b_H} {sz : Nat} {post : Option Value → b_H → Nat → Prop} (M : b_M S l G RX1 cX1_firstShot 4 (some .int) "firstShot" 0 0 0 0 h sz post) (hO : r_O K1 1 o ad i a h) (hI : f_I i a) {s : Int} (hs : zb s) {v : Nat} (P1 : v < (i 3).toNat → post (some (.int (zI (v : Int)))) h sz) (P2 : ¬ v < (i 3).toNat → post (some (.int (zI (-1)))) h sz) : ∀ (d : Nat) (t x : Int), (i 3 - x).toNat = d → 0 ≤ x → x ≤ i 3 → t = f_ct (a 2) x.toNat - 1 → f_fi (fun k => decide (¬ a 2 k = 0 ∧ f_ct (a 2) k = s)) ((i 3).toNat - x.toNat) x.toNat = v → V S 0 0 h sz 4 [some (.ref o), some (.int (zI s)), some (.int (zI t)), some (.int (zI x))] [] := by
  have hc := M.2.2.2.1
  have ho : s_own S = RX1 := M.2.2.1
  have hFr : (s_R S).frames = 0 := by rw [M.2.2.2.2.2.2.2.1]
  have hLo : (s_R S).locals = 0 := by rw [M.2.2.2.2.2.2.2.1]
  have hCe : (s_R S).cells = 0 := by rw [M.2.2.2.2.2.2.2.1]
  have hSl : (s_R S).slots = 0 := by rw [M.2.2.2.2.2.2.2.1]
  have hi := hO.2.2.2.1
  have ha := hO.2.2.2.2
  have hI3 := hI.1
  have hIc := hI.2.1
  have hIf := hI.2.2.1
  intro d
  induction d using Nat.strongRecOn with
  | ind d ih =>
    intro t x hd h0 h1 hr hv
    have hcb := f_ct_bd (a 2) x.toNat
    refine v_iload_n hc dX1_firstShot_4 rfl ?_
    refine v_aload_n hc dX1_firstShot_5 rfl ?_
    refine r_get hc ho dX1_firstShot_6 F_X1_22 hO rfl ?_
    refine z_icmp_ge (tgt := 46) hc dX1_firstShot_9 (by decide) (by first | assumption | exact hi _ | exact ha _ _ | (unfold zb; omega)) (by first | assumption | exact hi _ | exact ha _ _ | (unfold zb; omega)) (fun c_1 => ?_) (fun c_1 => ?_)
    · refine z_iconst hc dX1_firstShot_46 ?_
      refine z_iret M dX1_firstShot_47 (by omega) (by omega) ?_
      rw [show (i 3).toNat - x.toNat = 0 by omega, f_fi] at hv
      exact P2 (by omega)
    · have hcb := f_ct_bd (a 2) x.toNat
      refine v_aload_n hc dX1_firstShot_12 rfl ?_
      refine r_getA hc ho dX1_firstShot_13 F_X1_18 hO rfl ?_
      refine v_iload_n hc dX1_firstShot_16 rfl ?_
      refine r_zald hc dX1_firstShot_17 hO 2 rfl (by decide) (by omega) (by omega) ?_
      refine z_if_eq (tgt := 24) hc dX1_firstShot_18 (by decide) (by first | assumption | exact hi _ | exact ha _ _ | (unfold zb; omega)) (fun c_2 => ?_) (fun c_2 => ?_)
      · refine v_aload_n hc dX1_firstShot_24 rfl ?_
        refine r_getA hc ho dX1_firstShot_25 F_X1_18 hO rfl ?_
        refine v_iload_n hc dX1_firstShot_28 rfl ?_
        refine r_zald hc dX1_firstShot_29 hO 2 rfl (by decide) (by omega) (by omega) ?_
        refine z_if_eq (tgt := 40) hc dX1_firstShot_30 (by decide) (by first | assumption | exact hi _ | exact ha _ _ | (unfold zb; omega)) (fun c_3 => ?_) (fun c_3 => ?_)
        · refine z_iinc hc dX1_firstShot_40 rfl ?_
          refine v_goto (tgt := 4) hc dX1_firstShot_43 (by decide) ?_
          exact ih _ (by omega) _ _ rfl (by omega) (by omega) (by rw [show (x + 1).toNat = x.toNat + 1 by omega, f_ct]; split <;> omega) (by rw [show (x + 1).toNat = x.toNat + 1 by omega, ← f_fi_st (by omega) (by simp; omega)]; exact hv)
        · refine v_iload_n hc dX1_firstShot_33 rfl ?_
          refine v_iload_n hc dX1_firstShot_34 rfl ?_
          refine z_icmp_ne (tgt := 40) hc dX1_firstShot_35 (by decide) (by first | assumption | exact hi _ | exact ha _ _ | (unfold zb; omega)) (by first | assumption | exact hi _ | exact ha _ _ | (unfold zb; omega)) (fun c_4 => ?_) (fun c_4 => ?_)
          · refine z_iinc hc dX1_firstShot_40 rfl ?_
            refine v_goto (tgt := 4) hc dX1_firstShot_43 (by decide) ?_
            exact ih _ (by omega) _ _ rfl (by omega) (by omega) (by rw [show (x + 1).toNat = x.toNat + 1 by omega, f_ct]; split <;> omega) (by rw [show (x + 1).toNat = x.toNat + 1 by omega, ← f_fi_st (by omega) (by simp; omega)]; exact hv)
          · refine v_iload_n hc dX1_firstShot_38 rfl ?_
            refine z_iret M dX1_firstShot_39 (by omega) (by omega) ?_
            rw [f_fi_hit (by omega) (by simp; omega)] at hv
            rw [show x = ((v : Nat) : Int) by omega]
            exact P1 (by omega)
      · refine z_iinc hc dX1_firstShot_21 rfl ?_
        refine v_aload_n hc dX1_firstShot_24 rfl ?_
        refine r_getA hc ho dX1_firstShot_25 F_X1_18 hO rfl ?_
        refine v_iload_n hc dX1_firstShot_28 rfl ?_
        refine r_zald hc dX1_firstShot_29 hO 2 rfl (by decide) (by omega) (by omega) ?_
        refine z_if_eq (tgt := 40) hc dX1_firstShot_30 (by decide) (by first | assumption | exact hi _ | exact ha _ _ | (unfold zb; omega)) (fun c_5 => ?_) (fun c_5 => ?_)
        · refine z_iinc hc dX1_firstShot_40 rfl ?_
          refine v_goto (tgt := 4) hc dX1_firstShot_43 (by decide) ?_
          exact ih _ (by omega) _ _ rfl (by omega) (by omega) (by rw [show (x + 1).toNat = x.toNat + 1 by omega, f_ct]; split <;> omega) (by rw [show (x + 1).toNat = x.toNat + 1 by omega, ← f_fi_st (by omega) (by simp; omega)]; exact hv)
        · refine v_iload_n hc dX1_firstShot_33 rfl ?_
          refine v_iload_n hc dX1_firstShot_34 rfl ?_
          refine z_icmp_ne (tgt := 40) hc dX1_firstShot_35 (by decide) (by first | assumption | exact hi _ | exact ha _ _ | (unfold zb; omega)) (by first | assumption | exact hi _ | exact ha _ _ | (unfold zb; omega)) (fun c_6 => ?_) (fun c_6 => ?_)
          · refine z_iinc hc dX1_firstShot_40 rfl ?_
            refine v_goto (tgt := 4) hc dX1_firstShot_43 (by decide) ?_
            exact ih _ (by omega) _ _ rfl (by omega) (by omega) (by rw [show (x + 1).toNat = x.toNat + 1 by omega, f_ct]; split <;> omega) (by rw [show (x + 1).toNat = x.toNat + 1 by omega, ← f_fi_st (by omega) (by simp; omega)]; exact hv)
          · refine v_iload_n hc dX1_firstShot_38 rfl ?_
            refine z_iret M dX1_firstShot_39 (by omega) (by omega) ?_
            rw [f_fi_hit (by omega) (by simp; omega)] at hv
            rw [show x = ((v : Nat) : Int) by omega]
            exact P1 (by omega)
set_option maxHeartbeats 4000000 in
theorem c_X1_firstShot (l : Launch) (G : b_G) {o : Nat} {ad : Nat → Nat} {i : Nat → Int} {a : Nat → Nat → Int} {h : b_H} {sz : Nat} (hO : r_O K1 1 o ad i a h) (hI : f_I i a) {s : Int} (hs : zb s) : Con l G yX1_firstShot cX1_firstShot 4 (some .int) 0 0 0 0 [.ref o, .int (zI s)] h sz (p_ro (some (.int (zI (if f_F (a 2) (i 3).toNat s < (i 3).toNat then (f_F (a 2) (i 3).toNat s : Int) else -1)))) h sz) := by
  refine Con.ofK (by decide +kernel) rfl rfl ?_
  intro S M
  have hc := M.2.2.2.1
  have ho : s_own S = RX1 := M.2.2.1
  have hFr : (s_R S).frames = 0 := by rw [M.2.2.2.2.2.2.2.1]
  have hLo : (s_R S).locals = 0 := by rw [M.2.2.2.2.2.2.2.1]
  have hCe : (s_R S).cells = 0 := by rw [M.2.2.2.2.2.2.2.1]
  have hSl : (s_R S).slots = 0 := by rw [M.2.2.2.2.2.2.2.1]
  have hi := hO.2.2.2.1
  have ha := hO.2.2.2.2
  have hI3 := hI.1
  have hIc := hI.2.1
  have hIf := hI.2.2.1
  refine z_iconst hc dX1_firstShot_0 ?_
  refine v_istore_n hc dX1_firstShot_1 (Nat.le_of_ble_eq_true rfl) ?_
  refine z_iconst hc dX1_firstShot_2 ?_
  refine v_istore_n hc dX1_firstShot_3 (Nat.le_of_ble_eq_true rfl) ?_
  exact l_X1_firstShot_4 M hO hI hs (v := f_F (a 2) (i 3).toNat s) (fun q => ⟨by rw [if_pos q], rfl, rfl⟩) (fun q => ⟨by rw [if_neg q], rfl, rfl⟩) _ _ _ rfl (by omega) (by omega) (by simp [f_ct]) rfl
def f_L (c : Nat → Int) (n x : Nat) : Nat := f_fi (fun k => decide (¬ c k = 0)) (n - x) x

set_option maxHeartbeats 4000000 in
theorem l_X1_lastShot_8 {S : b_S} {l : Launch} {G : b_G} {o : Nat} {ad : Nat → Nat} {i : Nat → Int} {a : Nat → Nat → Int} {h : b_H} {sz : Nat} {post : Option Value → b_H → Nat → Prop} (M : b_M S l G RX1 cX1_lastShot 3 (some .int) "lastShot" 1 21 0 0 h sz post) (hO : r_O K1 1 o ad i a h) (hI : f_I i a) {s : Int} {v : Nat} (P : post (some (.int (zI ((v : Int) - 1)))) h sz) : ∀ (d : Nat) (x : Int), (i 3 - x).toNat = d → 0 ≤ x → x ≤ i 3 → f_L (a 2) (i 3).toNat x.toNat = v → V S 0 0 h sz 8 [some (.ref o), some (.int (zI s)), some (.int (zI x))] [] := by
  have hc := M.2.2.2.1
  have ho : s_own S = RX1 := M.2.2.1
  have hFr : (s_R S).frames = 1 := by rw [M.2.2.2.2.2.2.2.1]
  have hLo : (s_R S).locals = 21 := by rw [M.2.2.2.2.2.2.2.1]
  have hCe : (s_R S).cells = 0 := by rw [M.2.2.2.2.2.2.2.1]
  have hSl : (s_R S).slots = 0 := by rw [M.2.2.2.2.2.2.2.1]
  have hi := hO.2.2.2.1
  have ha := hO.2.2.2.2
  have hI3 := hI.1
  have hIc := hI.2.1
  have hIf := hI.2.2.1
  intro d
  induction d using Nat.strongRecOn with
  | ind d ih =>
    intro x hd h0 h1 hv
    refine v_iload_n hc dX1_lastShot_8 rfl ?_
    refine v_aload_n hc dX1_lastShot_9 rfl ?_
    refine r_get hc ho dX1_lastShot_10 F_X1_22 hO rfl ?_
    refine z_icmp_ge (tgt := 35) hc dX1_lastShot_13 (by decide) (by first | assumption | exact hi _ | exact ha _ _ | (unfold zb; omega)) (by first | assumption | exact hi _ | exact ha _ _ | (unfold zb; omega)) (fun c_1 => ?_) (fun c_1 => ?_)
    · refine v_aload_n hc dX1_lastShot_35 rfl ?_
      refine r_get hc ho dX1_lastShot_36 F_X1_22 hO rfl ?_
      refine z_iconst hc dX1_lastShot_39 ?_
      refine z_isub hc dX1_lastShot_40 ?_
      refine z_iret M dX1_lastShot_41 (by omega) (by omega) ?_
      rw [f_L, show (i 3).toNat - x.toNat = 0 by omega, f_fi] at hv
      rw [show i 3 - 1 = ((v : Nat) : Int) - 1 by omega]
      exact P
    · refine v_aload_n hc dX1_lastShot_16 rfl ?_
      refine r_getA hc ho dX1_lastShot_17 F_X1_18 hO rfl ?_
      refine v_iload_n hc dX1_lastShot_20 rfl ?_
      refine r_zald hc dX1_lastShot_21 hO 2 rfl (by decide) (by omega) (by omega) ?_
      refine z_if_eq (tgt := 29) hc dX1_lastShot_22 (by decide) (by first | assumption | exact hi _ | exact ha _ _ | (unfold zb; omega)) (fun c_2 => ?_) (fun c_2 => ?_)
      · refine z_iinc hc dX1_lastShot_29 rfl ?_
        refine v_goto (tgt := 8) hc dX1_lastShot_32 (by decide) ?_
        exact ih _ (by omega) _ rfl (by omega) (by omega) (by rw [f_L, show (x + 1).toNat = x.toNat + 1 by omega, ← f_fi_st (by omega) (by simp; omega)]; exact hv)
      · refine v_iload_n hc dX1_lastShot_25 rfl ?_
        refine z_iconst hc dX1_lastShot_26 ?_
        refine z_isub hc dX1_lastShot_27 ?_
        refine z_iret M dX1_lastShot_28 (by omega) (by omega) ?_
        rw [f_L, f_fi_hit (by omega) (by simp; omega)] at hv
        rw [show x - 1 = ((v : Nat) : Int) - 1 by omega]
        exact P
set_option maxHeartbeats 4000000 in
theorem c_X1_lastShot (l : Launch) (G : b_G) {o : Nat} {ad : Nat → Nat} {i : Nat → Int} {a : Nat → Nat → Int} {h : b_H} {sz : Nat} (hO : r_O K1 1 o ad i a h) (hI : f_I i a) {s : Int} (hs : 0 ≤ s ∧ s < i 3) : Con l G yX1_lastShot cX1_lastShot 3 (some .int) 1 21 0 0 [.ref o, .int (zI s)] h sz (p_ro (some (.int (zI ((f_L (a 2) (i 3).toNat (s.toNat + 1) : Int) - 1)))) h sz) := by
  refine Con.ofK (by decide +kernel) rfl rfl ?_
  intro S M
  have hc := M.2.2.2.1
  have ho : s_own S = RX1 := M.2.2.1
  have hFr : (s_R S).frames = 1 := by rw [M.2.2.2.2.2.2.2.1]
  have hLo : (s_R S).locals = 21 := by rw [M.2.2.2.2.2.2.2.1]
  have hCe : (s_R S).cells = 0 := by rw [M.2.2.2.2.2.2.2.1]
  have hSl : (s_R S).slots = 0 := by rw [M.2.2.2.2.2.2.2.1]
  have hi := hO.2.2.2.1
  have ha := hO.2.2.2.2
  have hI3 := hI.1
  have hIc := hI.2.1
  have hIf := hI.2.2.1
  refine z_iconst hc dX1_lastShot_0 ?_
  refine v_iload_n hc dX1_lastShot_1 rfl ?_
  refine z_max hc ho dX1_lastShot_2 MM_X1_30 (by first | assumption | exact hi _ | exact ha _ _ | (unfold zb; omega)) (by first | assumption | exact hi _ | exact ha _ _ | (unfold zb; omega)) (by omega) (by rw [hLo]; exact Nat.le_of_ble_eq_true rfl) (by omega) (by omega) ?_
  refine z_iconst hc dX1_lastShot_5 ?_
  refine z_iadd hc dX1_lastShot_6 ?_
  refine v_istore_n hc dX1_lastShot_7 (Nat.le_of_ble_eq_true rfl) ?_
  exact l_X1_lastShot_8 M hO hI (v := f_L (a 2) (i 3).toNat (s.toNat + 1)) ⟨rfl, rfl, rfl⟩ _ _ rfl (by omega) (by omega) (by rw [show (max 0 s + 1).toNat = s.toNat + 1 by omega])
set_option maxHeartbeats 4000000 in
theorem l_X1_framesFrom_9 {S : b_S} {l : Launch} {G : b_G} {o : Nat} {ad : Nat → Nat} {i : Nat → Int} {a : Nat → Nat → Int} {h : b_H} {sz : Nat} {post : Option Value → b_H → Nat → Prop} (M : b_M S l G RX1 cX1_framesFrom 5 (some .int) "framesFrom" 1 21 0 0 h sz post) (hO : r_O K1 1 o ad i a h) (hI : f_I i a) {s t : Int} (hs : 0 ≤ s ∧ s ≤ t + 1 ∧ t + 1 ≤ i 3) (P : post (some (.int (zI (f_sm (a 0) (t + 1).toNat - f_sm (a 0) s.toNat)))) h sz) : ∀ (d : Nat) (r x : Int), (t + 1 - x).toNat = d → 0 ≤ x → x ≤ t + 1 → r = f_sm (a 0) x.toNat - f_sm (a 0) s.toNat → V S 0 0 h sz 9 [some (.ref o), some (.int (zI s)), some (.int (zI t)), some (.int (zI r)), some (.int (zI x))] [] := by
  have hc := M.2.2.2.1
  have ho : s_own S = RX1 := M.2.2.1
  have hFr : (s_R S).frames = 1 := by rw [M.2.2.2.2.2.2.2.1]
  have hLo : (s_R S).locals = 21 := by rw [M.2.2.2.2.2.2.2.1]
  have hCe : (s_R S).cells = 0 := by rw [M.2.2.2.2.2.2.2.1]
  have hSl : (s_R S).slots = 0 := by rw [M.2.2.2.2.2.2.2.1]
  have hi := hO.2.2.2.1
  have ha := hO.2.2.2.2
  have hI3 := hI.1
  have hIc := hI.2.1
  have hIf := hI.2.2.1
  intro d
  induction d using Nat.strongRecOn with
  | ind d ih =>
    intro r x hd h0 h1 hr
    refine v_iload hc dX1_framesFrom_9 rfl ?_
    refine v_iload_n hc dX1_framesFrom_11 rfl ?_
    refine z_icmp_gt (tgt := 40) hc dX1_framesFrom_12 (by decide) (by first | assumption | exact hi _ | exact ha _ _ | (unfold zb; omega)) (by first | assumption | exact hi _ | exact ha _ _ | (unfold zb; omega)) (fun c_1 => ?_) (fun c_1 => ?_)
    · refine v_iload_n hc dX1_framesFrom_40 rfl ?_
      refine z_iret M dX1_framesFrom_41 (by omega) (by omega) ?_
      rw [hr, show x = t + 1 by omega]
      exact P
    · refine v_iload hc dX1_framesFrom_15 rfl ?_
      refine v_aload_n hc dX1_framesFrom_17 rfl ?_
      refine r_get hc ho dX1_framesFrom_18 F_X1_22 hO rfl ?_
      refine z_icmp_ge (tgt := 40) hc dX1_framesFrom_21 (by decide) (by first | assumption | exact hi _ | exact ha _ _ | (unfold zb; omega)) (by first | assumption | exact hi _ | exact ha _ _ | (unfold zb; omega)) (fun c_2 => ?_) (fun c_2 => ?_)
      · refine v_iload_n hc dX1_framesFrom_40 rfl ?_
        refine z_iret M dX1_framesFrom_41 (by omega) (by omega) ?_
        rw [hr, show x = t + 1 by omega]
        exact P
      · refine v_iload_n hc dX1_framesFrom_24 rfl ?_
        refine v_aload_n hc dX1_framesFrom_25 rfl ?_
        refine r_getA hc ho dX1_framesFrom_26 F_X1_9 hO rfl ?_
        refine v_iload hc dX1_framesFrom_29 rfl ?_
        refine r_iald hc dX1_framesFrom_31 hO 0 rfl (by decide) (by omega) (by omega) ?_
        refine z_iadd hc dX1_framesFrom_32 ?_
        refine v_istore_n hc dX1_framesFrom_33 (Nat.le_of_ble_eq_true rfl) ?_
        refine z_iinc hc dX1_framesFrom_34 rfl ?_
        refine v_goto (tgt := 9) hc dX1_framesFrom_37 (by decide) ?_
        exact ih _ (by omega) _ _ rfl (by omega) (by omega) (by rw [show (x + 1).toNat = x.toNat + 1 by omega, f_sm]; omega)
set_option maxHeartbeats 4000000 in
theorem c_X1_framesFrom (l : Launch) (G : b_G) {o : Nat} {ad : Nat → Nat} {i : Nat → Int} {a : Nat → Nat → Int} {h : b_H} {sz : Nat} (hO : r_O K1 1 o ad i a h) (hI : f_I i a) {s t : Int} (hs : 0 ≤ s ∧ s ≤ t + 1 ∧ t + 1 ≤ i 3) : Con l G yX1_framesFrom cX1_framesFrom 5 (some .int) 1 21 0 0 [.ref o, .int (zI s), .int (zI t)] h sz (p_ro (some (.int (zI (f_sm (a 0) (t + 1).toNat - f_sm (a 0) s.toNat)))) h sz) := by
  refine Con.ofK (by decide +kernel) rfl rfl ?_
  intro S M
  have hc := M.2.2.2.1
  have ho : s_own S = RX1 := M.2.2.1
  have hFr : (s_R S).frames = 1 := by rw [M.2.2.2.2.2.2.2.1]
  have hLo : (s_R S).locals = 21 := by rw [M.2.2.2.2.2.2.2.1]
  have hCe : (s_R S).cells = 0 := by rw [M.2.2.2.2.2.2.2.1]
  have hSl : (s_R S).slots = 0 := by rw [M.2.2.2.2.2.2.2.1]
  have hi := hO.2.2.2.1
  have ha := hO.2.2.2.2
  have hI3 := hI.1
  have hIc := hI.2.1
  have hIf := hI.2.2.1
  refine z_iconst hc dX1_framesFrom_0 ?_
  refine v_istore_n hc dX1_framesFrom_1 (Nat.le_of_ble_eq_true rfl) ?_
  refine z_iconst hc dX1_framesFrom_2 ?_
  refine v_iload_n hc dX1_framesFrom_3 rfl ?_
  refine z_max hc ho dX1_framesFrom_4 MM_X1_30 (by first | assumption | exact hi _ | exact ha _ _ | (unfold zb; omega)) (by first | assumption | exact hi _ | exact ha _ _ | (unfold zb; omega)) (by omega) (by rw [hLo]; exact Nat.le_of_ble_eq_true rfl) (by omega) (by omega) ?_
  refine v_istore hc dX1_framesFrom_7 (Nat.le_of_ble_eq_true rfl) ?_
  exact l_X1_framesFrom_9 M hO hI hs ⟨rfl, rfl, rfl⟩ _ _ _ rfl (by omega) (by omega) (by rw [show (max 0 s).toNat = s.toNat by omega]; omega)
set_option maxHeartbeats 4000000 in
theorem c_X1_tenthsFrom (l : Launch) (G : b_G) {o : Nat} {ad : Nat → Nat} {i : Nat → Int} {a : Nat → Nat → Int} {h : b_H} {sz : Nat} (hO : r_O K1 1 o ad i a h) (hI : f_I i a) {s t v : Int} (hs : 0 ≤ s ∧ s ≤ t + 1 ∧ t + 1 ≤ i 3) (hv : 12 ≤ v ∧ v ≤ 30) : Con l G yX1_tenthsFrom cX1_tenthsFrom 4 (some .int) 2 45 0 0 [.ref o, .int (zI s), .int (zI t), .int (zI v)] h sz (p_ro (some (.int (zI (((f_sm (a 0) (t + 1).toNat - f_sm (a 0) s.toNat) * 10).tdiv v)))) h sz) := by
  refine Con.ofK (by decide +kernel) rfl rfl ?_
  intro S M
  have hc := M.2.2.2.1
  have ho : s_own S = RX1 := M.2.2.1
  have hFr : (s_R S).frames = 2 := by rw [M.2.2.2.2.2.2.2.1]
  have hLo : (s_R S).locals = 45 := by rw [M.2.2.2.2.2.2.2.1]
  have hCe : (s_R S).cells = 0 := by rw [M.2.2.2.2.2.2.2.1]
  have hSl : (s_R S).slots = 0 := by rw [M.2.2.2.2.2.2.2.1]
  have hi := hO.2.2.2.1
  have ha := hO.2.2.2.2
  have hI3 := hI.1
  have hIc := hI.2.1
  have hIf := hI.2.2.1
  refine v_aload_n hc dX1_tenthsFrom_0 rfl ?_
  refine v_iload_n hc dX1_tenthsFrom_1 rfl ?_
  refine v_iload_n hc dX1_tenthsFrom_2 rfl ?_
  refine v_callV (As := [.int (zI s), .int (zI t)]) hc ho dX1_tenthsFrom_3 KV_X1_36 KB_X1_framesFrom hO.1 rfl rfl (c_X1_framesFrom _ _ hO hI (s := s) (t := t) hs) rfl (Nat.le_of_ble_eq_true rfl) ⟨by omega, by omega⟩ ⟨by omega, by omega⟩ (fun r_ h_ sz_ q_ z_ => ?_)
  obtain ⟨rfl, rfl, rfl⟩ := q_
  have hb1 := f_sm_bd hIf s.toNat
  have hb2 := f_sm_bd hIf (t + 1).toNat
  refine z_bipush hc dX1_tenthsFrom_6 (by decide) ?_
  refine z_imul hc dX1_tenthsFrom_8 ?_
  refine z_iconst hc dX1_tenthsFrom_9 ?_
  refine v_iload_n hc dX1_tenthsFrom_10 rfl ?_
  refine z_max hc ho dX1_tenthsFrom_11 MM_X1_30 (by first | assumption | exact hi _ | exact ha _ _ | (unfold zb; omega)) (by first | assumption | exact hi _ | exact ha _ _ | (unfold zb; omega)) (by omega) (by rw [hLo]; exact Nat.le_of_ble_eq_true rfl) (by omega) (by omega) ?_
  refine z_idiv hc dX1_tenthsFrom_14 (by first | assumption | exact hi _ | exact ha _ _ | (unfold zb; omega)) (by first | assumption | exact hi _ | exact ha _ _ | (unfold zb; omega)) (by omega) ?_
  refine z_iret M dX1_tenthsFrom_15 (by omega) (by omega) ?_
  exact ⟨by rw [show max 1 v = v by omega], rfl, rfl⟩
set_option maxHeartbeats 4000000 in
theorem c_X1_moodOf (l : Launch) (G : b_G) {o : Nat} {ad : Nat → Nat} {i : Nat → Int} {a : Nat → Nat → Int} {h : b_H} {sz : Nat} (hO : r_O K1 1 o ad i a h) (hI : f_I i a) {s : Int} (hs : zb s) : Con l G yX1_moodOf cX1_moodOf 2 (some .int) 1 22 0 0 [.ref o, .int (zI s)] h sz (p_ro (some (.int (zI (if 0 ≤ s ∧ s ≤ i 3 - 1 then a 1 s.toNat else -1)))) h sz) := by
  refine Con.ofK (by decide +kernel) rfl rfl ?_
  intro S M
  have hc := M.2.2.2.1
  have ho : s_own S = RX1 := M.2.2.1
  have hFr : (s_R S).frames = 1 := by rw [M.2.2.2.2.2.2.2.1]
  have hLo : (s_R S).locals = 22 := by rw [M.2.2.2.2.2.2.2.1]
  have hCe : (s_R S).cells = 0 := by rw [M.2.2.2.2.2.2.2.1]
  have hSl : (s_R S).slots = 0 := by rw [M.2.2.2.2.2.2.2.1]
  have hi := hO.2.2.2.1
  have ha := hO.2.2.2.2
  have hI3 := hI.1
  have hIc := hI.2.1
  have hIf := hI.2.2.1
  refine v_iload_n hc dX1_moodOf_0 rfl ?_
  refine z_iconst hc dX1_moodOf_1 ?_
  refine v_aload_n hc dX1_moodOf_2 rfl ?_
  refine r_get hc ho dX1_moodOf_3 F_X1_22 hO rfl ?_
  refine z_iconst hc dX1_moodOf_6 ?_
  refine z_isub hc dX1_moodOf_7 ?_
  refine v_callSN (As := [.int (zI (s)), .int (zI (0)), .int (zI (i 3 - 1))]) hc ho dX1_moodOf_8 KSN_X1_26 KB_X6_within (c_X6_within _ _ (x := s) (y := 0) (z := i 3 - 1) (by first | assumption | exact hi _ | exact ha _ _ | (unfold zb; omega)) (by first | assumption | exact hi _ | exact ha _ _ | (unfold zb; omega)) (by first | assumption | exact hi _ | exact ha _ _ | (unfold zb; omega))) rfl (Nat.le_of_ble_eq_true rfl) ⟨by omega, by omega⟩ ⟨by omega, by omega⟩ (fun r_ h_ sz_ q_ z_ => ?_)
  obtain ⟨rfl, rfl, rfl⟩ := q_
  have hw := bI_bd (0 ≤ s ∧ s ≤ i 3 - 1)
  refine z_if_eq (tgt := 23) hc dX1_moodOf_11 (by decide) (by first | assumption | exact hi _ | exact ha _ _ | (unfold zb; omega)) (fun c_1 => ?_) (fun c_1 => ?_)
  · refine z_iconst hc dX1_moodOf_23 ?_
    refine z_iret M dX1_moodOf_24 (by omega) (by omega) ?_
    exact ⟨by rw [if_neg (bI_0.mp c_1)], rfl, rfl⟩
  · have hx2 := bI_1.mp c_1
    refine v_aload_n hc dX1_moodOf_14 rfl ?_
    refine r_getA hc ho dX1_moodOf_15 F_X1_15 hO rfl ?_
    refine v_iload_n hc dX1_moodOf_18 rfl ?_
    refine r_iald hc dX1_moodOf_19 hO 1 rfl (by decide) (by omega) (by omega) ?_
    refine v_goto (tgt := 24) hc dX1_moodOf_20 (by decide) ?_
    refine z_iret M dX1_moodOf_24 (by omega) (by omega) ?_
    exact ⟨by rw [if_pos hx2], rfl, rfl⟩
