/-! a piece -/
abbrev K4 : r_K := [none, none, none, none, none, none, none, none, some (false, 8), some (false, 8), none, none, some (false, 3208), some (false, 401)]
def q_I (i : Nat → Int) (a : Nat → Nat → Int) : Prop := (0 ≤ i 4 ∧ i 4 ≤ 8) ∧ (0 ≤ i 10 ∧ i 10 ≤ 255) ∧ (0 ≤ i 11 ∧ i 11 ≤ 255) ∧ (30 ≤ i 6 ∧ i 6 ≤ i 7 ∧ i 7 ≤ 240) ∧ (0 ≤ i 1 ∧ i 1 ≤ 63) ∧ (∀ j, 0 ≤ a 8 j ∧ a 8 j ≤ 64) ∧ (∀ j, 0 ≤ a 9 j ∧ a 9 j ≤ 255) ∧ (∀ j, 0 ≤ a 12 j ∧ a 12 j ≤ 17) ∧ (∀ j, 0 ≤ a 13 j ∧ a 13 j ≤ 17)
/-- of a set the least number, and the first one that has it -/
def q_lm (f : Nat → Int) (s : Int) : Nat → Int
  | 0 => 17
  | j + 1 => if s / 2 ^ j % 2 = 1 ∧ f j < q_lm f s j then f j else q_lm f s j
def q_lx (f : Nat → Int) (s : Int) : Nat → Int
  | 0 => -1
  | j + 1 => if s / 2 ^ j % 2 = 1 ∧ f j < q_lm f s j then j else q_lx f s j
theorem q_lm_bd {f : Nat → Int} (hf : ∀ j, 0 ≤ f j ∧ f j ≤ 17) (s : Int) : ∀ j : Nat, 0 ≤ q_lm f s j ∧ q_lm f s j ≤ 17
  | 0 => by simp [q_lm]
  | j + 1 => by
    have h1 := q_lm_bd hf s j
    have h2 := hf j
    rw [q_lm]; split <;> omega
theorem q_lx_bd (f : Nat → Int) (s : Int) : ∀ j : Nat, -1 ≤ q_lx f s j ∧ q_lx f s j < j ∨ j = 0
  | 0 => Or.inr rfl
  | j + 1 => by
    left
    have h1 := q_lx_bd f s j
    rw [q_lx]
    split
    · push_cast; omega
    · rcases h1 with h1 | h1
      · push_cast; omega
      · subst h1; simp [q_lx]
theorem q_lx_lm (f : Nat → Int) (s : Int) : ∀ j : Nat, (q_lx f s j < 0 → q_lm f s j = 17) ∧ (0 ≤ q_lx f s j → f (q_lx f s j).toNat = q_lm f s j)
  | 0 => by simp [q_lx, q_lm]
  | j + 1 => by
    have h1 := q_lx_lm f s j
    rw [q_lx, q_lm]
    split
    · constructor
      · intro h; omega
      · intro _; simp
    · exact h1

set_option maxHeartbeats 4000000 in
theorem c_X4_beatsOf (l : Launch) (G : b_G) {o : Nat} {ad : Nat → Nat} {i : Nat → Int} {a : Nat → Nat → Int} {h : b_H} {sz : Nat} (hO : r_O K4 4 o ad i a h) (hI : q_I i a) {x : Int} (hx : zb x) : Con l G yX4_beatsOf cX4_beatsOf 2 (some .int) 1 22 0 0 [.ref o, .int (zI x)] h sz (p_ro (some (.int (zI (if 0 ≤ x ∧ x ≤ 7 then a 8 x.toNat else 0)))) h sz) := by
  refine Con.ofK (by decide +kernel) rfl rfl ?_
  intro S M
  have hc := M.2.2.2.1
  have ho : s_own S = RX4 := M.2.2.1
  have hFr : (s_R S).frames = 1 := by rw [M.2.2.2.2.2.2.2.1]
  have hLo : (s_R S).locals = 22 := by rw [M.2.2.2.2.2.2.2.1]
  have hCe : (s_R S).cells = 0 := by rw [M.2.2.2.2.2.2.2.1]
  have hSl : (s_R S).slots = 0 := by rw [M.2.2.2.2.2.2.2.1]
  have hi := hO.2.2.2.1
  have ha := hO.2.2.2.2
  obtain ⟨hIb, hIe, hIx, hIsf, hImd, hIbt, hInx, hIfw, hIln⟩ := id hI
  refine v_iload_n hc dX4_beatsOf_0 rfl ?_
  refine z_iconst hc dX4_beatsOf_1 ?_
  refine z_bipush hc dX4_beatsOf_2 (by decide) ?_
  refine v_callSN (As := [.int (zI (x)), .int (zI (0)), .int (zI (7))]) hc ho dX4_beatsOf_4 KSN_X4_68 KB_X6_within (c_X6_within _ _ (x := x) (y := 0) (z := 7) (by first | assumption | exact hi _ | exact ha _ _ | (unfold zb; omega)) (by first | assumption | exact hi _ | exact ha _ _ | (unfold zb; omega)) (by first | assumption | exact hi _ | exact ha _ _ | (unfold zb; omega))) rfl (Nat.le_of_ble_eq_true rfl) ⟨by omega, by omega⟩ ⟨by omega, by omega⟩ (fun r_ h_ sz_ q_ z_ => ?_)
  obtain ⟨rfl, rfl, rfl⟩ := q_
  have hb0 := @bI_0 (0 ≤ x ∧ x ≤ 7) _
  have hb1 := @bI_1 (0 ≤ x ∧ x ≤ 7) _
  have hbb := bI_bd (0 ≤ x ∧ x ≤ 7)
  refine z_if_eq (tgt := 19) hc dX4_beatsOf_7 (by decide) (by first | assumption | exact hi _ | exact ha _ _ | (unfold zb; omega)) (fun c_1 => ?_) (fun c_1 => ?_)
  · refine z_iconst hc dX4_beatsOf_19 ?_
    refine z_iret M dX4_beatsOf_20 (by omega) (by omega) ?_
    first | exact ⟨by rw [if_pos (by omega)], rfl, rfl⟩ | exact ⟨by rw [if_neg (by omega)], rfl, rfl⟩
  · refine v_aload_n hc dX4_beatsOf_10 rfl ?_
    refine r_getA hc ho dX4_beatsOf_11 F_X4_9 hO rfl ?_
    refine v_iload_n hc dX4_beatsOf_14 rfl ?_
    refine r_iald hc dX4_beatsOf_15 hO 8 rfl (by decide) (by omega) (by omega) ?_
    refine v_goto (tgt := 20) hc dX4_beatsOf_16 (by decide) ?_
    refine z_iret M dX4_beatsOf_20 (by omega) (by omega) ?_
    first | exact ⟨by rw [if_pos (by omega)], rfl, rfl⟩ | exact ⟨by rw [if_neg (by omega)], rfl, rfl⟩
set_option maxHeartbeats 4000000 in
theorem c_X4_nextOf (l : Launch) (G : b_G) {o : Nat} {ad : Nat → Nat} {i : Nat → Int} {a : Nat → Nat → Int} {h : b_H} {sz : Nat} (hO : r_O K4 4 o ad i a h) (hI : q_I i a) {x : Int} (hx : zb x) : Con l G yX4_nextOf cX4_nextOf 2 (some .int) 1 22 0 0 [.ref o, .int (zI x)] h sz (p_ro (some (.int (zI (if 0 ≤ x ∧ x ≤ 7 then a 9 x.toNat else 0)))) h sz) := by
  refine Con.ofK (by decide +kernel) rfl rfl ?_
  intro S M
  have hc := M.2.2.2.1
  have ho : s_own S = RX4 := M.2.2.1
  have hFr : (s_R S).frames = 1 := by rw [M.2.2.2.2.2.2.2.1]
  have hLo : (s_R S).locals = 22 := by rw [M.2.2.2.2.2.2.2.1]
  have hCe : (s_R S).cells = 0 := by rw [M.2.2.2.2.2.2.2.1]
  have hSl : (s_R S).slots = 0 := by rw [M.2.2.2.2.2.2.2.1]
  have hi := hO.2.2.2.1
  have ha := hO.2.2.2.2
  obtain ⟨hIb, hIe, hIx, hIsf, hImd, hIbt, hInx, hIfw, hIln⟩ := id hI
  refine v_iload_n hc dX4_nextOf_0 rfl ?_
  refine z_iconst hc dX4_nextOf_1 ?_
  refine z_bipush hc dX4_nextOf_2 (by decide) ?_
  refine v_callSN (As := [.int (zI (x)), .int (zI (0)), .int (zI (7))]) hc ho dX4_nextOf_4 KSN_X4_68 KB_X6_within (c_X6_within _ _ (x := x) (y := 0) (z := 7) (by first | assumption | exact hi _ | exact ha _ _ | (unfold zb; omega)) (by first | assumption | exact hi _ | exact ha _ _ | (unfold zb; omega)) (by first | assumption | exact hi _ | exact ha _ _ | (unfold zb; omega))) rfl (Nat.le_of_ble_eq_true rfl) ⟨by omega, by omega⟩ ⟨by omega, by omega⟩ (fun r_ h_ sz_ q_ z_ => ?_)
  obtain ⟨rfl, rfl, rfl⟩ := q_
  have hb0 := @bI_0 (0 ≤ x ∧ x ≤ 7) _
  have hb1 := @bI_1 (0 ≤ x ∧ x ≤ 7) _
  have hbb := bI_bd (0 ≤ x ∧ x ≤ 7)
  refine z_if_eq (tgt := 19) hc dX4_nextOf_7 (by decide) (by first | assumption | exact hi _ | exact ha _ _ | (unfold zb; omega)) (fun c_1 => ?_) (fun c_1 => ?_)
  · refine z_iconst hc dX4_nextOf_19 ?_
    refine z_iret M dX4_nextOf_20 (by omega) (by omega) ?_
    first | exact ⟨by rw [if_pos (by omega)], rfl, rfl⟩ | exact ⟨by rw [if_neg (by omega)], rfl, rfl⟩
  · refine v_aload_n hc dX4_nextOf_10 rfl ?_
    refine r_getA hc ho dX4_nextOf_11 F_X4_15 hO rfl ?_
    refine v_iload_n hc dX4_nextOf_14 rfl ?_
    refine r_iald hc dX4_nextOf_15 hO 9 rfl (by decide) (by omega) (by omega) ?_
    refine v_goto (tgt := 20) hc dX4_nextOf_16 (by decide) ?_
    refine z_iret M dX4_nextOf_20 (by omega) (by omega) ?_
    first | exact ⟨by rw [if_pos (by omega)], rfl, rfl⟩ | exact ⟨by rw [if_neg (by omega)], rfl, rfl⟩
set_option maxHeartbeats 4000000 in
theorem c_X4_wayLength (l : Launch) (G : b_G) {o : Nat} {ad : Nat → Nat} {i : Nat → Int} {a : Nat → Nat → Int} {h : b_H} {sz : Nat} (hO : r_O K4 4 o ad i a h) (hI : q_I i a) {x : Int} (hx : zb x) : Con l G yX4_wayLength cX4_wayLength 2 (some .int) 1 22 0 0 [.ref o, .int (zI x)] h sz (p_ro (some (.int (zI (if 1 ≤ x ∧ x ≤ 400 then a 13 x.toNat else 17)))) h sz) := by
  refine Con.ofK (by decide +kernel) rfl rfl ?_
  intro S M
  have hc := M.2.2.2.1
  have ho : s_own S = RX4 := M.2.2.1
  have hFr : (s_R S).frames = 1 := by rw [M.2.2.2.2.2.2.2.1]
  have hLo : (s_R S).locals = 22 := by rw [M.2.2.2.2.2.2.2.1]
  have hCe : (s_R S).cells = 0 := by rw [M.2.2.2.2.2.2.2.1]
  have hSl : (s_R S).slots = 0 := by rw [M.2.2.2.2.2.2.2.1]
  have hi := hO.2.2.2.1
  have ha := hO.2.2.2.2
  obtain ⟨hIb, hIe, hIx, hIsf, hImd, hIbt, hInx, hIfw, hIln⟩ := id hI
  refine v_iload_n hc dX4_wayLength_0 rfl ?_
  refine z_iconst hc dX4_wayLength_1 ?_
  refine z_sipush hc dX4_wayLength_2 (by decide) ?_
  refine v_callSN (As := [.int (zI (x)), .int (zI (1)), .int (zI (400))]) hc ho dX4_wayLength_5 KSN_X4_68 KB_X6_within (c_X6_within _ _ (x := x) (y := 1) (z := 400) (by first | assumption | exact hi _ | exact ha _ _ | (unfold zb; omega)) (by first | assumption | exact hi _ | exact ha _ _ | (unfold zb; omega)) (by first | assumption | exact hi _ | exact ha _ _ | (unfold zb; omega))) rfl (Nat.le_of_ble_eq_true rfl) ⟨by omega, by omega⟩ ⟨by omega, by omega⟩ (fun r_ h_ sz_ q_ z_ => ?_)
  obtain ⟨rfl, rfl, rfl⟩ := q_
  have hb0 := @bI_0 (1 ≤ x ∧ x ≤ 400) _
  have hb1 := @bI_1 (1 ≤ x ∧ x ≤ 400) _
  have hbb := bI_bd (1 ≤ x ∧ x ≤ 400)
  refine z_if_eq (tgt := 20) hc dX4_wayLength_8 (by decide) (by first | assumption | exact hi _ | exact ha _ _ | (unfold zb; omega)) (fun c_1 => ?_) (fun c_1 => ?_)
  · refine z_bipush hc dX4_wayLength_20 (by decide) ?_
    refine z_iret M dX4_wayLength_22 (by omega) (by omega) ?_
    first | exact ⟨by rw [if_pos (by omega)], rfl, rfl⟩ | exact ⟨by rw [if_neg (by omega)], rfl, rfl⟩
  · refine v_aload_n hc dX4_wayLength_11 rfl ?_
    refine r_getA hc ho dX4_wayLength_12 F_X4_21 hO rfl ?_
    refine v_iload_n hc dX4_wayLength_15 rfl ?_
    refine r_iald hc dX4_wayLength_16 hO 13 rfl (by decide) (by omega) (by omega) ?_
    refine v_goto (tgt := 22) hc dX4_wayLength_17 (by decide) ?_
    refine z_iret M dX4_wayLength_22 (by omega) (by omega) ?_
    first | exact ⟨by rw [if_pos (by omega)], rfl, rfl⟩ | exact ⟨by rw [if_neg (by omega)], rfl, rfl⟩
set_option maxHeartbeats 4000000 in
theorem c_X4_isExit (l : Launch) (G : b_G) {o : Nat} {ad : Nat → Nat} {i : Nat → Int} {a : Nat → Nat → Int} {h : b_H} {sz : Nat} (hO : r_O K4 4 o ad i a h) (hI : q_I i a) {x : Int} (hx : zb x) : Con l G yX4_isExit cX4_isExit 2 (some .boolean) 1 22 0 0 [.ref o, .int (zI x)] h sz (p_ro (some (.int (zI (bI ((0 ≤ x ∧ x ≤ 7) ∧ i 11 / 2 ^ x.toNat % 2 = 1))))) h sz) := by
  refine Con.ofK (by decide +kernel) rfl rfl ?_
  intro S M
  have hc := M.2.2.2.1
  have ho : s_own S = RX4 := M.2.2.1
  have hFr : (s_R S).frames = 1 := by rw [M.2.2.2.2.2.2.2.1]
  have hLo : (s_R S).locals = 22 := by rw [M.2.2.2.2.2.2.2.1]
  have hCe : (s_R S).cells = 0 := by rw [M.2.2.2.2.2.2.2.1]
  have hSl : (s_R S).slots = 0 := by rw [M.2.2.2.2.2.2.2.1]
  have hi := hO.2.2.2.1
  have ha := hO.2.2.2.2
  obtain ⟨hIb, hIe, hIx, hIsf, hImd, hIbt, hInx, hIfw, hIln⟩ := id hI
  refine v_iload_n hc dX4_isExit_0 rfl ?_
  refine z_iconst hc dX4_isExit_1 ?_
  refine z_bipush hc dX4_isExit_2 (by decide) ?_
  refine v_callSN (As := [.int (zI (x)), .int (zI (0)), .int (zI (7))]) hc ho dX4_isExit_4 KSN_X4_68 KB_X6_within (c_X6_within _ _ (x := x) (y := 0) (z := 7) (by first | assumption | exact hi _ | exact ha _ _ | (unfold zb; omega)) (by first | assumption | exact hi _ | exact ha _ _ | (unfold zb; omega)) (by first | assumption | exact hi _ | exact ha _ _ | (unfold zb; omega))) rfl (Nat.le_of_ble_eq_true rfl) ⟨by omega, by omega⟩ ⟨by omega, by omega⟩ (fun r_ h_ sz_ q_ z_ => ?_)
  obtain ⟨rfl, rfl, rfl⟩ := q_
  have hb0 := @bI_0 (0 ≤ x ∧ x ≤ 7) _
  have hb1 := @bI_1 (0 ≤ x ∧ x ≤ 7) _
  have hbb := bI_bd (0 ≤ x ∧ x ≤ 7)
  refine z_if_eq (tgt := 26) hc dX4_isExit_7 (by decide) (by first | assumption | exact hi _ | exact ha _ _ | (unfold zb; omega)) (fun c_1 => ?_) (fun c_1 => ?_)
  · refine z_iconst hc dX4_isExit_26 ?_
    refine z_zret M (by omega) dX4_isExit_27 (by omega) (by omega) ?_
    first | exact ⟨by rw [bI, if_pos (by omega)], rfl, rfl⟩ | exact ⟨by rw [bI, if_neg (by omega)], rfl, rfl⟩
  · have hq := b_div_bd (x := i 11) (y := 2 ^ x.toNat) (by omega) (by exact Int.pow_pos (by omega))
    refine v_aload_n hc dX4_isExit_10 rfl ?_
    refine r_get hc ho dX4_isExit_11 F_X4_62 hO rfl ?_
    refine v_iload_n hc dX4_isExit_14 rfl ?_
    refine v_ishr hc dX4_isExit_15 (zI_shr (by omega) (by omega) (by omega) (by omega)) ?_
    refine z_iconst hc dX4_isExit_16 ?_
    refine v_iand hc dX4_isExit_17 (zI_and1 (by omega) (by omega)) ?_
    refine z_iconst hc dX4_isExit_18 ?_
    refine z_icmp_ne (tgt := 26) hc dX4_isExit_19 (by decide) (by first | assumption | exact hi _ | exact ha _ _ | (unfold zb; omega)) (by first | assumption | exact hi _ | exact ha _ _ | (unfold zb; omega)) (fun c_2 => ?_) (fun c_2 => ?_)
    · refine z_iconst hc dX4_isExit_26 ?_
      refine z_zret M (by omega) dX4_isExit_27 (by omega) (by omega) ?_
      first | exact ⟨by rw [bI, if_pos (by omega)], rfl, rfl⟩ | exact ⟨by rw [bI, if_neg (by omega)], rfl, rfl⟩
    · refine z_iconst hc dX4_isExit_22 ?_
      refine v_goto (tgt := 27) hc dX4_isExit_23 (by decide) ?_
      refine z_zret M (by omega) dX4_isExit_27 (by omega) (by omega) ?_
      first | exact ⟨by rw [bI, if_pos (by omega)], rfl, rfl⟩ | exact ⟨by rw [bI, if_neg (by omega)], rfl, rfl⟩
set_option maxHeartbeats 4000000 in
theorem c_X4_hasMood (l : Launch) (G : b_G) {o : Nat} {ad : Nat → Nat} {i : Nat → Int} {a : Nat → Nat → Int} {h : b_H} {sz : Nat} (hO : r_O K4 4 o ad i a h) (hI : q_I i a) {x : Int} (hx : zb x) : Con l G yX4_hasMood cX4_hasMood 2 (some .boolean) 1 22 0 0 [.ref o, .int (zI x)] h sz (p_ro (some (.int (zI (bI ((0 ≤ x ∧ x ≤ 5) ∧ i 1 / 2 ^ x.toNat % 2 = 1))))) h sz) := by
  refine Con.ofK (by decide +kernel) rfl rfl ?_
  intro S M
  have hc := M.2.2.2.1
  have ho : s_own S = RX4 := M.2.2.1
  have hFr : (s_R S).frames = 1 := by rw [M.2.2.2.2.2.2.2.1]
  have hLo : (s_R S).locals = 22 := by rw [M.2.2.2.2.2.2.2.1]
  have hCe : (s_R S).cells = 0 := by rw [M.2.2.2.2.2.2.2.1]
  have hSl : (s_R S).slots = 0 := by rw [M.2.2.2.2.2.2.2.1]
  have hi := hO.2.2.2.1
  have ha := hO.2.2.2.2
  obtain ⟨hIb, hIe, hIx, hIsf, hImd, hIbt, hInx, hIfw, hIln⟩ := id hI
  refine v_iload_n hc dX4_hasMood_0 rfl ?_
  refine z_iconst hc dX4_hasMood_1 ?_
  refine z_iconst hc dX4_hasMood_2 ?_
  refine v_callSN (As := [.int (zI (x)), .int (zI (0)), .int (zI (5))]) hc ho dX4_hasMood_3 KSN_X4_68 KB_X6_within (c_X6_within _ _ (x := x) (y := 0) (z := 5) (by first | assumption | exact hi _ | exact ha _ _ | (unfold zb; omega)) (by first | assumption | exact hi _ | exact ha _ _ | (unfold zb; omega)) (by first | assumption | exact hi _ | exact ha _ _ | (unfold zb; omega))) rfl (Nat.le_of_ble_eq_true rfl) ⟨by omega, by omega⟩ ⟨by omega, by omega⟩ (fun r_ h_ sz_ q_ z_ => ?_)
  obtain ⟨rfl, rfl, rfl⟩ := q_
  have hb0 := @bI_0 (0 ≤ x ∧ x ≤ 5) _
  have hb1 := @bI_1 (0 ≤ x ∧ x ≤ 5) _
  have hbb := bI_bd (0 ≤ x ∧ x ≤ 5)
  refine z_if_eq (tgt := 25) hc dX4_hasMood_6 (by decide) (by first | assumption | exact hi _ | exact ha _ _ | (unfold zb; omega)) (fun c_1 => ?_) (fun c_1 => ?_)
  · refine z_iconst hc dX4_hasMood_25 ?_
    refine z_zret M (by omega) dX4_hasMood_26 (by omega) (by omega) ?_
    first | exact ⟨by rw [bI, if_pos (by omega)], rfl, rfl⟩ | exact ⟨by rw [bI, if_neg (by omega)], rfl, rfl⟩
  · have hq := b_div_bd (x := i 1) (y := 2 ^ x.toNat) (by omega) (by exact Int.pow_pos (by omega))
    refine v_aload_n hc dX4_hasMood_9 rfl ?_
    refine r_get hc ho dX4_hasMood_10 F_X4_28 hO rfl ?_
    refine v_iload_n hc dX4_hasMood_13 rfl ?_
    refine v_ishr hc dX4_hasMood_14 (zI_shr (by omega) (by omega) (by omega) (by omega)) ?_
    refine z_iconst hc dX4_hasMood_15 ?_
    refine v_iand hc dX4_hasMood_16 (zI_and1 (by omega) (by omega)) ?_
    refine z_iconst hc dX4_hasMood_17 ?_
    refine z_icmp_ne (tgt := 25) hc dX4_hasMood_18 (by decide) (by first | assumption | exact hi _ | exact ha _ _ | (unfold zb; omega)) (by first | assumption | exact hi _ | exact ha _ _ | (unfold zb; omega)) (fun c_2 => ?_) (fun c_2 => ?_)
    · refine z_iconst hc dX4_hasMood_25 ?_
      refine z_zret M (by omega) dX4_hasMood_26 (by omega) (by omega) ?_
      first | exact ⟨by rw [bI, if_pos (by omega)], rfl, rfl⟩ | exact ⟨by rw [bI, if_neg (by omega)], rfl, rfl⟩
    · refine z_iconst hc dX4_hasMood_21 ?_
      refine v_goto (tgt := 26) hc dX4_hasMood_22 (by decide) ?_
      refine z_zret M (by omega) dX4_hasMood_26 (by omega) (by omega) ?_
      first | exact ⟨by rw [bI, if_pos (by omega)], rfl, rfl⟩ | exact ⟨by rw [bI, if_neg (by omega)], rfl, rfl⟩
set_option maxHeartbeats 4000000 in
theorem l_X4_leader_22 {S : b_S} {l : Launch} {G : b_G} {o : Nat} {ad : Nat → Nat} {i : Nat → Int} {a : Nat → Nat → Int} {h : b_H} {sz : Nat} {post : Option Value → b_H → Nat → Prop} (M : b_M S l G RX4 cX4_leader 7 (some .int) "leader" 1 22 0 0 h sz post) (hO : r_O K4 4 o ad i a h) (hI : q_I i a) {s b : Int} (hs : 0 ≤ s ∧ s ≤ 255) (hb : 1 ≤ b ∧ b ≤ 400) (P : post (some (.int (zI (q_lx (fun j => a 12 (b.toNat * 8 + j)) s (i 4).toNat)))) h sz) : ∀ (d : Nat) (r t x : Int) (x6 : Option Value), ((i 4 - x).toNat = d) → (0 ≤ x) → (x ≤ i 4) → (r = q_lx (fun j => a 12 (b.toNat * 8 + j)) s x.toNat) → (t = q_lm (fun j => a 12 (b.toNat * 8 + j)) s x.toNat) → V S 0 0 h sz 22 [some (.ref o), some (.int (zI s)), some (.int (zI b)), some (.int (zI r)), some (.int (zI t)), some (.int (zI x)), x6] [] := by
  have hc := M.2.2.2.1
  have ho : s_own S = RX4 := M.2.2.1
  have hFr : (s_R S).frames = 1 := by rw [M.2.2.2.2.2.2.2.1]
  have hLo : (s_R S).locals = 22 := by rw [M.2.2.2.2.2.2.2.1]
  have hCe : (s_R S).cells = 0 := by rw [M.2.2.2.2.2.2.2.1]
  have hSl : (s_R S).slots = 0 := by rw [M.2.2.2.2.2.2.2.1]
  have hi := hO.2.2.2.1
  have ha := hO.2.2.2.2
  obtain ⟨hIb, hIe, hIx, hIsf, hImd, hIbt, hInx, hIfw, hIln⟩ := id hI
  intro d
  induction d using Nat.strongRecOn with
  | ind d ih =>
    intro r t x x6 hd h0 h1 hr hm
    have hlb := q_lm_bd (f := (fun j => a 12 (b.toNat * 8 + j))) (fun j => hIfw _) s x.toNat
    rw [← hm] at hlb
    have hq := b_div_bd (x := s) (y := 2 ^ x.toNat) (by omega) (by exact Int.pow_pos (by omega))
    have hfx := hIfw (b * 8 + x).toNat
    refine v_iload hc dX4_leader_22 rfl ?_
    refine v_aload_n hc dX4_leader_24 rfl ?_
    refine r_get hc ho dX4_leader_25 F_X4_56 hO rfl ?_
    refine z_icmp_ge (tgt := 75) hc dX4_leader_28 (by decide) (by first | assumption | exact hi _ | exact ha _ _ | (unfold zb; omega)) (by first | assumption | exact hi _ | exact ha _ _ | (unfold zb; omega)) (fun c_1 => ?_) (fun c_1 => ?_)
    · refine v_iload_n hc dX4_leader_75 rfl ?_
      refine z_iret M dX4_leader_76 (by omega) (by omega) ?_
      rw [hr, show x = i 4 by omega]
      exact P
    · refine v_aload_n hc dX4_leader_31 rfl ?_
      refine r_getA hc ho dX4_leader_32 F_X4_18 hO rfl ?_
      refine v_iload_n hc dX4_leader_35 rfl ?_
      refine z_bipush hc dX4_leader_36 (by decide) ?_
      refine z_imul hc dX4_leader_38 ?_
      refine v_iload hc dX4_leader_39 rfl ?_
      refine z_iadd hc dX4_leader_41 ?_
      refine r_iald hc dX4_leader_42 hO 12 rfl (by decide) (by omega) (by omega) ?_
      refine v_istore hc dX4_leader_43 (Nat.le_of_ble_eq_true rfl) ?_
      refine v_iload_n hc dX4_leader_45 rfl ?_
      refine v_iload hc dX4_leader_46 rfl ?_
      refine v_ishr hc dX4_leader_48 (zI_shr (by omega) (by omega) (by omega) (by omega)) ?_
      refine z_iconst hc dX4_leader_49 ?_
      refine v_iand hc dX4_leader_50 (zI_and1 (by omega) (by omega)) ?_
      refine z_iconst hc dX4_leader_51 ?_
      refine z_icmp_ne (tgt := 69) hc dX4_leader_52 (by decide) (by first | assumption | exact hi _ | exact ha _ _ | (unfold zb; omega)) (by first | assumption | exact hi _ | exact ha _ _ | (unfold zb; omega)) (fun c_2 => ?_) (fun c_2 => ?_)
      · refine z_iinc hc dX4_leader_69 rfl ?_
        refine v_goto (tgt := 22) hc dX4_leader_72 (by decide) ?_
        exact ih _ (by omega) _ _ _ _ rfl (by omega) (by omega) (by rw [show (x + 1).toNat = x.toNat + 1 by omega, q_lx, ← hm, ← hr, show b.toNat * 8 + x.toNat = (b * 8 + x).toNat by omega]; split <;> omega) (by rw [show (x + 1).toNat = x.toNat + 1 by omega, q_lm, ← hm, show b.toNat * 8 + x.toNat = (b * 8 + x).toNat by omega]; split <;> omega)
      · refine v_iload hc dX4_leader_55 rfl ?_
        refine v_iload hc dX4_leader_57 rfl ?_
        refine z_icmp_ge (tgt := 69) hc dX4_leader_59 (by decide) (by first | assumption | exact hi _ | exact ha _ _ | (unfold zb; omega)) (by first | assumption | exact hi _ | exact ha _ _ | (unfold zb; omega)) (fun c_3 => ?_) (fun c_3 => ?_)
        · refine z_iinc hc dX4_leader_69 rfl ?_
          refine v_goto (tgt := 22) hc dX4_leader_72 (by decide) ?_
          exact ih _ (by omega) _ _ _ _ rfl (by omega) (by omega) (by rw [show (x + 1).toNat = x.toNat + 1 by omega, q_lx, ← hm, ← hr, show b.toNat * 8 + x.toNat = (b * 8 + x).toNat by omega]; split <;> omega) (by rw [show (x + 1).toNat = x.toNat + 1 by omega, q_lm, ← hm, show b.toNat * 8 + x.toNat = (b * 8 + x).toNat by omega]; split <;> omega)
        · refine v_iload hc dX4_leader_62 rfl ?_
          refine v_istore hc dX4_leader_64 (Nat.le_of_ble_eq_true rfl) ?_
          refine v_iload hc dX4_leader_66 rfl ?_
          refine v_istore_n hc dX4_leader_68 (Nat.le_of_ble_eq_true rfl) ?_
          refine z_iinc hc dX4_leader_69 rfl ?_
          refine v_goto (tgt := 22) hc dX4_leader_72 (by decide) ?_
          exact ih _ (by omega) _ _ _ _ rfl (by omega) (by omega) (by rw [show (x + 1).toNat = x.toNat + 1 by omega, q_lx, ← hm, ← hr, show b.toNat * 8 + x.toNat = (b * 8 + x).toNat by omega]; split <;> omega) (by rw [show (x + 1).toNat = x.toNat + 1 by omega, q_lm, ← hm, show b.toNat * 8 + x.toNat = (b * 8 + x).toNat by omega]; split <;> omega)
set_option maxHeartbeats 4000000 in
theorem c_X4_leader (l : Launch) (G : b_G) {o : Nat} {ad : Nat → Nat} {i : Nat → Int} {a : Nat → Nat → Int} {h : b_H} {sz : Nat} (hO : r_O K4 4 o ad i a h) (hI : q_I i a) {s b : Int} (hs : 0 ≤ s ∧ s ≤ 255) (hb : 1 ≤ b ∧ b ≤ 400) : Con l G yX4_leader cX4_leader 7 (some .int) 1 22 0 0 [.ref o, .int (zI s), .int (zI b)] h sz (p_ro (some (.int (zI (q_lx (fun j => a 12 (b.toNat * 8 + j)) s (i 4).toNat)))) h sz) := by
  refine Con.ofK (by decide +kernel) rfl rfl ?_
  intro S M
  have hc := M.2.2.2.1
  have ho : s_own S = RX4 := M.2.2.1
  have hFr : (s_R S).frames = 1 := by rw [M.2.2.2.2.2.2.2.1]
  have hLo : (s_R S).locals = 22 := by rw [M.2.2.2.2.2.2.2.1]
  have hCe : (s_R S).cells = 0 := by rw [M.2.2.2.2.2.2.2.1]
  have hSl : (s_R S).slots = 0 := by rw [M.2.2.2.2.2.2.2.1]
  have hi := hO.2.2.2.1
  have ha := hO.2.2.2.2
  obtain ⟨hIb, hIe, hIx, hIsf, hImd, hIbt, hInx, hIfw, hIln⟩ := id hI
  refine z_iconst hc dX4_leader_0 ?_
  refine v_istore_n hc dX4_leader_1 (Nat.le_of_ble_eq_true rfl) ?_
  refine z_bipush hc dX4_leader_2 (by decide) ?_
  refine v_istore hc dX4_leader_4 (Nat.le_of_ble_eq_true rfl) ?_
  refine v_iload_n hc dX4_leader_6 rfl ?_
  refine z_iconst hc dX4_leader_7 ?_
  refine z_sipush hc dX4_leader_8 (by decide) ?_
  refine v_callSN (As := [.int (zI (b)), .int (zI (1)), .int (zI (400))]) hc ho dX4_leader_11 KSN_X4_68 KB_X6_within (c_X6_within _ _ (x := b) (y := 1) (z := 400) (by first | assumption | exact hi _ | exact ha _ _ | (unfold zb; omega)) (by first | assumption | exact hi _ | exact ha _ _ | (unfold zb; omega)) (by first | assumption | exact hi _ | exact ha _ _ | (unfold zb; omega))) rfl (Nat.le_of_ble_eq_true rfl) ⟨by omega, by omega⟩ ⟨by omega, by omega⟩ (fun r_ h_ sz_ q_ z_ => ?_)
  obtain ⟨rfl, rfl, rfl⟩ := q_
  have hb0 := @bI_0 (1 ≤ b ∧ b ≤ 400) _
  have hb1 := @bI_1 (1 ≤ b ∧ b ≤ 400) _
  have hbb := bI_bd (1 ≤ b ∧ b ≤ 400)
  refine z_if_ne (tgt := 19) hc dX4_leader_14 (by decide) (by first | assumption | exact hi _ | exact ha _ _ | (unfold zb; omega)) (fun c_1 => ?_) (fun c_1 => absurd c_1 (fun q => by have := hb0.mp q; omega))
  refine z_iconst hc dX4_leader_19 ?_
  refine v_istore hc dX4_leader_20 (Nat.le_of_ble_eq_true rfl) ?_
  exact l_X4_leader_22 M hO hI hs hb ⟨rfl, rfl, rfl⟩ _ _ _ _ _ rfl (by omega) (by omega) rfl rfl
set_option maxHeartbeats 4000000 in
theorem c_X4_fewestAmong (l : Launch) (G : b_G) {o : Nat} {ad : Nat → Nat} {i : Nat → Int} {a : Nat → Nat → Int} {h : b_H} {sz : Nat} (hO : r_O K4 4 o ad i a h) (hI : q_I i a) {s b : Int} (hs : 0 ≤ s ∧ s ≤ 255) (hb : 1 ≤ b ∧ b ≤ 400) : Con l G yX4_fewestAmong cX4_fewestAmong 4 (some .int) 2 48 0 0 [.ref o, .int (zI s), .int (zI b)] h sz (p_ro (some (.int (zI (q_lm (fun j => a 12 (b.toNat * 8 + j)) s (i 4).toNat)))) h sz) := by
  refine Con.ofK (by decide +kernel) rfl rfl ?_
  intro S M
  have hc := M.2.2.2.1
  have ho : s_own S = RX4 := M.2.2.1
  have hFr : (s_R S).frames = 2 := by rw [M.2.2.2.2.2.2.2.1]
  have hLo : (s_R S).locals = 48 := by rw [M.2.2.2.2.2.2.2.1]
  have hCe : (s_R S).cells = 0 := by rw [M.2.2.2.2.2.2.2.1]
  have hSl : (s_R S).slots = 0 := by rw [M.2.2.2.2.2.2.2.1]
  have hi := hO.2.2.2.1
  have ha := hO.2.2.2.2
  obtain ⟨hIb, hIe, hIx, hIsf, hImd, hIbt, hInx, hIfw, hIln⟩ := id hI
  refine v_aload_n hc dX4_fewestAmong_0 rfl ?_
  refine v_iload_n hc dX4_fewestAmong_1 rfl ?_
  refine v_iload_n hc dX4_fewestAmong_2 rfl ?_
  refine v_callV (As := [.int (zI s), .int (zI b)]) hc ho dX4_fewestAmong_3 KV_X4_76 KB_X4_leader hO.1 rfl rfl (c_X4_leader _ _ hO hI hs hb) rfl (Nat.le_of_ble_eq_true rfl) ⟨by omega, by omega⟩ ⟨by omega, by omega⟩ (fun r_ h_ sz_ q_ z_ => ?_)
  obtain ⟨rfl, rfl, rfl⟩ := q_
  have hx1 := q_lx_bd (fun j => a 12 (b.toNat * 8 + j)) s (i 4).toNat
  have hx2 := q_lx_lm (fun j => a 12 (b.toNat * 8 + j)) s (i 4).toNat
  have hx0 : (i 4).toNat = 0 → q_lx (fun j => a 12 (b.toNat * 8 + j)) s (i 4).toNat = -1 := fun q => by rw [q]; rfl
  refine v_istore_n hc dX4_fewestAmong_6 (Nat.le_of_ble_eq_true rfl) ?_
  refine v_iload_n hc dX4_fewestAmong_7 rfl ?_
  refine z_if_ge (tgt := 16) hc dX4_fewestAmong_8 (by decide) (by first | assumption | exact hi _ | exact ha _ _ | (unfold zb; omega)) (fun c_1 => ?_) (fun c_1 => ?_)
  · refine v_aload_n hc dX4_fewestAmong_16 rfl ?_
    refine r_getA hc ho dX4_fewestAmong_17 F_X4_18 hO rfl ?_
    refine v_iload_n hc dX4_fewestAmong_20 rfl ?_
    refine z_bipush hc dX4_fewestAmong_21 (by decide) ?_
    refine z_imul hc dX4_fewestAmong_23 ?_
    refine v_iload_n hc dX4_fewestAmong_24 rfl ?_
    refine z_iadd hc dX4_fewestAmong_25 ?_
    refine r_iald hc dX4_fewestAmong_26 hO 12 rfl (by decide) (by omega) (by omega) ?_
    refine z_iret M dX4_fewestAmong_27 (by omega) (by omega) ?_
    first | exact ⟨by rw [hx2.1 (by omega)], rfl, rfl⟩ | exact ⟨by rw [← hx2.2 (by omega), show (b * 8 + q_lx (fun j => a 12 (b.toNat * 8 + j)) s (i 4).toNat).toNat = b.toNat * 8 + (q_lx (fun j => a 12 (b.toNat * 8 + j)) s (i 4).toNat).toNat by omega], rfl, rfl⟩
  · refine z_bipush hc dX4_fewestAmong_11 (by decide) ?_
    refine v_goto (tgt := 27) hc dX4_fewestAmong_13 (by decide) ?_
    refine z_iret M dX4_fewestAmong_27 (by omega) (by omega) ?_
    first | exact ⟨by rw [hx2.1 (by omega)], rfl, rfl⟩ | exact ⟨by rw [← hx2.2 (by omega), show (b * 8 + q_lx (fun j => a 12 (b.toNat * 8 + j)) s (i 4).toNat).toNat = b.toNat * 8 + (q_lx (fun j => a 12 (b.toNat * 8 + j)) s (i 4).toNat).toNat by omega], rfl, rfl⟩
/-- the fewest blocks from block x on with b beats, by those of fewer beats -/
def q_ff (nb : Nat) (B N : Nat → Int) (X : Int) (F : Nat → Int) (x : Nat) (b : Int) : Int := if b - B x < 0 then 17 else if b - B x = 0 then (if X / 2 ^ x % 2 = 1 then 1 else 17) else min 17 (1 + q_lm (fun j => F ((b - B x).toNat * 8 + j)) (N x) nb)

set_option maxHeartbeats 4000000 in
theorem c_X4_fewestFrom (l : Launch) (G : b_G) {o : Nat} {ad : Nat → Nat} {i : Nat → Int} {a : Nat → Nat → Int} {h : b_H} {sz : Nat} (hO : r_O K4 4 o ad i a h) (hI : q_I i a) {x b : Int} (hx : 0 ≤ x ∧ x ≤ 7) (hb : 1 ≤ b ∧ b ≤ 400) : Con l G yX4_fewestFrom cX4_fewestFrom 4 (some .int) 3 71 0 0 [.ref o, .int (zI x), .int (zI b)] h sz (p_ro (some (.int (zI (q_ff (i 4).toNat (a 8) (a 9) (i 11) (a 12) x.toNat b)))) h sz) := by
  refine Con.ofK (by decide +kernel) rfl rfl ?_
  intro S M
  have hc := M.2.2.2.1
  have ho : s_own S = RX4 := M.2.2.1
  have hFr : (s_R S).frames = 3 := by rw [M.2.2.2.2.2.2.2.1]
  have hLo : (s_R S).locals = 71 := by rw [M.2.2.2.2.2.2.2.1]
  have hCe : (s_R S).cells = 0 := by rw [M.2.2.2.2.2.2.2.1]
  have hSl : (s_R S).slots = 0 := by rw [M.2.2.2.2.2.2.2.1]
  have hi := hO.2.2.2.1
  have ha := hO.2.2.2.2
  obtain ⟨hIb, hIe, hIx, hIsf, hImd, hIbt, hInx, hIfw, hIln⟩ := id hI
  refine v_iload_n hc dX4_fewestFrom_0 rfl ?_
  refine v_aload_n hc dX4_fewestFrom_1 rfl ?_
  refine v_iload_n hc dX4_fewestFrom_2 rfl ?_
  refine v_callV (As := [.int (zI x)]) hc ho dX4_fewestFrom_3 KV_X4_79 KB_X4_beatsOf hO.1 rfl rfl (c_X4_beatsOf _ _ hO hI (x := x) (by unfold zb; omega)) rfl (Nat.le_of_ble_eq_true rfl) ⟨by omega, by omega⟩ ⟨by omega, by omega⟩ (fun r_ h_ sz_ q_ z_ => ?_)
  obtain ⟨rfl, rfl, rfl⟩ := q_
  rw [if_pos hx]
  have hbx := hIbt x.toNat
  refine z_isub hc dX4_fewestFrom_6 ?_
  refine v_istore_n hc dX4_fewestFrom_7 (Nat.le_of_ble_eq_true rfl) ?_
  refine v_iload_n hc dX4_fewestFrom_8 rfl ?_
  refine z_if_ge (tgt := 15) hc dX4_fewestFrom_9 (by decide) (by first | assumption | exact hi _ | exact ha _ _ | (unfold zb; omega)) (fun c_1 => ?_) (fun c_1 => ?_)
  · refine v_iload_n hc dX4_fewestFrom_15 rfl ?_
    refine z_if_ne (tgt := 34) hc dX4_fewestFrom_16 (by decide) (by first | assumption | exact hi _ | exact ha _ _ | (unfold zb; omega)) (fun c_2 => ?_) (fun c_2 => ?_)
    · refine z_bipush hc dX4_fewestFrom_34 (by decide) ?_
      refine z_iconst hc dX4_fewestFrom_36 ?_
      refine v_aload_n hc dX4_fewestFrom_37 rfl ?_
      refine v_aload_n hc dX4_fewestFrom_38 rfl ?_
      refine v_iload_n hc dX4_fewestFrom_39 rfl ?_
      refine v_callV (As := [.int (zI x)]) hc ho dX4_fewestFrom_40 KV_X4_82 KB_X4_nextOf hO.1 rfl rfl (c_X4_nextOf _ _ hO hI (x := x) (by unfold zb; omega)) rfl (Nat.le_of_ble_eq_true rfl) ⟨by omega, by omega⟩ ⟨by omega, by omega⟩ (fun r_ h_ sz_ q_ z_ => ?_)
      obtain ⟨rfl, rfl, rfl⟩ := q_
      rw [if_pos hx]
      refine v_iload_n hc dX4_fewestFrom_43 rfl ?_
      refine v_callV (As := [.int (zI (a 9 x.toNat)), .int (zI (b - a 8 x.toNat))]) hc ho dX4_fewestFrom_44 KV_X4_88 KB_X4_fewestAmong hO.1 rfl rfl (c_X4_fewestAmong _ _ hO hI (s := a 9 x.toNat) (b := b - a 8 x.toNat) (hInx _) (by omega)) rfl (Nat.le_of_ble_eq_true rfl) ⟨by omega, by omega⟩ ⟨by omega, by omega⟩ (fun r_ h_ sz_ q_ z_ => ?_)
      obtain ⟨rfl, rfl, rfl⟩ := q_
      have hlm := q_lm_bd (f := (fun j => a 12 ((b - a 8 x.toNat).toNat * 8 + j))) (fun j => hIfw _) (a 9 x.toNat) (i 4).toNat
      refine z_iadd hc dX4_fewestFrom_47 ?_
      refine z_min hc ho dX4_fewestFrom_48 MM_X4_95 (by first | assumption | exact hi _ | exact ha _ _ | (unfold zb; omega)) (by first | assumption | exact hi _ | exact ha _ _ | (unfold zb; omega)) (by omega) (by rw [hLo]; exact Nat.le_of_ble_eq_true rfl) (by omega) (by omega) ?_
      refine z_iret M dX4_fewestFrom_51 (by omega) (by omega) ?_
      exact ⟨by rw [q_ff, if_neg (by omega), if_neg (by omega)], rfl, rfl⟩
    · refine v_aload_n hc dX4_fewestFrom_19 rfl ?_
      refine v_iload_n hc dX4_fewestFrom_20 rfl ?_
      refine v_callV (As := [.int (zI x)]) hc ho dX4_fewestFrom_21 KV_X4_91 KB_X4_isExit hO.1 rfl rfl (c_X4_isExit _ _ hO hI (x := x) (by unfold zb; omega)) rfl (Nat.le_of_ble_eq_true rfl) ⟨by omega, by omega⟩ ⟨by omega, by omega⟩ (fun r_ h_ sz_ q_ z_ => ?_)
      obtain ⟨rfl, rfl, rfl⟩ := q_
      have hb0 := @bI_0 ((0 ≤ x ∧ x ≤ 7) ∧ i 11 / 2 ^ x.toNat % 2 = 1) _
      have hb1 := @bI_1 ((0 ≤ x ∧ x ≤ 7) ∧ i 11 / 2 ^ x.toNat % 2 = 1) _
      have hbb := bI_bd ((0 ≤ x ∧ x ≤ 7) ∧ i 11 / 2 ^ x.toNat % 2 = 1)
      refine z_if_eq (tgt := 31) hc dX4_fewestFrom_24 (by decide) (by first | assumption | exact hi _ | exact ha _ _ | (unfold zb; omega)) (fun c_3 => ?_) (fun c_3 => ?_)
      · refine z_bipush hc dX4_fewestFrom_31 (by decide) ?_
        refine z_iret M dX4_fewestFrom_33 (by omega) (by omega) ?_
        first | exact ⟨by rw [q_ff, if_neg (by omega), if_pos (by omega), if_pos (by omega)], rfl, rfl⟩ | exact ⟨by rw [q_ff, if_neg (by omega), if_pos (by omega), if_neg (by omega)], rfl, rfl⟩
      · refine z_iconst hc dX4_fewestFrom_27 ?_
        refine v_goto (tgt := 33) hc dX4_fewestFrom_28 (by decide) ?_
        refine z_iret M dX4_fewestFrom_33 (by omega) (by omega) ?_
        first | exact ⟨by rw [q_ff, if_neg (by omega), if_pos (by omega), if_pos (by omega)], rfl, rfl⟩ | exact ⟨by rw [q_ff, if_neg (by omega), if_pos (by omega), if_neg (by omega)], rfl, rfl⟩
  · refine z_bipush hc dX4_fewestFrom_12 (by decide) ?_
    refine z_iret M dX4_fewestFrom_14 (by omega) (by omega) ?_
    exact ⟨by rw [q_ff, if_pos (by omega)], rfl, rfl⟩
def q_hd (s f b t : Int) : Int := max (600 * b / f) (min (600 * b / s) t)
set_option maxHeartbeats 4000000 in
theorem c_X4_held (l : Launch) (G : b_G) {o : Nat} {ad : Nat → Nat} {i : Nat → Int} {a : Nat → Nat → Int} {h : b_H} {sz : Nat} (hO : r_O K4 4 o ad i a h) (hI : q_I i a) {b t : Int} (hb : 0 ≤ b ∧ b ≤ 400) (ht : 0 ≤ t ∧ t ≤ 100000) : Con l G yX4_held cX4_held 3 (some .int) 1 21 0 0 [.ref o, .int (zI b), .int (zI t)] h sz (p_ro (some (.int (zI (q_hd (i 6) (i 7) b t)))) h sz) := by
  refine Con.ofK (by decide +kernel) rfl rfl ?_
  intro S M
  have hc := M.2.2.2.1
  have ho : s_own S = RX4 := M.2.2.1
  have hFr : (s_R S).frames = 1 := by rw [M.2.2.2.2.2.2.2.1]
  have hLo : (s_R S).locals = 21 := by rw [M.2.2.2.2.2.2.2.1]
  have hCe : (s_R S).cells = 0 := by rw [M.2.2.2.2.2.2.2.1]
  have hSl : (s_R S).slots = 0 := by rw [M.2.2.2.2.2.2.2.1]
  have hi := hO.2.2.2.1
  have ha := hO.2.2.2.2
  obtain ⟨hIb, hIe, hIx, hIsf, hImd, hIbt, hInx, hIfw, hIln⟩ := id hI
  have hlo := b_div_bd (x := 600 * b) (y := i 7) (by omega) (by omega)
  have hhi := b_div_bd (x := 600 * b) (y := i 6) (by omega) (by omega)
  refine z_sipush hc dX4_held_0 (by decide) ?_
  refine v_iload_n hc dX4_held_3 rfl ?_
  refine z_imul hc dX4_held_4 ?_
  refine v_aload_n hc dX4_held_5 rfl ?_
  refine r_get hc ho dX4_held_6 F_X4_40 hO rfl ?_
  refine z_idivN hc dX4_held_9 (by first | assumption | exact hi _ | exact ha _ _ | (unfold zb; omega)) (by first | assumption | exact hi _ | exact ha _ _ | (unfold zb; omega)) (by omega) (by omega) ?_
  refine z_sipush hc dX4_held_10 (by decide) ?_
  refine v_iload_n hc dX4_held_13 rfl ?_
  refine z_imul hc dX4_held_14 ?_
  refine v_aload_n hc dX4_held_15 rfl ?_
  refine r_get hc ho dX4_held_16 F_X4_37 hO rfl ?_
  refine z_idivN hc dX4_held_19 (by first | assumption | exact hi _ | exact ha _ _ | (unfold zb; omega)) (by first | assumption | exact hi _ | exact ha _ _ | (unfold zb; omega)) (by omega) (by omega) ?_
  refine v_iload_n hc dX4_held_20 rfl ?_
  refine z_min hc ho dX4_held_21 MM_X4_95 (by first | assumption | exact hi _ | exact ha _ _ | (unfold zb; omega)) (by first | assumption | exact hi _ | exact ha _ _ | (unfold zb; omega)) (by omega) (by rw [hLo]; exact Nat.le_of_ble_eq_true rfl) (by omega) (by omega) ?_
  refine z_max hc ho dX4_held_24 MM_X4_31 (by first | assumption | exact hi _ | exact ha _ _ | (unfold zb; omega)) (by first | assumption | exact hi _ | exact ha _ _ | (unfold zb; omega)) (by omega) (by rw [hLo]; exact Nat.le_of_ble_eq_true rfl) (by omega) (by omega) ?_
  refine z_iret M dX4_held_27 (by omega) (by omega) ?_
  exact ⟨rfl, rfl, rfl⟩
def q_ms (s f b t : Int) : Int := if 0 ≤ t - q_hd s f b t then t - q_hd s f b t else -(t - q_hd s f b t)
theorem q_hd_bd {s f b t : Int} (hs : 0 < s) (hf : 0 < f) (hb : 0 ≤ b) (hb2 : b ≤ 400) (ht : 0 ≤ t) (ht2 : t ≤ 100000) : 0 ≤ q_hd s f b t ∧ q_hd s f b t ≤ 240000 := by
  have hlo := b_div_bd (x := 600 * b) (y := f) (by omega) hf
  have hhi := b_div_bd (x := 600 * b) (y := s) (by omega) hs
  unfold q_hd; omega

set_option maxHeartbeats 4000000 in
theorem c_X4_misses (l : Launch) (G : b_G) {o : Nat} {ad : Nat → Nat} {i : Nat → Int} {a : Nat → Nat → Int} {h : b_H} {sz : Nat} (hO : r_O K4 4 o ad i a h) (hI : q_I i a) {b t : Int} (hb : 0 ≤ b ∧ b ≤ 400) (ht : 0 ≤ t ∧ t ≤ 100000) : Con l G yX4_misses cX4_misses 3 (some .int) 2 43 0 0 [.ref o, .int (zI b), .int (zI t)] h sz (p_ro (some (.int (zI (q_ms (i 6) (i 7) b t)))) h sz) := by
  refine Con.ofK (by decide +kernel) rfl rfl ?_
  intro S M
  have hc := M.2.2.2.1
  have ho : s_own S = RX4 := M.2.2.1
  have hFr : (s_R S).frames = 2 := by rw [M.2.2.2.2.2.2.2.1]
  have hLo : (s_R S).locals = 43 := by rw [M.2.2.2.2.2.2.2.1]
  have hCe : (s_R S).cells = 0 := by rw [M.2.2.2.2.2.2.2.1]
  have hSl : (s_R S).slots = 0 := by rw [M.2.2.2.2.2.2.2.1]
  have hi := hO.2.2.2.1
  have ha := hO.2.2.2.2
  obtain ⟨hIb, hIe, hIx, hIsf, hImd, hIbt, hInx, hIfw, hIln⟩ := id hI
  refine v_iload_n hc dX4_misses_0 rfl ?_
  refine v_aload_n hc dX4_misses_1 rfl ?_
  refine v_iload_n hc dX4_misses_2 rfl ?_
  refine v_iload_n hc dX4_misses_3 rfl ?_
  refine v_callV (As := [.int (zI b), .int (zI t)]) hc ho dX4_misses_4 KV_X4_98 KB_X4_held hO.1 rfl rfl (c_X4_held _ _ hO hI hb ht) rfl (Nat.le_of_ble_eq_true rfl) ⟨by omega, by omega⟩ ⟨by omega, by omega⟩ (fun r_ h_ sz_ q_ z_ => ?_)
  obtain ⟨rfl, rfl, rfl⟩ := q_
  have hh := q_hd_bd (s := i 6) (f := i 7) (by omega) (by omega) hb.1 hb.2 ht.1 ht.2
  refine z_isub hc dX4_misses_7 ?_
  refine z_abs hc ho dX4_misses_8 MM_X4_101 (by first | assumption | exact hi _ | exact ha _ _ | (unfold zb; omega)) (by omega) (by rw [hLo]; exact Nat.le_of_ble_eq_true rfl) (by omega) (by omega) ?_
  refine z_iret M dX4_misses_11 (by omega) (by omega) ?_
  exact ⟨rfl, rfl, rfl⟩
/-- of those that have a way the first of the least misfit -/
def q_bt (hw : Nat → Prop) [DecidablePred hw] (ms : Int → Int) : Nat → Int
  | 0 => -2
  | b + 1 => if hw (b + 1) ∧ (q_bt hw ms b = -2 ∨ ms ((b : Int) + 1) < ms (q_bt hw ms b)) then (b : Int) + 1 else q_bt hw ms b
theorem q_bt_bd (hw : Nat → Prop) [DecidablePred hw] (ms : Int → Int) : ∀ b : Nat, q_bt hw ms b = -2 ∨ (1 ≤ q_bt hw ms b ∧ q_bt hw ms b ≤ b)
  | 0 => by simp [q_bt]
  | b + 1 => by
    have h := q_bt_bd hw ms b
    rw [q_bt]; split
    · right; push_cast; omega
    · rcases h with h | h
      · exact Or.inl h
      · right; push_cast; omega
theorem q_ms_bd {s f b t : Int} (hs : 0 < s) (hf : 0 < f) (hb : 0 ≤ b) (hb2 : b ≤ 400) (ht : 0 ≤ t) (ht2 : t ≤ 100000) : 0 ≤ q_ms s f b t ∧ q_ms s f b t ≤ 240000 := by
  have h := q_hd_bd hs hf hb hb2 ht ht2
  unfold q_ms; split <;> omega

set_option maxHeartbeats 4000000 in
theorem l_X4_bestBeats_8 {S : b_S} {l : Launch} {G : b_G} {o : Nat} {ad : Nat → Nat} {i : Nat → Int} {a : Nat → Nat → Int} {h : b_H} {sz : Nat} {post : Option Value → b_H → Nat → Prop} (M : b_M S l G RX4 cX4_bestBeats 6 (some .int) "bestBeats" 3 65 0 0 h sz post) (hO : r_O K4 4 o ad i a h) (hI : q_I i a) {t : Int} (ht : 0 ≤ t ∧ t ≤ 100000) (P : post (some (.int (zI (q_bt (fun b => ¬ a 13 b = 17) (fun b => q_ms (i 6) (i 7) b t) 400)))) h sz) : ∀ (d : Nat) (r e x : Int) (x5 : Option Value), ((401 - x).toNat = d) → (1 ≤ x) → (x ≤ 401) → (r = q_bt (fun b => ¬ a 13 b = 17) (fun b => q_ms (i 6) (i 7) b t) (x - 1).toNat) → (r ≠ -2 → e = q_ms (i 6) (i 7) r t) → V S 0 0 h sz 8 [some (.ref o), some (.int (zI t)), some (.int (zI r)), some (.int (zI e)), some (.int (zI x)), x5] [] := by
  have hc := M.2.2.2.1
  have ho : s_own S = RX4 := M.2.2.1
  have hFr : (s_R S).frames = 3 := by rw [M.2.2.2.2.2.2.2.1]
  have hLo : (s_R S).locals = 65 := by rw [M.2.2.2.2.2.2.2.1]
  have hCe : (s_R S).cells = 0 := by rw [M.2.2.2.2.2.2.2.1]
  have hSl : (s_R S).slots = 0 := by rw [M.2.2.2.2.2.2.2.1]
  have hi := hO.2.2.2.1
  have ha := hO.2.2.2.2
  obtain ⟨hIb, hIe, hIx, hIsf, hImd, hIbt, hInx, hIfw, hIln⟩ := id hI
  intro d
  induction d using Nat.strongRecOn with
  | ind d ih =>
    intro r e x x5 hd h0 h1 hr hl
    have hrb := q_bt_bd (fun b => ¬ a 13 b = 17) (fun b => q_ms (i 6) (i 7) b t) (x - 1).toNat
    rw [← hr] at hrb
    refine v_iload hc dX4_bestBeats_8 rfl ?_
    refine z_sipush hc dX4_bestBeats_10 (by decide) ?_
    refine z_icmp_gt (tgt := 61) hc dX4_bestBeats_13 (by decide) (by first | assumption | exact hi _ | exact ha _ _ | (unfold zb; omega)) (by first | assumption | exact hi _ | exact ha _ _ | (unfold zb; omega)) (fun c_1 => ?_) (fun c_1 => ?_)
    · refine v_iload_n hc dX4_bestBeats_61 rfl ?_
      refine z_iret M dX4_bestBeats_62 (by omega) (by omega) ?_
      rw [hr, show x - 1 = 400 by omega]
      exact P
    · refine v_aload_n hc dX4_bestBeats_16 rfl ?_
      refine v_iload hc dX4_bestBeats_17 rfl ?_
      refine v_iload_n hc dX4_bestBeats_19 rfl ?_
      refine v_callV (As := [.int (zI x), .int (zI t)]) hc ho dX4_bestBeats_20 KV_X4_104 KB_X4_misses hO.1 rfl rfl (c_X4_misses _ _ hO hI (b := x) (t := t) (by omega) ht) rfl (Nat.le_of_ble_eq_true rfl) ⟨by omega, by omega⟩ ⟨by omega, by omega⟩ (fun r_ h_ sz_ q_ z_ => ?_)
      obtain ⟨rfl, rfl, rfl⟩ := q_
      have hmb := q_ms_bd (s := i 6) (f := i 7) (b := x) (t := t) (by omega) (by omega) (by omega) (by omega) ht.1 ht.2
      have hln := hIln x.toNat
      refine v_istore hc dX4_bestBeats_23 (Nat.le_of_ble_eq_true rfl) ?_
      refine v_aload_n hc dX4_bestBeats_25 rfl ?_
      refine r_getA hc ho dX4_bestBeats_26 F_X4_21 hO rfl ?_
      refine v_iload hc dX4_bestBeats_29 rfl ?_
      refine r_iald hc dX4_bestBeats_31 hO 13 rfl (by decide) (by omega) (by omega) ?_
      refine z_bipush hc dX4_bestBeats_32 (by decide) ?_
      refine z_icmp_eq (tgt := 55) hc dX4_bestBeats_34 (by decide) (by first | assumption | exact hi _ | exact ha _ _ | (unfold zb; omega)) (by first | assumption | exact hi _ | exact ha _ _ | (unfold zb; omega)) (fun c_2 => ?_) (fun c_2 => ?_)
      · refine z_iinc hc dX4_bestBeats_55 rfl ?_
        refine v_goto (tgt := 8) hc dX4_bestBeats_58 (by decide) ?_
        exact ih _ (by omega) _ _ _ _ rfl (by omega) (by omega) (by rw [show (x + 1 - 1).toNat = (x - 1).toNat + 1 by omega, q_bt, ← hr, show ((x - 1).toNat + 1) = x.toNat by omega, show (((x - 1).toNat : Nat) : Int) + 1 = x by omega]; split <;> omega) (by first | (intro q; exact hl q) | (intro q; omega) | (intro q; rfl))
      · refine v_iload_n hc dX4_bestBeats_37 rfl ?_
        refine z_bipush hc dX4_bestBeats_38 (by decide) ?_
        refine z_icmp_eq (tgt := 49) hc dX4_bestBeats_40 (by decide) (by first | assumption | exact hi _ | exact ha _ _ | (unfold zb; omega)) (by first | assumption | exact hi _ | exact ha _ _ | (unfold zb; omega)) (fun c_3 => ?_) (fun c_3 => ?_)
        · refine v_iload hc dX4_bestBeats_49 rfl ?_
          refine v_istore_n hc dX4_bestBeats_51 (Nat.le_of_ble_eq_true rfl) ?_
          refine v_iload hc dX4_bestBeats_52 rfl ?_
          refine v_istore_n hc dX4_bestBeats_54 (Nat.le_of_ble_eq_true rfl) ?_
          refine z_iinc hc dX4_bestBeats_55 rfl ?_
          refine v_goto (tgt := 8) hc dX4_bestBeats_58 (by decide) ?_
          exact ih _ (by omega) _ _ _ _ rfl (by omega) (by omega) (by rw [show (x + 1 - 1).toNat = (x - 1).toNat + 1 by omega, q_bt, ← hr, show ((x - 1).toNat + 1) = x.toNat by omega, show (((x - 1).toNat : Nat) : Int) + 1 = x by omega]; split <;> omega) (by first | (intro q; exact hl q) | (intro q; omega) | (intro q; rfl))
        · have hmr := q_ms_bd (s := i 6) (f := i 7) (b := r) (t := t) (by omega) (by omega) (by omega) (by omega) ht.1 ht.2
          have hle := hl (by omega)
          refine v_iload hc dX4_bestBeats_43 rfl ?_
          refine v_iload_n hc dX4_bestBeats_45 rfl ?_
          refine z_icmp_ge (tgt := 55) hc dX4_bestBeats_46 (by decide) (by first | assumption | exact hi _ | exact ha _ _ | (unfold zb; omega)) (by first | assumption | exact hi _ | exact ha _ _ | (unfold zb; omega)) (fun c_4 => ?_) (fun c_4 => ?_)
          · refine z_iinc hc dX4_bestBeats_55 rfl ?_
            refine v_goto (tgt := 8) hc dX4_bestBeats_58 (by decide) ?_
            exact ih _ (by omega) _ _ _ _ rfl (by omega) (by omega) (by rw [show (x + 1 - 1).toNat = (x - 1).toNat + 1 by omega, q_bt, ← hr, show ((x - 1).toNat + 1) = x.toNat by omega, show (((x - 1).toNat : Nat) : Int) + 1 = x by omega]; split <;> omega) (by first | (intro q; exact hl q) | (intro q; omega) | (intro q; rfl))
          · refine v_iload hc dX4_bestBeats_49 rfl ?_
            refine v_istore_n hc dX4_bestBeats_51 (Nat.le_of_ble_eq_true rfl) ?_
            refine v_iload hc dX4_bestBeats_52 rfl ?_
            refine v_istore_n hc dX4_bestBeats_54 (Nat.le_of_ble_eq_true rfl) ?_
            refine z_iinc hc dX4_bestBeats_55 rfl ?_
            refine v_goto (tgt := 8) hc dX4_bestBeats_58 (by decide) ?_
            exact ih _ (by omega) _ _ _ _ rfl (by omega) (by omega) (by rw [show (x + 1 - 1).toNat = (x - 1).toNat + 1 by omega, q_bt, ← hr, show ((x - 1).toNat + 1) = x.toNat by omega, show (((x - 1).toNat : Nat) : Int) + 1 = x by omega]; split <;> omega) (by first | (intro q; exact hl q) | (intro q; omega) | (intro q; rfl))
set_option maxHeartbeats 4000000 in
theorem c_X4_bestBeats (l : Launch) (G : b_G) {o : Nat} {ad : Nat → Nat} {i : Nat → Int} {a : Nat → Nat → Int} {h : b_H} {sz : Nat} (hO : r_O K4 4 o ad i a h) (hI : q_I i a) {t : Int} (ht : 0 ≤ t ∧ t ≤ 100000) : Con l G yX4_bestBeats cX4_bestBeats 6 (some .int) 3 65 0 0 [.ref o, .int (zI t)] h sz (p_ro (some (.int (zI (q_bt (fun b => ¬ a 13 b = 17) (fun b => q_ms (i 6) (i 7) b t) 400)))) h sz) := by
  refine Con.ofK (by decide +kernel) rfl rfl ?_
  intro S M
  have hc := M.2.2.2.1
  have ho : s_own S = RX4 := M.2.2.1
  have hFr : (s_R S).frames = 3 := by rw [M.2.2.2.2.2.2.2.1]
  have hLo : (s_R S).locals = 65 := by rw [M.2.2.2.2.2.2.2.1]
  have hCe : (s_R S).cells = 0 := by rw [M.2.2.2.2.2.2.2.1]
  have hSl : (s_R S).slots = 0 := by rw [M.2.2.2.2.2.2.2.1]
  have hi := hO.2.2.2.1
  have ha := hO.2.2.2.2
  obtain ⟨hIb, hIe, hIx, hIsf, hImd, hIbt, hInx, hIfw, hIln⟩ := id hI
  refine z_bipush hc dX4_bestBeats_0 (by decide) ?_
  refine v_istore_n hc dX4_bestBeats_2 (Nat.le_of_ble_eq_true rfl) ?_
  refine z_iconst hc dX4_bestBeats_3 ?_
  refine v_istore_n hc dX4_bestBeats_4 (Nat.le_of_ble_eq_true rfl) ?_
  refine z_iconst hc dX4_bestBeats_5 ?_
  refine v_istore hc dX4_bestBeats_6 (Nat.le_of_ble_eq_true rfl) ?_
  exact l_X4_bestBeats_8 M hO hI ht ⟨rfl, rfl, rfl⟩ _ _ _ _ _ rfl (by omega) (by omega) rfl (fun q => absurd rfl q)
