/-! the planner: the search -/
def c_ms (a : Nat → Nat → Int) : Nat → Nat → Int := fun s p => a 6 (s * 12 + p)
def c_jn (a : Nat → Nat → Int) : Int → Nat → Int := fun l p => if l < 0 then 0 else a 7 (l.toNat * 12 + p)
def c_I (L : Nat) (i : Nat → Int) (a : Nat → Nat → Int) : Prop := (0 ≤ i 2 ∧ i 2 ≤ 8) ∧ (0 ≤ i 3 ∧ i 3 ≤ 12) ∧ (∀ j, -2 ≤ a 6 j ∧ a 6 j ≤ 100000) ∧ (∀ j, 0 ≤ a 7 j ∧ (a 7 j ≤ 594 ∨ a 7 j = 1048575)) ∧ (∃ m : Nat, m ≤ 12 ∧ i 9 = 2 ^ m ∧ ∀ p : Nat, (p : Int) < i 3 → a 8 p = 0 ∨ ∃ k : Nat, k < m ∧ a 8 p = 2 ^ k) ∧ (i 10 = 0 ∨ i 10 = 1) ∧ (i 10 = 1 → ∀ s p : Nat, (s : Int) < i 2 → (p : Int) < i 3 → 0 ≤ a 6 (s * 12 + p) → ¬ a 8 p = 0) ∧ (0 ≤ i 11 ∧ i 11 ≤ 1000) ∧ (∀ j, 0 ≤ a 12 j ∧ a 12 j < (i 11 + 1) * 1048576) ∧ L ≤ 1000000
def c_V (i : Nat → Int) (s used : Int) : Prop := 0 ≤ used ∧ used < i 9 ∧ (i 10 = 1 → c_pc 12 used = s)
def c_pl (i : Nat → Int) (s used last : Int) : Int := ((if i 10 = 1 then 0 else s) * i 9 + used) * 12 + last
def c_K (L : Nat) (i : Nat → Int) (a : Nat → Nat → Int) : Prop := ∀ s used last : Int, 0 ≤ s → s < i 2 → c_V i s used → 0 ≤ last → last < i 3 → c_pl i s used last < L → a 12 (c_pl i s used last).toNat / 1048576 = i 11 → a 12 (c_pl i s used last).toNat % 1048576 = c_L (i 2).toNat (i 3).toNat (c_ms a) (c_jn a) (a 8) ((i 2).toNat - s.toNat) used last
theorem c_inj {S u v y z : Int} (h0 : 0 ≤ u) (h1 : u < S) (h2 : 0 ≤ v) (h3 : v < S) (h : y * S + u = z * S + v) : y = z ∧ u = v := by
  have e1 : (y * S + u) % S = u := by rw [Int.add_comm, Int.add_mul_emod_self_right, Int.emod_eq_of_lt h0 h1]
  have e2 : (z * S + v) % S = v := by rw [Int.add_comm, Int.add_mul_emod_self_right, Int.emod_eq_of_lt h2 h3]
  have e3 : u = v := by rw [← e1, ← e2, h]
  refine ⟨?_, e3⟩
  have e4 : y * S = z * S := by omega
  exact Int.eq_of_mul_eq_mul_right (by omega) e4
theorem c_pl_inj {i : Nat → Int} (h3 : i 3 ≤ 12) (h10 : i 10 = 0 ∨ i 10 = 1) {s used last s' used' last' : Int} (hv : c_V i s used) (hv' : c_V i s' used') (hl : 0 ≤ last) (hl2 : last < i 3) (hl' : 0 ≤ last') (hl2' : last' < i 3) (h : c_pl i s used last = c_pl i s' used' last') : s = s' ∧ used = used' ∧ last = last' := by
  unfold c_pl at h
  obtain ⟨g1, g2⟩ := c_inj hl (by omega : last < 12) hl' (by omega : last' < 12) h
  obtain ⟨g3, g4⟩ := c_inj hv.1 hv.2.1 hv'.1 hv'.2.1 g1
  refine ⟨?_, g4, g2⟩
  rcases h10 with q | q
  · rw [if_neg (by omega), if_neg (by omega)] at g3; exact g3
  · rw [← hv.2.2 q, ← hv'.2.2 q, g4]
theorem c_pw {k : Nat} (hk : k ≤ 12) : (1 : Int) ≤ 2 ^ k ∧ (2 : Int) ^ k ≤ 4096 := by
  have key : ∀ k : Fin 13, (1 : Int) ≤ 2 ^ k.val ∧ (2 : Int) ^ k.val ≤ 4096 := by decide +kernel
  exact key ⟨k, by omega⟩
theorem c_V_nx {L : Nat} {i : Nat → Int} {a : Nat → Nat → Int} (hI : c_I L i a) {s used : Int} {p : Nat} (hv : c_V i s used) (hs : 0 ≤ s ∧ s < i 2) (hp : (p : Int) < i 3) (hm : 0 ≤ a 6 (s.toNat * 12 + p)) (ha : d_an used (a 8 p) = 0) : c_V i (s + 1) (used + a 8 p) := by
  obtain ⟨h2, h3, h6, h7, ⟨m, hm1, hm2, hbt⟩, h10, htl, h11, h12, hL⟩ := id hI
  have hpw := (c_pw hm1).2
  rcases hbt p hp with q | ⟨k, hk, q⟩
  · rw [q, Int.add_zero]
    refine ⟨hv.1, hv.2.1, fun r => ?_⟩
    exact absurd q (htl r s.toNat p (by omega) hp hm)
  · rw [q] at ha ⊢
    have hu := hv.2.1
    rw [hm2] at hu
    have hb := (c_an hv.1 (by omega) (by omega)).mp ha
    have hp0 : (0 : Int) < 2 ^ k := Int.pow_pos (by omega)
    refine ⟨by have := hv.1; omega, by rw [hm2]; exact c_lt hv.1 hu hk hb, fun r => ?_⟩
    rw [c_pc_add 12 used k hv.1 (by omega) hb, hv.2.2 r]
theorem c_bt {L : Nat} {i : Nat → Int} {a : Nat → Nat → Int} (hI : c_I L i a) {p : Nat} (hp : (p : Int) < i 3) : 0 ≤ a 8 p ∧ a 8 p ≤ 4096 ∧ 1 ≤ i 9 ∧ i 9 ≤ 4096 := by
  obtain ⟨h2, h3, h6, h7, ⟨m, hm1, hm2, hbt⟩, h10, htl, h11, h12, hL⟩ := id hI
  have hle : ∀ k : Nat, k ≤ 12 → (1 : Int) ≤ 2 ^ k ∧ (2 : Int) ^ k ≤ 4096 := fun k hk => c_pw hk
  have := hle m hm1
  rcases hbt p hp with q | ⟨k, hk, q⟩
  · omega
  · have := hle k (by omega); omega
theorem c_s9 {L : Nat} {i : Nat → Int} {a : Nat → Nat → Int} (hI : c_I L i a) : 1 ≤ i 9 ∧ i 9 ≤ 4096 := by
  obtain ⟨h2, h3, h6, h7, ⟨m, hm1, hm2, hbt⟩, h10, htl, h11, h12, hL⟩ := id hI
  rw [hm2]
  exact c_pw hm1
theorem c_I_12 {L : Nat} {i : Nat → Int} {a a2 : Nat → Nat → Int} (hI : c_I L i a) (hE : ∀ k, k ≠ 12 → a2 k = a k) (h : ∀ j, 0 ≤ a2 12 j ∧ a2 12 j < (i 11 + 1) * 1048576) : c_I L i a2 := by
  unfold c_I at hI ⊢
  rw [hE 6 (by decide), hE 7 (by decide), hE 8 (by decide)]
  obtain ⟨h2, h3, h6, h7, hm, h10, htl, h11, h12, hL⟩ := hI
  exact ⟨h2, h3, h6, h7, hm, h10, htl, h11, h, hL⟩
theorem c_cong {a a2 : Nat → Nat → Int} (hE : ∀ k, k ≠ 12 → a2 k = a k) : c_ms a2 = c_ms a ∧ c_jn a2 = c_jn a ∧ a2 8 = a 8 := by
  unfold c_ms c_jn
  rw [hE 6 (by decide), hE 7 (by decide), hE 8 (by decide)]
  exact ⟨rfl, rfl, rfl⟩

set_option maxHeartbeats 4000000 in
theorem c_X5_placeOf (l : Launch) (G : b_G) {L : Nat} {o : Nat} {ad : Nat → Nat} {i : Nat → Int} {a : Nat → Nat → Int} {h : b_H} {sz : Nat} (hO : r_O (K5 L) 5 o ad i a h) (hI : c_I L i a) {s u t : Int} (hs : 0 ≤ s ∧ s ≤ 8) (hu : 0 ≤ u ∧ u < i 9) (ht : -1 ≤ t ∧ t ≤ 12) : Con l G yX5_placeOf cX5_placeOf 6 (some .int) 1 22 0 0 [.ref o, .int (zI s), .int (zI u), .int (zI t)] h sz (p_ro (some (.int (zI (if 0 ≤ t ∧ (0 ≤ c_pl i s u t ∧ c_pl i s u t ≤ (L : Int) - 1) then c_pl i s u t else -1)))) h sz) := by
  refine Con.ofK (by decide +kernel) rfl rfl ?_
  intro S M
  have hc := M.2.2.2.1
  have ho : s_own S = RX5 := M.2.2.1
  have hFr : (s_R S).frames = 1 := by rw [M.2.2.2.2.2.2.2.1]
  have hLo : (s_R S).locals = 22 := by rw [M.2.2.2.2.2.2.2.1]
  have hCe : (s_R S).cells = 0 := by rw [M.2.2.2.2.2.2.2.1]
  have hSl : (s_R S).slots = 0 := by rw [M.2.2.2.2.2.2.2.1]
  have hi := hO.2.2.2.1
  have ha := hO.2.2.2.2
  obtain ⟨hI2, hI3, hI6, hI7, hI9, hI10, hItl, hI11, hI12, hIL⟩ := id hI
  have hI9 := c_s9 hI
  refine v_aload_n hc dX5_placeOf_0 rfl ?_
  refine r_get hc ho dX5_placeOf_1 F_X5_113 hO rfl ?_
  refine z_if_eq (tgt := 11) hc dX5_placeOf_4 (by decide) (by first | assumption | exact hi _ | exact ha _ _ | (unfold zb; omega)) (fun c_1 => ?_) (fun c_1 => ?_)
  · skip
    refine v_iload_n hc dX5_placeOf_11 rfl ?_
    refine v_istore hc dX5_placeOf_12 (Nat.le_of_ble_eq_true rfl) ?_
    refine v_iload hc dX5_placeOf_14 rfl ?_
    refine v_aload_n hc dX5_placeOf_16 rfl ?_
    refine r_get hc ho dX5_placeOf_17 F_X5_110 hO rfl ?_
    refine z_imul hc dX5_placeOf_20 ?_
    refine v_iload_n hc dX5_placeOf_21 rfl ?_
    refine z_iadd hc dX5_placeOf_22 ?_
    refine z_bipush hc dX5_placeOf_23 (by decide) ?_
    refine z_imul hc dX5_placeOf_25 ?_
    refine v_iload_n hc dX5_placeOf_26 rfl ?_
    refine z_iadd hc dX5_placeOf_27 ?_
    refine v_istore hc dX5_placeOf_28 (Nat.le_of_ble_eq_true rfl) ?_
    have hys : 0 ≤ (s : Int) * i 9 ∧ (s : Int) * i 9 ≤ 8 * 4096 := ⟨Int.mul_nonneg (by omega) (by omega), Int.mul_le_mul (by omega) (by omega) (by omega) (by omega)⟩
    have hcp : c_pl i s u t = ((s : Int) * i 9 + u) * 12 + t := by rw [c_pl, if_neg (by omega)]
    rw [← hcp]
    refine v_iload_n hc dX5_placeOf_30 rfl ?_
    refine z_if_lt (tgt := 55) hc dX5_placeOf_31 (by decide) (by first | assumption | exact hi _ | exact ha _ _ | (unfold zb; omega)) (fun c_2 => ?_) (fun c_2 => ?_)
    · refine z_iconst hc dX5_placeOf_55 ?_
      refine z_iret M dX5_placeOf_56 (by omega) (by omega) ?_
      first | exact ⟨by rw [if_pos (by omega)], rfl, rfl⟩ | exact ⟨by rw [if_neg (by omega)], rfl, rfl⟩
    · refine v_iload hc dX5_placeOf_34 rfl ?_
      refine z_iconst hc dX5_placeOf_36 ?_
      refine v_aload_n hc dX5_placeOf_37 rfl ?_
      refine r_getA hc ho dX5_placeOf_38 F_X5_34 hO rfl ?_
      refine r_ilen hc dX5_placeOf_41 hO 12 rfl ?_
      refine z_iconst hc dX5_placeOf_42 ?_
      refine z_isub hc dX5_placeOf_43 ?_
      refine v_callSN (As := [.int (zI (c_pl i s u t)), .int (zI 0), .int (zI ((L : Int) - 1))]) hc ho dX5_placeOf_44 KSN_X5_139 KB_X6_within (c_X6_within _ _ (x := c_pl i s u t) (y := 0) (z := (L : Int) - 1) (by unfold zb; omega) (by unfold zb; omega) (by unfold zb; omega)) rfl (Nat.le_of_ble_eq_true rfl) ⟨by omega, by omega⟩ ⟨by omega, by omega⟩ (fun r_ h_ sz_ q_ z_ => ?_)
      obtain ⟨rfl, eh_, es_⟩ := q_
      have eh_ := eh_.symm
      subst eh_
      have es_ := es_.symm
      subst es_
      have hb01 := bI_or (0 ≤ c_pl i s u t ∧ c_pl i s u t ≤ (L : Int) - 1)
      generalize bI (0 ≤ c_pl i s u t ∧ c_pl i s u t ≤ (L : Int) - 1) = bp at hb01 ⊢
      refine z_if_eq (tgt := 55) hc dX5_placeOf_47 (by decide) (by first | assumption | exact hi _ | exact ha _ _ | (unfold zb; omega)) (fun c_3 => ?_) (fun c_3 => ?_)
      · refine z_iconst hc dX5_placeOf_55 ?_
        refine z_iret M dX5_placeOf_56 (by omega) (by omega) ?_
        first | exact ⟨by rw [if_pos (by omega)], rfl, rfl⟩ | exact ⟨by rw [if_neg (by omega)], rfl, rfl⟩
      · refine v_iload hc dX5_placeOf_50 rfl ?_
        refine v_goto (tgt := 56) hc dX5_placeOf_52 (by decide) ?_
        refine z_iret M dX5_placeOf_56 (by omega) (by omega) ?_
        first | exact ⟨by rw [if_pos (by omega)], rfl, rfl⟩ | exact ⟨by rw [if_neg (by omega)], rfl, rfl⟩
  · skip
    refine z_iconst hc dX5_placeOf_7 ?_
    refine v_goto (tgt := 12) hc dX5_placeOf_8 (by decide) ?_
    refine v_istore hc dX5_placeOf_12 (Nat.le_of_ble_eq_true rfl) ?_
    refine v_iload hc dX5_placeOf_14 rfl ?_
    refine v_aload_n hc dX5_placeOf_16 rfl ?_
    refine r_get hc ho dX5_placeOf_17 F_X5_110 hO rfl ?_
    refine z_imul hc dX5_placeOf_20 ?_
    refine v_iload_n hc dX5_placeOf_21 rfl ?_
    refine z_iadd hc dX5_placeOf_22 ?_
    refine z_bipush hc dX5_placeOf_23 (by decide) ?_
    refine z_imul hc dX5_placeOf_25 ?_
    refine v_iload_n hc dX5_placeOf_26 rfl ?_
    refine z_iadd hc dX5_placeOf_27 ?_
    refine v_istore hc dX5_placeOf_28 (Nat.le_of_ble_eq_true rfl) ?_
    have hys : 0 ≤ (0 : Int) * i 9 ∧ (0 : Int) * i 9 ≤ 8 * 4096 := ⟨Int.mul_nonneg (by omega) (by omega), Int.mul_le_mul (by omega) (by omega) (by omega) (by omega)⟩
    have hcp : c_pl i s u t = ((0 : Int) * i 9 + u) * 12 + t := by rw [c_pl, if_pos (by omega)]
    rw [← hcp]
    refine v_iload_n hc dX5_placeOf_30 rfl ?_
    refine z_if_lt (tgt := 55) hc dX5_placeOf_31 (by decide) (by first | assumption | exact hi _ | exact ha _ _ | (unfold zb; omega)) (fun c_4 => ?_) (fun c_4 => ?_)
    · refine z_iconst hc dX5_placeOf_55 ?_
      refine z_iret M dX5_placeOf_56 (by omega) (by omega) ?_
      first | exact ⟨by rw [if_pos (by omega)], rfl, rfl⟩ | exact ⟨by rw [if_neg (by omega)], rfl, rfl⟩
    · refine v_iload hc dX5_placeOf_34 rfl ?_
      refine z_iconst hc dX5_placeOf_36 ?_
      refine v_aload_n hc dX5_placeOf_37 rfl ?_
      refine r_getA hc ho dX5_placeOf_38 F_X5_34 hO rfl ?_
      refine r_ilen hc dX5_placeOf_41 hO 12 rfl ?_
      refine z_iconst hc dX5_placeOf_42 ?_
      refine z_isub hc dX5_placeOf_43 ?_
      refine v_callSN (As := [.int (zI (c_pl i s u t)), .int (zI 0), .int (zI ((L : Int) - 1))]) hc ho dX5_placeOf_44 KSN_X5_139 KB_X6_within (c_X6_within _ _ (x := c_pl i s u t) (y := 0) (z := (L : Int) - 1) (by unfold zb; omega) (by unfold zb; omega) (by unfold zb; omega)) rfl (Nat.le_of_ble_eq_true rfl) ⟨by omega, by omega⟩ ⟨by omega, by omega⟩ (fun r_ h_ sz_ q_ z_ => ?_)
      obtain ⟨rfl, eh_, es_⟩ := q_
      have eh_ := eh_.symm
      subst eh_
      have es_ := es_.symm
      subst es_
      have hb01 := bI_or (0 ≤ c_pl i s u t ∧ c_pl i s u t ≤ (L : Int) - 1)
      generalize bI (0 ≤ c_pl i s u t ∧ c_pl i s u t ≤ (L : Int) - 1) = bp at hb01 ⊢
      refine z_if_eq (tgt := 55) hc dX5_placeOf_47 (by decide) (by first | assumption | exact hi _ | exact ha _ _ | (unfold zb; omega)) (fun c_5 => ?_) (fun c_5 => ?_)
      · refine z_iconst hc dX5_placeOf_55 ?_
        refine z_iret M dX5_placeOf_56 (by omega) (by omega) ?_
        first | exact ⟨by rw [if_pos (by omega)], rfl, rfl⟩ | exact ⟨by rw [if_neg (by omega)], rfl, rfl⟩
      · refine v_iload hc dX5_placeOf_50 rfl ?_
        refine v_goto (tgt := 56) hc dX5_placeOf_52 (by decide) ?_
        refine z_iret M dX5_placeOf_56 (by omega) (by omega) ?_
        first | exact ⟨by rw [if_pos (by omega)], rfl, rfl⟩ | exact ⟨by rw [if_neg (by omega)], rfl, rfl⟩
/-- the contract of leastFrom where d stretches are left -/
def c_LF (l : Launch) (G : b_G) (L d : Nat) : Prop := ∀ {o : Nat} {ad : Nat → Nat} {i : Nat → Int} {a : Nat → Nat → Int} {h : b_H} {sz : Nat} {s u t : Int}, r_O (K5 L) 5 o ad i a h → c_I L i a → c_K L i a → 0 ≤ s → s + d = i 2 → c_V i s u → -1 ≤ t → t < i 3 → Con l G yX5_leastFrom cX5_leastFrom 7 (some .int) (2 * d + 3) (53 * d + 100) 0 0 [.ref o, .int (zI s), .int (zI u), .int (zI t)] h sz (p_wr (K5 L) 5 o ad h sz (fun r i2 a2 => r = some (.int (zI (c_L (i 2).toNat (i 3).toNat (c_ms a) (c_jn a) (a 8) d u t))) ∧ i2 = i ∧ (∀ k, k ≠ 12 → a2 k = a k) ∧ c_K L i a2 ∧ c_I L i a2))
/-- the contract of costWith where d stretches are left behind this one -/
def c_CW (l : Launch) (G : b_G) (L d : Nat) : Prop := ∀ {o : Nat} {ad : Nat → Nat} {i : Nat → Int} {a : Nat → Nat → Int} {h : b_H} {sz : Nat} {s u t p : Int}, r_O (K5 L) 5 o ad i a h → c_I L i a → c_K L i a → 0 ≤ s → s + d + 1 = i 2 → c_V i s u → -1 ≤ t → t < i 3 → 0 ≤ p → p < i 3 → Con l G yX5_costWith cX5_costWith 8 (some .int) (2 * d + 4) (53 * d + 126) 0 0 [.ref o, .int (zI s), .int (zI u), .int (zI t), .int (zI p)] h sz (p_wr (K5 L) 5 o ad h sz (fun r i2 a2 => r = some (.int (zI (c_Wt (i 2).toNat (i 3).toNat (c_ms a) (c_jn a) (a 8) d u t p.toNat))) ∧ i2 = i ∧ (∀ k, k ≠ 12 → a2 k = a k) ∧ c_K L i a2 ∧ c_I L i a2))
set_option maxHeartbeats 4000000 in
theorem c_CW_of {l : Launch} {G : b_G} {L d : Nat} (hd : d < 8) (IH : c_LF l G L d) : c_CW l G L d := by
  intro o ad i a h sz s u t p hO hI hK hs0 hsd hV ht0 ht1 hp0 hp1
  obtain ⟨hI2, hI3, hI6, hI7, hI9, hI10, hItl, hI11, hI12, hIL⟩ := id hI
  have hI9 := c_s9 hI
  refine Con.ofK (by decide +kernel) rfl rfl ?_
  intro S M
  have hc := M.2.2.2.1
  have ho : s_own S = RX5 := M.2.2.1
  have hFr : (s_R S).frames = (2 * d + 4) := by rw [M.2.2.2.2.2.2.2.1]
  have hLo : (s_R S).locals = (53 * d + 126) := by rw [M.2.2.2.2.2.2.2.1]
  have hCe : (s_R S).cells = 0 := by rw [M.2.2.2.2.2.2.2.1]
  have hSl : (s_R S).slots = 0 := by rw [M.2.2.2.2.2.2.2.1]
  obtain ⟨rfl, rfl⟩ : s_l S = l ∧ s_G S = G := ⟨M.1, M.2.1⟩
  have hi := hO.2.2.2.1
  have ha := hO.2.2.2.2
  have hfr : ∀ b, ¬ r_own (K5 L) o ad b → h b = h b := fun _ _ => rfl
  have hu0 := hV.1
  have hu1 := hV.2.1
  have e6 : (s * 12 + p).toNat = s.toNat * 12 + p.toNat := by omega
  have hm6 := hI6 (s.toNat * 12 + p.toNat)
  have hbp := c_bt hI (p := p.toNat) (by omega)
  have hjb : ∀ (l : Int) (p : Nat), 0 ≤ c_jn a l p ∧ (c_jn a l p ≤ 594 ∨ c_jn a l p = 1048575) := fun l p => by
    unfold c_jn
    split
    · omega
    · exact hI7 _
  refine v_aload_n hc dX5_costWith_0 rfl ?_
  refine r_getA hc ho dX5_costWith_1 F_X5_25 hO rfl ?_
  refine v_iload_n hc dX5_costWith_4 rfl ?_
  refine z_bipush hc dX5_costWith_5 (by decide) ?_
  refine z_imul hc dX5_costWith_7 ?_
  refine v_iload hc dX5_costWith_8 rfl ?_
  refine z_iadd hc dX5_costWith_10 ?_
  refine r_iald hc dX5_costWith_11 hO 6 rfl (by decide) (by omega) (by omega) ?_
  rw [e6]
  obtain ⟨ms, hms⟩ : ∃ v, a 6 (s.toNat * 12 + p.toNat) = v := ⟨_, rfl⟩
  rw [hms] at hm6 ⊢
  refine v_istore hc dX5_costWith_12 (Nat.le_of_ble_eq_true rfl) ?_
  refine v_iload_n hc dX5_costWith_14 rfl ?_
  refine z_if_ge (tgt := 22) hc dX5_costWith_15 (by decide) (by first | assumption | exact hi _ | exact ha _ _ | exact zb_of _ | (unfold zb; omega)) (fun c_1 => ?_) (fun c_1 => ?_)
  · have hjn : c_jn a t p.toNat = a 7 (t * 12 + p).toNat := by rw [c_jn, if_neg (by omega), show t.toNat * 12 + p.toNat = (t * 12 + p).toNat by omega]
    refine v_aload_n hc dX5_costWith_22 rfl ?_
    refine r_getA hc ho dX5_costWith_23 F_X5_28 hO rfl ?_
    refine v_iload_n hc dX5_costWith_26 rfl ?_
    refine z_bipush hc dX5_costWith_27 (by decide) ?_
    refine z_imul hc dX5_costWith_29 ?_
    refine v_iload hc dX5_costWith_30 rfl ?_
    refine z_iadd hc dX5_costWith_32 ?_
    refine r_iald hc dX5_costWith_33 hO 7 rfl (by decide) (by omega) (by omega) ?_
    have hjb0 := hjb t p.toNat
    rw [← hjn]
    obtain ⟨jn, hjn2⟩ : ∃ v, c_jn a t p.toNat = v := ⟨_, rfl⟩
    rw [hjn2] at hjb0 ⊢
    refine v_istore hc dX5_costWith_34 (Nat.le_of_ble_eq_true rfl) ?_
    refine v_iload hc dX5_costWith_36 rfl ?_
    refine z_if_lt (tgt := 60) hc dX5_costWith_38 (by decide) (by first | assumption | exact hi _ | exact ha _ _ | exact zb_of _ | (unfold zb; omega)) (fun c_2 => ?_) (fun c_2 => ?_)
    · refine z_ldc hc ho dX5_costWith_60 K_X5_109 ?_
      refine z_iret M dX5_costWith_62 (by omega) (by omega) ?_
      exact ⟨rfl, i, a, ⟨by rw [c_Wt, show (i 2).toNat - (d + 1) = s.toNat by omega, show c_ms a s.toNat p.toNat = ms from hms, hjn2, if_pos (by omega)], rfl, fun _ _ => rfl, hK, hI⟩, hO, hfr⟩
    · refine v_iload hc dX5_costWith_41 rfl ?_
      refine z_ldc hc ho dX5_costWith_43 K_X5_109 ?_
      refine z_icmp_eq (tgt := 60) hc dX5_costWith_45 (by decide) (by first | assumption | exact hi _ | exact ha _ _ | exact zb_of _ | (unfold zb; omega)) (by first | assumption | exact hi _ | exact ha _ _ | exact zb_of _ | (unfold zb; omega)) (fun c_3 => ?_) (fun c_3 => ?_)
      · refine z_ldc hc ho dX5_costWith_60 K_X5_109 ?_
        refine z_iret M dX5_costWith_62 (by omega) (by omega) ?_
        exact ⟨rfl, i, a, ⟨by rw [c_Wt, show (i 2).toNat - (d + 1) = s.toNat by omega, show c_ms a s.toNat p.toNat = ms from hms, hjn2, if_pos (by omega)], rfl, fun _ _ => rfl, hK, hI⟩, hO, hfr⟩
      · refine v_iload_n hc dX5_costWith_48 rfl ?_
        refine v_aload_n hc dX5_costWith_49 rfl ?_
        refine r_getA hc ho dX5_costWith_50 F_X5_31 hO rfl ?_
        refine v_iload hc dX5_costWith_53 rfl ?_
        refine r_iald hc dX5_costWith_55 hO 8 rfl (by decide) (by omega) (by omega) ?_
        refine v_iand hc dX5_costWith_56 (zI_of _) ?_
        change V _ _ _ _ _ _ _ (.int (zI (d_an u (a 8 p.toNat))) :: _)
        have hzd : zb (d_an u (a 8 p.toNat)) := zb_of _
        refine z_if_eq (tgt := 63) hc dX5_costWith_57 (by decide) (by first | assumption | exact hi _ | exact ha _ _ | exact zb_of _ | (unfold zb; omega)) (fun c_4 => ?_) (fun c_4 => ?_)
        · have hand : d_an u (a 8 p.toNat) = 0 := by omega
          have hv2 := c_V_nx hI (p := p.toNat) hV (by omega) (by omega) (by omega) hand
          refine v_aload_n hc dX5_costWith_63 rfl ?_
          refine v_iload_n hc dX5_costWith_64 rfl ?_
          refine z_iconst hc dX5_costWith_65 ?_
          refine z_iadd hc dX5_costWith_66 ?_
          refine v_iload_n hc dX5_costWith_67 rfl ?_
          refine v_aload_n hc dX5_costWith_68 rfl ?_
          refine r_getA hc ho dX5_costWith_69 F_X5_31 hO rfl ?_
          refine v_iload hc dX5_costWith_72 rfl ?_
          refine r_iald hc dX5_costWith_74 hO 8 rfl (by decide) (by omega) (by omega) ?_
          refine v_ior hc dX5_costWith_75 (c_or hand) ?_
          refine v_iload hc dX5_costWith_76 rfl ?_
          refine v_callV (As := [.int (zI (s + 1)), .int (zI (u + a 8 p.toNat)), .int (zI p)]) hc ho dX5_costWith_78 KV_X5_129 KB_X5_leastFrom hO.1 rfl rfl (IH hO hI hK (s := s + 1) (u := u + a 8 p.toNat) (t := p) (by omega) (by omega) hv2 (by omega) (by omega)) rfl (Nat.le_of_ble_eq_true rfl) ⟨by omega, by omega⟩ ⟨by omega, by omega⟩ (fun r_ h_ sz_ q_ z_ => ?_)
          obtain ⟨e1_, i3, a3, ⟨rfl, e3_, hE3, hK3, hI3⟩, hO3, hfr3⟩ := q_
          have e1_ := e1_.symm
          subst e1_
          have e3_ := e3_.symm
          subst e3_
          have hlb := (c_L_bd (St := (i 2).toNat) (n := (i 3).toNat) (ms := c_ms a) (jn := c_jn a) (bt := a 8) (fun s p => (hI6 _).2) hjb d (u + a 8 p.toNat) p (by omega)).1
          refine v_istore hc dX5_costWith_81 (Nat.le_of_ble_eq_true rfl) ?_
          have hun : c_Wt (i 2).toNat (i 3).toNat (c_ms a) (c_jn a) (a 8) d u t p.toNat = if c_L (i 2).toNat (i 3).toNat (c_ms a) (c_jn a) (a 8) d (u + a 8 p.toNat) (p.toNat : Int) = 1048575 then 1048575 else ms + jn + c_L (i 2).toNat (i 3).toNat (c_ms a) (c_jn a) (a 8) d (u + a 8 p.toNat) (p.toNat : Int) := by
            rw [c_Wt, show (i 2).toNat - (d + 1) = s.toNat by omega, show c_ms a s.toNat p.toNat = ms from hms, hjn2, if_neg (by omega)]
          rw [show ((p.toNat : Nat) : Int) = p by omega] at hun
          generalize c_L (i 2).toNat (i 3).toNat (c_ms a) (c_jn a) (a 8) d (u + a 8 p.toNat) p = rs at hlb hun ⊢
          refine v_iload hc dX5_costWith_83 rfl ?_
          refine z_ldc hc ho dX5_costWith_85 K_X5_109 ?_
          refine z_icmp_ne (tgt := 95) hc dX5_costWith_87 (by decide) (by first | assumption | exact hi _ | exact ha _ _ | exact zb_of _ | (unfold zb; omega)) (by first | assumption | exact hi _ | exact ha _ _ | exact zb_of _ | (unfold zb; omega)) (fun c_5 => ?_) (fun c_5 => ?_)
          · refine v_iload hc dX5_costWith_95 rfl ?_
            refine v_iload hc dX5_costWith_97 rfl ?_
            refine z_iadd hc dX5_costWith_99 ?_
            refine v_iload hc dX5_costWith_100 rfl ?_
            refine z_iadd hc dX5_costWith_102 ?_
            refine z_iret M dX5_costWith_103 (by omega) (by omega) ?_
            first | exact ⟨rfl, i, a3, ⟨by rw [hun, if_pos (by omega)], rfl, hE3, hK3, hI3⟩, hO3, hfr3⟩ | exact ⟨rfl, i, a3, ⟨by rw [hun, if_neg (by omega)], rfl, hE3, hK3, hI3⟩, hO3, hfr3⟩
          · refine z_ldc hc ho dX5_costWith_90 K_X5_109 ?_
            refine v_goto (tgt := 103) hc dX5_costWith_92 (by decide) ?_
            refine z_iret M dX5_costWith_103 (by omega) (by omega) ?_
            first | exact ⟨rfl, i, a3, ⟨by rw [hun, if_pos (by omega)], rfl, hE3, hK3, hI3⟩, hO3, hfr3⟩ | exact ⟨rfl, i, a3, ⟨by rw [hun, if_neg (by omega)], rfl, hE3, hK3, hI3⟩, hO3, hfr3⟩
        · refine z_ldc hc ho dX5_costWith_60 K_X5_109 ?_
          refine z_iret M dX5_costWith_62 (by omega) (by omega) ?_
          exact ⟨rfl, i, a, ⟨by rw [c_Wt, show (i 2).toNat - (d + 1) = s.toNat by omega, show c_ms a s.toNat p.toNat = ms from hms, hjn2, if_pos (by omega)], rfl, fun _ _ => rfl, hK, hI⟩, hO, hfr⟩
  · have hjn : c_jn a t p.toNat = 0 := by rw [c_jn, if_pos (by omega)]
    refine z_iconst hc dX5_costWith_18 ?_
    refine v_goto (tgt := 34) hc dX5_costWith_19 (by decide) ?_
    have hjb0 := hjb t p.toNat
    rw [← hjn]
    obtain ⟨jn, hjn2⟩ : ∃ v, c_jn a t p.toNat = v := ⟨_, rfl⟩
    rw [hjn2] at hjb0 ⊢
    refine v_istore hc dX5_costWith_34 (Nat.le_of_ble_eq_true rfl) ?_
    refine v_iload hc dX5_costWith_36 rfl ?_
    refine z_if_lt (tgt := 60) hc dX5_costWith_38 (by decide) (by first | assumption | exact hi _ | exact ha _ _ | exact zb_of _ | (unfold zb; omega)) (fun c_6 => ?_) (fun c_6 => ?_)
    · refine z_ldc hc ho dX5_costWith_60 K_X5_109 ?_
      refine z_iret M dX5_costWith_62 (by omega) (by omega) ?_
      exact ⟨rfl, i, a, ⟨by rw [c_Wt, show (i 2).toNat - (d + 1) = s.toNat by omega, show c_ms a s.toNat p.toNat = ms from hms, hjn2, if_pos (by omega)], rfl, fun _ _ => rfl, hK, hI⟩, hO, hfr⟩
    · refine v_iload hc dX5_costWith_41 rfl ?_
      refine z_ldc hc ho dX5_costWith_43 K_X5_109 ?_
      refine z_icmp_eq (tgt := 60) hc dX5_costWith_45 (by decide) (by first | assumption | exact hi _ | exact ha _ _ | exact zb_of _ | (unfold zb; omega)) (by first | assumption | exact hi _ | exact ha _ _ | exact zb_of _ | (unfold zb; omega)) (fun c_7 => ?_) (fun c_7 => ?_)
      · refine z_ldc hc ho dX5_costWith_60 K_X5_109 ?_
        refine z_iret M dX5_costWith_62 (by omega) (by omega) ?_
        exact ⟨rfl, i, a, ⟨by rw [c_Wt, show (i 2).toNat - (d + 1) = s.toNat by omega, show c_ms a s.toNat p.toNat = ms from hms, hjn2, if_pos (by omega)], rfl, fun _ _ => rfl, hK, hI⟩, hO, hfr⟩
      · refine v_iload_n hc dX5_costWith_48 rfl ?_
        refine v_aload_n hc dX5_costWith_49 rfl ?_
        refine r_getA hc ho dX5_costWith_50 F_X5_31 hO rfl ?_
        refine v_iload hc dX5_costWith_53 rfl ?_
        refine r_iald hc dX5_costWith_55 hO 8 rfl (by decide) (by omega) (by omega) ?_
        refine v_iand hc dX5_costWith_56 (zI_of _) ?_
        change V _ _ _ _ _ _ _ (.int (zI (d_an u (a 8 p.toNat))) :: _)
        have hzd : zb (d_an u (a 8 p.toNat)) := zb_of _
        refine z_if_eq (tgt := 63) hc dX5_costWith_57 (by decide) (by first | assumption | exact hi _ | exact ha _ _ | exact zb_of _ | (unfold zb; omega)) (fun c_8 => ?_) (fun c_8 => ?_)
        · have hand : d_an u (a 8 p.toNat) = 0 := by omega
          have hv2 := c_V_nx hI (p := p.toNat) hV (by omega) (by omega) (by omega) hand
          refine v_aload_n hc dX5_costWith_63 rfl ?_
          refine v_iload_n hc dX5_costWith_64 rfl ?_
          refine z_iconst hc dX5_costWith_65 ?_
          refine z_iadd hc dX5_costWith_66 ?_
          refine v_iload_n hc dX5_costWith_67 rfl ?_
          refine v_aload_n hc dX5_costWith_68 rfl ?_
          refine r_getA hc ho dX5_costWith_69 F_X5_31 hO rfl ?_
          refine v_iload hc dX5_costWith_72 rfl ?_
          refine r_iald hc dX5_costWith_74 hO 8 rfl (by decide) (by omega) (by omega) ?_
          refine v_ior hc dX5_costWith_75 (c_or hand) ?_
          refine v_iload hc dX5_costWith_76 rfl ?_
          refine v_callV (As := [.int (zI (s + 1)), .int (zI (u + a 8 p.toNat)), .int (zI p)]) hc ho dX5_costWith_78 KV_X5_129 KB_X5_leastFrom hO.1 rfl rfl (IH hO hI hK (s := s + 1) (u := u + a 8 p.toNat) (t := p) (by omega) (by omega) hv2 (by omega) (by omega)) rfl (Nat.le_of_ble_eq_true rfl) ⟨by omega, by omega⟩ ⟨by omega, by omega⟩ (fun r_ h_ sz_ q_ z_ => ?_)
          obtain ⟨e1_, i3, a3, ⟨rfl, e3_, hE3, hK3, hI3⟩, hO3, hfr3⟩ := q_
          have e1_ := e1_.symm
          subst e1_
          have e3_ := e3_.symm
          subst e3_
          have hlb := (c_L_bd (St := (i 2).toNat) (n := (i 3).toNat) (ms := c_ms a) (jn := c_jn a) (bt := a 8) (fun s p => (hI6 _).2) hjb d (u + a 8 p.toNat) p (by omega)).1
          refine v_istore hc dX5_costWith_81 (Nat.le_of_ble_eq_true rfl) ?_
          have hun : c_Wt (i 2).toNat (i 3).toNat (c_ms a) (c_jn a) (a 8) d u t p.toNat = if c_L (i 2).toNat (i 3).toNat (c_ms a) (c_jn a) (a 8) d (u + a 8 p.toNat) (p.toNat : Int) = 1048575 then 1048575 else ms + jn + c_L (i 2).toNat (i 3).toNat (c_ms a) (c_jn a) (a 8) d (u + a 8 p.toNat) (p.toNat : Int) := by
            rw [c_Wt, show (i 2).toNat - (d + 1) = s.toNat by omega, show c_ms a s.toNat p.toNat = ms from hms, hjn2, if_neg (by omega)]
          rw [show ((p.toNat : Nat) : Int) = p by omega] at hun
          generalize c_L (i 2).toNat (i 3).toNat (c_ms a) (c_jn a) (a 8) d (u + a 8 p.toNat) p = rs at hlb hun ⊢
          refine v_iload hc dX5_costWith_83 rfl ?_
          refine z_ldc hc ho dX5_costWith_85 K_X5_109 ?_
          refine z_icmp_ne (tgt := 95) hc dX5_costWith_87 (by decide) (by first | assumption | exact hi _ | exact ha _ _ | exact zb_of _ | (unfold zb; omega)) (by first | assumption | exact hi _ | exact ha _ _ | exact zb_of _ | (unfold zb; omega)) (fun c_9 => ?_) (fun c_9 => ?_)
          · refine v_iload hc dX5_costWith_95 rfl ?_
            refine v_iload hc dX5_costWith_97 rfl ?_
            refine z_iadd hc dX5_costWith_99 ?_
            refine v_iload hc dX5_costWith_100 rfl ?_
            refine z_iadd hc dX5_costWith_102 ?_
            refine z_iret M dX5_costWith_103 (by omega) (by omega) ?_
            first | exact ⟨rfl, i, a3, ⟨by rw [hun, if_pos (by omega)], rfl, hE3, hK3, hI3⟩, hO3, hfr3⟩ | exact ⟨rfl, i, a3, ⟨by rw [hun, if_neg (by omega)], rfl, hE3, hK3, hI3⟩, hO3, hfr3⟩
          · refine z_ldc hc ho dX5_costWith_90 K_X5_109 ?_
            refine v_goto (tgt := 103) hc dX5_costWith_92 (by decide) ?_
            refine z_iret M dX5_costWith_103 (by omega) (by omega) ?_
            first | exact ⟨rfl, i, a3, ⟨by rw [hun, if_pos (by omega)], rfl, hE3, hK3, hI3⟩, hO3, hfr3⟩ | exact ⟨rfl, i, a3, ⟨by rw [hun, if_neg (by omega)], rfl, hE3, hK3, hI3⟩, hO3, hfr3⟩
        · refine z_ldc hc ho dX5_costWith_60 K_X5_109 ?_
          refine z_iret M dX5_costWith_62 (by omega) (by omega) ?_
          exact ⟨rfl, i, a, ⟨by rw [c_Wt, show (i 2).toNat - (d + 1) = s.toNat by omega, show c_ms a s.toNat p.toNat = ms from hms, hjn2, if_pos (by omega)], rfl, fun _ _ => rfl, hK, hI⟩, hO, hfr⟩
set_option maxHeartbeats 4000000 in
theorem l_X5_leastFrom {S : b_S} {l : Launch} {G : b_G} {L d : Nat} {o : Nat} {ad : Nat → Nat} {i : Nat → Int} {a0 : Nat → Nat → Int} {hB : b_H} {sz : Nat} {post : Option Value → b_H → Nat → Prop} (M : b_M S l G RX5 cX5_leastFrom 7 (some .int) "leastFrom" (2 * (d + 1) + 3) (53 * (d + 1) + 100) 0 0 hB sz post) {s u t : Int} {x4 : Option Value} (hd8 : d < 8) (HW : c_CW (s_l S) (s_G S) L d) (hs0 : 0 ≤ s) (hsd : s + d + 1 = i 2) (hV : c_V i s u) (ht0 : -1 ≤ t) (ht1 : t < i 3) (P90 : ∀ (g0 : Int) (h : b_H) (a : Nat → Nat → Int), r_O (K5 L) 5 o ad i a h → c_I L i a → c_K L i a → (∀ b, ¬ r_own (K5 L) o ad b → h b = hB b) → (∀ k, k ≠ 12 → a k = a0 k) → g0 = c_M (c_Wt (i 2).toNat (i 3).toNat (c_ms a0) (c_jn a0) (a0 8) d u t) (i 3).toNat → V S 0 0 h sz 90 [some (.ref o), some (.int (zI s)), some (.int (zI u)), some (.int (zI t)), x4, some (.int (zI g0)), some (.int (zI (i 3)))] []) : ∀ (e : Nat) (h : b_H) (a : Nat → Nat → Int) (g p : Int), ((i 3 - p).toNat = e) → (0 ≤ p) → (p ≤ i 3) → (r_O (K5 L) 5 o ad i a h) → (c_I L i a) → (c_K L i a) → (∀ b, ¬ r_own (K5 L) o ad b → h b = hB b) → (∀ k, k ≠ 12 → a k = a0 k) → (g = c_M (c_Wt (i 2).toNat (i 3).toNat (c_ms a0) (c_jn a0) (a0 8) d u t) p.toNat) → V S 0 0 h sz 59 [some (.ref o), some (.int (zI s)), some (.int (zI u)), some (.int (zI t)), x4, some (.int (zI g)), some (.int (zI p))] [] := by
  have hc := M.2.2.2.1
  have ho : s_own S = RX5 := M.2.2.1
  have hFr : (s_R S).frames = (2 * (d + 1) + 3) := by rw [M.2.2.2.2.2.2.2.1]
  have hLo : (s_R S).locals = (53 * (d + 1) + 100) := by rw [M.2.2.2.2.2.2.2.1]
  have hCe : (s_R S).cells = 0 := by rw [M.2.2.2.2.2.2.2.1]
  have hSl : (s_R S).slots = 0 := by rw [M.2.2.2.2.2.2.2.1]
  intro e
  induction e using Nat.strongRecOn with
  | ind e ih =>
    intro h a g p hd h0 h1 hO hI hK hfr hE hg
    have hi := hO.2.2.2.1
    have ha := hO.2.2.2.2
    obtain ⟨hI2, hI3, hI6, hI7, hI9, hI10, hItl, hI11, hI12, hIL⟩ := id hI
    have hjb : ∀ (l : Int) (p : Nat), 0 ≤ c_jn a l p ∧ (c_jn a l p ≤ 594 ∨ c_jn a l p = 1048575) := fun l p => by
      unfold c_jn
      split
      · omega
      · exact hI7 _
    have hgb : 0 ≤ g ∧ g ≤ 1048575 := by
      have hce0 := c_cong hE
      have := c_M_bd (f := (c_Wt (i 2).toNat (i 3).toNat (c_ms a0) (c_jn a0) (a0 8) d u t)) (b := ((d : Int) + 1) * 101000) (n := p.toNat) (fun p _ => by
        rw [← hce0.1, ← hce0.2.1, ← hce0.2.2]
        exact (c_L_bd (St := (i 2).toNat) (n := (i 3).toNat) (ms := c_ms a) (jn := c_jn a) (bt := a 8) (fun s p => (hI6 _).2) hjb d u t (by omega)).2 p (by omega)) (by omega)
      rw [← hg] at this
      omega
    refine v_iload hc dX5_leastFrom_59 rfl ?_
    refine v_aload_n hc dX5_leastFrom_61 rfl ?_
    refine r_get hc ho dX5_leastFrom_62 F_X5_56 hO rfl ?_
    refine z_icmp_ge (tgt := 90) hc dX5_leastFrom_65 (by decide) (by first | assumption | exact hi _ | exact ha _ _ | (unfold zb; omega)) (by first | assumption | exact hi _ | exact ha _ _ | (unfold zb; omega)) (fun c_1 => ?_) (fun c_1 => ?_)
    · rw [show p = i 3 by omega]
      exact P90 g h a hO hI hK hfr hE (by rw [hg, show p.toNat = (i 3).toNat by omega])
    · refine v_iload hc dX5_leastFrom_68 rfl ?_
      refine v_aload_n hc dX5_leastFrom_70 rfl ?_
      refine v_iload_n hc dX5_leastFrom_71 rfl ?_
      refine v_iload_n hc dX5_leastFrom_72 rfl ?_
      refine v_iload_n hc dX5_leastFrom_73 rfl ?_
      refine v_iload hc dX5_leastFrom_74 rfl ?_
      refine v_callV (As := [.int (zI s), .int (zI u), .int (zI t), .int (zI p)]) hc ho dX5_leastFrom_76 KV_X5_135 KB_X5_costWith hO.1 rfl rfl (HW hO hI hK (s := s) (u := u) (t := t) (p := p) hs0 hsd hV ht0 ht1 (by omega) (by omega)) rfl (Nat.le_of_ble_eq_true rfl) ⟨by omega, by omega⟩ ⟨by omega, by omega⟩ (fun r_ h_ sz_ q_ z_ => ?_)
      obtain ⟨e1_, i3, a3, ⟨rfl, e3_, hE3, hK3, hI3⟩, hO3, hfr3⟩ := q_
      have e1_ := e1_.symm
      subst e1_
      have e3_ := e3_.symm
      subst e3_
      have hwb := (c_L_bd (St := (i 2).toNat) (n := (i 3).toNat) (ms := c_ms a) (jn := c_jn a) (bt := a 8) (fun s p => (hI6 _).2) hjb d u t (by omega)).2 p.toNat (by omega)
      have hce := c_cong hE3
      have hce0 := c_cong hE
      refine z_min hc ho dX5_leastFrom_79 MM_X5_43 (by first | assumption | exact hi _ | exact ha _ _ | (unfold zb; omega)) (by first | assumption | exact hi _ | exact ha _ _ | (unfold zb; omega)) (by omega) (by rw [hLo]; exact Nat.le_trans (m := 60) (Nat.le_of_ble_eq_true rfl) (by omega)) (by omega) (by omega) ?_
      refine v_istore hc dX5_leastFrom_82 (Nat.le_of_ble_eq_true rfl) ?_
      refine z_iinc hc dX5_leastFrom_84 rfl ?_
      refine v_goto (tgt := 59) hc dX5_leastFrom_87 (by decide) ?_
      exact ih _ (by omega) h_ a3 _ _ rfl (by omega) (by omega) hO3 hI3 hK3 (fun b hb => (hfr3 b hb).trans (hfr b hb)) (fun k hk => (hE3 k hk).trans (hE k hk)) (by rw [show (p + 1).toNat = p.toNat + 1 by omega, c_M, ← hg, hce0.1, hce0.2.1, hce0.2.2])
set_option maxHeartbeats 4000000 in
theorem c_LF_0 {l : Launch} {G : b_G} {L : Nat} : c_LF l G L 0 := by
  intro o ad i a h sz s u t hO hI hK hs0 hsd hV ht0 ht1
  obtain ⟨hI2, hI3, hI6, hI7, hI9, hI10, hItl, hI11, hI12, hIL⟩ := id hI
  have hI9 := c_s9 hI
  refine Con.ofK (by decide +kernel) rfl rfl ?_
  intro S M
  have hc := M.2.2.2.1
  have ho : s_own S = RX5 := M.2.2.1
  have hFr : (s_R S).frames = (2 * 0 + 3) := by rw [M.2.2.2.2.2.2.2.1]
  have hLo : (s_R S).locals = (53 * 0 + 100) := by rw [M.2.2.2.2.2.2.2.1]
  have hCe : (s_R S).cells = 0 := by rw [M.2.2.2.2.2.2.2.1]
  have hSl : (s_R S).slots = 0 := by rw [M.2.2.2.2.2.2.2.1]
  obtain ⟨rfl, rfl⟩ : s_l S = l ∧ s_G S = G := ⟨M.1, M.2.1⟩
  have hi := hO.2.2.2.1
  have ha := hO.2.2.2.2
  have hfr : ∀ b, ¬ r_own (K5 L) o ad b → h b = h b := fun _ _ => rfl
  have hu0 := hV.1
  have hu1 := hV.2.1
  refine v_iload_n hc dX5_leastFrom_0 rfl ?_
  refine v_aload_n hc dX5_leastFrom_1 rfl ?_
  refine r_get hc ho dX5_leastFrom_2 F_X5_49 hO rfl ?_
  refine z_icmp_lt (tgt := 10) hc dX5_leastFrom_5 (by decide) (by first | assumption | exact hi _ | exact ha _ _ | (unfold zb; omega)) (by first | assumption | exact hi _ | exact ha _ _ | (unfold zb; omega)) (fun c_1 => absurd c_1 (by omega)) (fun c_1 => ?_)
  refine z_iconst hc dX5_leastFrom_8 ?_
  refine z_iret M dX5_leastFrom_9 (by omega) (by omega) ?_
  exact ⟨rfl, i, a, ⟨by rw [c_L], rfl, fun _ _ => rfl, hK, hI⟩, hO, hfr⟩
set_option maxHeartbeats 4000000 in
theorem c_LF_s {l : Launch} {G : b_G} {L d : Nat} (hd8 : d < 8) (HW : c_CW l G L d) : c_LF l G L (d + 1) := by
  intro o ad i a h sz s u t hO hI hK hs0 hsd hV ht0 ht1
  obtain ⟨hI2, hI3, hI6, hI7, hI9, hI10, hItl, hI11, hI12, hIL⟩ := id hI
  have hI9 := c_s9 hI
  have hjb : ∀ (l : Int) (p : Nat), 0 ≤ c_jn a l p ∧ (c_jn a l p ≤ 594 ∨ c_jn a l p = 1048575) := fun l p => by
    unfold c_jn
    split
    · omega
    · exact hI7 _
  refine Con.ofK (by decide +kernel) rfl rfl ?_
  intro S M
  have hc := M.2.2.2.1
  have ho : s_own S = RX5 := M.2.2.1
  have hFr : (s_R S).frames = (2 * (d + 1) + 3) := by rw [M.2.2.2.2.2.2.2.1]
  have hLo : (s_R S).locals = (53 * (d + 1) + 100) := by rw [M.2.2.2.2.2.2.2.1]
  have hCe : (s_R S).cells = 0 := by rw [M.2.2.2.2.2.2.2.1]
  have hSl : (s_R S).slots = 0 := by rw [M.2.2.2.2.2.2.2.1]
  obtain ⟨rfl, rfl⟩ : s_l S = l ∧ s_G S = G := ⟨M.1, M.2.1⟩
  have hi := hO.2.2.2.1
  have ha := hO.2.2.2.2
  have hfr : ∀ b, ¬ r_own (K5 L) o ad b → h b = h b := fun _ _ => rfl
  have hu0 := hV.1
  have hu1 := hV.2.1
  refine v_iload_n hc dX5_leastFrom_0 rfl ?_
  refine v_aload_n hc dX5_leastFrom_1 rfl ?_
  refine r_get hc ho dX5_leastFrom_2 F_X5_49 hO rfl ?_
  refine z_icmp_lt (tgt := 10) hc dX5_leastFrom_5 (by decide) (by first | assumption | exact hi _ | exact ha _ _ | (unfold zb; omega)) (by first | assumption | exact hi _ | exact ha _ _ | (unfold zb; omega)) (fun c_1 => ?_) (fun c_1 => absurd c_1 (by omega))
  refine v_aload_n hc dX5_leastFrom_10 rfl ?_
  refine v_iload_n hc dX5_leastFrom_11 rfl ?_
  refine v_iload_n hc dX5_leastFrom_12 rfl ?_
  refine v_iload_n hc dX5_leastFrom_13 rfl ?_
  refine v_callV (As := [.int (zI s), .int (zI u), .int (zI t)]) hc ho dX5_leastFrom_14 KV_X5_132 KB_X5_placeOf hO.1 rfl rfl (c_X5_placeOf _ _ hO hI (s := s) (u := u) (t := t) (by omega) (by omega) (by omega)) rfl (Nat.le_of_ble_eq_true rfl) ⟨by omega, by omega⟩ ⟨by omega, by omega⟩ (fun r_ h_ sz_ q_ z_ => ?_)
  obtain ⟨rfl, eh_, es_⟩ := q_
  have eh_ := eh_.symm
  subst eh_
  have es_ := es_.symm
  subst es_
  refine v_istore hc dX5_leastFrom_17 (Nat.le_of_ble_eq_true rfl) ?_
  obtain ⟨pl, hpl⟩ : ∃ v, (if 0 ≤ t ∧ (0 ≤ c_pl i s u t ∧ c_pl i s u t ≤ (L : Int) - 1) then c_pl i s u t else -1) = v := ⟨_, rfl⟩
  rw [hpl]
  have hpl2 : (pl = -1) ∨ (0 ≤ t ∧ 0 ≤ pl ∧ pl < L ∧ pl = c_pl i s u t) := by
    by_cases q : 0 ≤ t ∧ (0 ≤ c_pl i s u t ∧ c_pl i s u t ≤ (L : Int) - 1)
    · rw [if_pos q] at hpl; right; omega
    · rw [if_neg q] at hpl; left; omega
  refine v_iload hc dX5_leastFrom_19 rfl ?_
  refine z_if_lt (tgt := 52) hc dX5_leastFrom_21 (by decide) (by first | assumption | exact hi _ | exact ha _ _ | (unfold zb; omega)) (fun c_2 => ?_) (fun c_2 => ?_)
  · skip
    refine z_ldc hc ho dX5_leastFrom_52 K_X5_109 ?_
    refine v_istore hc dX5_leastFrom_54 (Nat.le_of_ble_eq_true rfl) ?_
    refine z_iconst hc dX5_leastFrom_56 ?_
    refine v_istore hc dX5_leastFrom_57 (Nat.le_of_ble_eq_true rfl) ?_
    refine l_X5_leastFrom M (a0 := a) hd8 HW hs0 (by omega) hV ht0 ht1 (fun g h1 a1 hO hI1 hK1 hfr hE hg => ?_) _ h a _ _ rfl (by omega) (by omega) hO hI hK hfr (fun _ _ => rfl) rfl
    have hce := c_cong hE
    have hgL : c_L (i 2).toNat (i 3).toNat (c_ms a) (c_jn a) (a 8) (d + 1) u t = g := by rw [c_L_s, hg]
    have hgb := (c_L_bd (St := (i 2).toNat) (n := (i 3).toNat) (ms := c_ms a) (jn := c_jn a) (bt := a 8) (fun s p => (hI6 _).2) hjb (d + 1) u t (by omega)).1
    rw [hgL] at hgb
    have hI12 := hI1.2.2.2.2.2.2.2.2.1
    have ha := hO.2.2.2.2
    refine v_iload hc dX5_leastFrom_90 rfl ?_
    refine z_if_lt (tgt := 112) hc dX5_leastFrom_92 (by decide) (by first | assumption | exact hi _ | exact ha _ _ | (unfold zb; omega)) (fun c_3 => ?_) (fun c_3 => ?_)
    · refine v_iload hc dX5_leastFrom_112 rfl ?_
      refine z_iret M dX5_leastFrom_114 (by omega) (by omega) ?_
      exact ⟨rfl, i, a1, ⟨by rw [hgL], rfl, hE, hK1, hI1⟩, hO, hfr⟩
    · skip
      refine v_aload_n hc dX5_leastFrom_95 rfl ?_
      refine r_getA hc ho dX5_leastFrom_96 F_X5_34 hO rfl ?_
      refine v_iload hc dX5_leastFrom_99 rfl ?_
      have hk12 := hI12 pl.toNat
      refine v_aload_n hc dX5_leastFrom_101 rfl ?_
      refine r_get hc ho dX5_leastFrom_102 F_X5_126 hO rfl ?_
      refine z_bipush hc dX5_leastFrom_105 (by decide) ?_
      refine v_ishl hc dX5_leastFrom_107 (zI_shl (by omega) (by omega) (by omega) (by show i 11 * 1048576 < 4294967296; omega)) ?_
      refine v_iload hc dX5_leastFrom_108 rfl ?_
      refine v_ior hc dX5_leastFrom_110 (zI_or20 (by omega) (by omega) (by omega)) ?_
      refine r_iastf hc dX5_leastFrom_111 hO hfr 12 rfl (by omega) (by omega) (by omega) (by first | assumption | exact hi _ | exact ha _ _ | (unfold zb; omega)) (fun h a_4 g_4 k_4 hO hfr => ?_)
      have ha := hO.2.2.2.2
      refine v_iload hc dX5_leastFrom_112 rfl ?_
      refine z_iret M dX5_leastFrom_114 (by omega) (by omega) ?_
      refine ⟨rfl, i, a_4, ⟨by rw [hgL], rfl, fun k hk => (k_4 k hk).trans (hE k hk), ?_, ?_⟩, hO, hfr⟩
      · have hce2 := c_cong k_4
        intro s' u' t' q1 q2 q3 q4 q5 q6 q7
        rw [g_4] at q7 ⊢
        rw [hce2.1, hce2.2.1, hce2.2.2]
        by_cases e : (c_pl i s' u' t').toNat = pl.toNat
        · have hge : 0 ≤ c_pl i s' u' t' := by
            have h1 : 0 ≤ (if i 10 = 1 then 0 else s') * i 9 := Int.mul_nonneg (by split <;> omega) (by omega)
            have h2 := q3.1
            unfold c_pl
            omega
          obtain ⟨rfl, rfl, rfl⟩ := c_pl_inj (by omega) hI10 hV q3 (by omega) ht1 q4 q5 (by omega)
          rw [e, b_up_eq, hce.1, hce.2.1, hce.2.2, show (i 2).toNat - s.toNat = d + 1 by omega, hgL]
          omega
        · rw [b_up_ne _ _ e] at q7 ⊢
          exact hK1 s' u' t' q1 q2 q3 q4 q5 q6 q7
      · refine c_I_12 hI1 k_4 (fun j => ?_)
        rw [g_4]
        by_cases e : j = pl.toNat
        · rw [e, b_up_eq]; omega
        · rw [b_up_ne _ _ e]; exact hI12 j
  · refine v_aload_n hc dX5_leastFrom_24 rfl ?_
    refine r_getA hc ho dX5_leastFrom_25 F_X5_34 hO rfl ?_
    refine v_iload hc dX5_leastFrom_28 rfl ?_
    refine r_iald hc dX5_leastFrom_30 hO 12 rfl (by omega) (by omega) (by omega) ?_
    refine z_bipush hc dX5_leastFrom_31 (by decide) ?_
    refine v_iushr hc dX5_leastFrom_33 (zI_ushr20 (hI12 _).1 (by have := hI12 pl.toNat; omega)) ?_
    have hk12 := hI12 pl.toNat
    have hdv : 0 ≤ a 12 pl.toNat / 1048576 ∧ a 12 pl.toNat / 1048576 ≤ 2147483647 := by omega
    refine v_aload_n hc dX5_leastFrom_34 rfl ?_
    refine r_get hc ho dX5_leastFrom_35 F_X5_126 hO rfl ?_
    refine z_icmp_ne (tgt := 52) hc dX5_leastFrom_38 (by decide) (by first | assumption | exact hi _ | exact ha _ _ | (unfold zb; omega)) (by first | assumption | exact hi _ | exact ha _ _ | (unfold zb; omega)) (fun c_5 => ?_) (fun c_5 => ?_)
    · skip
      refine z_ldc hc ho dX5_leastFrom_52 K_X5_109 ?_
      refine v_istore hc dX5_leastFrom_54 (Nat.le_of_ble_eq_true rfl) ?_
      refine z_iconst hc dX5_leastFrom_56 ?_
      refine v_istore hc dX5_leastFrom_57 (Nat.le_of_ble_eq_true rfl) ?_
      refine l_X5_leastFrom M (a0 := a) hd8 HW hs0 (by omega) hV ht0 ht1 (fun g h1 a1 hO hI1 hK1 hfr hE hg => ?_) _ h a _ _ rfl (by omega) (by omega) hO hI hK hfr (fun _ _ => rfl) rfl
      have hce := c_cong hE
      have hgL : c_L (i 2).toNat (i 3).toNat (c_ms a) (c_jn a) (a 8) (d + 1) u t = g := by rw [c_L_s, hg]
      have hgb := (c_L_bd (St := (i 2).toNat) (n := (i 3).toNat) (ms := c_ms a) (jn := c_jn a) (bt := a 8) (fun s p => (hI6 _).2) hjb (d + 1) u t (by omega)).1
      rw [hgL] at hgb
      have hI12 := hI1.2.2.2.2.2.2.2.2.1
      have ha := hO.2.2.2.2
      refine v_iload hc dX5_leastFrom_90 rfl ?_
      refine z_if_lt (tgt := 112) hc dX5_leastFrom_92 (by decide) (by first | assumption | exact hi _ | exact ha _ _ | (unfold zb; omega)) (fun c_6 => ?_) (fun c_6 => ?_)
      · refine v_iload hc dX5_leastFrom_112 rfl ?_
        refine z_iret M dX5_leastFrom_114 (by omega) (by omega) ?_
        exact ⟨rfl, i, a1, ⟨by rw [hgL], rfl, hE, hK1, hI1⟩, hO, hfr⟩
      · skip
        refine v_aload_n hc dX5_leastFrom_95 rfl ?_
        refine r_getA hc ho dX5_leastFrom_96 F_X5_34 hO rfl ?_
        refine v_iload hc dX5_leastFrom_99 rfl ?_
        have hk12 := hI12 pl.toNat
        refine v_aload_n hc dX5_leastFrom_101 rfl ?_
        refine r_get hc ho dX5_leastFrom_102 F_X5_126 hO rfl ?_
        refine z_bipush hc dX5_leastFrom_105 (by decide) ?_
        refine v_ishl hc dX5_leastFrom_107 (zI_shl (by omega) (by omega) (by omega) (by show i 11 * 1048576 < 4294967296; omega)) ?_
        refine v_iload hc dX5_leastFrom_108 rfl ?_
        refine v_ior hc dX5_leastFrom_110 (zI_or20 (by omega) (by omega) (by omega)) ?_
        refine r_iastf hc dX5_leastFrom_111 hO hfr 12 rfl (by omega) (by omega) (by omega) (by first | assumption | exact hi _ | exact ha _ _ | (unfold zb; omega)) (fun h a_7 g_7 k_7 hO hfr => ?_)
        have ha := hO.2.2.2.2
        refine v_iload hc dX5_leastFrom_112 rfl ?_
        refine z_iret M dX5_leastFrom_114 (by omega) (by omega) ?_
        refine ⟨rfl, i, a_7, ⟨by rw [hgL], rfl, fun k hk => (k_7 k hk).trans (hE k hk), ?_, ?_⟩, hO, hfr⟩
        · have hce2 := c_cong k_7
          intro s' u' t' q1 q2 q3 q4 q5 q6 q7
          rw [g_7] at q7 ⊢
          rw [hce2.1, hce2.2.1, hce2.2.2]
          by_cases e : (c_pl i s' u' t').toNat = pl.toNat
          · have hge : 0 ≤ c_pl i s' u' t' := by
              have h1 : 0 ≤ (if i 10 = 1 then 0 else s') * i 9 := Int.mul_nonneg (by split <;> omega) (by omega)
              have h2 := q3.1
              unfold c_pl
              omega
            obtain ⟨rfl, rfl, rfl⟩ := c_pl_inj (by omega) hI10 hV q3 (by omega) ht1 q4 q5 (by omega)
            rw [e, b_up_eq, hce.1, hce.2.1, hce.2.2, show (i 2).toNat - s.toNat = d + 1 by omega, hgL]
            omega
          · rw [b_up_ne _ _ e] at q7 ⊢
            exact hK1 s' u' t' q1 q2 q3 q4 q5 q6 q7
        · refine c_I_12 hI1 k_7 (fun j => ?_)
          rw [g_7]
          by_cases e : j = pl.toNat
          · rw [e, b_up_eq]; omega
          · rw [b_up_ne _ _ e]; exact hI12 j
    · refine v_aload_n hc dX5_leastFrom_41 rfl ?_
      refine r_getA hc ho dX5_leastFrom_42 F_X5_34 hO rfl ?_
      refine v_iload hc dX5_leastFrom_45 rfl ?_
      refine r_iald hc dX5_leastFrom_47 hO 12 rfl (by omega) (by omega) (by omega) ?_
      refine z_ldc hc ho dX5_leastFrom_48 K_X5_109 ?_
      refine v_iand hc dX5_leastFrom_50 (zI_and20 (hI12 _).1) ?_
      refine z_iret M dX5_leastFrom_51 (by omega) (by omega) ?_
      exact ⟨rfl, i, a, ⟨by rw [show pl = c_pl i s u t by omega, hK s u t hs0 (by omega) hV (by omega) ht1 (by omega) (by rw [← show pl = c_pl i s u t by omega]; omega), show (i 2).toNat - s.toNat = d + 1 by omega], rfl, fun _ _ => rfl, hK, hI⟩, hO, hfr⟩
theorem c_LF_all (l : Launch) (G : b_G) (L : Nat) : ∀ d : Nat, d ≤ 8 → c_LF l G L d
  | 0, _ => c_LF_0
  | d + 1, h => c_LF_s (by omega) (c_CW_of (by omega) (c_LF_all l G L d (by omega)))
theorem c_CW_all (l : Launch) (G : b_G) (L d : Nat) (h : d < 8) : c_CW l G L d := c_CW_of h (c_LF_all l G L d (by omega))
set_option maxHeartbeats 4000000 in
theorem c_X5_leastCost (l : Launch) (G : b_G) {L : Nat} {o : Nat} {ad : Nat → Nat} {i : Nat → Int} {a : Nat → Nat → Int} {h : b_H} {sz : Nat} (hO : r_O (K5 L) 5 o ad i a h) (hI : c_I L i a) {d : Nat} (hK : c_K L i a) (hd8 : d ≤ 8) (hsd : i 2 = (d : Int)) : Con l G yX5_leastCost cX5_leastCost 1 (some .int) 20 560 0 0 [.ref o] h sz (p_wr (K5 L) 5 o ad h sz (fun r i2 a2 => r = some (.int (zI (c_L (i 2).toNat (i 3).toNat (c_ms a) (c_jn a) (a 8) d 0 (-1)))) ∧ i2 = i ∧ (∀ k, k ≠ 12 → a2 k = a k) ∧ c_K L i a2 ∧ c_I L i a2)) := by
  refine Con.ofK (by decide +kernel) rfl rfl ?_
  intro S M
  have hc := M.2.2.2.1
  have ho : s_own S = RX5 := M.2.2.1
  have hFr : (s_R S).frames = 20 := by rw [M.2.2.2.2.2.2.2.1]
  have hLo : (s_R S).locals = 560 := by rw [M.2.2.2.2.2.2.2.1]
  have hCe : (s_R S).cells = 0 := by rw [M.2.2.2.2.2.2.2.1]
  have hSl : (s_R S).slots = 0 := by rw [M.2.2.2.2.2.2.2.1]
  have hi := hO.2.2.2.1
  have ha := hO.2.2.2.2
  obtain ⟨hI2, hI3, hI6, hI7, hI9, hI10, hItl, hI11, hI12, hIL⟩ := id hI
  have hI9 := c_s9 hI
  refine v_aload_n hc dX5_leastCost_0 rfl ?_
  refine z_iconst hc dX5_leastCost_1 ?_
  refine z_iconst hc dX5_leastCost_2 ?_
  refine z_iconst hc dX5_leastCost_3 ?_
  refine v_callV (As := [.int (zI 0), .int (zI 0), .int (zI (-1))]) hc ho dX5_leastCost_4 KV_X5_129 KB_X5_leastFrom hO.1 rfl rfl (c_LF_all _ _ L d hd8 hO hI hK (s := 0) (u := 0) (t := -1) (by omega) (by omega) ⟨by omega, by omega, fun _ => c_pc_0 12⟩ (by omega) (by omega)) rfl (Nat.le_of_ble_eq_true rfl) ⟨by omega, by omega⟩ ⟨by omega, by omega⟩ (fun r_ h_ sz_ q_ z_ => ?_)
  obtain ⟨e1_, i3, a3, ⟨rfl, e3_, hE3, hK3, hI3⟩, hO3, hfr3⟩ := q_
  have e1_ := e1_.symm
  subst e1_
  have e3_ := e3_.symm
  subst e3_
  refine z_iret M dX5_leastCost_7 (by omega) (by omega) ?_
  exact ⟨rfl, i, a3, ⟨rfl, rfl, hE3, hK3, hI3⟩, hO3, hfr3⟩
