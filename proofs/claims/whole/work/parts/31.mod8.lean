/-! the reference: way, along -/
theorem w_is_cong {a a0 : Nat → Nat → Int} (hE : ∀ k, k ≠ 16 → a k = a0 k) (p b n : Int) : (w_is a p b n ↔ w_is a0 p b n) ∧ (∀ m j, w_rw a p m b j = w_rw a0 p m b j) := by
  obtain ⟨h1, h2, h3, h4⟩ := w_E_cong hE p
  obtain ⟨-, hb, hN⟩ := w_cong hE p
  have hx : ∀ n x l, w_nx a p n x l = w_nx a0 p n x l := fun n x l => by unfold w_nx; rw [h1, hN]
  refine ⟨by unfold w_is; simp only [hb, h4], fun m j => ?_⟩
  induction j with
  | zero => rw [w_rw, w_rw, hb, h4]
  | succ j ih => rw [w_rw, w_rw, ih, h2, hx, h4]
/-- how many blocks, or -2 -/
def w_ct (a : Nat → Nat → Int) (p b n : Int) : Prop := w_is a p b n ∨ (n = -2 ∧ ∀ m : Int, 1 ≤ m → m ≤ 16 → w_an (w_bg a p m.toNat b) (a 12 p.toNat).toNat = false)

set_option maxHeartbeats 4000000 in
theorem c_X7_way (l : Launch) (G : b_G) {o : Nat} {ad : Nat → Nat} {i : Nat → Int} {a : Nat → Nat → Int} {h : b_H} {sz : Nat} (hO : r_O K7 7 o ad i a h) (hI : m_P i a) {p b : Int} (hp : zb p) (hb : zb b) : Con l G yX7_way cX7_way 3 (some .int) 2 49 0 0 [.ref o, .int (zI p), .int (zI b)] h sz (p_wr K7 7 o ad h sz (fun r i2 a2 => (¬ ((0 ≤ p ∧ p ≤ i 5 - 1) ∧ 1 ≤ b ∧ b ≤ 400) ∧ r = some (.int (zI (-1))) ∧ i2 = i ∧ a2 = a) ∨ (∃ n : Int, ((0 ≤ p ∧ p ≤ i 5 - 1) ∧ 1 ≤ b ∧ b ≤ 400) ∧ r = some (.int (zI n)) ∧ w_ct a p b n ∧ m_P i2 a2 ∧ (∀ k, k ≠ 18 → i2 k = i k) ∧ (∀ k, k ≠ 16 → k ≠ 17 → a2 k = a k)))) := by
  refine Con.ofK (by decide +kernel) rfl rfl ?_
  intro S M
  have hc := M.2.2.2.1
  have ho : s_own S = RX7 := M.2.2.1
  have hFr : (s_R S).frames = 2 := by rw [M.2.2.2.2.2.2.2.1]
  have hLo : (s_R S).locals = 49 := by rw [M.2.2.2.2.2.2.2.1]
  have hCe : (s_R S).cells = 0 := by rw [M.2.2.2.2.2.2.2.1]
  have hSl : (s_R S).slots = 0 := by rw [M.2.2.2.2.2.2.2.1]
  have hi := hO.2.2.2.1
  have ha := hO.2.2.2.2
  obtain ⟨hI5, hIbk, hIsf, hIky, hImd, hIth, hIfe, hIbt, hIb1, hIhw, hInx, hIen⟩ := id hI
  have hfr : ∀ b, ¬ r_own K7 o ad b → h b = h b := fun _ _ => rfl
  refine v_aload_n hc dX7_way_0 rfl ?_
  refine v_iload_n hc dX7_way_1 rfl ?_
  refine v_callV (As := [.int (zI p)]) hc ho dX7_way_2 KV_X7_155 KB_X7_isPiece hO.1 rfl rfl (c_X7_isPiece _ _ hO hI (x := p) (by first | assumption | exact hi _ | exact ha _ _ | (unfold zb; omega))) rfl (Nat.le_of_ble_eq_true rfl) ⟨by omega, by omega⟩ ⟨by omega, by omega⟩ (fun r_ h_ sz_ q_ z_ => ?_)
  obtain ⟨rfl, eh_, es_⟩ := q_
  have eh_ := eh_.symm
  subst eh_
  have es_ := es_.symm
  subst es_
  have hp0 := @bI_0 (0 ≤ p ∧ p ≤ i 5 - 1) _
  have hp1 := @bI_1 (0 ≤ p ∧ p ≤ i 5 - 1) _
  have hpb := bI_bd (0 ≤ p ∧ p ≤ i 5 - 1)
  refine z_if_eq (tgt := 19) hc dX7_way_5 (by decide) (by first | assumption | exact hi _ | exact ha _ _ | (unfold zb; omega)) (fun c_1 => ?_) (fun c_1 => ?_)
  · refine z_iconst hc dX7_way_19 ?_
    refine z_iret M dX7_way_20 (by omega) (by omega) ?_
    exact ⟨rfl, _, _, Or.inl ⟨by omega, rfl, rfl, rfl⟩, hO, hfr⟩
  · refine v_iload_n hc dX7_way_8 rfl ?_
    refine z_iconst hc dX7_way_9 ?_
    refine z_sipush hc dX7_way_10 (by decide) ?_
    refine v_callS (As := [.int (zI (b)), .int (zI (1)), .int (zI (400))]) hc ho dX7_way_13 KS_X7_130 KB_X7_in (c_X7_in _ _ (x := b) (y := 1) (z := 400) (by first | assumption | exact hi _ | exact ha _ _ | (unfold zb; omega)) (by first | assumption | exact hi _ | exact ha _ _ | (unfold zb; omega)) (by first | assumption | exact hi _ | exact ha _ _ | (unfold zb; omega))) rfl (Nat.le_of_ble_eq_true rfl) ⟨by omega, by omega⟩ ⟨by omega, by omega⟩ (fun r_ h_ sz_ q_ z_ => ?_)
    obtain ⟨rfl, eh_, es_⟩ := q_
    have eh_ := eh_.symm
    subst eh_
    have es_ := es_.symm
    subst es_
    have hq0 := @bI_0 (1 ≤ b ∧ b ≤ 400) _
    have hq1 := @bI_1 (1 ≤ b ∧ b ≤ 400) _
    have hqb := bI_bd (1 ≤ b ∧ b ≤ 400)
    refine z_if_ne (tgt := 21) hc dX7_way_16 (by decide) (by first | assumption | exact hi _ | exact ha _ _ | (unfold zb; omega)) (fun c_2 => ?_) (fun c_2 => ?_)
    · refine v_aload_n hc dX7_way_21 rfl ?_
      refine v_iload_n hc dX7_way_22 rfl ?_
      refine v_callV (As := [.int (zI p)]) hc ho dX7_way_23 KV_X7_170 KB_X7_findWays hO.1 rfl rfl (c_X7_findWays _ _ hO hI (p := p) (by omega)) rfl (Nat.le_of_ble_eq_true rfl) ⟨by omega, by omega⟩ ⟨by omega, by omega⟩ (fun r_ h_ sz_ q_ z_ => ?_)
      obtain ⟨e1_, i3, a3, ⟨rfl, e3_, hI3, hE3, hD3⟩, hO3, hfr3⟩ := q_
      have e1_ := e1_.symm
      subst e1_
      have e3_ := e3_.symm
      subst e3_
      obtain ⟨hwE, hwB, hwH, h12⟩ := w_E_cong hE3 p
      obtain ⟨hwh, hwb, hwN⟩ := w_cong hE3 p
      have hD4 : m_D (a3 16) (a3 12 p.toNat) (w_E a3 p) 17 0 0 := by rw [h12, hwE]; exact hD3
      have hfr := hfr3
      have hO := hO3
      refine v_aload_n hc dX7_way_26 rfl ?_
      refine v_iload_n hc dX7_way_27 rfl ?_
      refine v_iload_n hc dX7_way_28 rfl ?_
      refine v_callV (As := [.int (zI p), .int (zI b)]) hc ho dX7_way_29 KV_X7_174 KB_X7_wayFor hO.1 rfl rfl (c_X7_wayFor _ _ hO hI3 (p := p) (b := b) (by omega) (by omega) hD4) rfl (Nat.le_of_ble_eq_true rfl) ⟨by omega, by omega⟩ ⟨by omega, by omega⟩ (fun r_ h_ sz_ q_ z_ => ?_)
      have hq : ∃ n : Int, r_ = some (.int (zI n)) ∧ w_ct a p b n ∧ sz_ = sz ∧ ∃ i4 a4, m_P i4 a4 ∧ (∀ k, k ≠ 18 → i4 k = i k) ∧ (∀ k, k ≠ 16 → k ≠ 17 → a4 k = a k) ∧ (∀ j : Nat, (j : Int) < n → a4 17 j = ((w_rw a p n.toNat b j).1 : Int)) ∧ r_O K7 7 o ad i4 a4 h_ ∧ ∀ b, ¬ r_own K7 o ad b → h_ b = h b := by
        obtain ⟨e1, i4, a4, hh, hO4, hfr4⟩ := q_
        rcases hh with ⟨g1, g2, rfl, rfl⟩ | ⟨n, g1, g2, g3, g4, g5, g6⟩
        · exact ⟨-2, g2, Or.inr ⟨rfl, fun m m1 m2 => by have := g1 m m1 m2; rw [hwb, h12] at this; exact this⟩, e1, _, _, hI3, fun _ _ => rfl, fun k k1 _ => hE3 k k1, fun j hj => by omega, hO4, fun b hb => (hfr4 b hb).trans (hfr b hb)⟩
        · exact ⟨n, g2, Or.inl ((w_is_cong hE3 p b n).1.mp g1), e1, _, _, g3, g4, fun k k1 k2 => (g5 k k2).trans (hE3 k k1), fun j hj => by rw [g6 j hj, (w_is_cong hE3 p b n).2], hO4, fun b hb => (hfr4 b hb).trans (hfr b hb)⟩
      obtain ⟨n, rfl, hct, e1_, i4, a4, hI4, hi4, hE4, hR4, hO4, hfr4⟩ := hq
      have e1_ := e1_.symm
      subst e1_
      have hO := hO4
      have hfr := hfr4
      have hi := hO.2.2.2.1
      have ha := hO.2.2.2.2
      have hnb : -2 ≤ n ∧ n ≤ 16 := by rcases hct with q | q; exact ⟨by have := q.1; omega, q.2.1⟩; exact ⟨by omega, by omega⟩
      refine z_iret M dX7_way_32 (by omega) (by omega) ?_
      exact ⟨rfl, _, _, Or.inr ⟨n, by omega, rfl, hct, hI4, hi4, hE4⟩, hO, hfr⟩
    · refine z_iconst hc dX7_way_19 ?_
      refine z_iret M dX7_way_20 (by omega) (by omega) ?_
      exact ⟨rfl, _, _, Or.inl ⟨by omega, rfl, rfl, rfl⟩, hO, hfr⟩
set_option maxHeartbeats 4000000 in
theorem c_X7_along (l : Launch) (G : b_G) {o : Nat} {ad : Nat → Nat} {i : Nat → Int} {a : Nat → Nat → Int} {h : b_H} {sz : Nat} (hO : r_O K7 7 o ad i a h) (hI : m_P i a) {p b u : Int} (hp : zb p) (hb : zb b) (hu : zb u) : Con l G yX7_along cX7_along 5 (some .int) 2 49 0 0 [.ref o, .int (zI p), .int (zI b), .int (zI u)] h sz (p_wr K7 7 o ad h sz (fun r i2 a2 => (¬ ((0 ≤ p ∧ p ≤ i 5 - 1) ∧ 1 ≤ b ∧ b ≤ 400) ∧ r = some (.int (zI (-1))) ∧ i2 = i ∧ a2 = a) ∨ (∃ n : Int, ((0 ≤ p ∧ p ≤ i 5 - 1) ∧ 1 ≤ b ∧ b ≤ 400) ∧ r = some (.int (zI (if 0 ≤ u ∧ u ≤ n - 1 then ((w_rw a p n.toNat b u.toNat).1 : Int) else -1))) ∧ w_ct a p b n ∧ m_P i2 a2 ∧ (∀ k, k ≠ 18 → i2 k = i k) ∧ (∀ k, k ≠ 16 → k ≠ 17 → a2 k = a k)))) := by
  refine Con.ofK (by decide +kernel) rfl rfl ?_
  intro S M
  have hc := M.2.2.2.1
  have ho : s_own S = RX7 := M.2.2.1
  have hFr : (s_R S).frames = 2 := by rw [M.2.2.2.2.2.2.2.1]
  have hLo : (s_R S).locals = 49 := by rw [M.2.2.2.2.2.2.2.1]
  have hCe : (s_R S).cells = 0 := by rw [M.2.2.2.2.2.2.2.1]
  have hSl : (s_R S).slots = 0 := by rw [M.2.2.2.2.2.2.2.1]
  have hi := hO.2.2.2.1
  have ha := hO.2.2.2.2
  obtain ⟨hI5, hIbk, hIsf, hIky, hImd, hIth, hIfe, hIbt, hIb1, hIhw, hInx, hIen⟩ := id hI
  have hfr : ∀ b, ¬ r_own K7 o ad b → h b = h b := fun _ _ => rfl
  refine v_aload_n hc dX7_along_0 rfl ?_
  refine v_iload_n hc dX7_along_1 rfl ?_
  refine v_callV (As := [.int (zI p)]) hc ho dX7_along_2 KV_X7_155 KB_X7_isPiece hO.1 rfl rfl (c_X7_isPiece _ _ hO hI (x := p) (by first | assumption | exact hi _ | exact ha _ _ | (unfold zb; omega))) rfl (Nat.le_of_ble_eq_true rfl) ⟨by omega, by omega⟩ ⟨by omega, by omega⟩ (fun r_ h_ sz_ q_ z_ => ?_)
  obtain ⟨rfl, eh_, es_⟩ := q_
  have eh_ := eh_.symm
  subst eh_
  have es_ := es_.symm
  subst es_
  have hp0 := @bI_0 (0 ≤ p ∧ p ≤ i 5 - 1) _
  have hp1 := @bI_1 (0 ≤ p ∧ p ≤ i 5 - 1) _
  have hpb := bI_bd (0 ≤ p ∧ p ≤ i 5 - 1)
  refine z_if_eq (tgt := 19) hc dX7_along_5 (by decide) (by first | assumption | exact hi _ | exact ha _ _ | (unfold zb; omega)) (fun c_1 => ?_) (fun c_1 => ?_)
  · refine z_iconst hc dX7_along_19 ?_
    refine z_iret M dX7_along_20 (by omega) (by omega) ?_
    exact ⟨rfl, _, _, Or.inl ⟨by omega, rfl, rfl, rfl⟩, hO, hfr⟩
  · refine v_iload_n hc dX7_along_8 rfl ?_
    refine z_iconst hc dX7_along_9 ?_
    refine z_sipush hc dX7_along_10 (by decide) ?_
    refine v_callS (As := [.int (zI (b)), .int (zI (1)), .int (zI (400))]) hc ho dX7_along_13 KS_X7_130 KB_X7_in (c_X7_in _ _ (x := b) (y := 1) (z := 400) (by first | assumption | exact hi _ | exact ha _ _ | (unfold zb; omega)) (by first | assumption | exact hi _ | exact ha _ _ | (unfold zb; omega)) (by first | assumption | exact hi _ | exact ha _ _ | (unfold zb; omega))) rfl (Nat.le_of_ble_eq_true rfl) ⟨by omega, by omega⟩ ⟨by omega, by omega⟩ (fun r_ h_ sz_ q_ z_ => ?_)
    obtain ⟨rfl, eh_, es_⟩ := q_
    have eh_ := eh_.symm
    subst eh_
    have es_ := es_.symm
    subst es_
    have hq0 := @bI_0 (1 ≤ b ∧ b ≤ 400) _
    have hq1 := @bI_1 (1 ≤ b ∧ b ≤ 400) _
    have hqb := bI_bd (1 ≤ b ∧ b ≤ 400)
    refine z_if_ne (tgt := 21) hc dX7_along_16 (by decide) (by first | assumption | exact hi _ | exact ha _ _ | (unfold zb; omega)) (fun c_2 => ?_) (fun c_2 => ?_)
    · refine v_aload_n hc dX7_along_21 rfl ?_
      refine v_iload_n hc dX7_along_22 rfl ?_
      refine v_callV (As := [.int (zI p)]) hc ho dX7_along_23 KV_X7_170 KB_X7_findWays hO.1 rfl rfl (c_X7_findWays _ _ hO hI (p := p) (by omega)) rfl (Nat.le_of_ble_eq_true rfl) ⟨by omega, by omega⟩ ⟨by omega, by omega⟩ (fun r_ h_ sz_ q_ z_ => ?_)
      obtain ⟨e1_, i3, a3, ⟨rfl, e3_, hI3, hE3, hD3⟩, hO3, hfr3⟩ := q_
      have e1_ := e1_.symm
      subst e1_
      have e3_ := e3_.symm
      subst e3_
      obtain ⟨hwE, hwB, hwH, h12⟩ := w_E_cong hE3 p
      obtain ⟨hwh, hwb, hwN⟩ := w_cong hE3 p
      have hD4 : m_D (a3 16) (a3 12 p.toNat) (w_E a3 p) 17 0 0 := by rw [h12, hwE]; exact hD3
      have hfr := hfr3
      have hO := hO3
      refine v_aload_n hc dX7_along_26 rfl ?_
      refine v_iload_n hc dX7_along_27 rfl ?_
      refine v_iload_n hc dX7_along_28 rfl ?_
      refine v_callV (As := [.int (zI p), .int (zI b)]) hc ho dX7_along_29 KV_X7_174 KB_X7_wayFor hO.1 rfl rfl (c_X7_wayFor _ _ hO hI3 (p := p) (b := b) (by omega) (by omega) hD4) rfl (Nat.le_of_ble_eq_true rfl) ⟨by omega, by omega⟩ ⟨by omega, by omega⟩ (fun r_ h_ sz_ q_ z_ => ?_)
      have hq : ∃ n : Int, r_ = some (.int (zI n)) ∧ w_ct a p b n ∧ sz_ = sz ∧ ∃ i4 a4, m_P i4 a4 ∧ (∀ k, k ≠ 18 → i4 k = i k) ∧ (∀ k, k ≠ 16 → k ≠ 17 → a4 k = a k) ∧ (∀ j : Nat, (j : Int) < n → a4 17 j = ((w_rw a p n.toNat b j).1 : Int)) ∧ r_O K7 7 o ad i4 a4 h_ ∧ ∀ b, ¬ r_own K7 o ad b → h_ b = h b := by
        obtain ⟨e1, i4, a4, hh, hO4, hfr4⟩ := q_
        rcases hh with ⟨g1, g2, rfl, rfl⟩ | ⟨n, g1, g2, g3, g4, g5, g6⟩
        · exact ⟨-2, g2, Or.inr ⟨rfl, fun m m1 m2 => by have := g1 m m1 m2; rw [hwb, h12] at this; exact this⟩, e1, _, _, hI3, fun _ _ => rfl, fun k k1 _ => hE3 k k1, fun j hj => by omega, hO4, fun b hb => (hfr4 b hb).trans (hfr b hb)⟩
        · exact ⟨n, g2, Or.inl ((w_is_cong hE3 p b n).1.mp g1), e1, _, _, g3, g4, fun k k1 k2 => (g5 k k2).trans (hE3 k k1), fun j hj => by rw [g6 j hj, (w_is_cong hE3 p b n).2], hO4, fun b hb => (hfr4 b hb).trans (hfr b hb)⟩
      obtain ⟨n, rfl, hct, e1_, i4, a4, hI4, hi4, hE4, hR4, hO4, hfr4⟩ := hq
      have e1_ := e1_.symm
      subst e1_
      have hO := hO4
      have hfr := hfr4
      have hi := hO.2.2.2.1
      have ha := hO.2.2.2.2
      have hnb : -2 ≤ n ∧ n ≤ 16 := by rcases hct with q | q; exact ⟨by have := q.1; omega, q.2.1⟩; exact ⟨by omega, by omega⟩
      refine v_istore hc dX7_along_32 (Nat.le_of_ble_eq_true rfl) ?_
      refine v_iload_n hc dX7_along_34 rfl ?_
      refine z_iconst hc dX7_along_35 ?_
      refine v_iload hc dX7_along_36 rfl ?_
      refine z_iconst hc dX7_along_38 ?_
      refine z_isub hc dX7_along_39 ?_
      refine v_callS (As := [.int (zI (u)), .int (zI (0)), .int (zI (n - 1))]) hc ho dX7_along_40 KS_X7_130 KB_X7_in (c_X7_in _ _ (x := u) (y := 0) (z := n - 1) (by first | assumption | exact hi _ | exact ha _ _ | (unfold zb; omega)) (by first | assumption | exact hi _ | exact ha _ _ | (unfold zb; omega)) (by first | assumption | exact hi _ | exact ha _ _ | (unfold zb; omega))) rfl (Nat.le_of_ble_eq_true rfl) ⟨by omega, by omega⟩ ⟨by omega, by omega⟩ (fun r_ h_ sz_ q_ z_ => ?_)
      obtain ⟨rfl, eh_, es_⟩ := q_
      have eh_ := eh_.symm
      subst eh_
      have es_ := es_.symm
      subst es_
      have hr0 := @bI_0 (0 ≤ u ∧ u ≤ n - 1) _
      have hr1 := @bI_1 (0 ≤ u ∧ u ≤ n - 1) _
      have hrb := bI_bd (0 ≤ u ∧ u ≤ n - 1)
      refine z_if_eq (tgt := 55) hc dX7_along_43 (by decide) (by first | assumption | exact hi _ | exact ha _ _ | (unfold zb; omega)) (fun c_3 => ?_) (fun c_3 => ?_)
      · refine z_iconst hc dX7_along_55 ?_
        refine z_iret M dX7_along_56 (by omega) (by omega) ?_
        first | exact ⟨rfl, _, _, Or.inr ⟨n, by omega, by rw [if_pos (by omega), hR4 _ (by omega)], hct, hI4, hi4, hE4⟩, hO, hfr⟩ | exact ⟨rfl, _, _, Or.inr ⟨n, by omega, by rw [if_neg (by omega)], hct, hI4, hi4, hE4⟩, hO, hfr⟩
      · refine v_aload_n hc dX7_along_46 rfl ?_
        refine r_getA hc ho dX7_along_47 F_X7_54 hO rfl ?_
        refine v_iload_n hc dX7_along_50 rfl ?_
        refine r_iald hc dX7_along_51 hO 17 rfl (by decide) (by omega) (by omega) ?_
        refine v_goto (tgt := 56) hc dX7_along_52 (by decide) ?_
        refine z_iret M dX7_along_56 (by omega) (by omega) ?_
        first | exact ⟨rfl, _, _, Or.inr ⟨n, by omega, by rw [if_pos (by omega), hR4 _ (by omega)], hct, hI4, hi4, hE4⟩, hO, hfr⟩ | exact ⟨rfl, _, _, Or.inr ⟨n, by omega, by rw [if_neg (by omega)], hct, hI4, hi4, hE4⟩, hO, hfr⟩
    · refine z_iconst hc dX7_along_19 ?_
      refine z_iret M dX7_along_20 (by omega) (by omega) ?_
      exact ⟨rfl, _, _, Or.inl ⟨by omega, rfl, rfl, rfl⟩, hO, hfr⟩
