/-! the reference: programme -/
theorem q_bt_hw (hw : Nat → Prop) [DecidablePred hw] (ms : Int → Int) : ∀ n : Nat, 1 ≤ q_bt hw ms n → hw (q_bt hw ms n).toNat
  | 0, h => by rw [q_bt] at h; omega
  | n + 1, h => by
    rw [q_bt] at h ⊢
    split
    · rename_i hc
      rw [show ((n : Int) + 1).toNat = n + 1 by omega]
      exact hc.1
    · rename_i hc
      rw [if_neg hc] at h
      exact q_bt_hw hw ms n h
theorem w_hw_ex {a : Nat → Nat → Int} {p b : Int} : ∀ {n : Nat}, w_hw a p b n = true → ∃ m : Nat, 1 ≤ m ∧ m ≤ n ∧ w_an (w_bg a p m b) (a 12 p.toNat).toNat = true
  | 0, h => by rw [w_hw] at h; cases h
  | n + 1, h => by
    rw [w_hw, Bool.or_eq_true] at h
    rcases h with h | h
    · obtain ⟨m, h1, h2, h3⟩ := w_hw_ex h
      exact ⟨m, h1, by omega, h3⟩
    · exact ⟨n + 1, by omega, by omega, h⟩
/-- the way that was given for stretch s -/
def m_gw (a0 a : Nat → Nat → Int) (p b : Int) (s : Nat) : Prop := ∃ n : Int, w_is a0 p b n ∧ a 30 s = n ∧ ∀ k : Nat, (k : Int) < n → a 31 (16 * s + k) = ((w_rw a0 p n.toNat b k).1 : Int)
def m_EW (a0 a : Nat → Nat → Int) : Prop := ∀ k, k ≠ 16 → k ≠ 17 → k ≠ 30 → k ≠ 31 → a k = a0 k
theorem m_P_w {i i2 : Nat → Int} {a a2 : Nat → Nat → Int} (h : m_P i a) (h5 : i2 5 = i 5) (hE : ∀ k, k ≠ 23 → k ≠ 24 → k ≠ 26 → k ≠ 27 → k ≠ 28 → k ≠ 29 → k ≠ 30 → k ≠ 31 → a2 k = a k) : m_P i2 a2 := by
  unfold m_P at h ⊢
  rw [hE 12 (by decide) (by decide) (by decide) (by decide) (by decide) (by decide) (by decide) (by decide), hE 8 (by decide) (by decide) (by decide) (by decide) (by decide) (by decide) (by decide) (by decide), hE 9 (by decide) (by decide) (by decide) (by decide) (by decide) (by decide) (by decide) (by decide), hE 6 (by decide) (by decide) (by decide) (by decide) (by decide) (by decide) (by decide) (by decide), hE 7 (by decide) (by decide) (by decide) (by decide) (by decide) (by decide) (by decide) (by decide), hE 10 (by decide) (by decide) (by decide) (by decide) (by decide) (by decide) (by decide) (by decide), hE 11 (by decide) (by decide) (by decide) (by decide) (by decide) (by decide) (by decide) (by decide), hE 13 (by decide) (by decide) (by decide) (by decide) (by decide) (by decide) (by decide) (by decide), hE 14 (by decide) (by decide) (by decide) (by decide) (by decide) (by decide) (by decide) (by decide), hE 15 (by decide) (by decide) (by decide) (by decide) (by decide) (by decide) (by decide) (by decide), hE 16 (by decide) (by decide) (by decide) (by decide) (by decide) (by decide) (by decide) (by decide), h5]
  exact h

set_option maxHeartbeats 4000000 in
theorem l_X7_programme577 {S : b_S} {l : Launch} {G : b_G} {o : Nat} {ad : Nat → Nat} {i : Nat → Int} {a0 : Nat → Nat → Int} {hB : b_H} {sz : Nat} {post : Option Value → b_H → Nat → Prop} (M : b_M S l G RX7 cX7_programme 7 (some .int) "programme" 3 75 0 0 hB sz post) {s : Int} {x1 x2 x3 x4 : Option Value} (hs : 0 ≤ s ∧ s ≤ 7) (hb30 : 1 ≤ a0 30 s.toNat ∧ a0 30 s.toNat ≤ 16) (P615 : ∀ (h : b_H) (a : Nat → Nat → Int) (k : Int), (r_O K7 7 o ad i a h) → (∀ b, ¬ r_own K7 o ad b → h b = hB b) → (∀ u, u ≠ 31 → a u = a0 u) → (∀ j : Nat, (j : Int) < a0 30 s.toNat → a 31 (16 * s.toNat + j) = a0 17 j) → (∀ j : Nat, j < 16 * s.toNat → a 31 j = a0 31 j) → V S 0 0 h sz 615 [some (.ref o), x1, x2, x3, x4, some (.int (zI s)), some (.int (zI k))] []) : ∀ (d : Nat) (h : b_H) (a : Nat → Nat → Int) (k : Int), ((a0 30 s.toNat - k).toNat = d) → (0 ≤ k) → (k ≤ a0 30 s.toNat) → (r_O K7 7 o ad i a h) → (∀ b, ¬ r_own K7 o ad b → h b = hB b) → (∀ u, u ≠ 31 → a u = a0 u) → (∀ j : Nat, (j : Int) < k → a 31 (16 * s.toNat + j) = a0 17 j) → (∀ j : Nat, j < 16 * s.toNat → a 31 j = a0 31 j) → V S 0 0 h sz 577 [some (.ref o), x1, x2, x3, x4, some (.int (zI s)), some (.int (zI k))] [] := by
  have hc := M.2.2.2.1
  have ho : s_own S = RX7 := M.2.2.1
  have hFr : (s_R S).frames = 3 := by rw [M.2.2.2.2.2.2.2.1]
  have hLo : (s_R S).locals = 75 := by rw [M.2.2.2.2.2.2.2.1]
  have hCe : (s_R S).cells = 0 := by rw [M.2.2.2.2.2.2.2.1]
  have hSl : (s_R S).slots = 0 := by rw [M.2.2.2.2.2.2.2.1]
  intro d
  induction d using Nat.strongRecOn with
  | ind d ih =>
    intro h a k hd h0 h1 hO hfr hE hw hlow
    have hi := hO.2.2.2.1
    have ha := hO.2.2.2.2
    refine v_iload hc dX7_programme_577 rfl ?_
    refine v_aload_n hc dX7_programme_579 rfl ?_
    refine r_getA hc ho dX7_programme_580 F_X7_88 hO rfl ?_
    refine v_iload hc dX7_programme_583 rfl ?_
    refine r_iald hc dX7_programme_585 hO 30 rfl (by decide) (by omega) (by omega) ?_
    rw [hE 30 (by decide)]
    refine z_icmp_ge (tgt := 615) hc dX7_programme_586 (by decide) (by first | assumption | exact hi _ | exact ha _ _ | (unfold zb; omega)) (by first | assumption | exact hi _ | exact ha _ _ | (unfold zb; omega)) (fun c_1 => ?_) (fun c_1 => ?_)
    · exact P615 h a k hO hfr hE (fun j hj => hw j (by omega)) hlow
    · have hr17 := ha 17 k.toNat
      refine v_aload_n hc dX7_programme_589 rfl ?_
      refine r_getA hc ho dX7_programme_590 F_X7_91 hO rfl ?_
      refine z_bipush hc dX7_programme_593 (by decide) ?_
      refine v_iload hc dX7_programme_595 rfl ?_
      refine z_imul hc dX7_programme_597 ?_
      refine v_iload hc dX7_programme_598 rfl ?_
      refine z_iadd hc dX7_programme_600 ?_
      refine v_aload_n hc dX7_programme_601 rfl ?_
      refine r_getA hc ho dX7_programme_602 F_X7_54 hO rfl ?_
      refine v_iload hc dX7_programme_605 rfl ?_
      refine r_iald hc dX7_programme_607 hO 17 rfl (by decide) (by omega) (by omega) ?_
      refine r_iastf hc dX7_programme_608 hO hfr 31 rfl (by decide) (by omega) (by omega) (by first | assumption | exact hi _ | exact ha _ _ | (unfold zb; omega)) (fun h a_2 g_2 k_2 hO hfr => ?_)
      have ha := hO.2.2.2.2
      refine z_iinc hc dX7_programme_609 rfl ?_
      refine v_goto (tgt := 577) hc dX7_programme_612 (by decide) ?_
      have hx : (16 * s + k).toNat = 16 * s.toNat + k.toNat := by omega
      refine ih _ (by omega) h a_2 _ rfl (by omega) (by omega) hO hfr (fun u u1 => (k_2 u u1).trans (hE u u1)) (fun j hj => ?_) (fun j hj => ?_)
      · rw [g_2, hx]
        by_cases e : j = k.toNat
        · rw [e, b_up_eq, hE 17 (by decide)]
        · rw [b_up_ne _ _ (by omega)]; exact hw j (by omega)
      · rw [g_2, hx, b_up_ne _ _ (by omega)]; exact hlow j hj
set_option maxHeartbeats 4000000 in
theorem l_X7_programme525 {S : b_S} {l : Launch} {G : b_G} {o : Nat} {ad : Nat → Nat} {i0 : Nat → Int} {a0 : Nat → Nat → Int} {hB : b_H} {sz : Nat} {post : Option Value → b_H → Nat → Prop} (M : b_M S l G RX7 cX7_programme 7 (some .int) "programme" 3 75 0 0 hB sz post) {best : Int} {St : Nat} {x1 x2 x4 : Option Value} (hSt8 : St ≤ 8) (h25 : i0 25 = (St : Int)) (hbest : 0 ≤ best ∧ best ≤ 900000) (hI5 : 0 ≤ i0 5 ∧ i0 5 ≤ 12) (hgs : ∀ s : Nat, s < St → (0 ≤ a0 26 s ∧ a0 26 s < i0 5) ∧ (1 ≤ a0 27 s ∧ a0 27 s ≤ 400) ∧ w_hw a0 (a0 26 s) (a0 27 s) 16 = true) (P621 : ∀ (h : b_H) (i : Nat → Int) (a : Nat → Nat → Int) (s : Int) (x6 : Option Value), (r_O K7 7 o ad i a h) → (∀ b, ¬ r_own K7 o ad b → h b = hB b) → (∀ k, k ≠ 18 → i k = i0 k) → (m_EW a0 a) → (m_P i a) → (∀ t : Nat, t < St → m_gw a0 a (a0 26 t) (a0 27 t) t) → V S 0 0 h sz 621 [some (.ref o), x1, x2, some (.int (zI best)), x4, some (.int (zI s)), x6] []) : ∀ (d : Nat) (h : b_H) (i : Nat → Int) (a : Nat → Nat → Int) (s : Int) (x6 : Option Value), (((St : Int) - s).toNat = d) → (0 ≤ s) → (s ≤ St) → (r_O K7 7 o ad i a h) → (∀ b, ¬ r_own K7 o ad b → h b = hB b) → (∀ k, k ≠ 18 → i k = i0 k) → (m_EW a0 a) → (m_P i a) → (∀ t : Nat, (t : Int) < s → m_gw a0 a (a0 26 t) (a0 27 t) t) → V S 0 0 h sz 525 [some (.ref o), x1, x2, some (.int (zI best)), x4, some (.int (zI s)), x6] [] := by
  have hc := M.2.2.2.1
  have ho : s_own S = RX7 := M.2.2.1
  have hFr : (s_R S).frames = 3 := by rw [M.2.2.2.2.2.2.2.1]
  have hLo : (s_R S).locals = 75 := by rw [M.2.2.2.2.2.2.2.1]
  have hCe : (s_R S).cells = 0 := by rw [M.2.2.2.2.2.2.2.1]
  have hSl : (s_R S).slots = 0 := by rw [M.2.2.2.2.2.2.2.1]
  intro d
  induction d using Nat.strongRecOn with
  | ind d ih =>
    intro h i a s x6 hd h0 h1 hO hfr hEi hE hPa hold
    have hi := hO.2.2.2.1
    have ha := hO.2.2.2.2
    have e25 := hEi 25 (by decide)
    have e5 := hEi 5 (by decide)
    refine v_iload hc dX7_programme_525 rfl ?_
    refine v_aload_n hc dX7_programme_527 rfl ?_
    refine r_get hc ho dX7_programme_528 F_X7_209 hO rfl ?_
    refine z_icmp_ge (tgt := 621) hc dX7_programme_531 (by decide) (by first | assumption | exact hi _ | exact ha _ _ | (unfold zb; omega)) (by first | assumption | exact hi _ | exact ha _ _ | (unfold zb; omega)) (fun c_1 => ?_) (fun c_1 => ?_)
    · exact P621 h i a s _ hO hfr hEi hE hPa (fun t ht => hold t (by omega))
    · refine v_iload_n hc dX7_programme_534 rfl ?_
      refine z_if_lt (tgt := 621) hc dX7_programme_535 (by decide) (by first | assumption | exact hi _ | exact ha _ _ | (unfold zb; omega)) (fun c_2 => absurd c_2 (by omega)) (fun c_2 => ?_)
      have h26 : a 26 = a0 26 := hE 26 (by decide) (by decide) (by decide) (by decide)
      have h27 : a 27 = a0 27 := hE 27 (by decide) (by decide) (by decide) (by decide)
      obtain ⟨hg1, hg2, hhw⟩ := hgs s.toNat (by omega)
      obtain ⟨pp, hpp⟩ : ∃ u, a0 26 s.toNat = u := ⟨_, rfl⟩
      obtain ⟨bb, hbb⟩ : ∃ u, a0 27 s.toNat = u := ⟨_, rfl⟩
      rw [hpp] at hg1 hhw
      rw [hbb] at hg2 hhw
      refine v_aload_n hc dX7_programme_538 rfl ?_
      refine v_aload_n hc dX7_programme_539 rfl ?_
      refine r_getA hc ho dX7_programme_540 F_X7_76 hO rfl ?_
      refine v_iload hc dX7_programme_543 rfl ?_
      refine r_iald hc dX7_programme_545 hO 26 rfl (by decide) (by omega) (by omega) ?_
      rw [h26, hpp]
      refine v_callV (As := [.int (zI pp)]) hc ho dX7_programme_546 KV_X7_170 KB_X7_findWays hO.1 rfl rfl (c_X7_findWays _ _ hO hPa (p := pp) (by omega)) rfl (Nat.le_of_ble_eq_true rfl) ⟨by omega, by omega⟩ ⟨by omega, by omega⟩ (fun r3_ h3_ sz3_ q_ z_ => ?_)
      obtain ⟨e1_, i3, a3, ⟨rfl, e3_, hP3, hE3, hD3⟩, hO3, hfr3⟩ := q_
      have e1_ := e1_.symm
      subst e1_
      have e3_ := e3_.symm
      subst e3_
      have h12 : a 12 = a0 12 := hE 12 (by decide) (by decide) (by decide) (by decide)
      have h123 : a3 12 = a0 12 := (hE3 12 (by decide)).trans h12
      have hw4 : w_4 a a0 := ⟨h12, hE 13 (by decide) (by decide) (by decide) (by decide), hE 14 (by decide) (by decide) (by decide) (by decide), hE 15 (by decide) (by decide) (by decide) (by decide)⟩
      have hw43 : w_4 a3 a0 := ⟨h123, (hE3 13 (by decide)).trans (hE 13 (by decide) (by decide) (by decide) (by decide)), (hE3 14 (by decide)).trans (hE 14 (by decide) (by decide) (by decide) (by decide)), (hE3 15 (by decide)).trans (hE 15 (by decide) (by decide) (by decide) (by decide))⟩
      have hD4 : m_D (a3 16) (a3 12 pp.toNat) (w_E a3 pp) 17 0 0 := by rw [h123, ← h12, (w_4E hw43 pp).1, ← (w_4E hw4 pp).1]; exact hD3
      replace hO := hO3
      replace hfr := fun b hb => (hfr3 b hb).trans (hfr b hb)
      have ha := hO.2.2.2.2
      refine v_aload_n hc dX7_programme_549 rfl ?_
      refine r_getA hc ho dX7_programme_550 F_X7_88 hO rfl ?_
      refine v_iload hc dX7_programme_553 rfl ?_
      refine v_aload_n hc dX7_programme_555 rfl ?_
      refine v_aload_n hc dX7_programme_556 rfl ?_
      refine r_getA hc ho dX7_programme_557 F_X7_76 hO rfl ?_
      refine v_iload hc dX7_programme_560 rfl ?_
      refine r_iald hc dX7_programme_562 hO 26 rfl (by decide) (by omega) (by omega) ?_
      rw [hE3 26 (by decide), h26, hpp]
      refine v_aload_n hc dX7_programme_563 rfl ?_
      refine r_getA hc ho dX7_programme_564 F_X7_79 hO rfl ?_
      refine v_iload hc dX7_programme_567 rfl ?_
      refine r_iald hc dX7_programme_569 hO 27 rfl (by decide) (by omega) (by omega) ?_
      rw [hE3 27 (by decide), h27, hbb]
      refine v_callV (As := [.int (zI pp), .int (zI bb)]) hc ho dX7_programme_570 KV_X7_174 KB_X7_wayFor hO.1 rfl rfl (c_X7_wayFor _ _ hO hP3 (p := pp) (b := bb) (by omega) (by omega) hD4) rfl (Nat.le_of_ble_eq_true rfl) ⟨by omega, by omega⟩ ⟨by omega, by omega⟩ (fun r5_ h5_ sz5_ q_ z_ => ?_)
      obtain ⟨e1_, i5, a5, hq5, hO5, hfr5⟩ := q_
      have e1_ := e1_.symm
      subst e1_
      rcases hq5 with ⟨hno, -⟩ | ⟨nw, hw5, rfl, hP5, hi5, hE5, hr5⟩
      · exfalso
        obtain ⟨m5, m51, m52, m53⟩ := w_hw_ex hhw
        have := hno (m5 : Int) (by omega) (by omega)
        rw [Int.toNat_natCast, (w_4E hw43 pp).2.2.1, h123, m53] at this
        cases this
      have hnb : 1 ≤ nw ∧ nw ≤ 16 := ⟨hw5.1, hw5.2.1⟩
      replace hO := hO5
      replace hfr := fun b hb => (hfr5 b hb).trans (hfr b hb)
      have hi := hO.2.2.2.1
      have ha := hO.2.2.2.2
      refine r_iastf hc dX7_programme_573 hO hfr 30 rfl (by decide) (by omega) (by omega) (by first | assumption | exact hi _ | exact ha _ _ | (unfold zb; omega)) (fun h a_3 g_3 k_3 hO hfr => ?_)
      have ha := hO.2.2.2.2
      have hb30 : 1 ≤ a_3 30 s.toNat ∧ a_3 30 s.toNat ≤ 16 := by rw [g_3, b_up_eq]; exact hnb
      refine z_iconst hc dX7_programme_574 ?_
      refine v_istore hc dX7_programme_575 (Nat.le_of_ble_eq_true rfl) ?_
      refine l_X7_programme577 M (i := i5) (a0 := a_3) (s := s) (by omega) hb30 (fun h6 a6 k6 hO6 hfr6 hE6 hw6 hl6 => ?_) _ h a_3 0 rfl (by omega) (by omega) hO hfr (fun _ _ => rfl) (fun j hj => by omega) (fun _ _ => rfl)
      refine z_iinc hc dX7_programme_615 rfl ?_
      refine v_goto (tgt := 525) hc dX7_programme_618 (by decide) ?_
      have hq30 : a6 30 = b_up (a 30) s.toNat nw := by rw [hE6 30 (by decide), g_3, hE5 30 (by decide), hE3 30 (by decide)]
      have hEn : m_EW a0 a6 := fun k k1 k2 k3 k4 => by rw [hE6 k k4, k_3 k k3, hE5 k k2, hE3 k k1]; exact hE k k1 k2 k3 k4
      refine ih _ (by omega) h6 i5 a6 _ _ rfl (by omega) (by omega) hO6 hfr6 (fun k hk => (hi5 k hk).trans (hEi k hk)) hEn ?_ (fun t ht => ?_)
      · refine m_P_w hP5 rfl (fun k k1 k2 k3 k4 k5 k6 k7 k8 => ?_)
        rw [hE6 k k8, k_3 k k7]
      · by_cases e : t = s.toNat
        · rw [e]
          refine ⟨nw, ?_, by rw [hq30, b_up_eq], fun k hk => ?_⟩
          · rw [hpp, hbb]; exact ((w_4E hw43 pp).2.2.2.1 bb nw).mp hw5
          · rw [hw6 k (by rw [g_3, b_up_eq]; exact hk), k_3 17 (by decide), hr5 k hk, hpp, hbb, (w_4E hw43 pp).2.2.2.2.1]
        · obtain ⟨n1, u1, u2, u3⟩ := hold t (by omega)
          refine ⟨n1, u1, by rw [hq30, b_up_ne _ _ e]; exact u2, fun k hk => ?_⟩
          have := u1.2.1
          rw [hl6 _ (by omega), k_3 31 (by decide), hE5 31 (by decide), hE3 31 (by decide)]
          exact u3 k hk
set_option maxHeartbeats 4000000 in
theorem c_X7_programme (l : Launch) (G : b_G) {o : Nat} {ad : Nat → Nat} {i : Nat → Int} {a : Nat → Nat → Int} {h : b_H} {sz : Nat} (hO : r_O K7 7 o ad i a h) {v : Int} (hvz : zb v) (hF : m_F i a) (hP : m_P i a) (hR : m_R i a) (h22 : ∀ j, 0 ≤ a 22 j ∧ a 22 j ≤ 100000) : Con l G yX7_programme cX7_programme 7 (some .int) 3 75 0 0 [.ref o, .int (zI v)] h sz (p_wr K7 7 o ad h sz (fun r i2 a2 => (¬ (12 ≤ v ∧ v ≤ 30) ∧ r = some (.int (zI (-1))) ∧ i2 = i ∧ a2 = a) ∨ ((12 ≤ v ∧ v ≤ 30) ∧ 8 < f_ct (a 4) (i 1).toNat ∧ r = some (.int (zI (-4))) ∧ i2 = i ∧ a2 = a) ∨ ((12 ≤ v ∧ v ≤ 30) ∧ f_ct (a 4) (i 1).toNat = 0 ∧ r = some (.int (zI (-2))) ∧ i2 = i ∧ a2 = a) ∨ (∃ St : Nat, f_ct (a 4) (i 1).toNat = (St : Int) ∧ (12 ≤ v ∧ v ≤ 30) ∧ 1 ≤ St ∧ St ≤ 8 ∧ ∃ a1, m_E3 a a1 ∧ (∀ t p : Nat, t < St → (p : Int) < i 5 → m_ft i a a1 v t p) ∧ (∀ k : Prop, k → k) ∧ ((((∀ q, ¬ z_v St (i 5).toNat (m_zf a1) (m_zt a1) (m_zj i a1) q) ∧ r = some (.int (zI (-2))) ∧ (∀ k, k ≠ 16 → k ≠ 21 → k ≠ 22 → k ≠ 23 → k ≠ 24 → a2 k = a k) ∧ (∀ k, i2 k = i k))) ∨ (∃ (g : Nat → Nat) (best : Int), (0 ≤ best ∧ best ≤ 900000) ∧ z_b St (i 5).toNat (m_zf a1) (m_zt a1) (m_zj i a1) g ∧ z_c (m_zf a1) (m_zj i a1) g St = best ∧ r = some (.int (zI best)) ∧ i2 25 = (St : Int) ∧ (∀ k, k ≠ 18 → k ≠ 25 → i2 k = i k) ∧ (∀ s : Nat, s < St → a2 26 s = (g s : Int) ∧ a2 27 s = m_fb i a v s (g s) ∧ a2 28 s = m_fm i a v s (g s) ∧ a2 29 s = m_T i a v s ∧ m_gw a a2 (g s) (m_fb i a v s (g s)) s) ∧ (∀ k, k ≠ 16 → k ≠ 17 → k ≠ 21 → k ≠ 22 → k ≠ 23 → k ≠ 24 → k ≠ 26 → k ≠ 27 → k ≠ 28 → k ≠ 29 → k ≠ 30 → k ≠ 31 → a2 k = a k))) ∧ m_P i2 a2 ∧ ∀ j, 0 ≤ a2 22 j ∧ a2 22 j ≤ 100000))) := by
  refine Con.ofK (by decide +kernel) rfl rfl ?_
  intro S M
  have hc := M.2.2.2.1
  have ho : s_own S = RX7 := M.2.2.1
  have hFr : (s_R S).frames = 3 := by rw [M.2.2.2.2.2.2.2.1]
  have hLo : (s_R S).locals = 75 := by rw [M.2.2.2.2.2.2.2.1]
  have hCe : (s_R S).cells = 0 := by rw [M.2.2.2.2.2.2.2.1]
  have hSl : (s_R S).slots = 0 := by rw [M.2.2.2.2.2.2.2.1]
  have hi := hO.2.2.2.1
  have ha := hO.2.2.2.2
  have hfr : ∀ b, ¬ r_own K7 o ad b → h b = h b := fun _ _ => rfl
  refine v_iload_n hc dX7_programme_0 rfl ?_
  refine z_bipush hc dX7_programme_1 (by decide) ?_
  refine z_bipush hc dX7_programme_3 (by decide) ?_
  refine v_callS (As := [.int (zI (v)), .int (zI (12)), .int (zI (30))]) hc ho dX7_programme_5 KS_X7_130 KB_X7_in (c_X7_in _ _ (x := v) (y := 12) (z := 30) (by first | assumption | exact hi _ | exact ha _ _ | (unfold zb; omega)) (by first | assumption | exact hi _ | exact ha _ _ | (unfold zb; omega)) (by first | assumption | exact hi _ | exact ha _ _ | (unfold zb; omega))) rfl (Nat.le_of_ble_eq_true rfl) ⟨by omega, by omega⟩ ⟨by omega, by omega⟩ (fun r_ h_ sz_ q_ z_ => ?_)
  obtain ⟨rfl, eh_, es_⟩ := q_
  have eh_ := eh_.symm
  subst eh_
  have es_ := es_.symm
  subst es_
  have hv0 := @bI_0 (12 ≤ v ∧ v ≤ 30) _
  have hv1 := @bI_1 (12 ≤ v ∧ v ≤ 30) _
  have hvb := bI_bd (12 ≤ v ∧ v ≤ 30)
  refine z_if_ne (tgt := 13) hc dX7_programme_8 (by decide) (by first | assumption | exact hi _ | exact ha _ _ | (unfold zb; omega)) (fun c_1 => ?_) (fun c_1 => ?_)
  · refine v_aload_n hc dX7_programme_13 rfl ?_
    refine v_callV (As := []) hc ho dX7_programme_14 KV_X7_141 KB_X7_stretches hO.1 rfl rfl (c_X7_stretches _ _ hO hF) rfl (Nat.le_of_ble_eq_true rfl) ⟨by omega, by omega⟩ ⟨by omega, by omega⟩ (fun r_ h_ sz_ q_ z_ => ?_)
    obtain ⟨rfl, eh_, es_⟩ := q_
    have eh_ := eh_.symm
    subst eh_
    have es_ := es_.symm
    subst es_
    have hctb := f_ct_bd (a 4) (i 1).toNat
    obtain ⟨St, hSt⟩ : ∃ n : Nat, f_ct (a 4) (i 1).toNat = (n : Int) := ⟨(f_ct (a 4) (i 1).toNat).toNat, by omega⟩
    rw [hSt]
    have hF1 := hF.1
    refine v_istore_n hc dX7_programme_17 (Nat.le_of_ble_eq_true rfl) ?_
    refine v_iload_n hc dX7_programme_18 rfl ?_
    refine z_bipush hc dX7_programme_19 (by decide) ?_
    refine z_icmp_le (tgt := 27) hc dX7_programme_21 (by decide) (by first | assumption | exact hi _ | exact ha _ _ | (unfold zb; omega)) (by first | assumption | exact hi _ | exact ha _ _ | (unfold zb; omega)) (fun c_2 => ?_) (fun c_2 => ?_)
    · refine v_iload_n hc dX7_programme_27 rfl ?_
      refine z_if_ne (tgt := 34) hc dX7_programme_28 (by decide) (by first | assumption | exact hi _ | exact ha _ _ | (unfold zb; omega)) (fun c_3 => ?_) (fun c_3 => ?_)
      · refine z_iconst hc dX7_programme_34 ?_
        refine v_istore_n hc dX7_programme_35 (Nat.le_of_ble_eq_true rfl) ?_
        have hTb : ∀ s : Nat, 0 ≤ m_T i a v s ∧ m_T i a v s ≤ 100000 := fun s => f_T_bd (a := fun k => if k = 0 then a 2 else if k = 1 then a 3 else a 4) hF.2.2.1 (by omega) (by omega) s
        have hI5 := hP.1
        refine l_X7_programme36 M (a0 := a) (St := St) (by omega) hF hP hSt (by omega) hTb (fun h1 a1 p1 x41 x51 x61 hO hfr hE1 hP1 hft h221 => ?_) _ h a 0 _ _ _ rfl (by omega) (by omega) hO hfr (fun _ _ _ _ => rfl) hP (fun t q ht hq => by omega) h22
        have ha := hO.2.2.2.2
        refine v_aload_n hc dX7_programme_189 rfl ?_
        refine r_getA hc ho dX7_programme_190 F_X7_70 hO rfl ?_
        refine v_iload_n hc dX7_programme_193 rfl ?_
        refine z_iconst hc dX7_programme_194 ?_
        refine r_iastf hc dX7_programme_195 hO hfr 23 rfl (by decide) (by omega) (by omega) (by first | assumption | exact hi _ | exact ha _ _ | (unfold zb; omega)) (fun h a_4 g_4 k_4 hO hfr => ?_)
        have ha := hO.2.2.2.2
        refine v_iload_n hc dX7_programme_196 rfl ?_
        refine z_iconst hc dX7_programme_197 ?_
        refine z_isub hc dX7_programme_198 ?_
        refine v_istore_n hc dX7_programme_199 (Nat.le_of_ble_eq_true rfl) ?_
        have h22q : ∀ j, 0 ≤ a_4 22 j ∧ a_4 22 j ≤ 100000 := by rw [k_4 22 (by decide)]; exact h221
        have hzq := m_z_cong (i := i) (i0 := i) rfl rfl (k_4 21 (by decide)) (k_4 22 (by decide)) (k_4 10 (by decide)) (k_4 6 (by decide))
        refine l_X7_programme200 M (a0 := a_4) (St := St) (by omega) hI5 h22q (fun h2 a2 s2 hO hfr hE2 hs2 hls => ?_) (fun h2 a2 s2 x42 x52 x62 hO hfr hE2 h222 hpos2 hrest2 => ?_) _ h a_4 _ _ _ _ rfl (by omega) (by omega) hO hfr (fun _ _ => rfl) h22q (fun t q1 q2 => by omega) (fun t q1 q2 => by rw [show t = St by omega, g_4, Int.toNat_natCast, b_up_eq]; unfold m_rs; rw [Nat.sub_self]; rfl)
        · refine ⟨rfl, i, a2, Or.inr (Or.inr (Or.inr ⟨St, hSt, by omega, by omega, by omega, a1, hE1, fun t p ht hp => hft t p ht (by omega), fun k hk => hk, Or.inl ⟨fun q hq => ?_, rfl, fun k k1 k2 k3 k4 k5 => ?_, fun _ => rfl⟩, ?_, ?_⟩)), hO, hfr⟩
          · have h1 := (m_ls_ok h22q s2 (i 5).toNat).1 hls (q s2) (hq s2 hs2).1
            have h2 := (hq s2 hs2).2.1
            rw [← hzq.1, m_zf, if_pos h1] at h2
            omega
          · rw [hE2 k k4, k_4 k k4]; exact hE1 k k1 k2 k3
          · exact m_P_w hP1 rfl (fun k k1 _ _ _ _ _ _ _ => (hE2 k k1).trans (k_4 k k1))
          · rw [hE2 22 (by decide), k_4 22 (by decide)]; exact h221
        have ha := hO.2.2.2.2
        refine z_iconst hc dX7_programme_307 ?_
        refine v_istore_n hc dX7_programme_308 (Nat.le_of_ble_eq_true rfl) ?_
        refine z_iconst hc dX7_programme_309 ?_
        refine v_istore hc dX7_programme_310 (Nat.le_of_ble_eq_true rfl) ?_
        refine v_aload_n hc dX7_programme_312 rfl ?_
        refine r_getA hc ho dX7_programme_313 F_X7_73 hO rfl ?_
        refine z_iconst hc dX7_programme_316 ?_
        refine z_iconst hc dX7_programme_317 ?_
        refine r_iastf hc dX7_programme_318 hO hfr 24 rfl (by decide) (by omega) (by omega) (by first | assumption | exact hi _ | exact ha _ _ | (unfold zb; omega)) (fun h a_5 g_5 k_5 hO hfr => ?_)
        have ha := hO.2.2.2.2
        have hall : ∀ k, k ≠ 16 → k ≠ 21 → k ≠ 22 → k ≠ 23 → k ≠ 24 → a_5 k = a k := fun k k1 k2 k3 k4 k5 => by rw [k_5 k k5, hE2 k k4, k_4 k k4]; exact hE1 k k1 k2 k3
        have h21q : a_5 21 = a1 21 := by rw [k_5 21 (by decide), hE2 21 (by decide), k_4 21 (by decide)]
        have h22z : a_5 22 = a1 22 := by rw [k_5 22 (by decide), hE2 22 (by decide), k_4 22 (by decide)]
        have hzq2 := m_z_cong (i := i) (i0 := i) (a := a_5) (a0 := a1) rfl rfl h21q h22z (by rw [k_5 10 (by decide), hE2 10 (by decide), k_4 10 (by decide)]) (by rw [k_5 6 (by decide), hE2 6 (by decide), k_4 6 (by decide)])
        have hls2 : m_ls a_5 = m_ls a_4 := m_ls_cong ((k_5 21 (by decide)).trans (hE2 21 (by decide))) ((k_5 22 (by decide)).trans (hE2 22 (by decide)))
        have hrs2 : m_rs a_5 = m_rs a_4 := by unfold m_rs; rw [hls2]
        have hmT : ∀ s, m_T i a_5 v s = m_T i a v s := fun s => by unfold m_T; rw [hall 2 (by decide) (by decide) (by decide) (by decide) (by decide), hall 4 (by decide) (by decide) (by decide) (by decide) (by decide)]
        refine l_X7_programme319 M (i0 := i) (a0 := a_5) (St := St) (by omega) (by unfold m_F; rw [hall 4 (by decide) (by decide) (by decide) (by decide) (by decide), hall 2 (by decide) (by decide) (by decide) (by decide) (by decide), hall 3 (by decide) (by decide) (by decide) (by decide) (by decide)]; exact hF) (by rw [hall 4 (by decide) (by decide) (by decide) (by decide) (by decide)]; exact hSt) (by omega) (fun s => by rw [hmT]; exact hTb s) hI5 (by rw [hall 6 (by decide) (by decide) (by decide) (by decide) (by decide)]; exact hP.2.2.2.1) (by rw [h22z]; exact h221) hR.1 (fun t ht => by rw [hls2]; exact hpos2 t ht) (fun t ht => by rw [k_5 23 (by decide), hrs2]; exact hrest2 t ht) (fun h5 i5 a5 best x55 x65 g hO hfr hEi5 hE5 hz5 hbb5 hgiv5 h255 h25n5 hold5 => ?_) _ h i a_5 _ _ _ _ (fun _ => 0) rfl hO hfr (fun _ _ => rfl) (fun _ _ _ _ _ _ => rfl) (by omega) (by omega) (fun s hs => by omega) (fun _ => by rw [g_5, show (0 : Int).toNat = 0 from rfl, b_up_eq]; omega) (z_T0 (by rw [g_5]; exact b_up_eq _ _ _)) (by omega) (fun hb => by omega) (fun hb => by omega) (fun _ => rfl) (fun _ _ _ _ => rfl)
        rw [hzq2.1, hzq2.2.1, hzq2.2.2] at hz5
        have hz9 := z_T9 hz5
        have hi := hO.2.2.2.1
        have ha := hO.2.2.2.2
        have hP5 : m_P i5 a5 := m_P_w hP1 (hEi5 5 (by decide)) (fun k k1 k2 k3 k4 k5 k6 k7 k8 => by rw [hE5 k k2 k3 k4 k5 k6, k_5 k k2, hE2 k k1, k_4 k k1])
        have h225 : a5 22 = a1 22 := by rw [hE5 22 (by decide) (by decide) (by decide) (by decide) (by decide), h22z]
        by_cases hbs : best < 0
        · -- none
          have hno : ∀ u, ¬ z_v St (i 5).toNat (m_zf a1) (m_zt a1) (m_zj i a1) u := by
            rcases hz9 with u | u
            · exact u.2
            · omega
          refine z_iconst hc dX7_programme_522 ?_
          refine v_istore hc dX7_programme_523 (Nat.le_of_ble_eq_true rfl) ?_
          refine v_iload hc dX7_programme_525 rfl ?_
          refine v_aload_n hc dX7_programme_527 rfl ?_
          refine r_get hc ho dX7_programme_528 F_X7_209 hO rfl ?_
          refine z_icmp_ge (tgt := 621) hc dX7_programme_531 (by decide) (by first | assumption | exact hi _ | exact ha _ _ | (unfold zb; omega)) (by first | assumption | exact hi _ | exact ha _ _ | (unfold zb; omega)) (fun c_106 => ?_) (fun c_106 => ?_)
          · refine v_iload_n hc dX7_programme_621 rfl ?_
            refine z_if_ge (tgt := 630) hc dX7_programme_622 (by decide) (by first | assumption | exact hi _ | exact ha _ _ | (unfold zb; omega)) (fun c_107 => absurd c_107 (by omega)) (fun c_107 => ?_)
            refine z_bipush hc dX7_programme_625 (by decide) ?_
            refine v_goto (tgt := 631) hc dX7_programme_627 (by decide) ?_
            refine z_iret M dX7_programme_631 (by omega) (by omega) ?_
            refine ⟨rfl, i5, a5, Or.inr (Or.inr (Or.inr ⟨St, hSt, by omega, by omega, by omega, a1, hE1, fun t p ht hp => hft t p ht (by omega), fun k hk => hk, Or.inl ⟨hno, rfl, fun k k1 k2 k3 k4 k5 => ?_, fun k => ?_⟩, hP5, by rw [h225]; exact h221⟩)), hO, hfr⟩
            · by_cases e25 : k = 25
              · rw [e25]; rw [hE5 25 (by decide) (by decide) (by decide) (by decide) (by decide)]; exact hall 25 (by decide) (by decide) (by decide) (by decide) (by decide)
              · rw [hold5 hbs k k5 e25]; exact hall k k1 k2 k3 k4 k5
            · by_cases e25 : k = 25
              · rw [e25]; exact h25n5 hbs
              · exact hEi5 k e25
          · refine v_iload_n hc dX7_programme_534 rfl ?_
            refine z_if_lt (tgt := 621) hc dX7_programme_535 (by decide) (by first | assumption | exact hi _ | exact ha _ _ | (unfold zb; omega)) (fun c_108 => ?_) (fun c_108 => absurd c_108 (by omega))
            refine v_iload_n hc dX7_programme_621 rfl ?_
            refine z_if_ge (tgt := 630) hc dX7_programme_622 (by decide) (by first | assumption | exact hi _ | exact ha _ _ | (unfold zb; omega)) (fun c_109 => absurd c_109 (by omega)) (fun c_109 => ?_)
            refine z_bipush hc dX7_programme_625 (by decide) ?_
            refine v_goto (tgt := 631) hc dX7_programme_627 (by decide) ?_
            refine z_iret M dX7_programme_631 (by omega) (by omega) ?_
            refine ⟨rfl, i5, a5, Or.inr (Or.inr (Or.inr ⟨St, hSt, by omega, by omega, by omega, a1, hE1, fun t p ht hp => hft t p ht (by omega), fun k hk => hk, Or.inl ⟨hno, rfl, fun k k1 k2 k3 k4 k5 => ?_, fun k => ?_⟩, hP5, by rw [h225]; exact h221⟩)), hO, hfr⟩
            · by_cases e25 : k = 25
              · rw [e25]; rw [hE5 25 (by decide) (by decide) (by decide) (by decide) (by decide)]; exact hall 25 (by decide) (by decide) (by decide) (by decide) (by decide)
              · rw [hold5 hbs k k5 e25]; exact hall k k1 k2 k3 k4 k5
            · by_cases e25 : k = 25
              · rw [e25]; exact h25n5 hbs
              · exact hEi5 k e25
        · -- found
          have hbd : z_b St (i 5).toNat (m_zf a1) (m_zt a1) (m_zj i a1) g ∧ z_c (m_zf a1) (m_zj i a1) g St = best := by
            rcases hz9 with u | u
            · omega
            · exact u.2
          have hgv := hgiv5 (by omega)
          have h25 := h255 (by omega)
          have hw45 : w_4 a5 a := ⟨by rw [hE5 12 (by decide) (by decide) (by decide) (by decide) (by decide)]; exact hall 12 (by decide) (by decide) (by decide) (by decide) (by decide), by rw [hE5 13 (by decide) (by decide) (by decide) (by decide) (by decide)]; exact hall 13 (by decide) (by decide) (by decide) (by decide) (by decide), by rw [hE5 14 (by decide) (by decide) (by decide) (by decide) (by decide)]; exact hall 14 (by decide) (by decide) (by decide) (by decide) (by decide), by rw [hE5 15 (by decide) (by decide) (by decide) (by decide) (by decide)]; exact hall 15 (by decide) (by decide) (by decide) (by decide) (by decide)⟩
          have hgs : ∀ s : Nat, s < St → (0 ≤ a5 26 s ∧ a5 26 s < i5 5) ∧ (1 ≤ a5 27 s ∧ a5 27 s ≤ 400) ∧ w_hw a5 (a5 26 s) (a5 27 s) 16 = true := fun s hs => by
            obtain ⟨u1, u2, u3, u4⟩ := hgv s hs
            have hgn := (hbd.1.1 s hs).1
            have hgo := (hbd.1.1 s hs).2.1
            have hf1 := (hft s (g s) hs (by omega)).1
            rw [h21q, hf1] at u2
            have hfb : ¬ m_fb i a v s (g s) < 0 := fun hn => by
              rw [m_zf, if_pos (by rw [hf1]; exact hn)] at hgo; omega
            have hfd := m_fb_bd i a v s (g s)
            rw [u1, u2, hEi5 5 (by decide)]
            refine ⟨by omega, by omega, ?_⟩
            rw [(w_4E hw45 (g s)).2.1]
            have hb2 : m_fb i a v s (g s) = q_bt (fun b => w_hw a (g s : Int) (b : Int) 16 = true) (fun b => p_mf (600 * b / a 9 (g s)) (600 * b / a 8 (g s)) (m_T i a v s)) 400 := by
              unfold m_fb at hfb ⊢
              split
              · rfl
              · rename_i hc; rw [if_neg hc] at hfb; omega
            have := q_bt_hw (fun b => w_hw a (g s : Int) (b : Int) 16 = true) (fun b => p_mf (600 * b / a 9 (g s)) (600 * b / a 8 (g s)) (m_T i a v s)) 400 (by rw [← hb2]; omega)
            rw [← hb2] at this
            rw [show ((((m_fb i a v s (g s)).toNat : Nat)) : Int) = m_fb i a v s (g s) by omega] at this
            exact this
          refine z_iconst hc dX7_programme_522 ?_
          refine v_istore hc dX7_programme_523 (Nat.le_of_ble_eq_true rfl) ?_
          refine l_X7_programme525 M (i0 := i5) (a0 := a5) (St := St) (by omega) h25 (by omega) (by rw [hEi5 5 (by decide)]; exact hI5) hgs (fun h6 i6 a6 s6 x66 hO6 hfr6 hEi6 hE6 hP6 hgw6 => ?_) _ h5 i5 a5 0 _ rfl (by omega) (by omega) hO hfr (fun _ _ => rfl) (fun _ _ _ _ _ => rfl) hP5 (fun t ht => by omega)
          refine v_iload_n hc dX7_programme_621 rfl ?_
          refine z_if_ge (tgt := 630) hc dX7_programme_622 (by decide) (by first | assumption | exact hi _ | exact ha _ _ | (unfold zb; omega)) (fun c_206 => ?_) (fun c_206 => absurd c_206 (by omega))
          refine v_iload_n hc dX7_programme_630 rfl ?_
          refine z_iret M dX7_programme_631 (by omega) (by omega) ?_
          refine ⟨rfl, i6, a6, Or.inr (Or.inr (Or.inr ⟨St, hSt, by omega, by omega, by omega, a1, hE1, fun t p ht hp => hft t p ht (by omega), fun k hk => hk, Or.inr ⟨g, best, by omega, hbd.1, hbd.2, rfl, ?_, fun k k1 k2 => ?_, fun s hs => ?_, fun k k1 k2 k3 k4 k5 k6 k7 k8 k9 k10 k11 k12 => ?_⟩, hP6, ?_⟩)), hO6, hfr6⟩
          · rw [hEi6 25 (by decide)]; exact h25
          · rw [hEi6 k k1]; exact hEi5 k k2
          · obtain ⟨u1, u2, u3, u4⟩ := hgv s hs
            have hfs := hft s (g s) hs (by have := (hbd.1.1 s hs).1; omega)
            rw [h21q, hfs.1] at u2
            rw [h22z, hfs.2] at u3
            rw [hmT] at u4
            obtain ⟨nw, w1, w2, w3⟩ := hgw6 s hs
            rw [u1, u2] at w1 w3
            refine ⟨by rw [hE6 26 (by decide) (by decide) (by decide) (by decide)]; exact u1, by rw [hE6 27 (by decide) (by decide) (by decide) (by decide)]; exact u2, by rw [hE6 28 (by decide) (by decide) (by decide) (by decide)]; exact u3, by rw [hE6 29 (by decide) (by decide) (by decide) (by decide)]; exact u4, nw, ((w_4E hw45 (g s)).2.2.2.1 _ nw).mp w1, w2, fun k hk => ?_⟩
            rw [w3 k hk, (w_4E hw45 (g s)).2.2.2.2.1]
          · rw [hE6 k k1 k2 k11 k12, hE5 k k6 k7 k8 k9 k10]; exact hall k k1 k3 k4 k5 k6
          · rw [hE6 22 (by decide) (by decide) (by decide) (by decide), h225]; exact h221
      · refine z_bipush hc dX7_programme_31 (by decide) ?_
        refine z_iret M dX7_programme_33 (by omega) (by omega) ?_
        exact ⟨rfl, i, a, Or.inr (Or.inr (Or.inl ⟨by omega, by omega, rfl, rfl, rfl⟩)), hO, hfr⟩
    · refine z_bipush hc dX7_programme_24 (by decide) ?_
      refine z_iret M dX7_programme_26 (by omega) (by omega) ?_
      exact ⟨rfl, i, a, Or.inr (Or.inl ⟨by omega, by omega, rfl, rfl, rfl⟩), hO, hfr⟩
  · refine z_iconst hc dX7_programme_11 ?_
    refine z_iret M dX7_programme_12 (by omega) (by omega) ?_
    exact ⟨rfl, i, a, Or.inl ⟨by omega, rfl, rfl, rfl⟩, hO, hfr⟩
