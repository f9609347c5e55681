/-! the planner: what is chosen; bits, room, steps -/
theorem c_M_le {f : Nat → Int} : ∀ {n : Nat}, c_M f n ≤ 1048575 ∧ ∀ p, p < n → c_M f n ≤ f p
  | 0 => ⟨by rw [c_M]; omega, fun p hp => by omega⟩
  | n + 1 => by
    have h := c_M_le (f := f) (n := n)
    rw [c_M]
    refine ⟨by omega, fun p hp => ?_⟩
    by_cases e : p = n
    · subst e; omega
    · have := h.2 p (by omega); omega
theorem c_M_at {f : Nat → Int} : ∀ {n : Nat}, ¬ c_M f n = 1048575 → ∃ p, p < n ∧ f p = c_M f n
  | 0, h => absurd rfl h
  | n + 1, h => by
    rw [c_M] at h ⊢
    by_cases e : c_M f n ≤ f n
    · rw [Int.min_eq_left e] at h ⊢
      obtain ⟨p, h1, h2⟩ := c_M_at h
      exact ⟨p, by omega, h2⟩
    · rw [Int.min_eq_right (by omega)]
      exact ⟨n, by omega, rfl⟩
/-- the first of the cheapest pieces where d stretches are left behind this one -/
def c_F (St n : Nat) (ms : Nat → Nat → Int) (jn : Int → Nat → Int) (bt : Nat → Int) (d : Nat) (u t : Int) : Nat := f_fi (fun p => decide (c_Wt St n ms jn bt d u t p = c_L St n ms jn bt (d + 1) u t)) n 0
theorem c_F_ok {St n : Nat} {ms : Nat → Nat → Int} {jn : Int → Nat → Int} {bt : Nat → Int} {d : Nat} {u t : Int} (h : ¬ c_L St n ms jn bt (d + 1) u t = 1048575) : c_F St n ms jn bt d u t < n ∧ c_Wt St n ms jn bt d u t (c_F St n ms jn bt d u t) = c_L St n ms jn bt (d + 1) u t ∧ ∀ q, q < c_F St n ms jn bt d u t → c_L St n ms jn bt (d + 1) u t < c_Wt St n ms jn bt d u t q := by
  have h0 := h
  rw [c_L_s] at h
  obtain ⟨p, hp, hp2⟩ := c_M_at h
  have hlt : c_F St n ms jn bt d u t < n := by
    rcases Nat.lt_or_ge (c_F St n ms jn bt d u t) n with q | q
    · exact q
    · have := f_fi_no (fun p => decide (c_Wt St n ms jn bt d u t p = c_L St n ms jn bt (d + 1) u t)) n 0 p (by omega) (Nat.lt_of_lt_of_le hp q)
      rw [decide_eq_false_iff_not] at this
      exact absurd hp2 this
  refine ⟨hlt, ?_, fun q hq => ?_⟩
  · have := f_fi_yes (fun p => decide (c_Wt St n ms jn bt d u t p = c_L St n ms jn bt (d + 1) u t)) n 0 (by rw [Nat.zero_add]; exact hlt)
    exact of_decide_eq_true this
  · have h1 := f_fi_no (fun p => decide (c_Wt St n ms jn bt d u t p = c_L St n ms jn bt (d + 1) u t)) n 0 q (by omega) hq
    rw [decide_eq_false_iff_not] at h1
    have h2 := (c_M_le (f := c_Wt St n ms jn bt d u t) (n := n)).2 q (by omega)
    rw [← c_L_s] at h2
    omega
theorem c_Wt_no {St n : Nat} {ms : Nat → Nat → Int} {jn : Int → Nat → Int} {bt : Nat → Int} {d : Nat} {u t : Int} {p : Nat} (h : ¬ c_Wt St n ms jn bt d u t p = 1048575) : 0 ≤ ms (St - (d + 1)) p ∧ ¬ jn t p = 1048575 ∧ d_an u (bt p) = 0 ∧ ¬ c_L St n ms jn bt d (u + bt p) p = 1048575 ∧ c_Wt St n ms jn bt d u t p = ms (St - (d + 1)) p + jn t p + c_L St n ms jn bt d (u + bt p) p := by
  unfold c_Wt at h ⊢
  by_cases q : ms (St - (d + 1)) p < 0 ∨ jn t p = 1048575 ∨ ¬ d_an u (bt p) = 0
  · rw [if_pos q] at h; exact absurd rfl h
  · rw [if_neg q] at h ⊢
    by_cases q2 : c_L St n ms jn bt d (u + bt p) p = 1048575
    · rw [if_pos q2] at h; exact absurd rfl h
    · rw [if_neg q2]
      refine ⟨by omega, by omega, ?_, q2, rfl⟩
      exact Decidable.byContradiction (fun w => q (Or.inr (Or.inr w)))
/-- the set and the last piece ahead of stretch s, along the chosen -/
def c_ch (St n : Nat) (ms : Nat → Nat → Int) (jn : Int → Nat → Int) (bt : Nat → Int) : Nat → Int × Int
  | 0 => (0, -1)
  | s + 1 => ((c_ch St n ms jn bt s).1 + bt (c_F St n ms jn bt (St - (s + 1)) (c_ch St n ms jn bt s).1 (c_ch St n ms jn bt s).2), (c_F St n ms jn bt (St - (s + 1)) (c_ch St n ms jn bt s).1 (c_ch St n ms jn bt s).2 : Int))
def c_cx (St n : Nat) (ms : Nat → Nat → Int) (jn : Int → Nat → Int) (bt : Nat → Int) (s : Nat) : Nat := c_F St n ms jn bt (St - (s + 1)) (c_ch St n ms jn bt s).1 (c_ch St n ms jn bt s).2
theorem c_ch_ok {L : Nat} {i : Nat → Int} {a : Nat → Nat → Int} (hI : c_I L i a) (hne : ¬ c_L (i 2).toNat (i 3).toNat (c_ms a) (c_jn a) (a 8) (i 2).toNat 0 (-1) = 1048575) : ∀ s : Nat, s ≤ (i 2).toNat → c_V i s (c_ch (i 2).toNat (i 3).toNat (c_ms a) (c_jn a) (a 8) s).1 ∧ -1 ≤ (c_ch (i 2).toNat (i 3).toNat (c_ms a) (c_jn a) (a 8) s).2 ∧ (c_ch (i 2).toNat (i 3).toNat (c_ms a) (c_jn a) (a 8) s).2 < i 3 ∧ ¬ c_L (i 2).toNat (i 3).toNat (c_ms a) (c_jn a) (a 8) ((i 2).toNat - s) (c_ch (i 2).toNat (i 3).toNat (c_ms a) (c_jn a) (a 8) s).1 (c_ch (i 2).toNat (i 3).toNat (c_ms a) (c_jn a) (a 8) s).2 = 1048575 := by
  obtain ⟨h2, h3, h6, h7, hm, h10, htl, h11, h12, hL⟩ := id hI
  have h9 := c_s9 hI
  intro s
  induction s with
  | zero => intro _; rw [c_ch]; exact ⟨⟨by omega, by omega, fun _ => c_pc_0 12⟩, by omega, by omega, hne⟩
  | succ s ih =>
    intro hs
    obtain ⟨g1, g2, g3, g4⟩ := ih (by omega)
    rw [show (i 2).toNat - s = ((i 2).toNat - (s + 1)) + 1 by omega] at g4
    obtain ⟨f1, f2, -⟩ := c_F_ok g4
    rw [← f2] at g4
    obtain ⟨e1, e2, e3, e4, e5⟩ := c_Wt_no g4
    rw [show (i 2).toNat - ((i 2).toNat - (s + 1) + 1) = s by omega] at e1
    rw [c_ch]
    refine ⟨?_, by show -1 ≤ ((_ : Nat) : Int); omega, by show ((_ : Nat) : Int) < _; omega, e4⟩
    have := c_V_nx hI (s := s) (p := c_F (i 2).toNat (i 3).toNat (c_ms a) (c_jn a) (a 8) ((i 2).toNat - (s + 1)) (c_ch (i 2).toNat (i 3).toNat (c_ms a) (c_jn a) (a 8) s).1 (c_ch (i 2).toNat (i 3).toNat (c_ms a) (c_jn a) (a 8) s).2) g1 (by omega) (by omega) e1 e3
    exact this
theorem c_cx_ok {L : Nat} {i : Nat → Int} {a : Nat → Nat → Int} (hI : c_I L i a) (hne : ¬ c_L (i 2).toNat (i 3).toNat (c_ms a) (c_jn a) (a 8) (i 2).toNat 0 (-1) = 1048575) (s : Nat) (hs : s < (i 2).toNat) : c_cx (i 2).toNat (i 3).toNat (c_ms a) (c_jn a) (a 8) s < (i 3).toNat ∧ 0 ≤ a 6 (s * 12 + c_cx (i 2).toNat (i 3).toNat (c_ms a) (c_jn a) (a 8) s) ∧ d_an (c_ch (i 2).toNat (i 3).toNat (c_ms a) (c_jn a) (a 8) s).1 (a 8 (c_cx (i 2).toNat (i 3).toNat (c_ms a) (c_jn a) (a 8) s)) = 0 := by
  obtain ⟨g1, g2, g3, g4⟩ := c_ch_ok hI hne s (by omega)
  rw [show (i 2).toNat - s = ((i 2).toNat - (s + 1)) + 1 by omega] at g4
  obtain ⟨f1, f2, -⟩ := c_F_ok g4
  rw [← f2] at g4
  obtain ⟨e1, e2, e3, e4, e5⟩ := c_Wt_no g4
  rw [show (i 2).toNat - ((i 2).toNat - (s + 1) + 1) = s by omega] at e1
  exact ⟨f1, e1, e3⟩

set_option maxHeartbeats 4000000 in
theorem c_X6_fifthsBetween (l : Launch) (G : b_G) {h : b_H} {sz : Nat} {x y : Int} (hx : 0 ≤ x ∧ x ≤ 11) (hy : 0 ≤ y ∧ y ≤ 11) : Con l G yX6_fifthsBetween cX6_fifthsBetween 3 (some .int) 1 22 0 0 [.int (zI x), .int (zI y)] h sz (p_ro (some (.int (zI (p_st x y)))) h sz) := by
  refine Con.ofK (by decide +kernel) rfl rfl ?_
  intro S M
  have hc := M.2.2.2.1
  have ho : s_own S = RX6 := M.2.2.1
  have hFr : (s_R S).frames = 1 := by rw [M.2.2.2.2.2.2.2.1]
  have hLo : (s_R S).locals = 22 := by rw [M.2.2.2.2.2.2.2.1]
  have hCe : (s_R S).cells = 0 := by rw [M.2.2.2.2.2.2.2.1]
  have hSl : (s_R S).slots = 0 := by rw [M.2.2.2.2.2.2.2.1]
  refine z_bipush hc dX6_fifthsBetween_0 (by decide) ?_
  refine v_iload_n hc dX6_fifthsBetween_2 rfl ?_
  refine v_iload_n hc dX6_fifthsBetween_3 rfl ?_
  refine z_isub hc dX6_fifthsBetween_4 ?_
  refine z_imul hc dX6_fifthsBetween_5 ?_
  refine z_bipush hc dX6_fifthsBetween_6 (by decide) ?_
  refine v_callS (As := [.int (zI (7 * (y - x))), .int (zI 12)]) hc ho dX6_fifthsBetween_8 KS_X6_210 KB_J9_floorMod_7cf53 (c_J9_floorMod_7cf53 _ _ (x := 7 * (y - x)) (by omega)) rfl (Nat.le_of_ble_eq_true rfl) ⟨by omega, by omega⟩ ⟨by omega, by omega⟩ (fun r_ h_ sz_ q_ z_ => ?_)
  obtain ⟨rfl, eh_, es_⟩ := q_
  have eh_ := eh_.symm
  subst eh_
  have es_ := es_.symm
  subst es_
  refine v_istore_n hc dX6_fifthsBetween_11 (Nat.le_of_ble_eq_true rfl) ?_
  refine v_iload_n hc dX6_fifthsBetween_12 rfl ?_
  refine z_bipush hc dX6_fifthsBetween_13 (by decide) ?_
  refine v_iload_n hc dX6_fifthsBetween_15 rfl ?_
  refine z_isub hc dX6_fifthsBetween_16 ?_
  refine z_min hc ho dX6_fifthsBetween_17 MM_X6_215 (by first | assumption | exact hi _ | exact ha _ _ | (unfold zb; omega)) (by first | assumption | exact hi _ | exact ha _ _ | (unfold zb; omega)) (by omega) (by rw [hLo]; exact Nat.le_of_ble_eq_true rfl) (by omega) (by omega) ?_
  refine z_iret M dX6_fifthsBetween_20 (by omega) (by omega) ?_
  exact ⟨by rw [show min (7 * (y - x) % 12) (12 - 7 * (y - x) % 12) = p_st x y by unfold p_st; rw [show (84 : Int) = 7 * 12 from rfl, Int.add_mul_emod_self_right]; split <;> omega], rfl, rfl⟩
set_option maxHeartbeats 4000000 in
theorem c_X5_changeWeight (l : Launch) (G : b_G) {L : Nat} {o : Nat} {ad : Nat → Nat} {i : Nat → Int} {a : Nat → Nat → Int} {h : b_H} {sz : Nat} (hO : r_O (K5 L) 5 o ad i a h) {x : Int} (hx : zb x) : Con l G yX5_changeWeight cX5_changeWeight 3 (some .int) 0 0 0 0 [.ref o, .int (zI x)] h sz (p_wr (K5 L) 5 o ad h sz (fun r i2 a2 => r = some (.int (zI (i 0))) ∧ i2 = b_up i 0 x ∧ a2 = a)) := by
  refine Con.ofK (by decide +kernel) rfl rfl ?_
  intro S M
  have hc := M.2.2.2.1
  have ho : s_own S = RX5 := M.2.2.1
  have hFr : (s_R S).frames = 0 := by rw [M.2.2.2.2.2.2.2.1]
  have hLo : (s_R S).locals = 0 := by rw [M.2.2.2.2.2.2.2.1]
  have hCe : (s_R S).cells = 0 := by rw [M.2.2.2.2.2.2.2.1]
  have hSl : (s_R S).slots = 0 := by rw [M.2.2.2.2.2.2.2.1]
  have hi := hO.2.2.2.1
  have ha := hO.2.2.2.2
  have hfr : ∀ b, ¬ r_own (K5 L) o ad b → h b = h b := fun _ _ => rfl
  refine v_aload_n hc dX5_changeWeight_0 rfl ?_
  refine r_get hc ho dX5_changeWeight_1 F_X5_9 hO rfl ?_
  refine v_istore_n hc dX5_changeWeight_4 (Nat.le_of_ble_eq_true rfl) ?_
  refine v_aload_n hc dX5_changeWeight_5 rfl ?_
  refine v_iload_n hc dX5_changeWeight_6 rfl ?_
  refine r_putI hc ho dX5_changeWeight_7 F_X5_9 hO hfr rfl (by first | assumption | exact hi _ | exact ha _ _ | (unfold zb; omega)) (fun h hO hfr => ?_)
  have hi := hO.2.2.2.1
  refine v_iload_n hc dX5_changeWeight_10 rfl ?_
  refine z_iret M dX5_changeWeight_11 (by omega) (by omega) ?_
  exact ⟨rfl, _, _, ⟨rfl, rfl, rfl⟩, hO, hfr⟩
set_option maxHeartbeats 4000000 in
theorem c_X5_changeMost (l : Launch) (G : b_G) {L : Nat} {o : Nat} {ad : Nat → Nat} {i : Nat → Int} {a : Nat → Nat → Int} {h : b_H} {sz : Nat} (hO : r_O (K5 L) 5 o ad i a h) {x : Int} (hx : zb x) : Con l G yX5_changeMost cX5_changeMost 3 (some .int) 0 0 0 0 [.ref o, .int (zI x)] h sz (p_wr (K5 L) 5 o ad h sz (fun r i2 a2 => r = some (.int (zI (i 1))) ∧ i2 = b_up i 1 x ∧ a2 = a)) := by
  refine Con.ofK (by decide +kernel) rfl rfl ?_
  intro S M
  have hc := M.2.2.2.1
  have ho : s_own S = RX5 := M.2.2.1
  have hFr : (s_R S).frames = 0 := by rw [M.2.2.2.2.2.2.2.1]
  have hLo : (s_R S).locals = 0 := by rw [M.2.2.2.2.2.2.2.1]
  have hCe : (s_R S).cells = 0 := by rw [M.2.2.2.2.2.2.2.1]
  have hSl : (s_R S).slots = 0 := by rw [M.2.2.2.2.2.2.2.1]
  have hi := hO.2.2.2.1
  have ha := hO.2.2.2.2
  have hfr : ∀ b, ¬ r_own (K5 L) o ad b → h b = h b := fun _ _ => rfl
  refine v_aload_n hc dX5_changeMost_0 rfl ?_
  refine r_get hc ho dX5_changeMost_1 F_X5_15 hO rfl ?_
  refine v_istore_n hc dX5_changeMost_4 (Nat.le_of_ble_eq_true rfl) ?_
  refine v_aload_n hc dX5_changeMost_5 rfl ?_
  refine v_iload_n hc dX5_changeMost_6 rfl ?_
  refine r_putI hc ho dX5_changeMost_7 F_X5_15 hO hfr rfl (by first | assumption | exact hi _ | exact ha _ _ | (unfold zb; omega)) (fun h hO hfr => ?_)
  have hi := hO.2.2.2.1
  refine v_iload_n hc dX5_changeMost_10 rfl ?_
  refine z_iret M dX5_changeMost_11 (by omega) (by omega) ?_
  exact ⟨rfl, _, _, ⟨rfl, rfl, rfl⟩, hO, hfr⟩
set_option maxHeartbeats 4000000 in
theorem l_X5_canBePlayed {S : b_S} {l : Launch} {G : b_G} {L : Nat} {o : Nat} {ad : Nat → Nat} {i : Nat → Int} {a : Nat → Nat → Int} {h : b_H} {sz : Nat} {post : Option Value → b_H → Nat → Prop} (M : b_M S l G RX5 cX5_canBePlayed 3 (some .boolean) "canBePlayed" 0 0 0 0 h sz post) (hO : r_O (K5 L) 5 o ad i a h) (hI2 : 0 ≤ i 2 ∧ i 2 ≤ 8) {p : Int} (hp : 0 ≤ p ∧ p ≤ 11) (P1 : w_an (fun s : Nat => decide (¬ a 5 (s * 12 + p.toNat) = -2)) (i 2).toNat = true → post (some (.int (zI 1))) h sz) (P0 : w_an (fun s : Nat => decide (¬ a 5 (s * 12 + p.toNat) = -2)) (i 2).toNat = false → post (some (.int (zI 0))) h sz) : ∀ (d : Nat) (x : Int), ((i 2 - x).toNat = d) → (0 ≤ x) → (x ≤ i 2) → (w_an (fun s : Nat => decide (¬ a 5 (s * 12 + p.toNat) = -2)) x.toNat = false) → V S 0 0 h sz 2 [some (.ref o), some (.int (zI p)), some (.int (zI x))] [] := by
  have hc := M.2.2.2.1
  have ho : s_own S = RX5 := M.2.2.1
  have hFr : (s_R S).frames = 0 := by rw [M.2.2.2.2.2.2.2.1]
  have hLo : (s_R S).locals = 0 := by rw [M.2.2.2.2.2.2.2.1]
  have hCe : (s_R S).cells = 0 := by rw [M.2.2.2.2.2.2.2.1]
  have hSl : (s_R S).slots = 0 := by rw [M.2.2.2.2.2.2.2.1]
  intro d
  induction d using Nat.strongRecOn with
  | ind d ih =>
    intro x hd h0 h1 hn
    have hi := hO.2.2.2.1
    have ha := hO.2.2.2.2
    refine v_iload_n hc dX5_canBePlayed_2 rfl ?_
    refine v_aload_n hc dX5_canBePlayed_3 rfl ?_
    refine r_get hc ho dX5_canBePlayed_4 F_X5_49 hO rfl ?_
    refine z_icmp_ge (tgt := 34) hc dX5_canBePlayed_7 (by decide) (by first | assumption | exact hi _ | exact ha _ _ | (unfold zb; omega)) (by first | assumption | exact hi _ | exact ha _ _ | (unfold zb; omega)) (fun c_1 => ?_) (fun c_1 => ?_)
    · refine z_iconst hc dX5_canBePlayed_34 ?_
      refine z_zret M (by omega) dX5_canBePlayed_35 (by omega) (by omega) ?_
      exact P0 (by rw [show (i 2).toNat = x.toNat by omega]; exact hn)
    · refine v_aload_n hc dX5_canBePlayed_10 rfl ?_
      refine r_getA hc ho dX5_canBePlayed_11 F_X5_22 hO rfl ?_
      refine v_iload_n hc dX5_canBePlayed_14 rfl ?_
      refine z_bipush hc dX5_canBePlayed_15 (by decide) ?_
      refine z_imul hc dX5_canBePlayed_17 ?_
      refine v_iload_n hc dX5_canBePlayed_18 rfl ?_
      refine z_iadd hc dX5_canBePlayed_19 ?_
      have he : (x * 12 + p).toNat = x.toNat * 12 + p.toNat := by omega
      refine r_iald hc dX5_canBePlayed_20 hO 5 rfl (by decide) (by omega) (by omega) ?_
      refine z_bipush hc dX5_canBePlayed_21 (by decide) ?_
      refine z_icmp_eq (tgt := 28) hc dX5_canBePlayed_23 (by decide) (by first | assumption | exact hi _ | exact ha _ _ | (unfold zb; omega)) (by first | assumption | exact hi _ | exact ha _ _ | (unfold zb; omega)) (fun c_2 => ?_) (fun c_2 => ?_)
      · refine z_iinc hc dX5_canBePlayed_28 rfl ?_
        refine v_goto (tgt := 2) hc dX5_canBePlayed_31 (by decide) ?_
        exact ih _ (by omega) _ rfl (by omega) (by omega) (by rw [show (x + 1).toNat = x.toNat + 1 by omega, w_an, hn]; show (false || decide _) = false; rw [Bool.false_or, decide_eq_false_iff_not, ← he]; omega)
      · refine z_iconst hc dX5_canBePlayed_26 ?_
        refine z_zret M (by omega) dX5_canBePlayed_27 (by omega) (by omega) ?_
        exact P1 ((w_an_iff _ _).mpr ⟨x.toNat, by omega, by show decide _ = true; rw [decide_eq_true_eq, ← he]; omega⟩)
set_option maxHeartbeats 4000000 in
theorem c_X5_canBePlayed (l : Launch) (G : b_G) {L : Nat} {o : Nat} {ad : Nat → Nat} {i : Nat → Int} {a : Nat → Nat → Int} {h : b_H} {sz : Nat} (hO : r_O (K5 L) 5 o ad i a h) (hI2 : 0 ≤ i 2 ∧ i 2 ≤ 8) {p : Int} (hp : 0 ≤ p ∧ p ≤ 11) : Con l G yX5_canBePlayed cX5_canBePlayed 3 (some .boolean) 0 0 0 0 [.ref o, .int (zI p)] h sz (p_ro (some (.int (zI (bI (w_an (fun s : Nat => decide (¬ a 5 (s * 12 + p.toNat) = -2)) (i 2).toNat = true))))) h sz) := by
  refine Con.ofK (by decide +kernel) rfl rfl ?_
  intro S M
  have hc := M.2.2.2.1
  have ho : s_own S = RX5 := M.2.2.1
  have hFr : (s_R S).frames = 0 := by rw [M.2.2.2.2.2.2.2.1]
  have hLo : (s_R S).locals = 0 := by rw [M.2.2.2.2.2.2.2.1]
  have hCe : (s_R S).cells = 0 := by rw [M.2.2.2.2.2.2.2.1]
  have hSl : (s_R S).slots = 0 := by rw [M.2.2.2.2.2.2.2.1]
  have hi := hO.2.2.2.1
  have ha := hO.2.2.2.2
  have hfr : ∀ b, ¬ r_own (K5 L) o ad b → h b = h b := fun _ _ => rfl
  refine z_iconst hc dX5_canBePlayed_0 ?_
  refine v_istore_n hc dX5_canBePlayed_1 (Nat.le_of_ble_eq_true rfl) ?_
  exact l_X5_canBePlayed M hO hI2 hp (fun q => ⟨by rw [bI, if_pos q], rfl, rfl⟩) (fun q => ⟨by rw [bI, if_neg (by rw [q]; decide)], rfl, rfl⟩) _ _ rfl (by omega) (by omega) rfl
set_option maxHeartbeats 4000000 in
theorem l_X5_firstOfLeast {S : b_S} {l : Launch} {G : b_G} {L d : Nat} {o : Nat} {ad : Nat → Nat} {i : Nat → Int} {a0 : Nat → Nat → Int} {hB : b_H} {sz : Nat} {post : Option Value → b_H → Nat → Prop} (M : b_M S l G RX5 cX5_firstOfLeast 6 (some .int) "firstOfLeast" 20 560 0 0 hB sz post) {s u t : Int} (hm0 : ∀ s p, c_ms a0 s p ≤ 100000) (hj0 : ∀ (l : Int) (p : Nat), 0 ≤ c_jn a0 l p ∧ (c_jn a0 l p ≤ 594 ∨ c_jn a0 l p = 1048575)) (hd8 : d < 8) (hs0 : 0 ≤ s) (hsd : s + d + 1 = i 2) (hV : c_V i s u) (ht0 : -1 ≤ t) (ht1 : t < i 3) (P : ∀ (h : b_H) (a : Nat → Nat → Int) (v : Int), r_O (K5 L) 5 o ad i a h → c_I L i a → c_K L i a → (∀ b, ¬ r_own (K5 L) o ad b → h b = hB b) → (∀ k, k ≠ 12 → a k = a0 k) → v = (if c_F (i 2).toNat (i 3).toNat (c_ms a0) (c_jn a0) (a0 8) d u t < (i 3).toNat then (c_F (i 2).toNat (i 3).toNat (c_ms a0) (c_jn a0) (a0 8) d u t : Int) else 0) → post (some (.int (zI v))) h sz) : ∀ (e : Nat) (h : b_H) (a : Nat → Nat → Int) (p : Int), ((i 3 - p).toNat = e) → (0 ≤ p) → (p ≤ i 3) → (r_O (K5 L) 5 o ad i a h) → (c_I L i a) → (c_K L i a) → (∀ b, ¬ r_own (K5 L) o ad b → h b = hB b) → (∀ k, k ≠ 12 → a k = a0 k) → (f_fi (fun p => decide (c_Wt (i 2).toNat (i 3).toNat (c_ms a0) (c_jn a0) (a0 8) d u t p = c_L (i 2).toNat (i 3).toNat (c_ms a0) (c_jn a0) (a0 8) (d + 1) u t)) (i 3).toNat 0 = f_fi (fun p => decide (c_Wt (i 2).toNat (i 3).toNat (c_ms a0) (c_jn a0) (a0 8) d u t p = c_L (i 2).toNat (i 3).toNat (c_ms a0) (c_jn a0) (a0 8) (d + 1) u t)) ((i 3).toNat - p.toNat) p.toNat) → V S 0 0 h sz 12 [some (.ref o), some (.int (zI s)), some (.int (zI u)), some (.int (zI t)), some (.int (zI (c_L (i 2).toNat (i 3).toNat (c_ms a0) (c_jn a0) (a0 8) (d + 1) u t))), some (.int (zI p))] [] := by
  have hc := M.2.2.2.1
  have ho : s_own S = RX5 := M.2.2.1
  have hFr : (s_R S).frames = 20 := by rw [M.2.2.2.2.2.2.2.1]
  have hLo : (s_R S).locals = 560 := by rw [M.2.2.2.2.2.2.2.1]
  have hCe : (s_R S).cells = 0 := by rw [M.2.2.2.2.2.2.2.1]
  have hSl : (s_R S).slots = 0 := by rw [M.2.2.2.2.2.2.2.1]
  intro e
  induction e using Nat.strongRecOn with
  | ind e ih =>
    intro h a p hd h0 h1 hO hI hK hfr hE hn
    have hi := hO.2.2.2.1
    have ha := hO.2.2.2.2
    obtain ⟨hI2, hI3, hI6, hI7, hI9, hI10, hItl, hI11, hI12, hIL⟩ := id hI
    refine v_iload hc dX5_firstOfLeast_12 rfl ?_
    refine v_aload_n hc dX5_firstOfLeast_14 rfl ?_
    refine r_get hc ho dX5_firstOfLeast_15 F_X5_56 hO rfl ?_
    refine z_icmp_ge (tgt := 44) hc dX5_firstOfLeast_18 (by decide) (by first | assumption | exact hi _ | exact ha _ _ | (unfold zb; omega)) (by first | assumption | exact hi _ | exact ha _ _ | (unfold zb; omega)) (fun c_1 => ?_) (fun c_1 => ?_)
    · refine z_iconst hc dX5_firstOfLeast_44 ?_
      refine z_iret M dX5_firstOfLeast_45 (by omega) (by omega) ?_
      refine P h a 0 hO hI hK hfr hE ?_
      rw [show (i 3).toNat - p.toNat = 0 by omega, f_fi] at hn
      rw [c_F, hn, if_neg (by omega)]
    · refine v_aload_n hc dX5_firstOfLeast_21 rfl ?_
      refine v_iload_n hc dX5_firstOfLeast_22 rfl ?_
      refine v_iload_n hc dX5_firstOfLeast_23 rfl ?_
      refine v_iload_n hc dX5_firstOfLeast_24 rfl ?_
      refine v_iload hc dX5_firstOfLeast_25 rfl ?_
      refine v_callV (As := [.int (zI s), .int (zI u), .int (zI t), .int (zI p)]) hc ho dX5_firstOfLeast_27 KV_X5_135 KB_X5_costWith hO.1 rfl rfl (c_CW_all _ _ L d hd8 hO hI hK (s := s) (u := u) (t := t) (p := p) hs0 hsd hV ht0 ht1 (by omega) (by omega)) rfl (Nat.le_of_ble_eq_true rfl) ⟨by omega, by omega⟩ ⟨by omega, by omega⟩ (fun r_ h_ sz_ q_ z_ => ?_)
      obtain ⟨e1_, i3, a3, ⟨rfl, e3_, hE3, hK3, hI3⟩, hO3, hfr3⟩ := q_
      have e1_ := e1_.symm
      subst e1_
      have e3_ := e3_.symm
      subst e3_
      have hce0 := c_cong hE
      rw [hce0.1, hce0.2.1, hce0.2.2]
      have hwb := (c_L_bd (St := (i 2).toNat) (n := (i 3).toNat) (ms := c_ms a0) (jn := c_jn a0) (bt := a0 8) hm0 hj0 d u t (by omega)).2 p.toNat (by omega)
      have hlb := (c_L_bd (St := (i 2).toNat) (n := (i 3).toNat) (ms := c_ms a0) (jn := c_jn a0) (bt := a0 8) hm0 hj0 (d + 1) u t (by omega)).1
      refine v_iload hc dX5_firstOfLeast_30 rfl ?_
      refine z_icmp_ne (tgt := 38) hc dX5_firstOfLeast_32 (by decide) (by first | assumption | exact hi _ | exact ha _ _ | (unfold zb; omega)) (by first | assumption | exact hi _ | exact ha _ _ | (unfold zb; omega)) (fun c_2 => ?_) (fun c_2 => ?_)
      · refine z_iinc hc dX5_firstOfLeast_38 rfl ?_
        refine v_goto (tgt := 12) hc dX5_firstOfLeast_41 (by decide) ?_
        exact ih _ (by omega) h_ a3 _ rfl (by omega) (by omega) hO3 hI3 hK3 (fun b hb => (hfr3 b hb).trans (hfr b hb)) (fun k hk => (hE3 k hk).trans (hE k hk)) (by rw [show (p + 1).toNat = p.toNat + 1 by omega, ← f_fi_st (by omega) (by show decide _ = false; rw [decide_eq_false_iff_not]; omega)]; exact hn)
      · refine v_iload hc dX5_firstOfLeast_35 rfl ?_
        refine z_iret M dX5_firstOfLeast_37 (by omega) (by omega) ?_
        refine P h_ a3 p hO3 hI3 hK3 (fun b hb => (hfr3 b hb).trans (hfr b hb)) (fun k hk => (hE3 k hk).trans (hE k hk)) ?_
        rw [f_fi_hit (by omega) (by show decide _ = true; rw [decide_eq_true_eq]; omega)] at hn
        rw [c_F, hn, if_pos (by omega)]; omega
set_option maxHeartbeats 4000000 in
theorem c_X5_firstOfLeast (l : Launch) (G : b_G) {L : Nat} {o : Nat} {ad : Nat → Nat} {i : Nat → Int} {a : Nat → Nat → Int} {h : b_H} {sz : Nat} (hO : r_O (K5 L) 5 o ad i a h) (hI : c_I L i a) {d : Nat} {s u t : Int} (hK : c_K L i a) (hd8 : d < 8) (hs0 : 0 ≤ s) (hsd : s + d + 1 = i 2) (hV : c_V i s u) (ht0 : -1 ≤ t) (ht1 : t < i 3) : Con l G yX5_firstOfLeast cX5_firstOfLeast 6 (some .int) 20 560 0 0 [.ref o, .int (zI s), .int (zI u), .int (zI t)] h sz (p_wr (K5 L) 5 o ad h sz (fun r i2 a2 => r = some (.int (zI (if c_F (i 2).toNat (i 3).toNat (c_ms a) (c_jn a) (a 8) d u t < (i 3).toNat then (c_F (i 2).toNat (i 3).toNat (c_ms a) (c_jn a) (a 8) d u t : Int) else 0))) ∧ i2 = i ∧ (∀ k, k ≠ 12 → a2 k = a k) ∧ c_K L i a2 ∧ c_I L i a2)) := by
  refine Con.ofK (by decide +kernel) rfl rfl ?_
  intro S M
  have hc := M.2.2.2.1
  have ho : s_own S = RX5 := M.2.2.1
  have hFr : (s_R S).frames = 20 := by rw [M.2.2.2.2.2.2.2.1]
  have hLo : (s_R S).locals = 560 := by rw [M.2.2.2.2.2.2.2.1]
  have hCe : (s_R S).cells = 0 := by rw [M.2.2.2.2.2.2.2.1]
  have hSl : (s_R S).slots = 0 := by rw [M.2.2.2.2.2.2.2.1]
  have hi := hO.2.2.2.1
  have ha := hO.2.2.2.2
  obtain ⟨hI2, hI3, hI6, hI7, hI9, hI10, hItl, hI11, hI12, hIL⟩ := id hI
  have hI9 := c_s9 hI
  have hjb : ∀ (l : Int) (p : Nat), 0 ≤ c_jn a l p ∧ (c_jn a l p ≤ 594 ∨ c_jn a l p = 1048575) := fun l p => by
    unfold c_jn
    split
    · omega
    · exact hI7 _
  have hu0 := hV.1
  have hu1 := hV.2.1
  refine v_aload_n hc dX5_firstOfLeast_0 rfl ?_
  refine v_iload_n hc dX5_firstOfLeast_1 rfl ?_
  refine v_iload_n hc dX5_firstOfLeast_2 rfl ?_
  refine v_iload_n hc dX5_firstOfLeast_3 rfl ?_
  refine v_callV (As := [.int (zI s), .int (zI u), .int (zI t)]) hc ho dX5_firstOfLeast_4 KV_X5_129 KB_X5_leastFrom hO.1 rfl rfl (c_LF_all _ _ L (d + 1) (by omega) hO hI hK (s := s) (u := u) (t := t) hs0 (by omega) hV ht0 ht1) rfl (Nat.le_of_ble_eq_true rfl) ⟨by omega, by omega⟩ ⟨by omega, by omega⟩ (fun r_ h_ sz_ q_ z_ => ?_)
  obtain ⟨e1_, i3, a3, ⟨rfl, e3_, hE3, hK3, hI3⟩, hO3, hfr3⟩ := q_
  have e1_ := e1_.symm
  subst e1_
  have e3_ := e3_.symm
  subst e3_
  
  refine v_istore hc dX5_firstOfLeast_7 (Nat.le_of_ble_eq_true rfl) ?_
  refine z_iconst hc dX5_firstOfLeast_9 ?_
  refine v_istore hc dX5_firstOfLeast_10 (Nat.le_of_ble_eq_true rfl) ?_
  exact l_X5_firstOfLeast M (a0 := a) (fun s p => (hI6 _).2) hjb hd8 hs0 hsd hV ht0 ht1 (fun h2 a2 v q1 q2 q3 q4 q5 q6 => ⟨rfl, i, a2, ⟨by rw [q6], rfl, q5, q3, q2⟩, q1, q4⟩) _ h_ a3 _ rfl (by omega) (by omega) hO3 hI3 hK3 hfr3 hE3 rfl
set_option maxHeartbeats 4000000 in
theorem l_X5_choose {S : b_S} {l : Launch} {G : b_G} {L : Nat} {o : Nat} {ad : Nat → Nat} {i : Nat → Int} {a0 : Nat → Nat → Int} {hB : b_H} {sz : Nat} {post : Option Value → b_H → Nat → Prop} (M : b_M S l G RX5 cX5_choose 5 (some (.array .int)) "choose" 21 590 1 8 hB sz post) (hI0 : c_I L i a0) (hne : ¬ c_L (i 2).toNat (i 3).toNat (c_ms a0) (c_jn a0) (a0 8) (i 2).toNat 0 (-1) = 1048575) (hzo : ¬ r_own (K5 L) o ad sz) {n1 : Nat} (hn1 : n1 ≤ 8) (P : ∀ (h : b_H) (a : Nat → Nat → Int) (f : Nat → Int), r_O (K5 L) 5 o ad i a h → c_I L i a → c_K L i a → (∀ b, ¬ r_own (K5 L) o ad b → b ≠ sz → h b = hB b) → (∀ k, k ≠ 12 → a k = a0 k) → h sz = some (b_iA (i 2).toNat f) → (∀ j, j < (i 2).toNat → f j = ((c_cx (i 2).toNat (i 3).toNat (c_ms a0) (c_jn a0) (a0 8) j) : Int)) → post (some (.ref sz)) h (sz + 1)) : ∀ (d : Nat) (h : b_H) (a : Nat → Nat → Int) (f : Nat → Int) (u t x : Int), ((i 2 - x).toNat = d) → (0 ≤ x) → (x ≤ i 2) → (r_O (K5 L) 5 o ad i a h) → (c_I L i a) → (c_K L i a) → (∀ b, ¬ r_own (K5 L) o ad b → b ≠ sz → h b = hB b) → (∀ k, k ≠ 12 → a k = a0 k) → (h sz = some (b_iA (i 2).toNat f)) → (∀ j : Nat, (j : Int) < x → f j = ((c_cx (i 2).toNat (i 3).toNat (c_ms a0) (c_jn a0) (a0 8) j) : Int)) → (u = (c_ch (i 2).toNat (i 3).toNat (c_ms a0) (c_jn a0) (a0 8) x.toNat).1 ∧ t = (c_ch (i 2).toNat (i 3).toNat (c_ms a0) (c_jn a0) (a0 8) x.toNat).2) → V S 1 n1 h (sz + 1) 14 [some (.ref o), some (.ref sz), some (.int (zI u)), some (.int (zI t)), some (.int (zI x))] [] := by
  have hc := M.2.2.2.1
  have ho : s_own S = RX5 := M.2.2.1
  have hFr : (s_R S).frames = 21 := by rw [M.2.2.2.2.2.2.2.1]
  have hLo : (s_R S).locals = 590 := by rw [M.2.2.2.2.2.2.2.1]
  have hCe : (s_R S).cells = 1 := by rw [M.2.2.2.2.2.2.2.1]
  have hSl : (s_R S).slots = 8 := by rw [M.2.2.2.2.2.2.2.1]
  intro d
  induction d using Nat.strongRecOn with
  | ind d ih =>
    intro h a f u t x hd h0 h1 hO hI hK hfr hE hA hf hut
    have hi := hO.2.2.2.1
    have ha := hO.2.2.2.2
    obtain ⟨hI2, hI3, hI6, hI7, hI9, hI10, hItl, hI11, hI12, hIL⟩ := id hI
    have hI9 := c_s9 hI
    refine v_iload hc dX5_choose_14 rfl ?_
    refine v_aload_n hc dX5_choose_16 rfl ?_
    refine r_get hc ho dX5_choose_17 F_X5_49 hO rfl ?_
    refine z_icmp_ge (tgt := 52) hc dX5_choose_20 (by decide) (by first | assumption | exact hi _ | exact ha _ _ | (unfold zb; omega)) (by first | assumption | exact hi _ | exact ha _ _ | (unfold zb; omega)) (fun c_1 => ?_) (fun c_1 => ?_)
    · refine v_aload_n hc dX5_choose_52 rfl ?_
      refine v_aret M rfl (Or.inr ⟨_, rfl⟩) (Or.inr ⟨_, rfl⟩) dX5_choose_53 (by omega) (by omega) ?_
      exact P h a f hO hI hK hfr hE hA (fun j hj => hf j (by omega))
    · obtain ⟨hV, ht0, ht1, -⟩ := c_ch_ok hI0 hne x.toNat (by omega)
      have hok := c_cx_ok hI0 hne x.toNat (by omega)
      obtain ⟨hnx, hnx0, hnx1, -⟩ := c_ch_ok hI0 hne (x.toNat + 1) (by omega)
      rw [← hut.1] at hV
      rw [← hut.2] at ht0 ht1
      rw [show ((x.toNat : Nat) : Int) = x by omega] at hV
      have hce0 := c_cong hE
      have hv0 := hV.1
      have hv1 := hV.2.1
      refine v_aload_n hc dX5_choose_23 rfl ?_
      refine v_iload hc dX5_choose_24 rfl ?_
      refine v_iload_n hc dX5_choose_26 rfl ?_
      refine v_iload_n hc dX5_choose_27 rfl ?_
      refine v_callV (As := [.int (zI x), .int (zI u), .int (zI t)]) hc ho dX5_choose_28 KV_X5_143 KB_X5_firstOfLeast hO.1 rfl rfl (c_X5_firstOfLeast _ _ hO hI (d := (i 2).toNat - (x.toNat + 1)) (s := x) (u := u) (t := t) hK (by omega) h0 (by omega) hV ht0 ht1) rfl (Nat.le_of_ble_eq_true rfl) ⟨by omega, by omega⟩ ⟨by omega, by omega⟩ (fun r_ h_ sz_ q_ z_ => ?_)
      obtain ⟨e1_, i3, a3, ⟨rfl, e3_, hE3, hK3, hI3⟩, hO3, hfr3⟩ := q_
      have e1_ := e1_.symm
      subst e1_
      have e3_ := e3_.symm
      subst e3_
      have hcx : (if c_F (i 2).toNat (i 3).toNat (c_ms a) (c_jn a) (a 8) ((i 2).toNat - (x.toNat + 1)) u t < (i 3).toNat then (c_F (i 2).toNat (i 3).toNat (c_ms a) (c_jn a) (a 8) ((i 2).toNat - (x.toNat + 1)) u t : Int) else 0) = ((c_cx (i 2).toNat (i 3).toNat (c_ms a0) (c_jn a0) (a0 8) x.toNat) : Int) := by
        rw [hce0.1, hce0.2.1, hce0.2.2, hut.1, hut.2]
        exact if_pos hok.1
      rw [hcx]
      obtain ⟨c, hc9⟩ : ∃ c, (c_cx (i 2).toNat (i 3).toNat (c_ms a0) (c_jn a0) (a0 8) x.toNat) = c := ⟨_, rfl⟩
      rw [hc9] at hok ⊢
      replace hO := hO3
      replace hI := hI3
      replace hK := hK3
      replace hE : ∀ k, k ≠ 12 → a3 k = a0 k := fun k hk => (hE3 k hk).trans (hE k hk)
      have hAz := hfr3 sz hzo
      replace hA := hAz.trans hA
      replace hfr : ∀ b, ¬ r_own (K5 L) o ad b → b ≠ sz → h_ b = hB b := fun b q1 q2 => (hfr3 b q1).trans (hfr b q1 q2)
      have hi := hO.2.2.2.1
      have ha := hO.2.2.2.2
      refine v_istore_n hc dX5_choose_31 (Nat.le_of_ble_eq_true rfl) ?_
      refine v_aload_n hc dX5_choose_32 rfl ?_
      refine v_iload hc dX5_choose_33 rfl ?_
      refine v_iload_n hc dX5_choose_35 rfl ?_
      refine x_iast hc dX5_choose_36 hA (by omega) (by omega) (by omega) (fun h1 e1 e2 => ?_)
      replace hO := hO.kept (fun b hb => e2 b (fun q => hzo (by rw [← q]; exact hb)))
      replace hA := e1
      replace hfr : ∀ b, ¬ r_own (K5 L) o ad b → b ≠ sz → h1 b = hB b := fun b q1 q2 => (e2 b q2).trans (hfr b q1 q2)
      refine v_iload_n hc dX5_choose_37 rfl ?_
      refine v_aload_n hc dX5_choose_38 rfl ?_
      refine r_getA hc ho dX5_choose_39 F_X5_31 hO rfl ?_
      refine v_iload_n hc dX5_choose_42 rfl ?_
      refine r_iald hc dX5_choose_43 hO 8 rfl (by decide) (by omega) (by omega) ?_
      have hand : d_an u (a3 8 ((c : Nat) : Int).toNat) = 0 := by rw [Int.toNat_natCast, (c_cong hE).2.2, hut.1]; exact hok.2.2
      refine v_ior hc dX5_choose_44 (c_or hand) ?_
      refine v_istore_n hc dX5_choose_45 (Nat.le_of_ble_eq_true rfl) ?_
      refine z_iinc hc dX5_choose_46 rfl ?_
      refine v_goto (tgt := 14) hc dX5_choose_49 (by decide) ?_
      refine ih _ (by omega) h1 a3 _ _ _ _ rfl (by omega) (by omega) hO hI hK hfr hE hA (fun j hj => ?_) ⟨?_, ?_⟩
      · by_cases q : j = x.toNat
        · rw [q, b_up_eq, hc9]
        · rw [b_up_ne _ _ q]; exact hf j (by omega)
      · rw [show (x + 1).toNat = x.toNat + 1 by omega, c_ch, Int.toNat_natCast, (c_cong hE).2.2, hut.1]
        show _ = _ + a0 8 (c_cx (i 2).toNat (i 3).toNat (c_ms a0) (c_jn a0) (a0 8) x.toNat)
        rw [hc9]
      · rw [show (x + 1).toNat = x.toNat + 1 by omega, c_ch]
        show _ = (((c_cx (i 2).toNat (i 3).toNat (c_ms a0) (c_jn a0) (a0 8) x.toNat) : Nat) : Int)
        rw [hc9]
set_option maxHeartbeats 4000000 in
theorem c_X5_choose (l : Launch) (G : b_G) {L : Nat} {o : Nat} {ad : Nat → Nat} {i : Nat → Int} {a : Nat → Nat → Int} {h : b_H} {sz : Nat} (hO : r_O (K5 L) 5 o ad i a h) (hI : c_I L i a) (hK : c_K L i a) (hne : ¬ c_L (i 2).toNat (i 3).toNat (c_ms a) (c_jn a) (a 8) (i 2).toNat 0 (-1) = 1048575) : Con l G yX5_choose cX5_choose 5 (some (.array .int)) 21 590 1 8 [.ref o] h sz (fun r h2 s2 => r = some (.ref sz) ∧ s2 = sz + 1 ∧ ∃ a2, r_O (K5 L) 5 o ad i a2 h2 ∧ c_I L i a2 ∧ c_K L i a2 ∧ (∀ k, k ≠ 12 → a2 k = a k) ∧ (∃ f, h2 sz = some (b_iA (i 2).toNat f) ∧ ∀ j, j < (i 2).toNat → f j = ((c_cx (i 2).toNat (i 3).toNat (c_ms a) (c_jn a) (a 8) j : Nat) : Int)) ∧ ∀ b, ¬ r_own (K5 L) o ad b → b ≠ sz → h2 b = h b) := by
  refine Con.ofK (by decide +kernel) rfl rfl ?_
  intro S M
  have hc := M.2.2.2.1
  have ho : s_own S = RX5 := M.2.2.1
  have hFr : (s_R S).frames = 21 := by rw [M.2.2.2.2.2.2.2.1]
  have hLo : (s_R S).locals = 590 := by rw [M.2.2.2.2.2.2.2.1]
  have hCe : (s_R S).cells = 1 := by rw [M.2.2.2.2.2.2.2.1]
  have hSl : (s_R S).slots = 8 := by rw [M.2.2.2.2.2.2.2.1]
  have hi := hO.2.2.2.1
  have ha := hO.2.2.2.2
  obtain ⟨hI2, hI3, hI6, hI7, hI9, hI10, hItl, hI11, hI12, hIL⟩ := id hI
  have hI9 := c_s9 hI
  refine v_aload_n hc dX5_choose_0 rfl ?_
  refine r_get hc ho dX5_choose_1 F_X5_49 hO rfl ?_
  refine v_dom (fun hdom => ?_)
  refine x_newI hc dX5_choose_4 (N := (i 2).toNat) (by omega) (by omega) (by omega) (by omega) (fun h1 e1 e2 => ?_)
  have hzo : ¬ r_own (K5 L) o ad sz := fun q => by have := hO.lt hdom sz q; omega
  replace hO := hO.kept (fun b hb => e2 b (fun q => hzo (by rw [← q]; exact hb)))
  refine v_astore_n hc dX5_choose_6 (Nat.le_of_ble_eq_true rfl) ?_
  refine z_iconst hc dX5_choose_7 ?_
  refine v_istore_n hc dX5_choose_8 (Nat.le_of_ble_eq_true rfl) ?_
  refine z_iconst hc dX5_choose_9 ?_
  refine v_istore_n hc dX5_choose_10 (Nat.le_of_ble_eq_true rfl) ?_
  refine z_iconst hc dX5_choose_11 ?_
  refine v_istore hc dX5_choose_12 (Nat.le_of_ble_eq_true rfl) ?_
  exact l_X5_choose M (a0 := a) hI hne hzo (by omega) (fun h2 a2 f2 q1 q2 q3 q4 q5 q6 q7 => ⟨rfl, rfl, a2, q1, q2, q3, q5, ⟨f2, q6, q7⟩, q4⟩) _ h1 a _ _ _ _ rfl (by omega) (by omega) hO hI hK (fun b q1 q2 => e2 b q2) (fun _ _ => rfl) e1 (fun j hj => by omega) ⟨rfl, rfl⟩
def c_sz (i : Nat → Int) : Int := (if i 10 = 1 then 1 else i 2) * i 9 * 12
theorem c_KK {L N : Nat} {k : Nat} {p : Bool × Nat} (hk : k ≠ 12) (hp : (K5 N)[k]? = some (some p)) : (K5 L)[k]? = some (some p) := by
  rcases Nat.lt_or_ge k 13 with q | q
  · rcases (by omega : k = 0 ∨ k = 1 ∨ k = 2 ∨ k = 3 ∨ k = 4 ∨ k = 5 ∨ k = 6 ∨ k = 7 ∨ k = 8 ∨ k = 9 ∨ k = 10 ∨ k = 11) with rfl | rfl | rfl | rfl | rfl | rfl | rfl | rfl | rfl | rfl | rfl | rfl <;> exact hp
  · rw [List.getElem?_eq_none (by show 13 ≤ k; exact q)] at hp; cases hp
theorem c_own {L N o sz b : Nat} {ad : Nat → Nat} (h : r_own (K5 N) o (b_up ad 12 sz) b) : b = sz ∨ r_own (K5 L) o ad b := by
  rcases h with q | ⟨k, p, hk, q⟩
  · exact Or.inr (Or.inl q)
  · by_cases e : k = 12
    · rw [e, b_up_eq] at q; exact Or.inl q
    · rw [b_up_ne _ _ e] at q; exact Or.inr (Or.inr ⟨k, p, c_KK e hk, q⟩)
theorem c_grow {L N o sz : Nat} {ad : Nat → Nat} {i : Nat → Int} {a : Nat → Nat → Int} {h h2 : b_H} (hO : r_O (K5 L) 5 o ad i a h) (hz : ¬ r_own (K5 L) o ad sz) (e1 : h sz = some (b_iA N (fun _ => 0))) (e3 : h2 o = some (b_ob 5 ((r_fs (K5 L) 0 ad i).set 12 (.ref sz)))) (e4 : ∀ b, b ≠ o → h2 b = h b) : r_O (K5 N) 5 o (b_up ad 12 sz) i (b_up a 12 (fun _ => 0)) h2 := by
  have hne : ∀ {k : Nat} {p : Bool × Nat}, (K5 L)[k]? = some (some p) → ad k ≠ o := fun hk => hO.ne hk
  have hzo : sz ≠ o := fun q => hz (Or.inl q)
  have hza : ∀ {k : Nat} {p : Bool × Nat}, (K5 L)[k]? = some (some p) → ad k ≠ sz := fun hk q => hz (Or.inr ⟨_, _, hk, q.symm⟩)
  have hK : ∀ {k : Nat} {p : Bool × Nat}, k ≠ 12 → (K5 N)[k]? = some (some p) → (K5 L)[k]? = some (some p) := by
    intro k p hk hp
    rcases Nat.lt_or_ge k 13 with q | q
    · rcases (by omega : k = 0 ∨ k = 1 ∨ k = 2 ∨ k = 3 ∨ k = 4 ∨ k = 5 ∨ k = 6 ∨ k = 7 ∨ k = 8 ∨ k = 9 ∨ k = 10 ∨ k = 11) with rfl | rfl | rfl | rfl | rfl | rfl | rfl | rfl | rfl | rfl | rfl | rfl <;> exact hp
    · rw [List.getElem?_eq_none (by show 13 ≤ k; exact q)] at hp; cases hp
  obtain ⟨q1, q2, q3, q4, q5⟩ := hO
  refine ⟨e3, fun k z n hk => ?_, fun j k p q hj hk e => ?_, q4, fun k j => ?_⟩
  · by_cases e : k = 12
    · subst e
      cases hk
      rw [b_up_eq, b_up_eq]
      exact (e4 sz hzo).trans e1
    · rw [b_up_ne _ _ e, b_up_ne _ _ e]
      exact (e4 _ (hne (hK e hk))).trans (q2 k z n (hK e hk))
  · by_cases e1 : j = 12
    · by_cases e2 : k = 12
      · rw [e1, e2]
      · rw [e1, b_up_eq, b_up_ne _ _ e2] at e
        exact absurd e.symm (hza (hK e2 hk))
    · by_cases e2 : k = 12
      · rw [e2, b_up_eq, b_up_ne _ _ e1] at e
        exact absurd e (hza (hK e1 hj))
      · rw [b_up_ne _ _ e1, b_up_ne _ _ e2] at e
        exact q3 j k p q (hK e1 hj) (hK e2 hk) e
  · by_cases e : k = 12
    · rw [e, b_up_eq]; unfold zb; omega
    · rw [b_up_ne _ _ e]; exact q5 k j
set_option maxHeartbeats 4000000 in
theorem c_X5_makeRoom (l : Launch) (G : b_G) {L : Nat} {o : Nat} {ad : Nat → Nat} {i : Nat → Int} {a : Nat → Nat → Int} {h : b_H} {sz : Nat} (hO : r_O (K5 L) 5 o ad i a h) (hI2 : 0 ≤ i 2 ∧ i 2 ≤ 8) (hI9 : 1 ≤ i 9 ∧ i 9 ≤ 4096) (hI10 : i 10 = 0 ∨ i 10 = 1) (hI11 : 0 ≤ i 11 ∧ i 11 ≤ 1000) (hIL : L ≤ 1000000) {w : Nat} (hw : (L : Int) < c_sz i → max (c_sz i) (2 * (L : Int)) ≤ w) : Con l G yX5_makeRoom cX5_makeRoom 3 none 1 21 1 w [.ref o] h sz (fun r h2 s2 => r = none ∧ ∃ i2 : Nat → Int, i2 11 = i 11 + 1 ∧ (∀ k, k ≠ 11 → i2 k = i k) ∧ ((c_sz i ≤ (L : Int) ∧ s2 = sz ∧ r_O (K5 L) 5 o ad i2 a h2 ∧ ∀ b, ¬ r_own (K5 L) o ad b → h2 b = h b) ∨ ((L : Int) < c_sz i ∧ s2 = sz + 1 ∧ r_O (K5 (max (c_sz i) (2 * (L : Int))).toNat) 5 o (b_up ad 12 sz) i2 (b_up a 12 (fun _ => 0)) h2 ∧ ∀ b, ¬ r_own (K5 L) o ad b → b ≠ sz → h2 b = h b))) := by
  refine Con.ofK (by decide +kernel) rfl rfl ?_
  intro S M
  have hc := M.2.2.2.1
  have ho : s_own S = RX5 := M.2.2.1
  have hFr : (s_R S).frames = 1 := by rw [M.2.2.2.2.2.2.2.1]
  have hLo : (s_R S).locals = 21 := by rw [M.2.2.2.2.2.2.2.1]
  have hCe : (s_R S).cells = 1 := by rw [M.2.2.2.2.2.2.2.1]
  have hSl : (s_R S).slots = w := by rw [M.2.2.2.2.2.2.2.1]
  have hfr : ∀ b, ¬ r_own (K5 L) o ad b → h b = h b := fun _ _ => rfl
  have hi := hO.2.2.2.1
  have ha := hO.2.2.2.2
  refine v_aload_n hc dX5_makeRoom_0 rfl ?_
  refine r_get hc ho dX5_makeRoom_1 F_X5_113 hO rfl ?_
  refine z_if_eq (tgt := 11) hc dX5_makeRoom_4 (by decide) (by first | assumption | exact hi _ | exact ha _ _ | (unfold zb; omega)) (fun c_1 => ?_) (fun c_1 => ?_)
  · skip
    refine v_aload_n hc dX5_makeRoom_11 rfl ?_
    refine r_get hc ho dX5_makeRoom_12 F_X5_49 hO rfl ?_
    refine v_istore_n hc dX5_makeRoom_15 (Nat.le_of_ble_eq_true rfl) ?_
    refine v_iload_n hc dX5_makeRoom_16 rfl ?_
    refine v_aload_n hc dX5_makeRoom_17 rfl ?_
    refine r_get hc ho dX5_makeRoom_18 F_X5_110 hO rfl ?_
    refine z_imul hc dX5_makeRoom_21 ?_
    refine z_bipush hc dX5_makeRoom_22 (by decide) ?_
    refine z_imul hc dX5_makeRoom_24 ?_
    have hys : 0 ≤ (i 2 : Int) * i 9 ∧ (i 2 : Int) * i 9 ≤ 8 * 4096 := ⟨Int.mul_nonneg (by omega) (by omega), Int.mul_le_mul (by omega) (by omega) (by omega) (by omega)⟩
    have hcs : c_sz i = (i 2 : Int) * i 9 * 12 := by rw [c_sz, if_neg (by omega)]
    rw [← hcs]
    refine v_istore_n hc dX5_makeRoom_25 (Nat.le_of_ble_eq_true rfl) ?_
    refine v_aload_n hc dX5_makeRoom_26 rfl ?_
    refine r_getA hc ho dX5_makeRoom_27 F_X5_34 hO rfl ?_
    refine r_ilen hc dX5_makeRoom_30 hO 12 rfl ?_
    refine v_iload_n hc dX5_makeRoom_31 rfl ?_
    skip
    refine z_icmp_ge (tgt := 52) hc dX5_makeRoom_32 (by decide) (by first | assumption | exact hi _ | exact ha _ _ | (unfold zb; omega)) (by first | assumption | exact hi _ | exact ha _ _ | (unfold zb; omega)) (fun c_2 => ?_) (fun c_2 => ?_)
    · skip
      refine v_aload_n hc dX5_makeRoom_52 rfl ?_
      refine v_aload_n hc dX5_makeRoom_53 rfl ?_
      refine r_get hc ho dX5_makeRoom_54 F_X5_126 hO rfl ?_
      refine z_iconst hc dX5_makeRoom_57 ?_
      refine z_iadd hc dX5_makeRoom_58 ?_
      refine z_sipush hc dX5_makeRoom_59 (by decide) ?_
      refine v_iand hc dX5_makeRoom_62 (zI_and12 (by omega) (by omega)) ?_
      refine r_putIf hc ho dX5_makeRoom_63 F_X5_126 hO hfr rfl (by first | assumption | exact hi _ | exact ha _ _ | (unfold zb; omega)) (fun h i_3 g_3 k_3 hO hfr => ?_)
      have hi := hO.2.2.2.1
      refine v_vret M dX5_makeRoom_66 (by omega) (by omega) ?_
      exact ⟨rfl, i_3, g_3, k_3, Or.inl ⟨by omega, rfl, hO, hfr⟩⟩
    · skip
      refine v_aload_n hc dX5_makeRoom_35 rfl ?_
      refine v_iload_n hc dX5_makeRoom_36 rfl ?_
      refine z_iconst hc dX5_makeRoom_37 ?_
      refine v_aload_n hc dX5_makeRoom_38 rfl ?_
      refine r_getA hc ho dX5_makeRoom_39 F_X5_34 hO rfl ?_
      refine r_ilen hc dX5_makeRoom_42 hO 12 rfl ?_
      refine z_imul hc dX5_makeRoom_43 ?_
      refine z_max hc ho dX5_makeRoom_44 MM_X5_123 (by first | assumption | exact hi _ | exact ha _ _ | (unfold zb; omega)) (by first | assumption | exact hi _ | exact ha _ _ | (unfold zb; omega)) (by omega) (by rw [hLo]; exact Nat.le_of_ble_eq_true rfl) (by omega) (by omega) ?_
      refine v_dom (fun hdom => ?_)
      refine x_newI hc dX5_makeRoom_47 (N := (max (c_sz i) (2 * (L : Int))).toNat) (by omega) (by omega) (by omega) (by omega) (fun h1 e1 e2 => ?_)
      have hzo : ¬ r_own (K5 L) o ad sz := fun q => by have := hO.lt hdom sz q; omega
      replace hO := hO.kept (fun b hb => e2 b (fun q => hzo (by rw [← q]; exact hb)))
      refine x_put hc ho dX5_makeRoom_49 F_X5_34 hO.1 rfl ⟨rfl, rfl⟩ (fun h2 e3 e4 => ?_)
      replace hO := c_grow hO hzo e1 e3 e4
      have hfr : ∀ b, ¬ r_own (K5 (max (c_sz i) (2 * (L : Int))).toNat) o (b_up ad 12 sz) b → h2 b = h2 b := fun _ _ => rfl
      have hi := hO.2.2.2.1
      have hfr2 : ∀ b, b ≠ o → b ≠ sz → h2 b = h b := fun b q1 q2 => (e4 b q1).trans (e2 b q2)
      skip
      refine v_aload_n hc dX5_makeRoom_52 rfl ?_
      refine v_aload_n hc dX5_makeRoom_53 rfl ?_
      refine r_get hc ho dX5_makeRoom_54 F_X5_126 hO rfl ?_
      refine z_iconst hc dX5_makeRoom_57 ?_
      refine z_iadd hc dX5_makeRoom_58 ?_
      refine z_sipush hc dX5_makeRoom_59 (by decide) ?_
      refine v_iand hc dX5_makeRoom_62 (zI_and12 (by omega) (by omega)) ?_
      refine r_putIf hc ho dX5_makeRoom_63 F_X5_126 hO hfr rfl (by first | assumption | exact hi _ | exact ha _ _ | (unfold zb; omega)) (fun h i_4 g_4 k_4 hO hfr => ?_)
      have hi := hO.2.2.2.1
      refine v_vret M dX5_makeRoom_66 (by omega) (by omega) ?_
      exact ⟨rfl, i_4, g_4, k_4, Or.inr ⟨by omega, rfl, hO, fun b q1 q2 => (hfr b (fun q => (c_own q).elim q2 q1)).trans (hfr2 b (fun q => q1 (Or.inl q)) q2)⟩⟩
  · skip
    refine z_iconst hc dX5_makeRoom_7 ?_
    refine v_goto (tgt := 15) hc dX5_makeRoom_8 (by decide) ?_
    refine v_istore_n hc dX5_makeRoom_15 (Nat.le_of_ble_eq_true rfl) ?_
    refine v_iload_n hc dX5_makeRoom_16 rfl ?_
    refine v_aload_n hc dX5_makeRoom_17 rfl ?_
    refine r_get hc ho dX5_makeRoom_18 F_X5_110 hO rfl ?_
    refine z_imul hc dX5_makeRoom_21 ?_
    refine z_bipush hc dX5_makeRoom_22 (by decide) ?_
    refine z_imul hc dX5_makeRoom_24 ?_
    have hys : 0 ≤ (1 : Int) * i 9 ∧ (1 : Int) * i 9 ≤ 8 * 4096 := ⟨Int.mul_nonneg (by omega) (by omega), Int.mul_le_mul (by omega) (by omega) (by omega) (by omega)⟩
    have hcs : c_sz i = (1 : Int) * i 9 * 12 := by rw [c_sz, if_pos (by omega)]
    rw [← hcs]
    refine v_istore_n hc dX5_makeRoom_25 (Nat.le_of_ble_eq_true rfl) ?_
    refine v_aload_n hc dX5_makeRoom_26 rfl ?_
    refine r_getA hc ho dX5_makeRoom_27 F_X5_34 hO rfl ?_
    refine r_ilen hc dX5_makeRoom_30 hO 12 rfl ?_
    refine v_iload_n hc dX5_makeRoom_31 rfl ?_
    skip
    refine z_icmp_ge (tgt := 52) hc dX5_makeRoom_32 (by decide) (by first | assumption | exact hi _ | exact ha _ _ | (unfold zb; omega)) (by first | assumption | exact hi _ | exact ha _ _ | (unfold zb; omega)) (fun c_5 => ?_) (fun c_5 => ?_)
    · skip
      refine v_aload_n hc dX5_makeRoom_52 rfl ?_
      refine v_aload_n hc dX5_makeRoom_53 rfl ?_
      refine r_get hc ho dX5_makeRoom_54 F_X5_126 hO rfl ?_
      refine z_iconst hc dX5_makeRoom_57 ?_
      refine z_iadd hc dX5_makeRoom_58 ?_
      refine z_sipush hc dX5_makeRoom_59 (by decide) ?_
      refine v_iand hc dX5_makeRoom_62 (zI_and12 (by omega) (by omega)) ?_
      refine r_putIf hc ho dX5_makeRoom_63 F_X5_126 hO hfr rfl (by first | assumption | exact hi _ | exact ha _ _ | (unfold zb; omega)) (fun h i_6 g_6 k_6 hO hfr => ?_)
      have hi := hO.2.2.2.1
      refine v_vret M dX5_makeRoom_66 (by omega) (by omega) ?_
      exact ⟨rfl, i_6, g_6, k_6, Or.inl ⟨by omega, rfl, hO, hfr⟩⟩
    · skip
      refine v_aload_n hc dX5_makeRoom_35 rfl ?_
      refine v_iload_n hc dX5_makeRoom_36 rfl ?_
      refine z_iconst hc dX5_makeRoom_37 ?_
      refine v_aload_n hc dX5_makeRoom_38 rfl ?_
      refine r_getA hc ho dX5_makeRoom_39 F_X5_34 hO rfl ?_
      refine r_ilen hc dX5_makeRoom_42 hO 12 rfl ?_
      refine z_imul hc dX5_makeRoom_43 ?_
      refine z_max hc ho dX5_makeRoom_44 MM_X5_123 (by first | assumption | exact hi _ | exact ha _ _ | (unfold zb; omega)) (by first | assumption | exact hi _ | exact ha _ _ | (unfold zb; omega)) (by omega) (by rw [hLo]; exact Nat.le_of_ble_eq_true rfl) (by omega) (by omega) ?_
      refine v_dom (fun hdom => ?_)
      refine x_newI hc dX5_makeRoom_47 (N := (max (c_sz i) (2 * (L : Int))).toNat) (by omega) (by omega) (by omega) (by omega) (fun h1 e1 e2 => ?_)
      have hzo : ¬ r_own (K5 L) o ad sz := fun q => by have := hO.lt hdom sz q; omega
      replace hO := hO.kept (fun b hb => e2 b (fun q => hzo (by rw [← q]; exact hb)))
      refine x_put hc ho dX5_makeRoom_49 F_X5_34 hO.1 rfl ⟨rfl, rfl⟩ (fun h2 e3 e4 => ?_)
      replace hO := c_grow hO hzo e1 e3 e4
      have hfr : ∀ b, ¬ r_own (K5 (max (c_sz i) (2 * (L : Int))).toNat) o (b_up ad 12 sz) b → h2 b = h2 b := fun _ _ => rfl
      have hi := hO.2.2.2.1
      have hfr2 : ∀ b, b ≠ o → b ≠ sz → h2 b = h b := fun b q1 q2 => (e4 b q1).trans (e2 b q2)
      skip
      refine v_aload_n hc dX5_makeRoom_52 rfl ?_
      refine v_aload_n hc dX5_makeRoom_53 rfl ?_
      refine r_get hc ho dX5_makeRoom_54 F_X5_126 hO rfl ?_
      refine z_iconst hc dX5_makeRoom_57 ?_
      refine z_iadd hc dX5_makeRoom_58 ?_
      refine z_sipush hc dX5_makeRoom_59 (by decide) ?_
      refine v_iand hc dX5_makeRoom_62 (zI_and12 (by omega) (by omega)) ?_
      refine r_putIf hc ho dX5_makeRoom_63 F_X5_126 hO hfr rfl (by first | assumption | exact hi _ | exact ha _ _ | (unfold zb; omega)) (fun h i_7 g_7 k_7 hO hfr => ?_)
      have hi := hO.2.2.2.1
      refine v_vret M dX5_makeRoom_66 (by omega) (by omega) ?_
      exact ⟨rfl, i_7, g_7, k_7, Or.inr ⟨by omega, rfl, hO, fun b q1 q2 => (hfr b (fun q => (c_own q).elim q2 q1)).trans (hfr2 b (fun q => q1 (Or.inl q)) q2)⟩⟩
