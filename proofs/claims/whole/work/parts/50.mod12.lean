/-! the reference: what may be, what it costs -/
def m_mb (i : Nat → Int) (a : Nat → Nat → Int) (n : Nat) : Bool := decide (0 ≤ a 21 (12 * n + (a 24 n).toNat)) && (!(w_an (fun k => decide (a 24 k = a 24 n) && decide (a 10 (a 24 n).toNat = 0)) n) && decide (n = 0 ∨ p_st (a 6 (a 24 (n - 1)).toNat) (a 6 (a 24 n).toNat) ≤ i 20))
def m_ct (i : Nat → Int) (a : Nat → Nat → Int) : Nat → Int
  | 0 => 0
  | k + 1 => m_ct i a k + (a 22 (12 * k + (a 24 k).toNat) + (if k = 0 then 0 else i 19 * p_st (a 6 (a 24 (k - 1)).toNat) (a 6 (a 24 k).toNat)))
theorem m_ct_bd {i : Nat → Int} {a : Nat → Nat → Int} (h22 : ∀ j, 0 ≤ a 22 j ∧ a 22 j ≤ 100000) (h19 : 0 ≤ i 19 ∧ i 19 ≤ 99) : ∀ k : Nat, 0 ≤ m_ct i a k ∧ m_ct i a k ≤ (k : Int) * 101000
  | 0 => by rw [m_ct]; omega
  | k + 1 => by
    have h := m_ct_bd h22 h19 k
    have h2 := h22 (12 * k + (a 24 k).toNat)
    have h3 := p_st_bd (a 6 (a 24 (k - 1)).toNat) (a 6 (a 24 k).toNat)
    have h4 : 0 ≤ i 19 * p_st (a 6 (a 24 (k - 1)).toNat) (a 6 (a 24 k).toNat) ∧ i 19 * p_st (a 6 (a 24 (k - 1)).toNat) (a 6 (a 24 k).toNat) ≤ 99 * 6 := ⟨Int.mul_nonneg (by omega) (by omega), Int.mul_le_mul (by omega) (by omega) (by omega) (by omega)⟩
    rw [m_ct]
    split <;> omega

set_option maxHeartbeats 4000000 in
theorem l_X7_mayBe_25 {S : b_S} {l : Launch} {G : b_G} {o : Nat} {ad : Nat → Nat} {i : Nat → Int} {a : Nat → Nat → Int} {h : b_H} {sz : Nat} {post : Option Value → b_H → Nat → Prop} (M : b_M S l G RX7 cX7_mayBe 4 (some .boolean) "mayBe" 1 22 0 0 h sz post) (hO : r_O K7 7 o ad i a h) {x : Int} (hx : 0 ≤ x ∧ x ≤ 7) (hI5 : 0 ≤ i 5 ∧ i 5 ≤ 12) (hTr : ∀ k : Nat, (k : Int) ≤ x → 0 ≤ a 24 k ∧ a 24 k < i 5) (P0 : w_an (fun k => decide (a 24 k = a 24 x.toNat) && decide (a 10 (a 24 x.toNat).toNat = 0)) x.toNat = true → post (some (.int (zI 0))) h sz) (P57 : ∀ k : Int, w_an (fun k => decide (a 24 k = a 24 x.toNat) && decide (a 10 (a 24 x.toNat).toNat = 0)) x.toNat = false → V S 0 0 h sz 57 [some (.ref o), some (.int (zI x)), some (.int (zI (a 24 x.toNat))), some (.int (zI k))] []) : ∀ (d : Nat) (k : Int), ((x - k).toNat = d) → (0 ≤ k) → (k ≤ x) → (w_an (fun k => decide (a 24 k = a 24 x.toNat) && decide (a 10 (a 24 x.toNat).toNat = 0)) k.toNat = false) → V S 0 0 h sz 25 [some (.ref o), some (.int (zI x)), some (.int (zI (a 24 x.toNat))), some (.int (zI k))] [] := by
  have hc := M.2.2.2.1
  have ho : s_own S = RX7 := M.2.2.1
  have hFr : (s_R S).frames = 1 := by rw [M.2.2.2.2.2.2.2.1]
  have hLo : (s_R S).locals = 22 := by rw [M.2.2.2.2.2.2.2.1]
  have hCe : (s_R S).cells = 0 := by rw [M.2.2.2.2.2.2.2.1]
  have hSl : (s_R S).slots = 0 := by rw [M.2.2.2.2.2.2.2.1]
  have hi := hO.2.2.2.1
  have ha := hO.2.2.2.2
  intro d
  induction d using Nat.strongRecOn with
  | ind d ih =>
    intro k hd h0 h1 hn
    have htx := hTr x.toNat (by omega)
    refine v_iload_n hc dX7_mayBe_25 rfl ?_
    refine v_iload_n hc dX7_mayBe_26 rfl ?_
    refine z_icmp_ge (tgt := 57) hc dX7_mayBe_27 (by decide) (by first | assumption | exact hi _ | exact ha _ _ | (unfold zb; omega)) (by first | assumption | exact hi _ | exact ha _ _ | (unfold zb; omega)) (fun c_1 => ?_) (fun c_1 => ?_)
    · exact P57 k (by rw [show x.toNat = k.toNat by omega] ; rw [show x = k by omega] at hn; exact hn)
    · refine v_aload_n hc dX7_mayBe_30 rfl ?_
      refine r_getA hc ho dX7_mayBe_31 F_X7_73 hO rfl ?_
      refine v_iload_n hc dX7_mayBe_34 rfl ?_
      have htk := hTr k.toNat (by omega)
      refine r_iald hc dX7_mayBe_35 hO 24 rfl (by decide) (by omega) (by omega) ?_
      refine v_iload_n hc dX7_mayBe_36 rfl ?_
      refine z_icmp_ne (tgt := 51) hc dX7_mayBe_37 (by decide) (by first | assumption | exact hi _ | exact ha _ _ | (unfold zb; omega)) (by first | assumption | exact hi _ | exact ha _ _ | (unfold zb; omega)) (fun c_2 => ?_) (fun c_2 => ?_)
      · refine z_iinc hc dX7_mayBe_51 rfl ?_
        refine v_goto (tgt := 25) hc dX7_mayBe_54 (by decide) ?_
        exact ih _ (by omega) _ rfl (by omega) (by omega) (by rw [show (k + 1).toNat = k.toNat + 1 by omega, w_an, hn]; show (false || (decide _ && decide _)) = false; rw [Bool.false_or, Bool.and_eq_false_iff, decide_eq_false_iff_not, decide_eq_false_iff_not]; omega)
      · refine v_aload_n hc dX7_mayBe_40 rfl ?_
        refine r_getA hc ho dX7_mayBe_41 F_X7_32 hO rfl ?_
        refine v_iload_n hc dX7_mayBe_44 rfl ?_
        refine r_zald hc dX7_mayBe_45 hO 10 rfl (by decide) (by omega) (by omega) ?_
        refine z_if_ne (tgt := 51) hc dX7_mayBe_46 (by decide) (by first | assumption | exact hi _ | exact ha _ _ | (unfold zb; omega)) (fun c_3 => ?_) (fun c_3 => ?_)
        · refine z_iinc hc dX7_mayBe_51 rfl ?_
          refine v_goto (tgt := 25) hc dX7_mayBe_54 (by decide) ?_
          exact ih _ (by omega) _ rfl (by omega) (by omega) (by rw [show (k + 1).toNat = k.toNat + 1 by omega, w_an, hn]; show (false || (decide _ && decide _)) = false; rw [Bool.false_or, Bool.and_eq_false_iff, decide_eq_false_iff_not, decide_eq_false_iff_not]; omega)
        · refine z_iconst hc dX7_mayBe_49 ?_
          refine z_zret M (by omega) dX7_mayBe_50 (by omega) (by omega) ?_
          exact P0 ((w_an_iff _ _).mpr ⟨k.toNat, by omega, by show (decide _ && decide _) = true; rw [Bool.and_eq_true, decide_eq_true_eq, decide_eq_true_eq]; omega⟩)
set_option maxHeartbeats 4000000 in
theorem c_X7_mayBe (l : Launch) (G : b_G) {o : Nat} {ad : Nat → Nat} {i : Nat → Int} {a : Nat → Nat → Int} {h : b_H} {sz : Nat} (hO : r_O K7 7 o ad i a h) {x : Int} (hx : 0 ≤ x ∧ x ≤ 7) (hI5 : 0 ≤ i 5 ∧ i 5 ≤ 12) (hky : ∀ j, 0 ≤ a 6 j ∧ a 6 j ≤ 11) (hTr : ∀ k : Nat, (k : Int) ≤ x → 0 ≤ a 24 k ∧ a 24 k < i 5)  : Con l G yX7_mayBe cX7_mayBe 4 (some .boolean) 1 22 0 0 [.ref o, .int (zI x)] h sz (p_ro (some (.int (zI (bI (m_mb i a x.toNat = true))))) h sz) := by
  refine Con.ofK (by decide +kernel) rfl rfl ?_
  intro S M
  have hc := M.2.2.2.1
  have ho : s_own S = RX7 := M.2.2.1
  have hFr : (s_R S).frames = 1 := by rw [M.2.2.2.2.2.2.2.1]
  have hLo : (s_R S).locals = 22 := by rw [M.2.2.2.2.2.2.2.1]
  have hCe : (s_R S).cells = 0 := by rw [M.2.2.2.2.2.2.2.1]
  have hSl : (s_R S).slots = 0 := by rw [M.2.2.2.2.2.2.2.1]
  have hi := hO.2.2.2.1
  have ha := hO.2.2.2.2
  refine v_aload_n hc dX7_mayBe_0 rfl ?_
  refine r_getA hc ho dX7_mayBe_1 F_X7_73 hO rfl ?_
  refine v_iload_n hc dX7_mayBe_4 rfl ?_
  refine r_iald hc dX7_mayBe_5 hO 24 rfl (by decide) (by omega) (by omega) ?_
  refine v_istore_n hc dX7_mayBe_6 (Nat.le_of_ble_eq_true rfl) ?_
  have htx := hTr x.toNat (by omega)
  refine v_aload_n hc dX7_mayBe_7 rfl ?_
  refine r_getA hc ho dX7_mayBe_8 F_X7_64 hO rfl ?_
  refine z_bipush hc dX7_mayBe_11 (by decide) ?_
  refine v_iload_n hc dX7_mayBe_13 rfl ?_
  refine z_imul hc dX7_mayBe_14 ?_
  refine v_iload_n hc dX7_mayBe_15 rfl ?_
  refine z_iadd hc dX7_mayBe_16 ?_
  refine r_iald hc dX7_mayBe_17 hO 21 rfl (by decide) (by omega) (by omega) ?_
  refine z_if_ge (tgt := 23) hc dX7_mayBe_18 (by decide) (by first | assumption | exact hi _ | exact ha _ _ | (unfold zb; omega)) (fun c_1 => ?_) (fun c_1 => ?_)
  · refine z_iconst hc dX7_mayBe_23 ?_
    refine v_istore_n hc dX7_mayBe_24 (Nat.le_of_ble_eq_true rfl) ?_
    refine l_X7_mayBe_25 M hO hx hI5 hTr (fun q => ⟨by rw [bI, if_neg (by unfold m_mb; rw [q]; simp)], rfl, rfl⟩) (fun k4 hn4 => ?_) _ _ rfl (by omega) (by omega) rfl
    refine v_iload_n hc dX7_mayBe_57 rfl ?_
    refine z_if_eq (tgt := 90) hc dX7_mayBe_58 (by decide) (by first | assumption | exact hi _ | exact ha _ _ | (unfold zb; omega)) (fun c_2 => ?_) (fun c_2 => ?_)
    · refine z_iconst hc dX7_mayBe_90 ?_
      refine v_goto (tgt := 95) hc dX7_mayBe_91 (by decide) ?_
      refine z_zret M (by omega) dX7_mayBe_95 (by omega) (by omega) ?_
      first
        | exact ⟨by rw [bI, if_pos (by unfold m_mb; rw [hn4, show 12 * x.toNat + (a 24 x.toNat).toNat = (12 * x + a 24 x.toNat).toNat by omega, show x.toNat - 1 = (x - 1).toNat by omega]; simp only [Bool.not_false, Bool.true_and, Bool.and_eq_true, decide_eq_true_eq]; exact ⟨by omega, by omega⟩)], rfl, rfl⟩
        | exact ⟨by rw [bI, if_neg (by unfold m_mb; rw [hn4, show 12 * x.toNat + (a 24 x.toNat).toNat = (12 * x + a 24 x.toNat).toNat by omega, show x.toNat - 1 = (x - 1).toNat by omega]; simp only [Bool.not_false, Bool.true_and, Bool.and_eq_true, decide_eq_true_eq]; omega)], rfl, rfl⟩
    · have htx1 := hTr (x - 1).toNat (by omega)
      refine v_aload_n hc dX7_mayBe_61 rfl ?_
      refine r_getA hc ho dX7_mayBe_62 F_X7_20 hO rfl ?_
      refine v_aload_n hc dX7_mayBe_65 rfl ?_
      refine r_getA hc ho dX7_mayBe_66 F_X7_73 hO rfl ?_
      refine v_iload_n hc dX7_mayBe_69 rfl ?_
      refine z_iconst hc dX7_mayBe_70 ?_
      refine z_isub hc dX7_mayBe_71 ?_
      refine r_iald hc dX7_mayBe_72 hO 24 rfl (by decide) (by omega) (by omega) ?_
      refine r_iald hc dX7_mayBe_73 hO 6 rfl (by decide) (by omega) (by omega) ?_
      refine v_aload_n hc dX7_mayBe_74 rfl ?_
      refine r_getA hc ho dX7_mayBe_75 F_X7_20 hO rfl ?_
      refine v_iload_n hc dX7_mayBe_78 rfl ?_
      refine r_iald hc dX7_mayBe_79 hO 6 rfl (by decide) (by omega) (by omega) ?_
      refine v_callS (As := [.int (zI (a 6 (a 24 (x - 1).toNat).toNat)), .int (zI (a 6 (a 24 x.toNat).toNat))]) hc ho dX7_mayBe_80 KS_X7_197 KB_X7_stepOf (c_X7_stepOf _ _ (x := a 6 (a 24 (x - 1).toNat).toNat) (y := a 6 (a 24 x.toNat).toNat) (hky _) (hky _)) rfl (Nat.le_of_ble_eq_true rfl) ⟨by omega, by omega⟩ ⟨by omega, by omega⟩ (fun r_ h_ sz_ q_ z_ => ?_)
      obtain ⟨rfl, eh_, es_⟩ := q_
      have eh_ := eh_.symm
      subst eh_
      have es_ := es_.symm
      subst es_
      have hsb := p_st_bd (a 6 (a 24 (x - 1).toNat).toNat) (a 6 (a 24 x.toNat).toNat)
      refine v_aload_n hc dX7_mayBe_83 rfl ?_
      refine r_get hc ho dX7_mayBe_84 F_X7_61 hO rfl ?_
      refine z_icmp_gt (tgt := 94) hc dX7_mayBe_87 (by decide) (by first | assumption | exact hi _ | exact ha _ _ | (unfold zb; omega)) (by first | assumption | exact hi _ | exact ha _ _ | (unfold zb; omega)) (fun c_3 => ?_) (fun c_3 => ?_)
      · refine z_iconst hc dX7_mayBe_94 ?_
        refine z_zret M (by omega) dX7_mayBe_95 (by omega) (by omega) ?_
        first
          | exact ⟨by rw [bI, if_pos (by unfold m_mb; rw [hn4, show 12 * x.toNat + (a 24 x.toNat).toNat = (12 * x + a 24 x.toNat).toNat by omega, show x.toNat - 1 = (x - 1).toNat by omega]; simp only [Bool.not_false, Bool.true_and, Bool.and_eq_true, decide_eq_true_eq]; exact ⟨by omega, by omega⟩)], rfl, rfl⟩
          | exact ⟨by rw [bI, if_neg (by unfold m_mb; rw [hn4, show 12 * x.toNat + (a 24 x.toNat).toNat = (12 * x + a 24 x.toNat).toNat by omega, show x.toNat - 1 = (x - 1).toNat by omega]; simp only [Bool.not_false, Bool.true_and, Bool.and_eq_true, decide_eq_true_eq]; omega)], rfl, rfl⟩
      · refine z_iconst hc dX7_mayBe_90 ?_
        refine v_goto (tgt := 95) hc dX7_mayBe_91 (by decide) ?_
        refine z_zret M (by omega) dX7_mayBe_95 (by omega) (by omega) ?_
        first
          | exact ⟨by rw [bI, if_pos (by unfold m_mb; rw [hn4, show 12 * x.toNat + (a 24 x.toNat).toNat = (12 * x + a 24 x.toNat).toNat by omega, show x.toNat - 1 = (x - 1).toNat by omega]; simp only [Bool.not_false, Bool.true_and, Bool.and_eq_true, decide_eq_true_eq]; exact ⟨by omega, by omega⟩)], rfl, rfl⟩
          | exact ⟨by rw [bI, if_neg (by unfold m_mb; rw [hn4, show 12 * x.toNat + (a 24 x.toNat).toNat = (12 * x + a 24 x.toNat).toNat by omega, show x.toNat - 1 = (x - 1).toNat by omega]; simp only [Bool.not_false, Bool.true_and, Bool.and_eq_true, decide_eq_true_eq]; omega)], rfl, rfl⟩
  · refine z_iconst hc dX7_mayBe_21 ?_
    refine z_zret M (by omega) dX7_mayBe_22 (by omega) (by omega) ?_
    exact ⟨by rw [bI, if_neg (by unfold m_mb; rw [show 12 * x.toNat + (a 24 x.toNat).toNat = (12 * x + a 24 x.toNat).toNat by omega, decide_eq_false (by omega)]; simp)], rfl, rfl⟩
set_option maxHeartbeats 4000000 in
theorem l_X7_costTo_4 {S : b_S} {l : Launch} {G : b_G} {o : Nat} {ad : Nat → Nat} {i : Nat → Int} {a : Nat → Nat → Int} {h : b_H} {sz : Nat} {post : Option Value → b_H → Nat → Prop} (M : b_M S l G RX7 cX7_costTo 4 (some .int) "costTo" 1 22 0 0 h sz post) (hO : r_O K7 7 o ad i a h) {x : Int} (hx : 0 ≤ x ∧ x ≤ 8) (hI5 : 0 ≤ i 5 ∧ i 5 ≤ 12) (hky : ∀ j, 0 ≤ a 6 j ∧ a 6 j ≤ 11) (h22 : ∀ j, 0 ≤ a 22 j ∧ a 22 j ≤ 100000) (h19 : 0 ≤ i 19 ∧ i 19 ≤ 99) (hTr : ∀ k : Nat, (k : Int) < x → 0 ≤ a 24 k ∧ a 24 k < i 5) (P : ∀ g : Int, g = m_ct i a x.toNat → post (some (.int (zI g))) h sz) : ∀ (d : Nat) (g k : Int), ((x - k).toNat = d) → (0 ≤ k) → (k ≤ x) → (g = m_ct i a k.toNat) → V S 0 0 h sz 4 [some (.ref o), some (.int (zI x)), some (.int (zI g)), some (.int (zI k))] [] := by
  have hc := M.2.2.2.1
  have ho : s_own S = RX7 := M.2.2.1
  have hFr : (s_R S).frames = 1 := by rw [M.2.2.2.2.2.2.2.1]
  have hLo : (s_R S).locals = 22 := by rw [M.2.2.2.2.2.2.2.1]
  have hCe : (s_R S).cells = 0 := by rw [M.2.2.2.2.2.2.2.1]
  have hSl : (s_R S).slots = 0 := by rw [M.2.2.2.2.2.2.2.1]
  have hi := hO.2.2.2.1
  have ha := hO.2.2.2.2
  intro d
  induction d using Nat.strongRecOn with
  | ind d ih =>
    intro g k hd h0 h1 hg
    refine v_iload_n hc dX7_costTo_4 rfl ?_
    refine v_iload_n hc dX7_costTo_5 rfl ?_
    refine z_icmp_ge (tgt := 75) hc dX7_costTo_6 (by decide) (by first | assumption | exact hi _ | exact ha _ _ | (unfold zb; omega)) (by first | assumption | exact hi _ | exact ha _ _ | (unfold zb; omega)) (fun c_1 => ?_) (fun c_1 => ?_)
    · refine v_iload_n hc dX7_costTo_75 rfl ?_
      refine z_iret M dX7_costTo_76 (by omega) (by omega) ?_
      exact P g (by rw [hg, show k = x by omega])
    · have htk := hTr k.toNat (by omega)
      have h22k := h22 (12 * k + a 24 k.toNat).toNat
      have hgb := m_ct_bd h22 h19 k.toNat
      refine v_iload_n hc dX7_costTo_9 rfl ?_
      refine v_aload_n hc dX7_costTo_10 rfl ?_
      refine r_getA hc ho dX7_costTo_11 F_X7_67 hO rfl ?_
      refine z_bipush hc dX7_costTo_14 (by decide) ?_
      refine v_iload_n hc dX7_costTo_16 rfl ?_
      refine z_imul hc dX7_costTo_17 ?_
      refine v_aload_n hc dX7_costTo_18 rfl ?_
      refine r_getA hc ho dX7_costTo_19 F_X7_73 hO rfl ?_
      refine v_iload_n hc dX7_costTo_22 rfl ?_
      refine r_iald hc dX7_costTo_23 hO 24 rfl (by decide) (by omega) (by omega) ?_
      refine z_iadd hc dX7_costTo_24 ?_
      refine r_iald hc dX7_costTo_25 hO 22 rfl (by decide) (by omega) (by omega) ?_
      refine v_iload_n hc dX7_costTo_26 rfl ?_
      refine z_if_ne (tgt := 34) hc dX7_costTo_27 (by decide) (by first | assumption | exact hi _ | exact ha _ _ | (unfold zb; omega)) (fun c_2 => ?_) (fun c_2 => ?_)
      · have htk1 := hTr (k - 1).toNat (by omega)
        refine v_aload_n hc dX7_costTo_34 rfl ?_
        refine r_get hc ho dX7_costTo_35 F_X7_57 hO rfl ?_
        refine v_aload_n hc dX7_costTo_38 rfl ?_
        refine r_getA hc ho dX7_costTo_39 F_X7_20 hO rfl ?_
        refine v_aload_n hc dX7_costTo_42 rfl ?_
        refine r_getA hc ho dX7_costTo_43 F_X7_73 hO rfl ?_
        refine v_iload_n hc dX7_costTo_46 rfl ?_
        refine z_iconst hc dX7_costTo_47 ?_
        refine z_isub hc dX7_costTo_48 ?_
        refine r_iald hc dX7_costTo_49 hO 24 rfl (by decide) (by omega) (by omega) ?_
        refine r_iald hc dX7_costTo_50 hO 6 rfl (by decide) (by omega) (by omega) ?_
        refine v_aload_n hc dX7_costTo_51 rfl ?_
        refine r_getA hc ho dX7_costTo_52 F_X7_20 hO rfl ?_
        refine v_aload_n hc dX7_costTo_55 rfl ?_
        refine r_getA hc ho dX7_costTo_56 F_X7_73 hO rfl ?_
        refine v_iload_n hc dX7_costTo_59 rfl ?_
        refine r_iald hc dX7_costTo_60 hO 24 rfl (by decide) (by omega) (by omega) ?_
        refine r_iald hc dX7_costTo_61 hO 6 rfl (by decide) (by omega) (by omega) ?_
        refine v_callS (As := [.int (zI (a 6 (a 24 (k - 1).toNat).toNat)), .int (zI (a 6 (a 24 k.toNat).toNat))]) hc ho dX7_costTo_62 KS_X7_197 KB_X7_stepOf (c_X7_stepOf _ _ (x := a 6 (a 24 (k - 1).toNat).toNat) (y := a 6 (a 24 k.toNat).toNat) (hky _) (hky _)) rfl (Nat.le_of_ble_eq_true rfl) ⟨by omega, by omega⟩ ⟨by omega, by omega⟩ (fun r_ h_ sz_ q_ z_ => ?_)
        obtain ⟨rfl, eh_, es_⟩ := q_
        have eh_ := eh_.symm
        subst eh_
        have es_ := es_.symm
        subst es_
        refine z_imul hc dX7_costTo_65 ?_
        refine z_iadd hc dX7_costTo_66 ?_
        refine z_iadd hc dX7_costTo_67 ?_
        refine v_istore_n hc dX7_costTo_68 (Nat.le_of_ble_eq_true rfl) ?_
        refine z_iinc hc dX7_costTo_69 rfl ?_
        refine v_goto (tgt := 4) hc dX7_costTo_72 (by decide) ?_
        exact ih _ (by omega) _ _ rfl (by omega) (by omega) (by rw [show (k + 1).toNat = k.toNat + 1 by omega, m_ct, ← hg, show 12 * k.toNat + (a 24 k.toNat).toNat = (12 * k + a 24 k.toNat).toNat by omega, if_neg (show ¬ k.toNat = 0 by omega), show k.toNat - 1 = (k - 1).toNat by omega])
      · skip
        refine z_iconst hc dX7_costTo_30 ?_
        refine v_goto (tgt := 66) hc dX7_costTo_31 (by decide) ?_
        refine z_iadd hc dX7_costTo_66 ?_
        refine z_iadd hc dX7_costTo_67 ?_
        refine v_istore_n hc dX7_costTo_68 (Nat.le_of_ble_eq_true rfl) ?_
        refine z_iinc hc dX7_costTo_69 rfl ?_
        refine v_goto (tgt := 4) hc dX7_costTo_72 (by decide) ?_
        exact ih _ (by omega) _ _ rfl (by omega) (by omega) (by rw [show (k + 1).toNat = k.toNat + 1 by omega, m_ct, ← hg, show 12 * k.toNat + (a 24 k.toNat).toNat = (12 * k + a 24 k.toNat).toNat by omega, if_pos (show k.toNat = 0 by omega)])
set_option maxHeartbeats 4000000 in
theorem c_X7_costTo (l : Launch) (G : b_G) {o : Nat} {ad : Nat → Nat} {i : Nat → Int} {a : Nat → Nat → Int} {h : b_H} {sz : Nat} (hO : r_O K7 7 o ad i a h) {x : Int} (hx : 0 ≤ x ∧ x ≤ 8) (hI5 : 0 ≤ i 5 ∧ i 5 ≤ 12) (hky : ∀ j, 0 ≤ a 6 j ∧ a 6 j ≤ 11) (h22 : ∀ j, 0 ≤ a 22 j ∧ a 22 j ≤ 100000) (h19 : 0 ≤ i 19 ∧ i 19 ≤ 99) (hTr : ∀ k : Nat, (k : Int) < x → 0 ≤ a 24 k ∧ a 24 k < i 5)  : Con l G yX7_costTo cX7_costTo 4 (some .int) 1 22 0 0 [.ref o, .int (zI x)] h sz (p_ro (some (.int (zI (m_ct i a x.toNat)))) h sz) := by
  refine Con.ofK (by decide +kernel) rfl rfl ?_
  intro S M
  have hc := M.2.2.2.1
  have ho : s_own S = RX7 := M.2.2.1
  have hFr : (s_R S).frames = 1 := by rw [M.2.2.2.2.2.2.2.1]
  have hLo : (s_R S).locals = 22 := by rw [M.2.2.2.2.2.2.2.1]
  have hCe : (s_R S).cells = 0 := by rw [M.2.2.2.2.2.2.2.1]
  have hSl : (s_R S).slots = 0 := by rw [M.2.2.2.2.2.2.2.1]
  have hi := hO.2.2.2.1
  have ha := hO.2.2.2.2
  refine z_iconst hc dX7_costTo_0 ?_
  refine v_istore_n hc dX7_costTo_1 (Nat.le_of_ble_eq_true rfl) ?_
  refine z_iconst hc dX7_costTo_2 ?_
  refine v_istore_n hc dX7_costTo_3 (Nat.le_of_ble_eq_true rfl) ?_
  exact l_X7_costTo_4 M hO hx hI5 hky h22 h19 hTr (fun g q => ⟨by rw [q], rfl, rfl⟩) _ _ _ rfl (by omega) (by omega) rfl
def w_4 (a a0 : Nat → Nat → Int) : Prop := a 12 = a0 12 ∧ a 13 = a0 13 ∧ a 14 = a0 14 ∧ a 15 = a0 15
theorem w_4E {a a0 : Nat → Nat → Int} (h : w_4 a a0) (p : Int) : w_E a p = w_E a0 p ∧ (∀ b n, w_hw a p b n = w_hw a0 p b n) ∧ (∀ n b, w_bg a p n b = w_bg a0 p n b) ∧ (∀ b n, w_is a p b n ↔ w_is a0 p b n) ∧ (∀ n b k, w_rw a p n b k = w_rw a0 p n b k) ∧ (∀ b n, w_ct a p b n ↔ w_ct a0 p b n) := by
  obtain ⟨h12, h13, h14, h15⟩ := h
  have hB : w_B a p = w_B a0 p := by unfold w_B; rw [h13]
  have hH : w_H a p = w_H a0 p := by unfold w_H; rw [h14]
  have hN : w_N a p = w_N a0 p := by unfold w_N; rw [h15]
  have hE : w_E a p = w_E a0 p := by unfold w_E; rw [hB, hH, hN, h12]
  have hbg : ∀ n b, w_bg a p n b = w_bg a0 p n b := fun n b => by unfold w_bg; rw [hE, hH]
  have hnx : ∀ n x l, w_nx a p n x l = w_nx a0 p n x l := fun n x l => by unfold w_nx; rw [hE, hN]
  have his : ∀ b n, w_is a p b n ↔ w_is a0 p b n := fun b n => by unfold w_is; simp only [hbg, h12]
  refine ⟨hE, fun b n => ?_, hbg, his, fun n b k => ?_, fun b n => ?_⟩
  · induction n with
    | zero => rfl
    | succ n ih => rw [w_hw, w_hw, ih, hbg, h12]
  · induction k with
    | zero => rw [w_rw, w_rw, hbg, h12]
    | succ k ih => rw [w_rw, w_rw, ih, hB, hnx, h12]
  · unfold w_ct
    rw [his]
    simp only [hbg, h12]

