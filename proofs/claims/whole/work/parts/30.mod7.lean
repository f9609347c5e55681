/-! the reference: the way for so many beats -/
theorem f_fi_ex {p : Nat → Bool} {n : Nat} (h : w_an p n = true) : f_fi p n 0 < n ∧ p (f_fi p n 0) = true := by
  obtain ⟨y, h1, h2⟩ := (w_an_iff p n).mp h
  have hlt : f_fi p n 0 < n := by
    rcases Nat.lt_or_ge (f_fi p n 0) n with q | q
    · exact q
    · have := f_fi_no p n 0 y (by omega) (by omega)
      rw [h2] at this; cases this
  exact ⟨hlt, f_fi_yes p n 0 (by omega)⟩
theorem f_fi_nn {p : Nat → Bool} {n : Nat} (h : w_an p n = false) : f_fi p n 0 = n := by
  have h1 := f_fi_ge p n 0
  rcases Nat.lt_or_ge (f_fi p n 0) n with q | q
  · have := f_fi_yes p n 0 (by omega)
    have h2 := (w_an_iff p n).mpr ⟨_, q, this⟩
    rw [h] at h2; cases h2
  · omega
def w_nx (a : Nat → Nat → Int) (p : Int) (n x : Nat) (l : Int) : Nat → Bool := fun y => decide (w_N a p x / 2 ^ y % 2 = 1) && w_E a p n y l
/-- block k of the way of n blocks for b beats, and the beats left with it -/
def w_rw (a : Nat → Nat → Int) (p : Int) (n : Nat) (b : Int) : Nat → Nat × Int
  | 0 => (f_fi (w_bg a p n b) (a 12 p.toNat).toNat 0, b)
  | k + 1 => (f_fi (w_nx a p (n - (k + 1)) (w_rw a p n b k).1 ((w_rw a p n b k).2 - w_B a p (w_rw a p n b k).1)) (a 12 p.toNat).toNat 0, (w_rw a p n b k).2 - w_B a p (w_rw a p n b k).1)
theorem w_rw_ok {a : Nat → Nat → Int} {p : Int} {n : Nat} {b : Int} (hB : ∀ x : Nat, x < (a 12 p.toNat).toNat → 1 ≤ w_B a p x) (hb : b ≤ 400) (h : w_an (w_bg a p n b) (a 12 p.toNat).toNat = true) : ∀ k : Nat, k < n → (w_rw a p n b k).1 < (a 12 p.toNat).toNat ∧ w_E a p (n - k) (w_rw a p n b k).1 (w_rw a p n b k).2 = true ∧ 1 ≤ (w_rw a p n b k).2 ∧ (w_rw a p n b k).2 ≤ 400 := by
  have pos : ∀ (m x : Nat) (l : Int), x < (a 12 p.toNat).toNat → w_E a p m x l = true → 1 ≤ l := by
    intro m x l hx hw
    have h1 := hB x hx
    rcases Nat.lt_or_ge m 2 with q | q
    · rcases Nat.lt_or_ge m 1 with r | r
      · rw [show m = 0 by omega] at hw; cases hw
      · rw [show m = 1 by omega, w_E_1, decide_eq_true_eq] at hw; omega
    · rw [w_E_2 q, Bool.and_eq_true, decide_eq_true_eq] at hw; omega
  intro k
  induction k with
  | zero =>
    intro hk
    obtain ⟨h1, h2⟩ := f_fi_ex h
    rw [w_bg, Bool.and_eq_true] at h2
    refine ⟨h1, h2.2, pos n _ _ h1 h2.2, hb⟩
  | succ k ih =>
    intro hk
    obtain ⟨h1, h2, h3, h4⟩ := ih (by omega)
    rw [w_E_2 (by omega), Bool.and_eq_true, decide_eq_true_eq] at h2
    have h5 := f_fi_ex (p := w_nx a p (n - (k + 1)) (w_rw a p n b k).1 ((w_rw a p n b k).2 - w_B a p (w_rw a p n b k).1)) (n := (a 12 p.toNat).toNat) (by
      have e := h2.2
      rw [show n - k - 1 = n - (k + 1) by omega] at e
      exact e)
    have h6 := h5.2
    rw [w_nx, Bool.and_eq_true] at h6
    have h7 := hB _ h1
    exact ⟨h5.1, h6.2, pos _ _ _ h5.1 h6.2, by rw [w_rw]; show _ - _ ≤ (400 : Int); omega⟩

set_option maxHeartbeats 4000000 in
theorem l_X7_wayFor_11 {S : b_S} {l : Launch} {G : b_G} {o : Nat} {ad : Nat → Nat} {i : Nat → Int} {a : Nat → Nat → Int} {h : b_H} {sz : Nat} {hB : b_H} {post : Option Value → b_H → Nat → Prop} (M : b_M S l G RX7 cX7_wayFor 8 (some .int) "wayFor" 1 22 0 0 hB sz post) (hO : r_O K7 7 o ad i a h) (hI : m_P i a) {p b n : Int} {x5 x6 x7 : Option Value} (hp : 0 ≤ p ∧ p ≤ 11) (hb : 0 ≤ b ∧ b ≤ 400) (hD : m_D (a 16) (a 12 p.toNat) (w_E a p) 17 0 0) (hn : 1 ≤ n ∧ n ≤ 16) {v : Nat} (P53 : V S 0 0 h sz 53 [some (.ref o), some (.int (zI p)), some (.int (zI b)), some (.int (zI n)), some (.int (zI (v : Int))), x5, x6, x7] []) : ∀ (d : Nat) (x : Int), ((a 12 p.toNat - x).toNat = d) → (0 ≤ x) → (x ≤ a 12 p.toNat) → (f_fi (w_bg a p n.toNat b) ((a 12 p.toNat).toNat - x.toNat) x.toNat = v) → V S 0 0 h sz 11 [some (.ref o), some (.int (zI p)), some (.int (zI b)), some (.int (zI n)), some (.int (zI x)), x5, x6, x7] [] := by
  have hc := M.2.2.2.1
  have ho : s_own S = RX7 := M.2.2.1
  have hFr : (s_R S).frames = 1 := by rw [M.2.2.2.2.2.2.2.1]
  have hLo : (s_R S).locals = 22 := by rw [M.2.2.2.2.2.2.2.1]
  have hCe : (s_R S).cells = 0 := by rw [M.2.2.2.2.2.2.2.1]
  have hSl : (s_R S).slots = 0 := by rw [M.2.2.2.2.2.2.2.1]
  have hi := hO.2.2.2.1
  have ha := hO.2.2.2.2
  obtain ⟨hI5, hIbk, hIsf, hIky, hImd, hIth, hIfe, hIbt, hIb1, hIhw, hInx, hIen⟩ := id hI
  intro d
  induction d using Nat.strongRecOn with
  | ind d ih =>
    intro x hd h0 h1 hv
    have hbk := hIbk p.toNat
    refine v_iload hc dX7_wayFor_11 rfl ?_
    refine v_aload_n hc dX7_wayFor_13 rfl ?_
    refine r_getA hc ho dX7_wayFor_14 F_X7_38 hO rfl ?_
    refine v_iload_n hc dX7_wayFor_17 rfl ?_
    refine r_iald hc dX7_wayFor_18 hO 12 rfl (by decide) (by omega) (by omega) ?_
    refine z_icmp_ge (tgt := 53) hc dX7_wayFor_19 (by decide) (by first | assumption | exact hi _ | exact ha _ _ | (unfold zb; omega)) (by first | assumption | exact hi _ | exact ha _ _ | (unfold zb; omega)) (fun c_1 => ?_) (fun c_1 => ?_)
    · rw [show (a 12 p.toNat).toNat - x.toNat = 0 by omega, f_fi] at hv
      rw [show x = ((v : Nat) : Int) by omega]
      exact P53
    · refine v_aload_n hc dX7_wayFor_22 rfl ?_
      refine v_iload_n hc dX7_wayFor_23 rfl ?_
      refine v_iload hc dX7_wayFor_24 rfl ?_
      refine v_callV (As := [.int (zI p), .int (zI x)]) hc ho dX7_wayFor_26 KV_X7_163 KB_X7_begins hO.1 rfl rfl (c_X7_begins _ _ hO hI (p := p) (x := x) (by omega) (by omega)) rfl (Nat.le_of_ble_eq_true rfl) ⟨by omega, by omega⟩ ⟨by omega, by omega⟩ (fun r_ h_ sz_ q_ z_ => ?_)
      obtain ⟨rfl, rfl, rfl⟩ := q_
      have hHx : a 14 (8 * p + x).toNat = w_H a p x.toNat := by rw [w_H, show 8 * p.toNat + x.toNat = (8 * p + x).toNat by omega]
      have hb0 := @bI_0 (2 ≤ a 14 (8 * p + x).toNat) _
      have hb1 := @bI_1 (2 ≤ a 14 (8 * p + x).toNat) _
      have hbb := bI_bd (2 ≤ a 14 (8 * p + x).toNat)
      refine z_if_eq (tgt := 47) hc dX7_wayFor_29 (by decide) (by first | assumption | exact hi _ | exact ha _ _ | (unfold zb; omega)) (fun c_2 => ?_) (fun c_2 => ?_)
      · refine z_iinc hc dX7_wayFor_47 rfl ?_
        refine v_goto (tgt := 11) hc dX7_wayFor_50 (by decide) ?_
        exact ih _ (by omega) _ rfl (by omega) (by omega) (by rw [show (x + 1).toNat = x.toNat + 1 by omega, ← f_fi_st (by omega) (by simp only [w_bg, Bool.and_eq_false_iff, decide_eq_false_iff_not]; first | exact Or.inl (by omega) | exact Or.inr (by simpa using hE0 (by omega)))]; exact hv)
      · refine v_aload_n hc dX7_wayFor_32 rfl ?_
        refine r_getA hc ho dX7_wayFor_33 F_X7_51 hO rfl ?_
        refine v_iload_n hc dX7_wayFor_36 rfl ?_
        refine v_iload hc dX7_wayFor_37 rfl ?_
        refine v_iload_n hc dX7_wayFor_39 rfl ?_
        refine v_callS (As := [.int (zI (n)), .int (zI (x)), .int (zI (b))]) hc ho dX7_wayFor_40 KS_X7_159 KB_X7_at (c_X7_at _ _ (n := n) (x := x) (b := b)) rfl (Nat.le_of_ble_eq_true rfl) ⟨by omega, by omega⟩ ⟨by omega, by omega⟩ (fun r_ h_ sz_ q_ z_ => ?_)
        obtain ⟨rfl, rfl, rfl⟩ := q_
        have hEv := hD n x b (by omega) (by omega) (by omega) (by omega) (by omega) (by omega) (Or.inl (by omega))
        have hE1 : ¬ a 16 (3208 * n + 401 * x + b).toNat = 0 → w_E a p n.toNat x.toNat b = true := fun q => by rw [hEv] at q; exact bI_1.mp q
        have hE0 : a 16 (3208 * n + 401 * x + b).toNat = 0 → ¬ w_E a p n.toNat x.toNat b = true := fun q => by rw [hEv] at q; exact bI_0.mp q
        refine r_zald hc dX7_wayFor_43 hO 16 rfl (by decide) (by omega) (by omega) ?_
        refine z_if_ne (tgt := 53) hc dX7_wayFor_44 (by decide) (by first | assumption | exact hi _ | exact ha _ _ | (unfold zb; omega)) (fun c_3 => ?_) (fun c_3 => ?_)
        · rw [f_fi_hit (by omega) (by simp only [w_bg, Bool.and_eq_true, decide_eq_true_eq]; exact ⟨by omega, hE1 (by omega)⟩)] at hv
          rw [show x = ((v : Nat) : Int) by omega]
          exact P53
        · refine z_iinc hc dX7_wayFor_47 rfl ?_
          refine v_goto (tgt := 11) hc dX7_wayFor_50 (by decide) ?_
          exact ih _ (by omega) _ rfl (by omega) (by omega) (by rw [show (x + 1).toNat = x.toNat + 1 by omega, ← f_fi_st (by omega) (by simp only [w_bg, Bool.and_eq_false_iff, decide_eq_false_iff_not]; first | exact Or.inl (by omega) | exact Or.inr (by simpa using hE0 (by omega)))]; exact hv)
set_option maxHeartbeats 4000000 in
theorem l_X7_wayFor_119 {S : b_S} {l : Launch} {G : b_G} {o : Nat} {ad : Nat → Nat} {i : Nat → Int} {a : Nat → Nat → Int} {h : b_H} {sz : Nat} {hB : b_H} {post : Option Value → b_H → Nat → Prop} (M : b_M S l G RX7 cX7_wayFor 8 (some .int) "wayFor" 1 22 0 0 hB sz post) (hO : r_O K7 7 o ad i a h) (hI : m_P i a) {p b n k u l : Int} {x4 : Option Value} (hp : 0 ≤ p ∧ p ≤ 11) (hb : 0 ≤ b ∧ b ≤ 400) (hD : m_D (a 16) (a 12 p.toNat) (w_E a p) 17 0 0) (hn : 1 ≤ n ∧ n ≤ 16) (hk : 1 ≤ k ∧ k < n) (hu : 0 ≤ u ∧ u ≤ 7) (hl : 0 ≤ l ∧ l ≤ 400) (hru0 : a 17 (k - 1).toNat = u) {v : Nat} (P182 : V S 0 0 h sz 182 [some (.ref o), some (.int (zI p)), some (.int (zI b)), some (.int (zI n)), x4, some (.int (zI l)), some (.int (zI k)), some (.int (zI (v : Int)))] []) : ∀ (d : Nat) (y : Int), ((a 12 p.toNat - y).toNat = d) → (0 ≤ y) → (y ≤ a 12 p.toNat) → (f_fi (w_nx a p (n - k).toNat u.toNat l) ((a 12 p.toNat).toNat - y.toNat) y.toNat = v) → V S 0 0 h sz 119 [some (.ref o), some (.int (zI p)), some (.int (zI b)), some (.int (zI n)), x4, some (.int (zI l)), some (.int (zI k)), some (.int (zI y))] [] := by
  have hc := M.2.2.2.1
  have ho : s_own S = RX7 := M.2.2.1
  have hFr : (s_R S).frames = 1 := by rw [M.2.2.2.2.2.2.2.1]
  have hLo : (s_R S).locals = 22 := by rw [M.2.2.2.2.2.2.2.1]
  have hCe : (s_R S).cells = 0 := by rw [M.2.2.2.2.2.2.2.1]
  have hSl : (s_R S).slots = 0 := by rw [M.2.2.2.2.2.2.2.1]
  have hi := hO.2.2.2.1
  have ha := hO.2.2.2.2
  obtain ⟨hI5, hIbk, hIsf, hIky, hImd, hIth, hIfe, hIbt, hIb1, hIhw, hInx, hIen⟩ := id hI
  intro d
  induction d using Nat.strongRecOn with
  | ind d ih =>
    intro y hd h0 h1 hv
    have hbk := hIbk p.toNat
    refine v_iload hc dX7_wayFor_119 rfl ?_
    refine v_aload_n hc dX7_wayFor_121 rfl ?_
    refine r_getA hc ho dX7_wayFor_122 F_X7_38 hO rfl ?_
    refine v_iload_n hc dX7_wayFor_125 rfl ?_
    refine r_iald hc dX7_wayFor_126 hO 12 rfl (by decide) (by omega) (by omega) ?_
    refine z_icmp_ge (tgt := 182) hc dX7_wayFor_127 (by decide) (by first | assumption | exact hi _ | exact ha _ _ | (unfold zb; omega)) (by first | assumption | exact hi _ | exact ha _ _ | (unfold zb; omega)) (fun c_1 => ?_) (fun c_1 => ?_)
    · rw [show (a 12 p.toNat).toNat - y.toNat = 0 by omega, f_fi] at hv
      rw [show y = ((v : Nat) : Int) by omega]
      exact P182
    · have hru : a 17 (k - 1).toNat = u := hru0
      have hN : a 15 (8 * p + u).toNat = w_N a p u.toNat := by rw [w_N, show 8 * p.toNat + u.toNat = (8 * p + u).toNat by omega]
      have hnx := hInx (8 * p + u).toNat
      have hq := b_div_bd (x := w_N a p u.toNat) (y := 2 ^ y.toNat) (by omega) (by exact Int.pow_pos (by omega))
      have hq3 : a 15 (8 * p + a 17 (k - 1).toNat).toNat = w_N a p u.toNat := by rw [hru, hN]
      have hq2 : a 15 (8 * p + a 17 (k - 1).toNat).toNat / 2 ^ y.toNat = w_N a p u.toNat / 2 ^ y.toNat := by rw [hq3]
      refine v_aload_n hc dX7_wayFor_130 rfl ?_
      refine r_getA hc ho dX7_wayFor_131 F_X7_47 hO rfl ?_
      refine z_bipush hc dX7_wayFor_134 (by decide) ?_
      refine v_iload_n hc dX7_wayFor_136 rfl ?_
      refine z_imul hc dX7_wayFor_137 ?_
      refine v_aload_n hc dX7_wayFor_138 rfl ?_
      refine r_getA hc ho dX7_wayFor_139 F_X7_54 hO rfl ?_
      refine v_iload hc dX7_wayFor_142 rfl ?_
      refine z_iconst hc dX7_wayFor_144 ?_
      refine z_isub hc dX7_wayFor_145 ?_
      refine r_iald hc dX7_wayFor_146 hO 17 rfl (by decide) (by omega) (by omega) ?_
      refine z_iadd hc dX7_wayFor_147 ?_
      refine r_iald hc dX7_wayFor_148 hO 15 rfl (by decide) (by omega) (by omega) ?_
      refine v_iload hc dX7_wayFor_149 rfl ?_
      refine v_ishr hc dX7_wayFor_151 (zI_shr (by omega) (by omega) (by omega) (by omega)) ?_
      refine z_iconst hc dX7_wayFor_152 ?_
      refine v_iand hc dX7_wayFor_153 (zI_and1 (by omega) (by omega)) ?_
      refine z_if_eq (tgt := 176) hc dX7_wayFor_154 (by decide) (by first | assumption | exact hi _ | exact ha _ _ | (unfold zb; omega)) (fun c_2 => ?_) (fun c_2 => ?_)
      · refine z_iinc hc dX7_wayFor_176 rfl ?_
        refine v_goto (tgt := 119) hc dX7_wayFor_179 (by decide) ?_
        exact ih _ (by omega) _ rfl (by omega) (by omega) (by rw [show (y + 1).toNat = y.toNat + 1 by omega, ← f_fi_st (by omega) (by simp only [w_nx, Bool.and_eq_false_iff, decide_eq_false_iff_not]; first | exact Or.inl (by omega) | exact Or.inr (by simpa using hE0 (by omega)))]; exact hv)
      · refine v_aload_n hc dX7_wayFor_157 rfl ?_
        refine r_getA hc ho dX7_wayFor_158 F_X7_51 hO rfl ?_
        refine v_iload_n hc dX7_wayFor_161 rfl ?_
        refine v_iload hc dX7_wayFor_162 rfl ?_
        refine z_isub hc dX7_wayFor_164 ?_
        refine v_iload hc dX7_wayFor_165 rfl ?_
        refine v_iload hc dX7_wayFor_167 rfl ?_
        refine v_callS (As := [.int (zI (n - k)), .int (zI (y)), .int (zI (l))]) hc ho dX7_wayFor_169 KS_X7_159 KB_X7_at (c_X7_at _ _ (n := n - k) (x := y) (b := l)) rfl (Nat.le_of_ble_eq_true rfl) ⟨by omega, by omega⟩ ⟨by omega, by omega⟩ (fun r_ h_ sz_ q_ z_ => ?_)
        obtain ⟨rfl, rfl, rfl⟩ := q_
        have hEv := hD (n - k) y l (by omega) (by omega) (by omega) (by omega) (by omega) (by omega) (Or.inl (by omega))
        have hE1 : ¬ a 16 (3208 * (n - k) + 401 * y + l).toNat = 0 → w_E a p (n - k).toNat y.toNat l = true := fun q => by rw [hEv] at q; exact bI_1.mp q
        have hE0 : a 16 (3208 * (n - k) + 401 * y + l).toNat = 0 → ¬ w_E a p (n - k).toNat y.toNat l = true := fun q => by rw [hEv] at q; exact bI_0.mp q
        refine r_zald hc dX7_wayFor_172 hO 16 rfl (by decide) (by omega) (by omega) ?_
        refine z_if_ne (tgt := 182) hc dX7_wayFor_173 (by decide) (by first | assumption | exact hi _ | exact ha _ _ | (unfold zb; omega)) (fun c_3 => ?_) (fun c_3 => ?_)
        · rw [f_fi_hit (by omega) (by simp only [w_nx, Bool.and_eq_true, decide_eq_true_eq]; exact ⟨by omega, hE1 (by omega)⟩)] at hv
          rw [show y = ((v : Nat) : Int) by omega]
          exact P182
        · refine z_iinc hc dX7_wayFor_176 rfl ?_
          refine v_goto (tgt := 119) hc dX7_wayFor_179 (by decide) ?_
          exact ih _ (by omega) _ rfl (by omega) (by omega) (by rw [show (y + 1).toNat = y.toNat + 1 by omega, ← f_fi_st (by omega) (by simp only [w_nx, Bool.and_eq_false_iff, decide_eq_false_iff_not]; first | exact Or.inl (by omega) | exact Or.inr (by simpa using hE0 (by omega)))]; exact hv)
