/-! the reference: the way for so many beats -/
theorem f_fi_ex {p : Nat → Bool} {n : Nat} (h : w_an p n = true) : f_fi p n 0 < n ∧ p (f_fi p n 0) = true := by
  obtain ⟨y, h1, h2⟩ := (w_an_iff p n).mp h
  have hlt : f_fi p n 0 < n := by
    rcases Nat.lt_or_ge (f_fi p n 0) n with q | q
    · exact q
    · have := f_fi_no p n 0 y (by omega) (by omega)
      rw [h2] at this; cases this
  exact ⟨hlt, f_fi_yes p n 0 (by omega)⟩
theorem f_fi_nn {p : Nat → Bool} {n : Nat} (h : w_an p n = false) : f_fi p n 0 = n := by
  have h1 := f_fi_ge p n 0
  rcases Nat.lt_or_ge (f_fi p n 0) n with q | q
  · have := f_fi_yes p n 0 (by omega)
    have h2 := (w_an_iff p n).mpr ⟨_, q, this⟩
    rw [h] at h2; cases h2
  · omega
def w_nx (a : Nat → Nat → Int) (p : Int) (n x : Nat) (l : Int) : Nat → Bool := fun y => decide (w_N a p x / 2 ^ y % 2 = 1) && w_E a p n y l
/-- block k of the way of n blocks for b beats, and the beats left with it -/
def w_rw (a : Nat → Nat → Int) (p : Int) (n : Nat) (b : Int) : Nat → Nat × Int
  | 0 => (f_fi (w_bg a p n b) (a 12 p.toNat).toNat 0, b)
  | k + 1 => (f_fi (w_nx a p (n - (k + 1)) (w_rw a p n b k).1 ((w_rw a p n b k).2 - w_B a p (w_rw a p n b k).1)) (a 12 p.toNat).toNat 0, (w_rw a p n b k).2 - w_B a p (w_rw a p n b k).1)
theorem w_rw_ok {a : Nat → Nat → Int} {p : Int} {n : Nat} {b : Int} (hB : ∀ x : Nat, x < (a 12 p.toNat).toNat → 1 ≤ w_B a p x) (hb : b ≤ 400) (h : w_an (w_bg a p n b) (a 12 p.toNat).toNat = true) : ∀ k : Nat, k < n → (w_rw a p n b k).1 < (a 12 p.toNat).toNat ∧ w_E a p (n - k) (w_rw a p n b k).1 (w_rw a p n b k).2 = true ∧ 1 ≤ (w_rw a p n b k).2 ∧ (w_rw a p n b k).2 ≤ 400 := by
  have pos : ∀ (m x : Nat) (l : Int), x < (a 12 p.toNat).toNat → w_E a p m x l = true → 1 ≤ l := by
    intro m x l hx hw
    have h1 := hB x hx
    rcases Nat.lt_or_ge m 2 with q | q
    · rcases Nat.lt_or_ge m 1 with r | r
      · rw [show m = 0 by omega] at hw; cases hw
      · rw [show m = 1 by omega, w_E_1, decide_eq_true_eq] at hw; omega
    · rw [w_E_2 q, Bool.and_eq_true, decide_eq_true_eq] at hw; omega
  intro k
  induction k with
  | zero =>
    intro hk
    obtain ⟨h1, h2⟩ := f_fi_ex h
    rw [w_bg, Bool.and_eq_true] at h2
    refine ⟨h1, h2.2, pos n _ _ h1 h2.2, hb⟩
  | succ k ih =>
    intro hk
    obtain ⟨h1, h2, h3, h4⟩ := ih (by omega)
    rw [w_E_2 (by omega), Bool.and_eq_true, decide_eq_true_eq] at h2
    have h5 := f_fi_ex (p := w_nx a p (n - (k + 1)) (w_rw a p n b k).1 ((w_rw a p n b k).2 - w_B a p (w_rw a p n b k).1)) (n := (a 12 p.toNat).toNat) (by
      have e := h2.2
      rw [show n - k - 1 = n - (k + 1) by omega] at e
      exact e)
    have h6 := h5.2
    rw [w_nx, Bool.and_eq_true] at h6
    have h7 := hB _ h1
    exact ⟨h5.1, h6.2, pos _ _ _ h5.1 h6.2, by rw [w_rw]; show _ - _ ≤ (400 : Int); omega⟩

set_option maxHeartbeats 4000000 in
theorem l_X7_wayFor_11 {S : b_S} {l : Launch} {G : b_G} {o : Nat} {ad : Nat → Nat} {i : Nat → Int} {a : Nat → Nat → Int} {h : b_H} {sz : Nat} {hB : b_H} {post : Option Value → b_H → Nat → Prop} (M : b_M S l G RX7 cX7_wayFor 8 (some .int) "wayFor" 1 22 0 0 hB sz post) (hO : r_O K7 7 o ad i a h) (hI : m_P i a) {p b n : Int} {x5 x6 x7 : Option Value} (hp : 0 ≤ p ∧ p ≤ 11) (hb : 0 ≤ b ∧ b ≤ 400) (hD : m_D (a 16) (a 12 p.toNat) (w_E a p) 17 0 0) (hn : 1 ≤ n ∧ n ≤ 16) {v : Nat} (P53 : V S 0 0 h sz 53 [some (.ref o), some (.int (zI p)), some (.int (zI b)), some (.int (zI n)), some (.int (zI (v : Int))), x5, x6, x7] []) : ∀ (d : Nat) (x : Int), ((a 12 p.toNat - x).toNat = d) → (0 ≤ x) → (x ≤ a 12 p.toNat) → (f_fi (w_bg a p n.toNat b) ((a 12 p.toNat).toNat - x.toNat) x.toNat = v) → V S 0 0 h sz 11 [some (.ref o), some (.int (zI p)), some (.int (zI b)), some (.int (zI n)), some (.int (zI x)), x5, x6, x7] [] := by
  have hc := M.2.2.2.1
  have ho : s_own S = RX7 := M.2.2.1
  have hFr : (s_R S).frames = 1 := by rw [M.2.2.2.2.2.2.2.1]
  have hLo : (s_R S).locals = 22 := by rw [M.2.2.2.2.2.2.2.1]
  have hCe : (s_R S).cells = 0 := by rw [M.2.2.2.2.2.2.2.1]
  have hSl : (s_R S).slots = 0 := by rw [M.2.2.2.2.2.2.2.1]
  have hi := hO.2.2.2.1
  have ha := hO.2.2.2.2
  obtain ⟨hI5, hIbk, hIsf, hIky, hImd, hIth, hIfe, hIbt, hIb1, hIhw, hInx, hIen⟩ := id hI
  intro d
  induction d using Nat.strongRecOn with
  | ind d ih =>
    intro x hd h0 h1 hv
    have hbk := hIbk p.toNat
    refine v_iload hc dX7_wayFor_11 rfl ?_
    refine v_aload_n hc dX7_wayFor_13 rfl ?_
    refine r_getA hc ho dX7_wayFor_14 F_X7_38 hO rfl ?_
    refine v_iload_n hc dX7_wayFor_17 rfl ?_
    refine r_iald hc dX7_wayFor_18 hO 12 rfl (by decide) (by omega) (by omega) ?_
    refine z_icmp_ge (tgt := 53) hc dX7_wayFor_19 (by decide) (by first | assumption | exact hi _ | exact ha _ _ | (unfold zb; omega)) (by first | assumption | exact hi _ | exact ha _ _ | (unfold zb; omega)) (fun c_1 => ?_) (fun c_1 => ?_)
    · rw [show (a 12 p.toNat).toNat - x.toNat = 0 by omega, f_fi] at hv
      rw [show x = ((v : Nat) : Int) by omega]
      exact P53
    · refine v_aload_n hc dX7_wayFor_22 rfl ?_
      refine v_iload_n hc dX7_wayFor_23 rfl ?_
      refine v_iload hc dX7_wayFor_24 rfl ?_
      refine v_callV (As := [.int (zI p), .int (zI x)]) hc ho dX7_wayFor_26 KV_X7_163 KB_X7_begins hO.1 rfl rfl (c_X7_begins _ _ hO hI (p := p) (x := x) (by omega) (by omega)) rfl (Nat.le_of_ble_eq_true rfl) ⟨by omega, by omega⟩ ⟨by omega, by omega⟩ (fun r_ h_ sz_ q_ z_ => ?_)
      obtain ⟨rfl, rfl, rfl⟩ := q_
      have hHx : a 14 (8 * p + x).toNat = w_H a p x.toNat := by rw [w_H, show 8 * p.toNat + x.toNat = (8 * p + x).toNat by omega]
      have hb0 := @bI_0 (2 ≤ a 14 (8 * p + x).toNat) _
      have hb1 := @bI_1 (2 ≤ a 14 (8 * p + x).toNat) _
      have hbb := bI_bd (2 ≤ a 14 (8 * p + x).toNat)
      refine z_if_eq (tgt := 47) hc dX7_wayFor_29 (by decide) (by first | assumption | exact hi _ | exact ha _ _ | (unfold zb; omega)) (fun c_2 => ?_) (fun c_2 => ?_)
      · refine z_iinc hc dX7_wayFor_47 rfl ?_
        refine v_goto (tgt := 11) hc dX7_wayFor_50 (by decide) ?_
        exact ih _ (by omega) _ rfl (by omega) (by omega) (by rw [show (x + 1).toNat = x.toNat + 1 by omega, ← f_fi_st (by omega) (by simp only [w_bg, Bool.and_eq_false_iff, decide_eq_false_iff_not]; first | exact Or.inl (by omega) | exact Or.inr (by simpa using hE0 (by omega)))]; exact hv)
      · refine v_aload_n hc dX7_wayFor_32 rfl ?_
        refine r_getA hc ho dX7_wayFor_33 F_X7_51 hO rfl ?_
        refine v_iload_n hc dX7_wayFor_36 rfl ?_
        refine v_iload hc dX7_wayFor_37 rfl ?_
        refine v_iload_n hc dX7_wayFor_39 rfl ?_
        refine v_callS (As := [.int (zI (n)), .int (zI (x)), .int (zI (b))]) hc ho dX7_wayFor_40 KS_X7_159 KB_X7_at (c_X7_at _ _ (n := n) (x := x) (b := b)) rfl (Nat.le_of_ble_eq_true rfl) ⟨by omega, by omega⟩ ⟨by omega, by omega⟩ (fun r_ h_ sz_ q_ z_ => ?_)
        obtain ⟨rfl, rfl, rfl⟩ := q_
        have hEv := hD n x b (by omega) (by omega) (by omega) (by omega) (by omega) (by omega) (Or.inl (by omega))
        have hE1 : ¬ a 16 (3208 * n + 401 * x + b).toNat = 0 → w_E a p n.toNat x.toNat b = true := fun q => by rw [hEv] at q; exact bI_1.mp q
        have hE0 : a 16 (3208 * n + 401 * x + b).toNat = 0 → ¬ w_E a p n.toNat x.toNat b = true := fun q => by rw [hEv] at q; exact bI_0.mp q
        refine r_zald hc dX7_wayFor_43 hO 16 rfl (by decide) (by omega) (by omega) ?_
        refine z_if_ne (tgt := 53) hc dX7_wayFor_44 (by decide) (by first | assumption | exact hi _ | exact ha _ _ | (unfold zb; omega)) (fun c_3 => ?_) (fun c_3 => ?_)
        · rw [f_fi_hit (by omega) (by simp only [w_bg, Bool.and_eq_true, decide_eq_true_eq]; exact ⟨by omega, hE1 (by omega)⟩)] at hv
          rw [show x = ((v : Nat) : Int) by omega]
          exact P53
        · refine z_iinc hc dX7_wayFor_47 rfl ?_
          refine v_goto (tgt := 11) hc dX7_wayFor_50 (by decide) ?_
          exact ih _ (by omega) _ rfl (by omega) (by omega) (by rw [show (x + 1).toNat = x.toNat + 1 by omega, ← f_fi_st (by omega) (by simp only [w_bg, Bool.and_eq_false_iff, decide_eq_false_iff_not]; first | exact Or.inl (by omega) | exact Or.inr (by simpa using hE0 (by omega)))]; exact hv)
set_option maxHeartbeats 4000000 in
theorem l_X7_wayFor_119 {S : b_S} {l : Launch} {G : b_G} {o : Nat} {ad : Nat → Nat} {i : Nat → Int} {a : Nat → Nat → Int} {h : b_H} {sz : Nat} {hB : b_H} {post : Option Value → b_H → Nat → Prop} (M : b_M S l G RX7 cX7_wayFor 8 (some .int) "wayFor" 1 22 0 0 hB sz post) (hO : r_O K7 7 o ad i a h) (hI : m_P i a) {p b n k u l : Int} {x4 : Option Value} (hp : 0 ≤ p ∧ p ≤ 11) (hb : 0 ≤ b ∧ b ≤ 400) (hD : m_D (a 16) (a 12 p.toNat) (w_E a p) 17 0 0) (hn : 1 ≤ n ∧ n ≤ 16) (hk : 1 ≤ k ∧ k < n) (hu : 0 ≤ u ∧ u ≤ 7) (hl : 0 ≤ l ∧ l ≤ 400) (hru0 : a 17 (k - 1).toNat = u) {v : Nat} (P182 : V S 0 0 h sz 182 [some (.ref o), some (.int (zI p)), some (.int (zI b)), some (.int (zI n)), x4, some (.int (zI l)), some (.int (zI k)), some (.int (zI (v : Int)))] []) : ∀ (d : Nat) (y : Int), ((a 12 p.toNat - y).toNat = d) → (0 ≤ y) → (y ≤ a 12 p.toNat) → (f_fi (w_nx a p (n - k).toNat u.toNat l) ((a 12 p.toNat).toNat - y.toNat) y.toNat = v) → V S 0 0 h sz 119 [some (.ref o), some (.int (zI p)), some (.int (zI b)), some (.int (zI n)), x4, some (.int (zI l)), some (.int (zI k)), some (.int (zI y))] [] := by
  have hc := M.2.2.2.1
  have ho : s_own S = RX7 := M.2.2.1
  have hFr : (s_R S).frames = 1 := by rw [M.2.2.2.2.2.2.2.1]
  have hLo : (s_R S).locals = 22 := by rw [M.2.2.2.2.2.2.2.1]
  have hCe : (s_R S).cells = 0 := by rw [M.2.2.2.2.2.2.2.1]
  have hSl : (s_R S).slots = 0 := by rw [M.2.2.2.2.2.2.2.1]
  have hi := hO.2.2.2.1
  have ha := hO.2.2.2.2
  obtain ⟨hI5, hIbk, hIsf, hIky, hImd, hIth, hIfe, hIbt, hIb1, hIhw, hInx, hIen⟩ := id hI
  intro d
  induction d using Nat.strongRecOn with
  | ind d ih =>
    intro y hd h0 h1 hv
    have hbk := hIbk p.toNat
    refine v_iload hc dX7_wayFor_119 rfl ?_
    refine v_aload_n hc dX7_wayFor_121 rfl ?_
    refine r_getA hc ho dX7_wayFor_122 F_X7_38 hO rfl ?_
    refine v_iload_n hc dX7_wayFor_125 rfl ?_
    refine r_iald hc dX7_wayFor_126 hO 12 rfl (by decide) (by omega) (by omega) ?_
    refine z_icmp_ge (tgt := 182) hc dX7_wayFor_127 (by decide) (by first | assumption | exact hi _ | exact ha _ _ | (unfold zb; omega)) (by first | assumption | exact hi _ | exact ha _ _ | (unfold zb; omega)) (fun c_1 => ?_) (fun c_1 => ?_)
    · rw [show (a 12 p.toNat).toNat - y.toNat = 0 by omega, f_fi] at hv
      rw [show y = ((v : Nat) : Int) by omega]
      exact P182
    · have hru : a 17 (k - 1).toNat = u := hru0
      have hN : a 15 (8 * p + u).toNat = w_N a p u.toNat := by rw [w_N, show 8 * p.toNat + u.toNat = (8 * p + u).toNat by omega]
      have hnx := hInx (8 * p + u).toNat
      have hq := b_div_bd (x := w_N a p u.toNat) (y := 2 ^ y.toNat) (by omega) (by exact Int.pow_pos (by omega))
      have hq3 : a 15 (8 * p + a 17 (k - 1).toNat).toNat = w_N a p u.toNat := by rw [hru, hN]
      have hq2 : a 15 (8 * p + a 17 (k - 1).toNat).toNat / 2 ^ y.toNat = w_N a p u.toNat / 2 ^ y.toNat := by rw [hq3]
      refine v_aload_n hc dX7_wayFor_130 rfl ?_
      refine r_getA hc ho dX7_wayFor_131 F_X7_47 hO rfl ?_
      refine z_bipush hc dX7_wayFor_134 (by decide) ?_
      refine v_iload_n hc dX7_wayFor_136 rfl ?_
      refine z_imul hc dX7_wayFor_137 ?_
      refine v_aload_n hc dX7_wayFor_138 rfl ?_
      refine r_getA hc ho dX7_wayFor_139 F_X7_54 hO rfl ?_
      refine v_iload hc dX7_wayFor_142 rfl ?_
      refine z_iconst hc dX7_wayFor_144 ?_
      refine z_isub hc dX7_wayFor_145 ?_
      refine r_iald hc dX7_wayFor_146 hO 17 rfl (by decide) (by omega) (by omega) ?_
      refine z_iadd hc dX7_wayFor_147 ?_
      refine r_iald hc dX7_wayFor_148 hO 15 rfl (by decide) (by omega) (by omega) ?_
      refine v_iload hc dX7_wayFor_149 rfl ?_
      refine v_ishr hc dX7_wayFor_151 (zI_shr (by omega) (by omega) (by omega) (by omega)) ?_
      refine z_iconst hc dX7_wayFor_152 ?_
      refine v_iand hc dX7_wayFor_153 (zI_and1 (by omega) (by omega)) ?_
      refine z_if_eq (tgt := 176) hc dX7_wayFor_154 (by decide) (by first | assumption | exact hi _ | exact ha _ _ | (unfold zb; omega)) (fun c_2 => ?_) (fun c_2 => ?_)
      · refine z_iinc hc dX7_wayFor_176 rfl ?_
        refine v_goto (tgt := 119) hc dX7_wayFor_179 (by decide) ?_
        exact ih _ (by omega) _ rfl (by omega) (by omega) (by rw [show (y + 1).toNat = y.toNat + 1 by omega, ← f_fi_st (by omega) (by simp only [w_nx, Bool.and_eq_false_iff, decide_eq_false_iff_not]; first | exact Or.inl (by omega) | exact Or.inr (by simpa using hE0 (by omega)))]; exact hv)
      · refine v_aload_n hc dX7_wayFor_157 rfl ?_
        refine r_getA hc ho dX7_wayFor_158 F_X7_51 hO rfl ?_
        refine v_iload_n hc dX7_wayFor_161 rfl ?_
        refine v_iload hc dX7_wayFor_162 rfl ?_
        refine z_isub hc dX7_wayFor_164 ?_
        refine v_iload hc dX7_wayFor_165 rfl ?_
        refine v_iload hc dX7_wayFor_167 rfl ?_
        refine v_callS (As := [.int (zI (n - k)), .int (zI (y)), .int (zI (l))]) hc ho dX7_wayFor_169 KS_X7_159 KB_X7_at (c_X7_at _ _ (n := n - k) (x := y) (b := l)) rfl (Nat.le_of_ble_eq_true rfl) ⟨by omega, by omega⟩ ⟨by omega, by omega⟩ (fun r_ h_ sz_ q_ z_ => ?_)
        obtain ⟨rfl, rfl, rfl⟩ := q_
        have hEv := hD (n - k) y l (by omega) (by omega) (by omega) (by omega) (by omega) (by omega) (Or.inl (by omega))
        have hE1 : ¬ a 16 (3208 * (n - k) + 401 * y + l).toNat = 0 → w_E a p (n - k).toNat y.toNat l = true := fun q => by rw [hEv] at q; exact bI_1.mp q
        have hE0 : a 16 (3208 * (n - k) + 401 * y + l).toNat = 0 → ¬ w_E a p (n - k).toNat y.toNat l = true := fun q => by rw [hEv] at q; exact bI_0.mp q
        refine r_zald hc dX7_wayFor_172 hO 16 rfl (by decide) (by omega) (by omega) ?_
        refine z_if_ne (tgt := 182) hc dX7_wayFor_173 (by decide) (by first | assumption | exact hi _ | exact ha _ _ | (unfold zb; omega)) (fun c_3 => ?_) (fun c_3 => ?_)
        · rw [f_fi_hit (by omega) (by simp only [w_nx, Bool.and_eq_true, decide_eq_true_eq]; exact ⟨by omega, hE1 (by omega)⟩)] at hv
          rw [show y = ((v : Nat) : Int) by omega]
          exact P182
        · refine z_iinc hc dX7_wayFor_176 rfl ?_
          refine v_goto (tgt := 119) hc dX7_wayFor_179 (by decide) ?_
          exact ih _ (by omega) _ rfl (by omega) (by omega) (by rw [show (y + 1).toNat = y.toNat + 1 by omega, ← f_fi_st (by omega) (by simp only [w_nx, Bool.and_eq_false_iff, decide_eq_false_iff_not]; first | exact Or.inl (by omega) | exact Or.inr (by simpa using hE0 (by omega)))]; exact hv)
theorem w_c17 {a a0 : Nat → Nat → Int} (hE : ∀ k, k ≠ 17 → a k = a0 k) (p : Int) : w_E a p = w_E a0 p ∧ w_B a p = w_B a0 p ∧ w_H a p = w_H a0 p ∧ w_N a p = w_N a0 p ∧ a 12 p.toNat = a0 12 p.toNat ∧ a 16 = a0 16 ∧ (∀ n x l, w_nx a p n x l = w_nx a0 p n x l) ∧ (∀ n b, w_bg a p n b = w_bg a0 p n b) := by
  have h1 : w_E a p = w_E a0 p := by unfold w_E w_B w_H w_N; rw [hE 12 (by decide), hE 13 (by decide), hE 14 (by decide), hE 15 (by decide)]
  have h2 : w_N a p = w_N a0 p := by unfold w_N; rw [hE 15 (by decide)]
  have h3 : w_H a p = w_H a0 p := by unfold w_H; rw [hE 14 (by decide)]
  refine ⟨h1, by unfold w_B; rw [hE 13 (by decide)], h3, h2, by rw [hE 12 (by decide)], hE 16 (by decide), fun n x l => by unfold w_nx; rw [h1, h2], fun n b => by unfold w_bg; rw [h1, h3]⟩
theorem m_P_17 {i : Nat → Int} {a a2 : Nat → Nat → Int} (h : m_P i a) (hE : ∀ k, k ≠ 17 → a2 k = a k) : m_P i a2 := by
  unfold m_P at h ⊢
  rw [hE 12 (by decide), hE 8 (by decide), hE 9 (by decide), hE 6 (by decide), hE 7 (by decide), hE 10 (by decide), hE 11 (by decide), hE 13 (by decide), hE 14 (by decide), hE 15 (by decide), hE 16 (by decide)]
  exact h

set_option maxHeartbeats 4000000 in
theorem l_X7_wayFor_86 {S : b_S} {l : Launch} {G : b_G} {o : Nat} {ad : Nat → Nat} {i : Nat → Int} {a0 : Nat → Nat → Int} {hB : b_H} {sz : Nat} {x4 : Option Value} {post : Option Value → b_H → Nat → Prop} (M : b_M S l G RX7 cX7_wayFor 8 (some .int) "wayFor" 1 22 0 0 hB sz post) (hI0 : m_P i a0) {p b n : Int} (hp : 0 ≤ p ∧ p ≤ 11) (hb : 0 ≤ b ∧ b ≤ 400) (hD : m_D (a0 16) (a0 12 p.toNat) (w_E a0 p) 17 0 0) (hn : 1 ≤ n ∧ n ≤ 16) (hw : w_an (w_bg a0 p n.toNat b) (a0 12 p.toNat).toNat = true) (P : ∀ (h : b_H) (a : Nat → Nat → Int), r_O K7 7 o ad i a h → m_P i a → (∀ b, ¬ r_own K7 o ad b → h b = hB b) → (∀ k, k ≠ 17 → a k = a0 k) → (∀ j : Nat, (j : Int) < n → a 17 j = ((w_rw a0 p n.toNat b j).1 : Int)) → post (some (.int (zI n))) h sz) : ∀ (d : Nat) (h : b_H) (a : Nat → Nat → Int) (k l : Int) (x7 : Option Value), ((n - k).toNat = d) → (1 ≤ k) → (k ≤ n) → (r_O K7 7 o ad i a h) → (∀ b, ¬ r_own K7 o ad b → h b = hB b) → (∀ k, k ≠ 17 → a k = a0 k) → (∀ j : Nat, (j : Int) < k → a 17 j = ((w_rw a0 p n.toNat b j).1 : Int)) → (l = (w_rw a0 p n.toNat b (k - 1).toNat).2) → V S 0 0 h sz 86 [some (.ref o), some (.int (zI p)), some (.int (zI b)), some (.int (zI n)), x4, some (.int (zI l)), some (.int (zI k)), x7] [] := by
  have hc := M.2.2.2.1
  have ho : s_own S = RX7 := M.2.2.1
  have hFr : (s_R S).frames = 1 := by rw [M.2.2.2.2.2.2.2.1]
  have hLo : (s_R S).locals = 22 := by rw [M.2.2.2.2.2.2.2.1]
  have hCe : (s_R S).cells = 0 := by rw [M.2.2.2.2.2.2.2.1]
  have hSl : (s_R S).slots = 0 := by rw [M.2.2.2.2.2.2.2.1]
  intro d
  induction d using Nat.strongRecOn with
  | ind d ih =>
    intro h a k l x7 hd h0 h1 hO hfr hE hR hl
    have hi := hO.2.2.2.1
    have ha := hO.2.2.2.2
    have hI := m_P_17 hI0 hE
    obtain ⟨hI5, hIbk, hIsf, hIky, hImd, hIth, hIfe, hIbt, hIb1, hIhw, hInx, hIen⟩ := id hI
    obtain ⟨hwE, hwB, hwH, hwN, h12, h16, hnx, hbg⟩ := w_c17 hE p
    have hbk := hIbk p.toNat
    have hok := w_rw_ok (a := a0) (p := p) (n := n.toNat) (b := b) (fun x hx => by rw [← hwB, w_B]; exact hIb1 p.toNat x (by omega) (by omega)) hb.2 hw
    refine v_iload hc dX7_wayFor_86 rfl ?_
    refine v_iload_n hc dX7_wayFor_88 rfl ?_
    refine z_icmp_ge (tgt := 197) hc dX7_wayFor_89 (by decide) (by first | assumption | exact hi _ | exact ha _ _ | (unfold zb; omega)) (by first | assumption | exact hi _ | exact ha _ _ | (unfold zb; omega)) (fun c_1 => ?_) (fun c_1 => ?_)
    · refine v_iload_n hc dX7_wayFor_197 rfl ?_
      refine z_iret M dX7_wayFor_198 (by omega) (by omega) ?_
      exact P h a hO hI hfr hE (fun j hj => hR j (by omega))
    · have hru := hR (k - 1).toNat (by omega)
      obtain ⟨ho1, ho2, ho3, ho4⟩ := hok (k - 1).toNat (by omega)
      have hub : a 13 (8 * p + a 17 (k - 1).toNat).toNat = w_B a p (w_rw a0 p n.toNat b (k - 1).toNat).1 := by rw [hru, w_B, show 8 * p.toNat + (w_rw a0 p n.toNat b (k - 1).toNat).1 = (8 * p + ((w_rw a0 p n.toNat b (k - 1).toNat).1 : Int)).toNat by omega]
      have hks : k.toNat = (k - 1).toNat + 1 := by omega
      obtain ⟨hq1, hq2, hq3, hq4⟩ := hok k.toNat (by omega)
      have hl2 : l - a 13 (8 * p + a 17 (k - 1).toNat).toNat = (w_rw a0 p n.toNat b k.toNat).2 := by rw [hub, hl, hks, w_rw, hwB]
      have hnk : f_fi (w_nx a0 p (n - k).toNat (w_rw a0 p n.toNat b (k - 1).toNat).1 (l - a 13 (8 * p + a 17 (k - 1).toNat).toNat)) (a0 12 p.toNat).toNat 0 = (w_rw a0 p n.toNat b k.toNat).1 := by
        rw [hub, hl, hwB, hks, w_rw, show (n - k).toNat = n.toNat - ((k - 1).toNat + 1) by omega]
      refine v_iload hc dX7_wayFor_92 rfl ?_
      refine v_aload_n hc dX7_wayFor_94 rfl ?_
      refine r_getA hc ho dX7_wayFor_95 F_X7_41 hO rfl ?_
      refine z_bipush hc dX7_wayFor_98 (by decide) ?_
      refine v_iload_n hc dX7_wayFor_100 rfl ?_
      refine z_imul hc dX7_wayFor_101 ?_
      refine v_aload_n hc dX7_wayFor_102 rfl ?_
      refine r_getA hc ho dX7_wayFor_103 F_X7_54 hO rfl ?_
      refine v_iload hc dX7_wayFor_106 rfl ?_
      refine z_iconst hc dX7_wayFor_108 ?_
      refine z_isub hc dX7_wayFor_109 ?_
      refine r_iald hc dX7_wayFor_110 hO 17 rfl (by decide) (by omega) (by omega) ?_
      refine z_iadd hc dX7_wayFor_111 ?_
      refine r_iald hc dX7_wayFor_112 hO 13 rfl (by decide) (by omega) (by omega) ?_
      refine z_isub hc dX7_wayFor_113 ?_
      refine v_istore hc dX7_wayFor_114 (Nat.le_of_ble_eq_true rfl) ?_
      refine z_iconst hc dX7_wayFor_116 ?_
      refine v_istore hc dX7_wayFor_117 (Nat.le_of_ble_eq_true rfl) ?_
      refine l_X7_wayFor_119 M hO hI hp hb (by rw [h16, h12, hwE]; exact hD) hn ⟨h0, by omega⟩ (u := ((w_rw a0 p n.toNat b (k - 1).toNat).1 : Int)) (by omega) (by omega) hru (v := (w_rw a0 p n.toNat b k.toNat).1) ?_ _ _ rfl (by omega) (by omega) (by rw [hnx, h12, Int.toNat_natCast]; exact hnk)
      refine v_aload_n hc dX7_wayFor_182 rfl ?_
      refine r_getA hc ho dX7_wayFor_183 F_X7_54 hO rfl ?_
      refine v_iload hc dX7_wayFor_186 rfl ?_
      refine v_iload hc dX7_wayFor_188 rfl ?_
      refine r_iastf hc dX7_wayFor_190 hO hfr 17 rfl (by decide) (by omega) (by omega) (by first | assumption | exact hi _ | exact ha _ _ | (unfold zb; omega)) (fun h a_2 g_2 k_2 hO hfr => ?_)
      have ha := hO.2.2.2.2
      refine z_iinc hc dX7_wayFor_191 rfl ?_
      refine v_goto (tgt := 86) hc dX7_wayFor_194 (by decide) ?_
      refine ih _ (by omega) h _ _ _ _ rfl (by omega) (by omega) hO hfr (fun q hq => (k_2 q hq).trans (hE q hq)) (fun j hj => ?_) ?_
      · rw [g_2]
        by_cases q : j = k.toNat
        · rw [q, b_up_eq]
        · rw [b_up_ne _ _ q]; exact hR j (by omega)
      · rw [show (k + 1 - 1).toNat = k.toNat by omega, hks, w_rw, ← hl, hub, hwB]
theorem m_P_i {i i2 : Nat → Int} {a : Nat → Nat → Int} (h : m_P i a) (hE : i2 5 = i 5) : m_P i2 a := by
  unfold m_P at h ⊢
  rw [hE]; exact h
/-- how many blocks the way has, and whether these are its blocks -/
def w_is (a : Nat → Nat → Int) (p b n : Int) : Prop := 1 ≤ n ∧ n ≤ 16 ∧ w_an (w_bg a p n.toNat b) (a 12 p.toNat).toNat = true ∧ ∀ m : Int, 1 ≤ m → m < n → w_an (w_bg a p m.toNat b) (a 12 p.toNat).toNat = false

set_option maxHeartbeats 4000000 in
theorem l_X7_wayFor_2 {S : b_S} {l : Launch} {G : b_G} {o : Nat} {ad : Nat → Nat} {i : Nat → Int} {a : Nat → Nat → Int} {h : b_H} {sz : Nat} {post : Option Value → b_H → Nat → Prop} (M : b_M S l G RX7 cX7_wayFor 8 (some .int) "wayFor" 1 22 0 0 h sz post) (hO : r_O K7 7 o ad i a h) (hI : m_P i a) {p b : Int} (hp : 0 ≤ p ∧ p ≤ 11) (hb : 0 ≤ b ∧ b ≤ 400) (hD : m_D (a 16) (a 12 p.toNat) (w_E a p) 17 0 0) (P1 : (∀ m : Int, 1 ≤ m → m ≤ 16 → w_an (w_bg a p m.toNat b) (a 12 p.toNat).toNat = false) → post (some (.int (zI (-2)))) h sz) (P2 : ∀ (n : Int) (h2 : b_H) (i2 : Nat → Int) (a2 : Nat → Nat → Int), r_O K7 7 o ad i2 a2 h2 → m_P i2 a2 → (∀ b, ¬ r_own K7 o ad b → h2 b = h b) → w_is a p b n → (∀ k, k ≠ 17 → a2 k = a k) → (∀ k, k ≠ 18 → i2 k = i k) → (∀ j : Nat, (j : Int) < n → a2 17 j = ((w_rw a p n.toNat b j).1 : Int)) → post (some (.int (zI n))) h2 sz) : ∀ (d : Nat) (n : Int) (x4 x5 x6 x7 : Option Value), ((17 - n).toNat = d) → (1 ≤ n) → (n ≤ 17) → (∀ m : Int, 1 ≤ m → m < n → w_an (w_bg a p m.toNat b) (a 12 p.toNat).toNat = false) → V S 0 0 h sz 2 [some (.ref o), some (.int (zI p)), some (.int (zI b)), some (.int (zI n)), x4, x5, x6, x7] [] := by
  have hc := M.2.2.2.1
  have ho : s_own S = RX7 := M.2.2.1
  have hFr : (s_R S).frames = 1 := by rw [M.2.2.2.2.2.2.2.1]
  have hLo : (s_R S).locals = 22 := by rw [M.2.2.2.2.2.2.2.1]
  have hCe : (s_R S).cells = 0 := by rw [M.2.2.2.2.2.2.2.1]
  have hSl : (s_R S).slots = 0 := by rw [M.2.2.2.2.2.2.2.1]
  have hi := hO.2.2.2.1
  have ha := hO.2.2.2.2
  obtain ⟨hI5, hIbk, hIsf, hIky, hImd, hIth, hIfe, hIbt, hIb1, hIhw, hInx, hIen⟩ := id hI
  intro d
  induction d using Nat.strongRecOn with
  | ind d ih =>
    intro n x4 x5 x6 x7 hd h0 h1 hr
    have hbk := hIbk p.toNat
    have hfr : ∀ b, ¬ r_own K7 o ad b → h b = h b := fun _ _ => rfl
    refine v_iload_n hc dX7_wayFor_2 rfl ?_
    refine z_bipush hc dX7_wayFor_3 (by decide) ?_
    refine z_icmp_gt (tgt := 205) hc dX7_wayFor_5 (by decide) (by first | assumption | exact hi _ | exact ha _ _ | (unfold zb; omega)) (by first | assumption | exact hi _ | exact ha _ _ | (unfold zb; omega)) (fun c_1 => ?_) (fun c_1 => ?_)
    · refine z_bipush hc dX7_wayFor_205 (by decide) ?_
      refine z_iret M dX7_wayFor_207 (by omega) (by omega) ?_
      exact P1 (fun m g1 g2 => hr m g1 (by omega))
    · refine z_iconst hc dX7_wayFor_8 ?_
      refine v_istore hc dX7_wayFor_9 (Nat.le_of_ble_eq_true rfl) ?_
      refine l_X7_wayFor_11 M hO hI hp hb hD (n := n) (by omega) (v := (f_fi (w_bg a p n.toNat b) (a 12 p.toNat).toNat 0)) ?_ _ _ rfl (by omega) (by omega) rfl
      have hvb := f_fi_ge (w_bg a p n.toNat b) (a 12 p.toNat).toNat 0
      have hvn := @f_fi_nn (w_bg a p n.toNat b) (a 12 p.toNat).toNat
      have hvy := @f_fi_ex (w_bg a p n.toNat b) (a 12 p.toNat).toNat
      refine v_iload hc dX7_wayFor_53 rfl ?_
      refine v_aload_n hc dX7_wayFor_55 rfl ?_
      refine r_getA hc ho dX7_wayFor_56 F_X7_38 hO rfl ?_
      refine v_iload_n hc dX7_wayFor_59 rfl ?_
      refine r_iald hc dX7_wayFor_60 hO 12 rfl (by decide) (by omega) (by omega) ?_
      refine z_icmp_ne (tgt := 67) hc dX7_wayFor_61 (by decide) (by first | assumption | exact hi _ | exact ha _ _ | (unfold zb; omega)) (by first | assumption | exact hi _ | exact ha _ _ | (unfold zb; omega)) (fun c_2 => ?_) (fun c_2 => ?_)
      · refine v_aload_n hc dX7_wayFor_67 rfl ?_
        refine v_iload_n hc dX7_wayFor_68 rfl ?_
        refine r_putIf hc ho dX7_wayFor_69 F_X7_167 hO hfr rfl (by first | assumption | exact hi _ | exact ha _ _ | (unfold zb; omega)) (fun h i_3 g_3 k_3 hO hfr => ?_)
        have hi := hO.2.2.2.1
        refine v_aload_n hc dX7_wayFor_72 rfl ?_
        refine r_getA hc ho dX7_wayFor_73 F_X7_54 hO rfl ?_
        refine z_iconst hc dX7_wayFor_76 ?_
        refine v_iload hc dX7_wayFor_77 rfl ?_
        refine r_iastf hc dX7_wayFor_79 hO hfr 17 rfl (by decide) (by omega) (by omega) (by first | assumption | exact hi _ | exact ha _ _ | (unfold zb; omega)) (fun h a_4 g_4 k_4 hO hfr => ?_)
        have ha := hO.2.2.2.2
        refine v_iload_n hc dX7_wayFor_80 rfl ?_
        refine v_istore hc dX7_wayFor_81 (Nat.le_of_ble_eq_true rfl) ?_
        refine z_iconst hc dX7_wayFor_83 ?_
        refine v_istore hc dX7_wayFor_84 (Nat.le_of_ble_eq_true rfl) ?_
        have hw : w_an (w_bg a p n.toNat b) (a 12 p.toNat).toNat = true := by
          cases hz : w_an (w_bg a p n.toNat b) (a 12 p.toNat).toNat with
          | true => rfl
          | false => have := hvn hz; omega
        refine l_X7_wayFor_86 M (m_P_i hI (k_3 5 (by decide))) hp hb hD (by omega) hw (fun h a2 hO hI2 hfr hE hR => P2 n h _ a2 hO hI2 hfr ⟨h0, by omega, hw, hr⟩ hE (fun k hk => k_3 k hk) hR) _ h _ _ _ _ rfl (by omega) (by omega) hO hfr k_4 (fun j hj => ?_) rfl
        rw [g_4, show j = 0 by omega]
        exact b_up_eq _ _ _
      · refine v_goto (tgt := 199) hc dX7_wayFor_64 (by decide) ?_
        refine z_iinc hc dX7_wayFor_199 rfl ?_
        refine v_goto (tgt := 2) hc dX7_wayFor_202 (by decide) ?_
        exact ih _ (by omega) _ _ _ _ _ rfl (by omega) (by omega) (fun m g1 g2 => by
          by_cases e : m = n
          · subst e
            cases hz : w_an (w_bg a p m.toNat b) (a 12 p.toNat).toNat with
            | true => have := hvy hz; omega
            | false => rfl
          · exact hr m g1 (by omega))
set_option maxHeartbeats 4000000 in
theorem c_X7_wayFor (l : Launch) (G : b_G) {o : Nat} {ad : Nat → Nat} {i : Nat → Int} {a : Nat → Nat → Int} {h : b_H} {sz : Nat} (hO : r_O K7 7 o ad i a h) (hI : m_P i a) {p b : Int} (hp : 0 ≤ p ∧ p ≤ 11) (hb : 0 ≤ b ∧ b ≤ 400) (hD : m_D (a 16) (a 12 p.toNat) (w_E a p) 17 0 0) : Con l G yX7_wayFor cX7_wayFor 8 (some .int) 1 22 0 0 [.ref o, .int (zI p), .int (zI b)] h sz (p_wr K7 7 o ad h sz (fun r i2 a2 => ((∀ m : Int, 1 ≤ m → m ≤ 16 → w_an (w_bg a p m.toNat b) (a 12 p.toNat).toNat = false) ∧ r = some (.int (zI (-2))) ∧ i2 = i ∧ a2 = a) ∨ (∃ n : Int, w_is a p b n ∧ r = some (.int (zI n)) ∧ m_P i2 a2 ∧ (∀ k, k ≠ 18 → i2 k = i k) ∧ (∀ k, k ≠ 17 → a2 k = a k) ∧ ∀ j : Nat, (j : Int) < n → a2 17 j = ((w_rw a p n.toNat b j).1 : Int)))) := by
  refine Con.ofK (by decide +kernel) rfl rfl ?_
  intro S M
  have hc := M.2.2.2.1
  have ho : s_own S = RX7 := M.2.2.1
  have hFr : (s_R S).frames = 1 := by rw [M.2.2.2.2.2.2.2.1]
  have hLo : (s_R S).locals = 22 := by rw [M.2.2.2.2.2.2.2.1]
  have hCe : (s_R S).cells = 0 := by rw [M.2.2.2.2.2.2.2.1]
  have hSl : (s_R S).slots = 0 := by rw [M.2.2.2.2.2.2.2.1]
  have hi := hO.2.2.2.1
  have ha := hO.2.2.2.2
  obtain ⟨hI5, hIbk, hIsf, hIky, hImd, hIth, hIfe, hIbt, hIb1, hIhw, hInx, hIen⟩ := id hI
  have hfr : ∀ b, ¬ r_own K7 o ad b → h b = h b := fun _ _ => rfl
  refine z_iconst hc dX7_wayFor_0 ?_
  refine v_istore_n hc dX7_wayFor_1 (Nat.le_of_ble_eq_true rfl) ?_
  exact l_X7_wayFor_2 M hO hI hp hb hD (fun q => ⟨rfl, i, a, Or.inl ⟨q, rfl, rfl, rfl⟩, hO, hfr⟩) (fun n h2 i2 a2 hO2 hI2 hfr2 hw hE hi2 hR => ⟨rfl, i2, a2, Or.inr ⟨n, hw, rfl, hI2, hi2, hE, hR⟩, hO2, hfr2⟩) _ _ _ _ _ _ rfl (by omega) (by omega) (fun m g1 g2 => by omega)
