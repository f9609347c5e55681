/-! the reference: programme, its tables -/
theorem p_mf_ms {s f b t : Int} (hs : 30 ≤ s) (hsf : s ≤ f) (hb : 0 ≤ b) : p_mf (600 * b / f) (600 * b / s) t = q_ms s f b t := by
  have h1 : 600 * b / f ≤ 600 * b / s := b_div_le (by omega) (by omega) (by omega)
  unfold p_mf q_ms q_hd p_of
  generalize 600 * b / f = x at *
  generalize 600 * b / s = y at *
  repeat' split
  all_goals omega
def m_T (i : Nat → Int) (a : Nat → Nat → Int) (v : Int) (s : Nat) : Int := ((f_sm (a 2) (f_F (a 4) (i 1).toNat ((s : Int) + 1)) - f_sm (a 2) (f_F (a 4) (i 1).toNat (s : Int))) * 10).tdiv v
theorem m_T_f (i : Nat → Int) (a : Nat → Nat → Int) (v : Int) (s : Nat) : m_T i a v s = f_T (fun k => if k = 0 then a 2 else if k = 1 then a 3 else a 4) (i 1).toNat v s := rfl
def m_fb (i : Nat → Int) (a : Nat → Nat → Int) (v : Int) (s p : Nat) : Int := if a 7 p / 2 ^ (a 3 (f_F (a 4) (i 1).toNat (s : Int))).toNat % 2 = 1 then q_bt (fun b => w_hw a (p : Int) (b : Int) 16 = true) (fun b => p_mf (600 * b / a 9 p) (600 * b / a 8 p) (m_T i a v s)) 400 else -2
def m_fm (i : Nat → Int) (a : Nat → Nat → Int) (v : Int) (s p : Nat) : Int := if m_fb i a v s p < 0 then 0 else p_mf (600 * m_fb i a v s p / a 9 p) (600 * m_fb i a v s p / a 8 p) (m_T i a v s)
def m_ft (i : Nat → Int) (a0 a : Nat → Nat → Int) (v : Int) (s p : Nat) : Prop := a 21 (12 * s + p) = m_fb i a0 v s p ∧ a 22 (12 * s + p) = m_fm i a0 v s p
def m_E3 (a0 a : Nat → Nat → Int) : Prop := ∀ k, k ≠ 16 → k ≠ 21 → k ≠ 22 → a k = a0 k
theorem m_fb_bd (i : Nat → Int) (a : Nat → Nat → Int) (v : Int) (s p : Nat) : m_fb i a v s p = -2 ∨ (1 ≤ m_fb i a v s p ∧ m_fb i a v s p ≤ 400) := by
  unfold m_fb
  split
  · exact q_bt_bd _ _ 400
  · exact Or.inl rfl
theorem m_fm_bd {i : Nat → Int} {a : Nat → Nat → Int} {v : Int} {s p : Nat} (hP : m_P i a) (hp : (p : Int) < i 5) (hT : 0 ≤ m_T i a v s ∧ m_T i a v s ≤ 100000) : 0 ≤ m_fm i a v s p ∧ m_fm i a v s p ≤ 100000 := by
  have hb := m_fb_bd i a v s p
  have hsf := hP.2.2.1 p hp
  unfold m_fm
  split
  · omega
  · rw [p_mf_ms (by omega) (by omega) (by omega)]
    exact q_ms_bd2 (by omega) (by omega) (by omega) (by omega) hT.1 hT.2
theorem m_P_3 {i : Nat → Int} {a a2 : Nat → Nat → Int} (h : m_P i a) (hE : ∀ k, k ≠ 21 → k ≠ 22 → a2 k = a k) : m_P i a2 := by
  unfold m_P at h ⊢
  rw [hE 12 (by decide) (by decide), hE 8 (by decide) (by decide), hE 9 (by decide) (by decide), hE 6 (by decide) (by decide), hE 7 (by decide) (by decide), hE 10 (by decide) (by decide), hE 11 (by decide) (by decide), hE 13 (by decide) (by decide), hE 14 (by decide) (by decide), hE 15 (by decide) (by decide), hE 16 (by decide) (by decide)]
  exact h

set_option maxHeartbeats 4000000 in
theorem l_X7_programme52 {S : b_S} {l : Launch} {G : b_G} {o : Nat} {ad : Nat → Nat} {i : Nat → Int} {a0 : Nat → Nat → Int} {hB : b_H} {sz : Nat} {post : Option Value → b_H → Nat → Prop} (M : b_M S l G RX7 cX7_programme 7 (some .int) "programme" 3 75 0 0 hB sz post) {v : Int} {St : Nat} (hv : 12 ≤ v ∧ v ≤ 30) (hF : m_F i a0) (hP0 : m_P i a0) (hSt : f_ct (a0 4) (i 1).toNat = (St : Int)) (hSt8 : St ≤ 8) (hTb : ∀ s : Nat, 0 ≤ m_T i a0 v s ∧ m_T i a0 v s ≤ 100000) {p : Int} (hp : 0 ≤ p ∧ p < i 5) (P183 : ∀ (h : b_H) (a : Nat → Nat → Int) (s : Int) (x5 x6 : Option Value), (r_O K7 7 o ad i a h) → (∀ b, ¬ r_own K7 o ad b → h b = hB b) → (m_E3 a0 a) → (m_P i a) → (∀ t q : Nat, t < St → (q : Int) < p + 1 → m_ft i a0 a v t q) → (∀ j, 0 ≤ a 22 j ∧ a 22 j ≤ 100000) → V S 0 0 h sz 183 [some (.ref o), some (.int (zI v)), some (.int (zI St)), some (.int (zI p)), some (.int (zI s)), x5, x6] []) : ∀ (d : Nat) (h : b_H) (a : Nat → Nat → Int) (s : Int) (x5 x6 : Option Value), (((St : Int) - s).toNat = d) → (0 ≤ s) → (s ≤ St) → (r_O K7 7 o ad i a h) → (∀ b, ¬ r_own K7 o ad b → h b = hB b) → (m_E3 a0 a) → (m_P i a) → (m_D (a 16) (a0 12 p.toNat) (w_E a0 p) 17 0 0) → (∀ t q : Nat, t < St → ((q : Int) < p ∨ ((q : Int) = p ∧ (t : Int) < s)) → m_ft i a0 a v t q) → (∀ j, 0 ≤ a 22 j ∧ a 22 j ≤ 100000) → V S 0 0 h sz 52 [some (.ref o), some (.int (zI v)), some (.int (zI St)), some (.int (zI p)), some (.int (zI s)), x5, x6] [] := by
  have hc := M.2.2.2.1
  have ho : s_own S = RX7 := M.2.2.1
  have hFr : (s_R S).frames = 3 := by rw [M.2.2.2.2.2.2.2.1]
  have hLo : (s_R S).locals = 75 := by rw [M.2.2.2.2.2.2.2.1]
  have hCe : (s_R S).cells = 0 := by rw [M.2.2.2.2.2.2.2.1]
  have hSl : (s_R S).slots = 0 := by rw [M.2.2.2.2.2.2.2.1]
  intro d
  induction d using Nat.strongRecOn with
  | ind d ih =>
    intro h a s x5 x6 hd h0 h1 hO hfr hE hPa hD hold h22
    have hi := hO.2.2.2.1
    have ha := hO.2.2.2.2
    have hI5 := hP0.1
    have hF1 := hF.1
    refine v_iload hc dX7_programme_52 rfl ?_
    refine v_iload_n hc dX7_programme_54 rfl ?_
    refine z_icmp_ge (tgt := 183) hc dX7_programme_55 (by decide) (by first | assumption | exact hi _ | exact ha _ _ | (unfold zb; omega)) (by first | assumption | exact hi _ | exact ha _ _ | (unfold zb; omega)) (fun c_1 => ?_) (fun c_1 => ?_)
    · exact P183 h a s _ _ hO hfr hE hPa (fun t q ht hq => hold t q ht (by omega)) h22
    · have hFa : m_F i a := by unfold m_F; rw [hE 4 (by decide) (by decide) (by decide), hE 2 (by decide) (by decide) (by decide), hE 3 (by decide) (by decide) (by decide)]; exact hF
      have hFlt : (f_F (a0 4) (i 1).toNat s) < (i 1).toNat := (f_F_ct (a0 4) (i 1).toNat h0).mpr (by omega)
      have hs9 : ((s.toNat : Nat) : Int) = s := by omega
      have hTs : 0 ≤ m_T i a0 v s.toNat ∧ m_T i a0 v s.toNat ≤ 100000 := hTb s.toNat
      have hTe : f_Te (a 2) (a 4) (i 1).toNat s v = m_T i a0 v s.toNat := by
        rw [f_Te, hE 2 (by decide) (by decide) (by decide), hE 4 (by decide) (by decide) (by decide), if_neg (by omega), if_neg (by omega), m_T, hs9]
      have h7 : a 7 = a0 7 := hE 7 (by decide) (by decide) (by decide)
      have h3 : a 3 = a0 3 := hE 3 (by decide) (by decide) (by decide)
      have h8 : a 8 = a0 8 := hE 8 (by decide) (by decide) (by decide)
      have h9 : a 9 = a0 9 := hE 9 (by decide) (by decide) (by decide)
      have h4 : a 4 = a0 4 := hE 4 (by decide) (by decide) (by decide)
      have h12 : a 12 = a0 12 := hE 12 (by decide) (by decide) (by decide)
      have hw4 : w_4 a a0 := ⟨h12, hE 13 (by decide) (by decide) (by decide), hE 14 (by decide) (by decide) (by decide), hE 15 (by decide) (by decide) (by decide)⟩
      have hwE := w_4E hw4 p
      have hDa : m_D (a 16) (a 12 p.toNat) (w_E a p) 17 0 0 := by rw [h12, hwE.1]; exact hD
      have hmd := hF.2.2.2 (f_F (a0 4) (i 1).toNat s)
      have hm7 := hPa.2.2.2.2.1 p.toNat
      have hdv := b_div_bd (x := a 7 p.toNat) (y := 2 ^ (a 3 (f_F (a 4) (i 1).toNat s)).toNat) (by omega) (Int.pow_pos (by omega))
      have hidx : 12 * s.toNat + p.toNat = (12 * s + p).toNat := by omega
      refine v_aload_n hc dX7_programme_58 rfl ?_
      refine r_getA hc ho dX7_programme_59 F_X7_23 hO rfl ?_
      refine v_iload_n hc dX7_programme_62 rfl ?_
      refine r_iald hc dX7_programme_63 hO 7 rfl (by decide) (by omega) (by omega) ?_
      refine v_aload_n hc dX7_programme_64 rfl ?_
      refine r_getA hc ho dX7_programme_65 F_X7_13 hO rfl ?_
      refine v_aload_n hc dX7_programme_68 rfl ?_
      refine v_iload hc dX7_programme_69 rfl ?_
      refine v_callV (As := [.int (zI s)]) hc ho dX7_programme_71 KV_X7_137 KB_X7_firstOf hO.1 rfl rfl (c_X7_firstOf _ _ hO hFa (s := s) (by omega)) rfl (Nat.le_of_ble_eq_true rfl) ⟨by omega, by omega⟩ ⟨by omega, by omega⟩ (fun r_ h_ sz_ q_ z_ => ?_)
      obtain ⟨rfl, eh_, es_⟩ := q_
      have eh_ := eh_.symm
      subst eh_
      have es_ := es_.symm
      subst es_
      rw [h4]
      refine r_iald hc dX7_programme_74 hO 3 rfl (by decide) (by omega) (by omega) ?_
      rw [h3, Int.toNat_natCast]
      rw [h4, h3] at hdv
      refine v_ishr hc dX7_programme_75 (zI_shr (by omega) (by omega) (by omega) (by omega)) ?_
      refine z_iconst hc dX7_programme_76 ?_
      refine v_iand hc dX7_programme_77 (zI_and1 (by omega) (by omega)) ?_
      refine z_iconst hc dX7_programme_78 ?_
      refine z_icmp_ne (tgt := 86) hc dX7_programme_79 (by decide) (by first | assumption | exact hi _ | exact ha _ _ | (unfold zb; omega)) (by first | assumption | exact hi _ | exact ha _ _ | (unfold zb; omega)) (fun c_2 => ?_) (fun c_2 => ?_)
      · refine z_iconst hc dX7_programme_86 ?_
        refine v_istore hc dX7_programme_87 (Nat.le_of_ble_eq_true rfl) ?_
        refine v_aload_n hc dX7_programme_89 rfl ?_
        refine v_iload hc dX7_programme_90 rfl ?_
        refine v_iload_n hc dX7_programme_92 rfl ?_
        refine v_callV (As := [.int (zI s), .int (zI v)]) hc ho dX7_programme_93 KV_X7_200 KB_X7_tenths hO.1 rfl rfl (c_X7_tenths _ _ hO hFa (s := s) (v := v) (by unfold zb; omega) (by unfold zb; omega)) rfl (Nat.le_of_ble_eq_true rfl) ⟨by omega, by omega⟩ ⟨by omega, by omega⟩ (fun r_ h_ sz_ q_ z_ => ?_)
        obtain ⟨rfl, eh_, es_⟩ := q_
        have eh_ := eh_.symm
        subst eh_
        have es_ := es_.symm
        subst es_
        rw [hTe]
        refine v_istore hc dX7_programme_96 (Nat.le_of_ble_eq_true rfl) ?_
        refine v_aload_n hc dX7_programme_98 rfl ?_
        refine r_getA hc ho dX7_programme_99 F_X7_64 hO rfl ?_
        refine z_bipush hc dX7_programme_102 (by decide) ?_
        refine v_iload hc dX7_programme_104 rfl ?_
        refine z_imul hc dX7_programme_106 ?_
        refine v_iload_n hc dX7_programme_107 rfl ?_
        refine z_iadd hc dX7_programme_108 ?_
        refine v_iload hc dX7_programme_109 rfl ?_
        refine z_if_eq (tgt := 124) hc dX7_programme_111 (by decide) (by first | assumption | exact hi _ | exact ha _ _ | (unfold zb; omega)) (fun c_3 => ?_) (fun c_3 => absurd c_3 (by decide))
        skip
        refine z_bipush hc dX7_programme_124 (by decide) ?_
        have hfe : (-2 : Int) = m_fb i a0 v s.toNat p.toNat := by rw [m_fb, hs9, if_neg (by rw [← h7]; omega)]
        rw [hfe]
        obtain ⟨fb, hfb⟩ : ∃ u, m_fb i a0 v s.toNat p.toNat = u := ⟨_, rfl⟩
        have hfbd := m_fb_bd i a0 v s.toNat p.toNat
        rw [hfb] at hfbd ⊢
        refine r_iastf hc dX7_programme_126 hO hfr 21 rfl (by decide) (by omega) (by omega) (by first | assumption | exact hi _ | exact ha _ _ | (unfold zb; omega)) (fun h a_4 g_4 k_4 hO hfr => ?_)
        have ha := hO.2.2.2.2
        have h21 : a_4 21 (12 * s + p).toNat = fb := by rw [g_4, b_up_eq]
        have ha := hO.2.2.2.2
        refine v_aload_n hc dX7_programme_127 rfl ?_
        refine r_getA hc ho dX7_programme_128 F_X7_67 hO rfl ?_
        refine z_bipush hc dX7_programme_131 (by decide) ?_
        refine v_iload hc dX7_programme_133 rfl ?_
        refine z_imul hc dX7_programme_135 ?_
        refine v_iload_n hc dX7_programme_136 rfl ?_
        refine z_iadd hc dX7_programme_137 ?_
        refine v_aload_n hc dX7_programme_138 rfl ?_
        refine r_getA hc ho dX7_programme_139 F_X7_64 hO rfl ?_
        refine z_bipush hc dX7_programme_142 (by decide) ?_
        refine v_iload hc dX7_programme_144 rfl ?_
        refine z_imul hc dX7_programme_146 ?_
        refine v_iload_n hc dX7_programme_147 rfl ?_
        refine z_iadd hc dX7_programme_148 ?_
        refine r_iald hc dX7_programme_149 hO 21 rfl (by decide) (by omega) (by omega) ?_
        rw [h21]
        refine z_if_ge (tgt := 157) hc dX7_programme_150 (by decide) (by first | assumption | exact hi _ | exact ha _ _ | (unfold zb; omega)) (fun c_5 => ?_) (fun c_5 => ?_)
        · skip
          refine v_aload_n hc dX7_programme_157 rfl ?_
          refine v_iload_n hc dX7_programme_158 rfl ?_
          refine v_aload_n hc dX7_programme_159 rfl ?_
          refine r_getA hc ho dX7_programme_160 F_X7_64 hO rfl ?_
          refine z_bipush hc dX7_programme_163 (by decide) ?_
          refine v_iload hc dX7_programme_165 rfl ?_
          refine z_imul hc dX7_programme_167 ?_
          refine v_iload_n hc dX7_programme_168 rfl ?_
          refine z_iadd hc dX7_programme_169 ?_
          refine r_iald hc dX7_programme_170 hO 21 rfl (by decide) (by omega) (by omega) ?_
          rw [h21]
          refine v_iload hc dX7_programme_171 rfl ?_
          refine v_callV (As := [.int (zI p), .int (zI fb), .int (zI (m_T i a0 v s.toNat))]) hc ho dX7_programme_173 KV_X7_188 KB_X7_misfitOf hO.1 rfl rfl (c_X7_misfitOf _ _ hO (m_P_3 hPa (fun k k1 k2 => k_4 k k1)) (p := p) (b := fb) (t := m_T i a0 v s.toNat) (by omega) (by omega) hTs) rfl (Nat.le_of_ble_eq_true rfl) ⟨by omega, by omega⟩ ⟨by omega, by omega⟩ (fun r_ h_ sz_ q_ z_ => ?_)
          obtain ⟨rfl, eh_, es_⟩ := q_
          have eh_ := eh_.symm
          subst eh_
          have es_ := es_.symm
          subst es_
          have hme : p_mf (600 * fb / a_4 9 p.toNat) (600 * fb / a_4 8 p.toNat) (m_T i a0 v s.toNat) = m_fm i a0 v s.toNat p.toNat := by rw [m_fm, hfb, if_neg (by omega), k_4 9 (by decide), k_4 8 (by decide), h9, h8]
          rw [hme]
          have hmb := m_fm_bd (v := v) (s := s.toNat) (p := p.toNat) hP0 (by omega) hTs
          refine r_iastf hc dX7_programme_176 hO hfr 22 rfl (by decide) (by omega) (by omega) (by first | assumption | exact hi _ | exact ha _ _ | (unfold zb; omega)) (fun h a_6 g_6 k_6 hO hfr => ?_)
          have ha := hO.2.2.2.2
          refine z_iinc hc dX7_programme_177 rfl ?_
          refine v_goto (tgt := 52) hc dX7_programme_180 (by decide) ?_
          refine ih _ (by omega) h a_6 _ _ _ rfl (by omega) (by omega) hO hfr (fun k k1 k2 k3 => ((k_6 k k3).trans (k_4 k k2)).trans (hE k k1 k2 k3)) (m_P_3 (m_P_3 hPa (fun k k1 k2 => k_4 k k1)) (fun k k1 k2 => k_6 k k2)) (by rw [k_6 16 (by decide), k_4 16 (by decide)]; exact hD) (fun t q ht hq => ?_) (fun j => ?_)
          · unfold m_ft
            rw [g_6, k_6 21 (by decide), g_4, ← hidx]
            by_cases e : t = s.toNat ∧ q = p.toNat
            · rw [e.1, e.2, b_up_eq, b_up_eq]; exact ⟨hfb.symm, rfl⟩
            · rw [b_up_ne _ _ (by omega), b_up_ne _ _ (by omega), k_4 22 (by decide)]
              exact hold t q ht (by omega)
          · rw [g_6]
            by_cases e : j = (12 * s + p).toNat
            · rw [e, b_up_eq]; exact hmb
            · rw [b_up_ne _ _ e, k_4 22 (by decide)]; exact h22 j
        · skip
          refine z_iconst hc dX7_programme_153 ?_
          refine v_goto (tgt := 176) hc dX7_programme_154 (by decide) ?_
          have hme : (0 : Int) = m_fm i a0 v s.toNat p.toNat := by rw [m_fm, hfb, if_pos (by omega)]
          rw [hme]
          have hmb := m_fm_bd (v := v) (s := s.toNat) (p := p.toNat) hP0 (by omega) hTs
          refine r_iastf hc dX7_programme_176 hO hfr 22 rfl (by decide) (by omega) (by omega) (by first | assumption | exact hi _ | exact ha _ _ | (unfold zb; omega)) (fun h a_7 g_7 k_7 hO hfr => ?_)
          have ha := hO.2.2.2.2
          refine z_iinc hc dX7_programme_177 rfl ?_
          refine v_goto (tgt := 52) hc dX7_programme_180 (by decide) ?_
          refine ih _ (by omega) h a_7 _ _ _ rfl (by omega) (by omega) hO hfr (fun k k1 k2 k3 => ((k_7 k k3).trans (k_4 k k2)).trans (hE k k1 k2 k3)) (m_P_3 (m_P_3 hPa (fun k k1 k2 => k_4 k k1)) (fun k k1 k2 => k_7 k k2)) (by rw [k_7 16 (by decide), k_4 16 (by decide)]; exact hD) (fun t q ht hq => ?_) (fun j => ?_)
          · unfold m_ft
            rw [g_7, k_7 21 (by decide), g_4, ← hidx]
            by_cases e : t = s.toNat ∧ q = p.toNat
            · rw [e.1, e.2, b_up_eq, b_up_eq]; exact ⟨hfb.symm, rfl⟩
            · rw [b_up_ne _ _ (by omega), b_up_ne _ _ (by omega), k_4 22 (by decide)]
              exact hold t q ht (by omega)
          · rw [g_7]
            by_cases e : j = (12 * s + p).toNat
            · rw [e, b_up_eq]; exact hmb
            · rw [b_up_ne _ _ e, k_4 22 (by decide)]; exact h22 j
      · refine z_iconst hc dX7_programme_82 ?_
        refine v_goto (tgt := 87) hc dX7_programme_83 (by decide) ?_
        refine v_istore hc dX7_programme_87 (Nat.le_of_ble_eq_true rfl) ?_
        refine v_aload_n hc dX7_programme_89 rfl ?_
        refine v_iload hc dX7_programme_90 rfl ?_
        refine v_iload_n hc dX7_programme_92 rfl ?_
        refine v_callV (As := [.int (zI s), .int (zI v)]) hc ho dX7_programme_93 KV_X7_200 KB_X7_tenths hO.1 rfl rfl (c_X7_tenths _ _ hO hFa (s := s) (v := v) (by unfold zb; omega) (by unfold zb; omega)) rfl (Nat.le_of_ble_eq_true rfl) ⟨by omega, by omega⟩ ⟨by omega, by omega⟩ (fun r_ h_ sz_ q_ z_ => ?_)
        obtain ⟨rfl, eh_, es_⟩ := q_
        have eh_ := eh_.symm
        subst eh_
        have es_ := es_.symm
        subst es_
        rw [hTe]
        refine v_istore hc dX7_programme_96 (Nat.le_of_ble_eq_true rfl) ?_
        refine v_aload_n hc dX7_programme_98 rfl ?_
        refine r_getA hc ho dX7_programme_99 F_X7_64 hO rfl ?_
        refine z_bipush hc dX7_programme_102 (by decide) ?_
        refine v_iload hc dX7_programme_104 rfl ?_
        refine z_imul hc dX7_programme_106 ?_
        refine v_iload_n hc dX7_programme_107 rfl ?_
        refine z_iadd hc dX7_programme_108 ?_
        refine v_iload hc dX7_programme_109 rfl ?_
        refine z_if_eq (tgt := 124) hc dX7_programme_111 (by decide) (by first | assumption | exact hi _ | exact ha _ _ | (unfold zb; omega)) (fun c_8 => absurd c_8 (by decide)) (fun c_8 => ?_)
        skip
        refine v_aload_n hc dX7_programme_114 rfl ?_
        refine v_iload_n hc dX7_programme_115 rfl ?_
        refine v_iload hc dX7_programme_116 rfl ?_
        refine v_callV (As := [.int (zI p), .int (zI (m_T i a0 v s.toNat))]) hc ho dX7_programme_118 KV_X7_194 KB_X7_bestFor hO.1 rfl rfl (c_X7_bestFor _ _ hO hPa (p := p) (t := m_T i a0 v s.toNat) (by omega) hTs hDa) rfl (Nat.le_of_ble_eq_true rfl) ⟨by omega, by omega⟩ ⟨by omega, by omega⟩ (fun r_ h_ sz_ q_ z_ => ?_)
        obtain ⟨rfl, eh_, es_⟩ := q_
        have eh_ := eh_.symm
        subst eh_
        have es_ := es_.symm
        subst es_
        refine v_goto (tgt := 126) hc dX7_programme_121 (by decide) ?_
        have hfe : q_bt (fun b => w_hw a p (b : Int) 16 = true) (fun b => p_mf (600 * b / a 9 p.toNat) (600 * b / a 8 p.toNat) (m_T i a0 v s.toNat)) 400 = m_fb i a0 v s.toNat p.toNat := by
          rw [m_fb, hs9, if_pos (by rw [← h7]; omega), show ((p.toNat : Nat) : Int) = p by omega, h8, h9]
          simp only [hwE.2.1]
        rw [hfe]
        obtain ⟨fb, hfb⟩ : ∃ u, m_fb i a0 v s.toNat p.toNat = u := ⟨_, rfl⟩
        have hfbd := m_fb_bd i a0 v s.toNat p.toNat
        rw [hfb] at hfbd ⊢
        refine r_iastf hc dX7_programme_126 hO hfr 21 rfl (by decide) (by omega) (by omega) (by first | assumption | exact hi _ | exact ha _ _ | (unfold zb; omega)) (fun h a_9 g_9 k_9 hO hfr => ?_)
        have ha := hO.2.2.2.2
        have h21 : a_9 21 (12 * s + p).toNat = fb := by rw [g_9, b_up_eq]
        have ha := hO.2.2.2.2
        refine v_aload_n hc dX7_programme_127 rfl ?_
        refine r_getA hc ho dX7_programme_128 F_X7_67 hO rfl ?_
        refine z_bipush hc dX7_programme_131 (by decide) ?_
        refine v_iload hc dX7_programme_133 rfl ?_
        refine z_imul hc dX7_programme_135 ?_
        refine v_iload_n hc dX7_programme_136 rfl ?_
        refine z_iadd hc dX7_programme_137 ?_
        refine v_aload_n hc dX7_programme_138 rfl ?_
        refine r_getA hc ho dX7_programme_139 F_X7_64 hO rfl ?_
        refine z_bipush hc dX7_programme_142 (by decide) ?_
        refine v_iload hc dX7_programme_144 rfl ?_
        refine z_imul hc dX7_programme_146 ?_
        refine v_iload_n hc dX7_programme_147 rfl ?_
        refine z_iadd hc dX7_programme_148 ?_
        refine r_iald hc dX7_programme_149 hO 21 rfl (by decide) (by omega) (by omega) ?_
        rw [h21]
        refine z_if_ge (tgt := 157) hc dX7_programme_150 (by decide) (by first | assumption | exact hi _ | exact ha _ _ | (unfold zb; omega)) (fun c_10 => ?_) (fun c_10 => ?_)
        · skip
          refine v_aload_n hc dX7_programme_157 rfl ?_
          refine v_iload_n hc dX7_programme_158 rfl ?_
          refine v_aload_n hc dX7_programme_159 rfl ?_
          refine r_getA hc ho dX7_programme_160 F_X7_64 hO rfl ?_
          refine z_bipush hc dX7_programme_163 (by decide) ?_
          refine v_iload hc dX7_programme_165 rfl ?_
          refine z_imul hc dX7_programme_167 ?_
          refine v_iload_n hc dX7_programme_168 rfl ?_
          refine z_iadd hc dX7_programme_169 ?_
          refine r_iald hc dX7_programme_170 hO 21 rfl (by decide) (by omega) (by omega) ?_
          rw [h21]
          refine v_iload hc dX7_programme_171 rfl ?_
          refine v_callV (As := [.int (zI p), .int (zI fb), .int (zI (m_T i a0 v s.toNat))]) hc ho dX7_programme_173 KV_X7_188 KB_X7_misfitOf hO.1 rfl rfl (c_X7_misfitOf _ _ hO (m_P_3 hPa (fun k k1 k2 => k_9 k k1)) (p := p) (b := fb) (t := m_T i a0 v s.toNat) (by omega) (by omega) hTs) rfl (Nat.le_of_ble_eq_true rfl) ⟨by omega, by omega⟩ ⟨by omega, by omega⟩ (fun r_ h_ sz_ q_ z_ => ?_)
          obtain ⟨rfl, eh_, es_⟩ := q_
          have eh_ := eh_.symm
          subst eh_
          have es_ := es_.symm
          subst es_
          have hme : p_mf (600 * fb / a_9 9 p.toNat) (600 * fb / a_9 8 p.toNat) (m_T i a0 v s.toNat) = m_fm i a0 v s.toNat p.toNat := by rw [m_fm, hfb, if_neg (by omega), k_9 9 (by decide), k_9 8 (by decide), h9, h8]
          rw [hme]
          have hmb := m_fm_bd (v := v) (s := s.toNat) (p := p.toNat) hP0 (by omega) hTs
          refine r_iastf hc dX7_programme_176 hO hfr 22 rfl (by decide) (by omega) (by omega) (by first | assumption | exact hi _ | exact ha _ _ | (unfold zb; omega)) (fun h a_11 g_11 k_11 hO hfr => ?_)
          have ha := hO.2.2.2.2
          refine z_iinc hc dX7_programme_177 rfl ?_
          refine v_goto (tgt := 52) hc dX7_programme_180 (by decide) ?_
          refine ih _ (by omega) h a_11 _ _ _ rfl (by omega) (by omega) hO hfr (fun k k1 k2 k3 => ((k_11 k k3).trans (k_9 k k2)).trans (hE k k1 k2 k3)) (m_P_3 (m_P_3 hPa (fun k k1 k2 => k_9 k k1)) (fun k k1 k2 => k_11 k k2)) (by rw [k_11 16 (by decide), k_9 16 (by decide)]; exact hD) (fun t q ht hq => ?_) (fun j => ?_)
          · unfold m_ft
            rw [g_11, k_11 21 (by decide), g_9, ← hidx]
            by_cases e : t = s.toNat ∧ q = p.toNat
            · rw [e.1, e.2, b_up_eq, b_up_eq]; exact ⟨hfb.symm, rfl⟩
            · rw [b_up_ne _ _ (by omega), b_up_ne _ _ (by omega), k_9 22 (by decide)]
              exact hold t q ht (by omega)
          · rw [g_11]
            by_cases e : j = (12 * s + p).toNat
            · rw [e, b_up_eq]; exact hmb
            · rw [b_up_ne _ _ e, k_9 22 (by decide)]; exact h22 j
        · skip
          refine z_iconst hc dX7_programme_153 ?_
          refine v_goto (tgt := 176) hc dX7_programme_154 (by decide) ?_
          have hme : (0 : Int) = m_fm i a0 v s.toNat p.toNat := by rw [m_fm, hfb, if_pos (by omega)]
          rw [hme]
          have hmb := m_fm_bd (v := v) (s := s.toNat) (p := p.toNat) hP0 (by omega) hTs
          refine r_iastf hc dX7_programme_176 hO hfr 22 rfl (by decide) (by omega) (by omega) (by first | assumption | exact hi _ | exact ha _ _ | (unfold zb; omega)) (fun h a_12 g_12 k_12 hO hfr => ?_)
          have ha := hO.2.2.2.2
          refine z_iinc hc dX7_programme_177 rfl ?_
          refine v_goto (tgt := 52) hc dX7_programme_180 (by decide) ?_
          refine ih _ (by omega) h a_12 _ _ _ rfl (by omega) (by omega) hO hfr (fun k k1 k2 k3 => ((k_12 k k3).trans (k_9 k k2)).trans (hE k k1 k2 k3)) (m_P_3 (m_P_3 hPa (fun k k1 k2 => k_9 k k1)) (fun k k1 k2 => k_12 k k2)) (by rw [k_12 16 (by decide), k_9 16 (by decide)]; exact hD) (fun t q ht hq => ?_) (fun j => ?_)
          · unfold m_ft
            rw [g_12, k_12 21 (by decide), g_9, ← hidx]
            by_cases e : t = s.toNat ∧ q = p.toNat
            · rw [e.1, e.2, b_up_eq, b_up_eq]; exact ⟨hfb.symm, rfl⟩
            · rw [b_up_ne _ _ (by omega), b_up_ne _ _ (by omega), k_9 22 (by decide)]
              exact hold t q ht (by omega)
          · rw [g_12]
            by_cases e : j = (12 * s + p).toNat
            · rw [e, b_up_eq]; exact hmb
            · rw [b_up_ne _ _ e, k_9 22 (by decide)]; exact h22 j
set_option maxHeartbeats 4000000 in
theorem l_X7_programme36 {S : b_S} {l : Launch} {G : b_G} {o : Nat} {ad : Nat → Nat} {i : Nat → Int} {a0 : Nat → Nat → Int} {hB : b_H} {sz : Nat} {post : Option Value → b_H → Nat → Prop} (M : b_M S l G RX7 cX7_programme 7 (some .int) "programme" 3 75 0 0 hB sz post) {v : Int} {St : Nat} (hv : 12 ≤ v ∧ v ≤ 30) (hF : m_F i a0) (hP0 : m_P i a0) (hSt : f_ct (a0 4) (i 1).toNat = (St : Int)) (hSt8 : St ≤ 8) (hTb : ∀ s : Nat, 0 ≤ m_T i a0 v s ∧ m_T i a0 v s ≤ 100000) (P189 : ∀ (h : b_H) (a : Nat → Nat → Int) (p : Int) (x4 x5 x6 : Option Value), (r_O K7 7 o ad i a h) → (∀ b, ¬ r_own K7 o ad b → h b = hB b) → (m_E3 a0 a) → (m_P i a) → (∀ t q : Nat, t < St → (q : Int) < i 5 → m_ft i a0 a v t q) → (∀ j, 0 ≤ a 22 j ∧ a 22 j ≤ 100000) → V S 0 0 h sz 189 [some (.ref o), some (.int (zI v)), some (.int (zI St)), some (.int (zI p)), x4, x5, x6] []) : ∀ (d : Nat) (h : b_H) (a : Nat → Nat → Int) (p : Int) (x4 x5 x6 : Option Value), ((i 5 - p).toNat = d) → (0 ≤ p) → (p ≤ i 5) → (r_O K7 7 o ad i a h) → (∀ b, ¬ r_own K7 o ad b → h b = hB b) → (m_E3 a0 a) → (m_P i a) → (∀ t q : Nat, t < St → (q : Int) < p → m_ft i a0 a v t q) → (∀ j, 0 ≤ a 22 j ∧ a 22 j ≤ 100000) → V S 0 0 h sz 36 [some (.ref o), some (.int (zI v)), some (.int (zI St)), some (.int (zI p)), x4, x5, x6] [] := by
  have hc := M.2.2.2.1
  have ho : s_own S = RX7 := M.2.2.1
  have hFr : (s_R S).frames = 3 := by rw [M.2.2.2.2.2.2.2.1]
  have hLo : (s_R S).locals = 75 := by rw [M.2.2.2.2.2.2.2.1]
  have hCe : (s_R S).cells = 0 := by rw [M.2.2.2.2.2.2.2.1]
  have hSl : (s_R S).slots = 0 := by rw [M.2.2.2.2.2.2.2.1]
  intro d
  induction d using Nat.strongRecOn with
  | ind d ih =>
    intro h a p x4 x5 x6 hd h0 h1 hO hfr hE hPa hold h22
    have hi := hO.2.2.2.1
    have ha := hO.2.2.2.2
    have hI5 := hP0.1
    refine v_iload_n hc dX7_programme_36 rfl ?_
    refine v_aload_n hc dX7_programme_37 rfl ?_
    refine r_get hc ho dX7_programme_38 F_X7_151 hO rfl ?_
    refine z_icmp_ge (tgt := 189) hc dX7_programme_41 (by decide) (by first | assumption | exact hi _ | exact ha _ _ | (unfold zb; omega)) (by first | assumption | exact hi _ | exact ha _ _ | (unfold zb; omega)) (fun c_1 => ?_) (fun c_1 => ?_)
    · exact P189 h a p _ _ _ hO hfr hE hPa (fun t q ht hq => hold t q ht (by omega)) h22
    · refine v_aload_n hc dX7_programme_44 rfl ?_
      refine v_iload_n hc dX7_programme_45 rfl ?_
      refine v_callV (As := [.int (zI p)]) hc ho dX7_programme_46 KV_X7_170 KB_X7_findWays hO.1 rfl rfl (c_X7_findWays _ _ hO hPa (p := p) (by omega)) rfl (Nat.le_of_ble_eq_true rfl) ⟨by omega, by omega⟩ ⟨by omega, by omega⟩ (fun r_ h_ sz_ q_ z_ => ?_)
      obtain ⟨e1_, i3, a3, ⟨rfl, e3_, hP3, hE3, hD3⟩, hO3, hfr3⟩ := q_
      have e1_ := e1_.symm
      subst e1_
      have e3_ := e3_.symm
      subst e3_
      have h12 : a 12 = a0 12 := hE 12 (by decide) (by decide) (by decide)
      have hw4 : w_4 a a0 := ⟨h12, hE 13 (by decide) (by decide) (by decide), hE 14 (by decide) (by decide) (by decide), hE 15 (by decide) (by decide) (by decide)⟩
      have hD4 : m_D (a3 16) (a0 12 p.toNat) (w_E a0 p) 17 0 0 := by rw [← h12, ← (w_4E hw4 p).1]; exact hD3
      have hE4 : m_E3 a0 a3 := fun k k1 k2 k3 => (hE3 k k1).trans (hE k k1 k2 k3)
      refine z_iconst hc dX7_programme_49 ?_
      refine v_istore hc dX7_programme_50 (Nat.le_of_ble_eq_true rfl) ?_
      refine l_X7_programme52 M hv hF hP0 hSt hSt8 hTb (p := p) (by omega) (fun h4 a4 s4 x54 x64 hO hfr hE4 hP4 hold4 h224 => ?_) _ h_ a3 0 _ _ rfl (by omega) (by omega) hO3 (fun b hb => (hfr3 b hb).trans (hfr b hb)) hE4 hP3 hD4 (fun t q ht hq => by have := hold t q ht (by omega); unfold m_ft at this ⊢; rw [hE3 21 (by decide), hE3 22 (by decide)]; exact this) (by rw [hE3 22 (by decide)]; exact h22)
      refine z_iinc hc dX7_programme_183 rfl ?_
      refine v_goto (tgt := 36) hc dX7_programme_186 (by decide) ?_
      exact ih _ (by omega) h4 a4 _ _ _ _ rfl (by omega) (by omega) hO hfr hE4 hP4 (fun t q ht hq => hold4 t q ht hq) h224
/-- the least misfit of the first p pieces; -1: none fits -/
def m_ls (a : Nat → Nat → Int) (s : Nat) : Nat → Int
  | 0 => -1
  | p + 1 => if 0 ≤ a 21 (12 * s + p) ∧ (m_ls a s p < 0 ∨ a 22 (12 * s + p) < m_ls a s p) then a 22 (12 * s + p) else m_ls a s p
theorem m_ls_bd {a : Nat → Nat → Int} (h22 : ∀ j, 0 ≤ a 22 j ∧ a 22 j ≤ 100000) (s : Nat) : ∀ p : Nat, -1 ≤ m_ls a s p ∧ m_ls a s p ≤ 100000
  | 0 => by rw [m_ls]; omega
  | p + 1 => by
    have h := m_ls_bd h22 s p
    have h2 := h22 (12 * s + p)
    rw [m_ls]
    split <;> omega
theorem m_ls_ok {a : Nat → Nat → Int} (h22 : ∀ j, 0 ≤ a 22 j ∧ a 22 j ≤ 100000) (s : Nat) : ∀ p : Nat, (m_ls a s p < 0 → ∀ q, q < p → a 21 (12 * s + q) < 0) ∧ (0 ≤ m_ls a s p → ∀ q, q < p → 0 ≤ a 21 (12 * s + q) → m_ls a s p ≤ a 22 (12 * s + q))
  | 0 => ⟨fun _ q hq => by omega, fun _ q hq => by omega⟩
  | p + 1 => by
    have h := m_ls_ok h22 s p
    have h2 := h22 (12 * s + p)
    rw [m_ls]
    split
    · rename_i hc
      refine ⟨fun hq => by omega, fun _ q hq hq2 => ?_⟩
      by_cases e : q = p
      · rw [e]; exact Int.le_refl _
      · by_cases e2 : m_ls a s p < 0
        · have := h.1 e2 q (by omega); omega
        · have := h.2 (by omega) q (by omega) hq2; omega
    · rename_i hc
      refine ⟨fun hq q hq2 => ?_, fun hq q hq2 hq3 => ?_⟩
      · by_cases e : q = p
        · rw [e]; omega
        · exact h.1 hq q (by omega)
      · by_cases e : q = p
        · rw [e] at hq3 ⊢; omega
        · exact h.2 hq q (by omega) hq3

set_option maxHeartbeats 4000000 in
theorem l_X7_programme_210 {S : b_S} {l : Launch} {G : b_G} {o : Nat} {ad : Nat → Nat} {i : Nat → Int} {a : Nat → Nat → Int} {h : b_H} {sz : Nat} {hB : b_H} {post : Option Value → b_H → Nat → Prop} (M : b_M S l G RX7 cX7_programme 7 (some .int) "programme" 3 75 0 0 hB sz post) (hO : r_O K7 7 o ad i a h) {s : Int} {x1 x2 x6 : Option Value} (hs : 0 ≤ s ∧ s ≤ 7) (hI5 : 0 ≤ i 5 ∧ i 5 ≤ 12) (h22 : ∀ j, 0 ≤ a 22 j ∧ a 22 j ≤ 100000) (P276 : ∀ g p : Int, g = m_ls a s.toNat (i 5).toNat → V S 0 0 h sz 276 [some (.ref o), x1, x2, some (.int (zI s)), some (.int (zI g)), some (.int (zI p)), x6] []) : ∀ (d : Nat) (g p : Int), ((i 5 - p).toNat = d) → (0 ≤ p) → (p ≤ i 5) → (g = m_ls a s.toNat p.toNat) → V S 0 0 h sz 210 [some (.ref o), x1, x2, some (.int (zI s)), some (.int (zI g)), some (.int (zI p)), x6] [] := by
  have hc := M.2.2.2.1
  have ho : s_own S = RX7 := M.2.2.1
  have hFr : (s_R S).frames = 3 := by rw [M.2.2.2.2.2.2.2.1]
  have hLo : (s_R S).locals = 75 := by rw [M.2.2.2.2.2.2.2.1]
  have hCe : (s_R S).cells = 0 := by rw [M.2.2.2.2.2.2.2.1]
  have hSl : (s_R S).slots = 0 := by rw [M.2.2.2.2.2.2.2.1]
  have hi := hO.2.2.2.1
  have ha := hO.2.2.2.2
  intro d
  induction d using Nat.strongRecOn with
  | ind d ih =>
    intro g p hd h0 h1 hg
    refine v_iload hc dX7_programme_210 rfl ?_
    refine v_aload_n hc dX7_programme_212 rfl ?_
    refine r_get hc ho dX7_programme_213 F_X7_151 hO rfl ?_
    refine z_icmp_ge (tgt := 276) hc dX7_programme_216 (by decide) (by first | assumption | exact hi _ | exact ha _ _ | (unfold zb; omega)) (by first | assumption | exact hi _ | exact ha _ _ | (unfold zb; omega)) (fun c_1 => ?_) (fun c_1 => ?_)
    · exact P276 g p (by rw [hg, show p.toNat = (i 5).toNat by omega])
    · have hidx : (12 * s + p).toNat = 12 * s.toNat + p.toNat := by omega
      have h22k := h22 (12 * s.toNat + p.toNat)
      have hgb := m_ls_bd h22 s.toNat p.toNat
      rw [← hg] at hgb
      refine v_aload_n hc dX7_programme_219 rfl ?_
      refine r_getA hc ho dX7_programme_220 F_X7_64 hO rfl ?_
      refine z_bipush hc dX7_programme_223 (by decide) ?_
      refine v_iload_n hc dX7_programme_225 rfl ?_
      refine z_imul hc dX7_programme_226 ?_
      refine v_iload hc dX7_programme_227 rfl ?_
      refine z_iadd hc dX7_programme_229 ?_
      refine r_iald hc dX7_programme_230 hO 21 rfl (by decide) (by omega) (by omega) ?_
      rw [hidx]
      refine z_if_lt (tgt := 270) hc dX7_programme_231 (by decide) (by first | assumption | exact hi _ | exact ha _ _ | (unfold zb; omega)) (fun c_2 => ?_) (fun c_2 => ?_)
      · refine z_iinc hc dX7_programme_270 rfl ?_
        refine v_goto (tgt := 210) hc dX7_programme_273 (by decide) ?_
        exact ih _ (by omega) _ _ rfl (by omega) (by omega) (by rw [show (p + 1).toNat = p.toNat + 1 by omega, m_ls, ← hg, if_neg (by omega)])
      · refine v_iload hc dX7_programme_234 rfl ?_
        refine z_if_lt (tgt := 256) hc dX7_programme_236 (by decide) (by first | assumption | exact hi _ | exact ha _ _ | (unfold zb; omega)) (fun c_3 => ?_) (fun c_3 => ?_)
        · skip
          refine v_aload_n hc dX7_programme_256 rfl ?_
          refine r_getA hc ho dX7_programme_257 F_X7_67 hO rfl ?_
          refine z_bipush hc dX7_programme_260 (by decide) ?_
          refine v_iload_n hc dX7_programme_262 rfl ?_
          refine z_imul hc dX7_programme_263 ?_
          refine v_iload hc dX7_programme_264 rfl ?_
          refine z_iadd hc dX7_programme_266 ?_
          refine r_iald hc dX7_programme_267 hO 22 rfl (by decide) (by omega) (by omega) ?_
          rw [hidx]
          refine v_istore hc dX7_programme_268 (Nat.le_of_ble_eq_true rfl) ?_
          refine z_iinc hc dX7_programme_270 rfl ?_
          refine v_goto (tgt := 210) hc dX7_programme_273 (by decide) ?_
          exact ih _ (by omega) _ _ rfl (by omega) (by omega) (by rw [show (p + 1).toNat = p.toNat + 1 by omega, m_ls, ← hg, if_pos (by omega)])
        · refine v_aload_n hc dX7_programme_239 rfl ?_
          refine r_getA hc ho dX7_programme_240 F_X7_67 hO rfl ?_
          refine z_bipush hc dX7_programme_243 (by decide) ?_
          refine v_iload_n hc dX7_programme_245 rfl ?_
          refine z_imul hc dX7_programme_246 ?_
          refine v_iload hc dX7_programme_247 rfl ?_
          refine z_iadd hc dX7_programme_249 ?_
          refine r_iald hc dX7_programme_250 hO 22 rfl (by decide) (by omega) (by omega) ?_
          rw [hidx]
          refine v_iload hc dX7_programme_251 rfl ?_
          refine z_icmp_ge (tgt := 270) hc dX7_programme_253 (by decide) (by first | assumption | exact hi _ | exact ha _ _ | (unfold zb; omega)) (by first | assumption | exact hi _ | exact ha _ _ | (unfold zb; omega)) (fun c_4 => ?_) (fun c_4 => ?_)
          · refine z_iinc hc dX7_programme_270 rfl ?_
            refine v_goto (tgt := 210) hc dX7_programme_273 (by decide) ?_
            exact ih _ (by omega) _ _ rfl (by omega) (by omega) (by rw [show (p + 1).toNat = p.toNat + 1 by omega, m_ls, ← hg, if_neg (by omega)])
          · skip
            refine v_aload_n hc dX7_programme_256 rfl ?_
            refine r_getA hc ho dX7_programme_257 F_X7_67 hO rfl ?_
            refine z_bipush hc dX7_programme_260 (by decide) ?_
            refine v_iload_n hc dX7_programme_262 rfl ?_
            refine z_imul hc dX7_programme_263 ?_
            refine v_iload hc dX7_programme_264 rfl ?_
            refine z_iadd hc dX7_programme_266 ?_
            refine r_iald hc dX7_programme_267 hO 22 rfl (by decide) (by omega) (by omega) ?_
            rw [hidx]
            refine v_istore hc dX7_programme_268 (Nat.le_of_ble_eq_true rfl) ?_
            refine z_iinc hc dX7_programme_270 rfl ?_
            refine v_goto (tgt := 210) hc dX7_programme_273 (by decide) ?_
            exact ih _ (by omega) _ _ rfl (by omega) (by omega) (by rw [show (p + 1).toNat = p.toNat + 1 by omega, m_ls, ← hg, if_pos (by omega)])
theorem m_ls_cong {a a0 : Nat → Nat → Int} (h1 : a 21 = a0 21) (h2 : a 22 = a0 22) : m_ls a = m_ls a0 := by
  funext s p
  induction p with
  | zero => rfl
  | succ p ih => rw [m_ls, m_ls, ih, h1, h2]
/-- the least misfits of the stretches from s on -/
def m_rs (a : Nat → Nat → Int) (n St : Nat) : Nat → Int := fun s => f_sm (fun t => m_ls a (St - (t + 1)) n) (St - s)
theorem m_rs_s {a : Nat → Nat → Int} {n St s : Nat} (h : s < St) : m_rs a n St s = m_rs a n St (s + 1) + m_ls a s n := by
  unfold m_rs
  rw [show St - s = (St - (s + 1)) + 1 by omega, f_sm, show St - (St - (s + 1) + 1) = s by omega]
theorem m_rs_bd {a : Nat → Nat → Int} (h22 : ∀ j, 0 ≤ a 22 j ∧ a 22 j ≤ 100000) (n St s : Nat) (h : St ≤ 8 + 0 * s) : -8 ≤ m_rs a n St s ∧ m_rs a n St s ≤ 800000 := by
  unfold m_rs
  have : ∀ k : Nat, -(k : Int) ≤ f_sm (fun t => m_ls a (St - (t + 1)) n) k ∧ f_sm (fun t => m_ls a (St - (t + 1)) n) k ≤ (k : Int) * 100000 := by
    intro k
    induction k with
    | zero => simp [f_sm]
    | succ k ih =>
      rw [f_sm]
      have := m_ls_bd h22 (St - (k + 1)) n
      omega
  have := this (St - s)
  omega

set_option maxHeartbeats 4000000 in
theorem l_X7_programme200 {S : b_S} {l : Launch} {G : b_G} {o : Nat} {ad : Nat → Nat} {i : Nat → Int} {a0 : Nat → Nat → Int} {hB : b_H} {sz : Nat} {post : Option Value → b_H → Nat → Prop} (M : b_M S l G RX7 cX7_programme 7 (some .int) "programme" 3 75 0 0 hB sz post) {St : Nat} (hSt8 : St ≤ 8) (hI5 : 0 ≤ i 5 ∧ i 5 ≤ 12) (h220 : ∀ j, 0 ≤ a0 22 j ∧ a0 22 j ≤ 100000) {x1 : Option Value} (PN : ∀ (h : b_H) (a : Nat → Nat → Int) (s : Nat), r_O K7 7 o ad i a h → (∀ b, ¬ r_own K7 o ad b → h b = hB b) → (∀ k, k ≠ 23 → a k = a0 k) → s < St → m_ls a0 s (i 5).toNat < 0 → post (some (.int (zI (-2)))) h sz) (P307 : ∀ (h : b_H) (a : Nat → Nat → Int) (s : Int) (x4 x5 x6 : Option Value), (r_O K7 7 o ad i a h) → (∀ b, ¬ r_own K7 o ad b → h b = hB b) → (∀ k, k ≠ 23 → a k = a0 k) → (∀ j, 0 ≤ a 22 j ∧ a 22 j ≤ 100000) → (∀ t : Nat, t < St → 0 ≤ m_ls a0 t (i 5).toNat) → (∀ t : Nat, t ≤ St → a 23 t = m_rs a0 (i 5).toNat St t) → V S 0 0 h sz 307 [some (.ref o), x1, some (.int (zI St)), some (.int (zI s)), x4, x5, x6] []) : ∀ (d : Nat) (h : b_H) (a : Nat → Nat → Int) (s : Int) (x4 x5 x6 : Option Value), ((s + 1).toNat = d) → (-1 ≤ s) → (s < St) → (r_O K7 7 o ad i a h) → (∀ b, ¬ r_own K7 o ad b → h b = hB b) → (∀ k, k ≠ 23 → a k = a0 k) → (∀ j, 0 ≤ a 22 j ∧ a 22 j ≤ 100000) → (∀ t : Nat, s < (t : Int) → t < St → 0 ≤ m_ls a0 t (i 5).toNat) → (∀ t : Nat, s < (t : Int) → t ≤ St → a 23 t = m_rs a0 (i 5).toNat St t) → V S 0 0 h sz 200 [some (.ref o), x1, some (.int (zI St)), some (.int (zI s)), x4, x5, x6] [] := by
  have hc := M.2.2.2.1
  have ho : s_own S = RX7 := M.2.2.1
  have hFr : (s_R S).frames = 3 := by rw [M.2.2.2.2.2.2.2.1]
  have hLo : (s_R S).locals = 75 := by rw [M.2.2.2.2.2.2.2.1]
  have hCe : (s_R S).cells = 0 := by rw [M.2.2.2.2.2.2.2.1]
  have hSl : (s_R S).slots = 0 := by rw [M.2.2.2.2.2.2.2.1]
  intro d
  induction d using Nat.strongRecOn with
  | ind d ih =>
    intro h a s x4 x5 x6 hd h0 h1 hO hfr hE h22 hpos hrest
    have hi := hO.2.2.2.1
    have ha := hO.2.2.2.2
    refine v_iload_n hc dX7_programme_200 rfl ?_
    refine z_if_lt (tgt := 307) hc dX7_programme_201 (by decide) (by first | assumption | exact hi _ | exact ha _ _ | (unfold zb; omega)) (fun c_1 => ?_) (fun c_1 => ?_)
    · exact P307 h a s _ _ _ hO hfr hE h22 (fun t ht => hpos t (by omega) ht) (fun t ht => hrest t (by omega) ht)
    · refine z_iconst hc dX7_programme_204 ?_
      refine v_istore hc dX7_programme_205 (Nat.le_of_ble_eq_true rfl) ?_
      refine z_iconst hc dX7_programme_207 ?_
      refine v_istore hc dX7_programme_208 (Nat.le_of_ble_eq_true rfl) ?_
      refine l_X7_programme_210 M hO (s := s) (by omega) hI5 h22 (fun g4 p4 hg4 => ?_) _ _ _ rfl (by omega) (by omega) rfl
      have hgb := m_ls_bd h22 s.toNat (i 5).toNat
      rw [← hg4] at hgb
      refine v_iload hc dX7_programme_276 rfl ?_
      refine z_if_ge (tgt := 284) hc dX7_programme_278 (by decide) (by first | assumption | exact hi _ | exact ha _ _ | (unfold zb; omega)) (fun c_2 => ?_) (fun c_2 => ?_)
      · have hr1 := hrest (s + 1).toNat (by omega) (by omega)
        have hrb := m_rs_bd (h220) (i 5).toNat St (s + 1).toNat (by omega)
        rw [← hr1] at hrb
        refine v_aload_n hc dX7_programme_284 rfl ?_
        refine r_getA hc ho dX7_programme_285 F_X7_70 hO rfl ?_
        refine v_iload_n hc dX7_programme_288 rfl ?_
        refine v_aload_n hc dX7_programme_289 rfl ?_
        refine r_getA hc ho dX7_programme_290 F_X7_70 hO rfl ?_
        refine v_iload_n hc dX7_programme_293 rfl ?_
        refine z_iconst hc dX7_programme_294 ?_
        refine z_iadd hc dX7_programme_295 ?_
        refine r_iald hc dX7_programme_296 hO 23 rfl (by decide) (by omega) (by omega) ?_
        refine v_iload hc dX7_programme_297 rfl ?_
        refine z_iadd hc dX7_programme_299 ?_
        refine r_iastf hc dX7_programme_300 hO hfr 23 rfl (by decide) (by omega) (by omega) (by first | assumption | exact hi _ | exact ha _ _ | (unfold zb; omega)) (fun h a_3 g_3 k_3 hO hfr => ?_)
        have ha := hO.2.2.2.2
        refine z_iinc hc dX7_programme_301 rfl ?_
        refine v_goto (tgt := 200) hc dX7_programme_304 (by decide) ?_
        have hls : m_ls a_3 = m_ls a0 := m_ls_cong (by rw [k_3 21 (by decide), hE 21 (by decide)]) (by rw [k_3 22 (by decide), hE 22 (by decide)])
        have hls2 : m_ls a = m_ls a0 := m_ls_cong (hE 21 (by decide)) (hE 22 (by decide))
        refine ih _ (by omega) h a_3 _ _ _ _ rfl (by omega) (by omega) hO hfr (fun k hk => (k_3 k hk).trans (hE k hk)) (by rw [k_3 22 (by decide)]; exact h22) (fun t ht1 ht2 => ?_) (fun t ht ht2 => ?_)
        · by_cases e : (t : Int) = s
          · rw [show t = s.toNat by omega, ← hls2, ← hg4]; omega
          · exact hpos t (by omega) ht2
        · rw [g_3]
          by_cases e : (t : Int) = s
          · rw [show t = s.toNat by omega, b_up_eq, m_rs_s (by omega), ← hls2, ← hg4, show (s + 1).toNat = s.toNat + 1 by omega]
            have := hrest (s.toNat + 1) (by omega) (by omega)
            rw [this]
          · rw [b_up_ne _ _ (by omega)]
            exact hrest t (by omega) ht2
      · refine z_bipush hc dX7_programme_281 (by decide) ?_
        refine z_iret M dX7_programme_283 (by omega) (by omega) ?_
        exact PN h a s.toNat hO hfr hE (by omega) (by rw [← m_ls_cong (hE 21 (by decide)) (hE 22 (by decide)), ← hg4]; omega)
