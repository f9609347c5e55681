/-! the reference: the night begins; what may be, what it costs -/
/-- what holds of the programme found last -/
def m_G (i : Nat → Int) (a : Nat → Nat → Int) : Prop := (0 ≤ i 25 ∧ i 25 ≤ 8) ∧ ∀ s : Nat, (s : Int) < i 25 → (0 ≤ a 26 s ∧ a 26 s < i 5) ∧ (1 ≤ a 27 s ∧ a 27 s ≤ 400) ∧ (0 ≤ a 29 s ∧ a 29 s ≤ 100000) ∧ (1 ≤ a 30 s ∧ a 30 s ≤ 16) ∧ ∀ k : Nat, (k : Int) < a 30 s → 0 ≤ a 31 (16 * s + k) ∧ a 31 (16 * s + k) < a 12 (a 26 s).toNat
def m_B (a0 a : Nat → Nat → Int) (s : Nat) : Prop := a 36 s = a0 26 s ∧ a 37 s = a0 27 s ∧ a 38 s = q_hd (a0 8 (a0 26 s).toNat) (a0 9 (a0 26 s).toNat) (a0 27 s) (a0 29 s) ∧ a 39 s = a0 30 s ∧ ∀ k : Nat, (k : Int) < a0 30 s → a 40 (16 * s + k) = a0 31 (16 * s + k)
def m_E5 (a0 a : Nat → Nat → Int) : Prop := ∀ k, k ≠ 36 → k ≠ 37 → k ≠ 38 → k ≠ 39 → k ≠ 40 → a k = a0 k
theorem m_P_5 {i i2 : Nat → Int} {a a2 : Nat → Nat → Int} (h : m_P i a) (h5 : i2 5 = i 5) (hE : m_E5 a a2) : m_P i2 a2 := by
  unfold m_P at h ⊢
  rw [hE 12 (by decide) (by decide) (by decide) (by decide) (by decide), hE 8 (by decide) (by decide) (by decide) (by decide) (by decide), hE 9 (by decide) (by decide) (by decide) (by decide) (by decide), hE 6 (by decide) (by decide) (by decide) (by decide) (by decide), hE 7 (by decide) (by decide) (by decide) (by decide) (by decide), hE 10 (by decide) (by decide) (by decide) (by decide) (by decide), hE 11 (by decide) (by decide) (by decide) (by decide) (by decide), hE 13 (by decide) (by decide) (by decide) (by decide) (by decide), hE 14 (by decide) (by decide) (by decide) (by decide) (by decide), hE 15 (by decide) (by decide) (by decide) (by decide) (by decide), hE 16 (by decide) (by decide) (by decide) (by decide) (by decide), h5]
  exact h

set_option maxHeartbeats 4000000 in
theorem l_X7_begin172 {S : b_S} {l : Launch} {G : b_G} {o : Nat} {ad : Nat → Nat} {i : Nat → Int} {a0 : Nat → Nat → Int} {hB : b_H} {sz : Nat} {post : Option Value → b_H → Nat → Prop} (M : b_M S l G RX7 cX7_begin 5 (some .int) "begin" 1 24 0 0 hB sz post) {s : Int} {x2 x3 : Option Value} (hs : 0 ≤ s ∧ s ≤ 7) (hb30 : 1 ≤ a0 30 s.toNat ∧ a0 30 s.toNat ≤ 16) (hG30 : ∀ t : Nat, t < s.toNat → a0 30 t ≤ 16) (P213 : ∀ (h : b_H) (a : Nat → Nat → Int) (k : Int), (r_O K7 7 o ad i a h) → (∀ b, ¬ r_own K7 o ad b → h b = hB b) → (m_E5 a0 a) → (∀ j : Nat, (j : Int) < a0 30 s.toNat → a 40 (16 * s.toNat + j) = a0 31 (16 * s.toNat + j)) → (a 39 s.toNat = a0 30 s.toNat) → (a 36 s.toNat = a0 26 s.toNat) → (a 37 s.toNat = a0 27 s.toNat) → (a 38 s.toNat = q_hd (a0 8 (a0 26 s.toNat).toNat) (a0 9 (a0 26 s.toNat).toNat) (a0 27 s.toNat) (a0 29 s.toNat)) → (∀ t : Nat, t < s.toNat → m_B a0 a t) → a0 30 s.toNat ≤ k → V S 0 0 h sz 213 [some (.ref o), some (.int (zI s)), x2, x3, some (.int (zI k))] []) : ∀ (d : Nat) (h : b_H) (a : Nat → Nat → Int) (k : Int), ((a0 30 s.toNat - k).toNat = d) → (0 ≤ k) → (k ≤ a0 30 s.toNat) → (r_O K7 7 o ad i a h) → (∀ b, ¬ r_own K7 o ad b → h b = hB b) → (m_E5 a0 a) → (∀ j : Nat, (j : Int) < k → a 40 (16 * s.toNat + j) = a0 31 (16 * s.toNat + j)) → (a 39 s.toNat = a0 30 s.toNat) → (a 36 s.toNat = a0 26 s.toNat) → (a 37 s.toNat = a0 27 s.toNat) → (a 38 s.toNat = q_hd (a0 8 (a0 26 s.toNat).toNat) (a0 9 (a0 26 s.toNat).toNat) (a0 27 s.toNat) (a0 29 s.toNat)) → (∀ t : Nat, t < s.toNat → m_B a0 a t) → V S 0 0 h sz 172 [some (.ref o), some (.int (zI s)), x2, x3, some (.int (zI k))] [] := by
  have hc := M.2.2.2.1
  have ho : s_own S = RX7 := M.2.2.1
  have hFr : (s_R S).frames = 1 := by rw [M.2.2.2.2.2.2.2.1]
  have hLo : (s_R S).locals = 24 := by rw [M.2.2.2.2.2.2.2.1]
  have hCe : (s_R S).cells = 0 := by rw [M.2.2.2.2.2.2.2.1]
  have hSl : (s_R S).slots = 0 := by rw [M.2.2.2.2.2.2.2.1]
  intro d
  induction d using Nat.strongRecOn with
  | ind d ih =>
    intro h a k hd h0 h1 hO hfr hE hw h39 h36 h37 h38 hold
    have hi := hO.2.2.2.1
    have ha := hO.2.2.2.2
    refine v_iload hc dX7_begin_172 rfl ?_
    refine v_aload_n hc dX7_begin_174 rfl ?_
    refine r_getA hc ho dX7_begin_175 F_X7_103 hO rfl ?_
    refine v_iload_n hc dX7_begin_178 rfl ?_
    refine r_iald hc dX7_begin_179 hO 39 rfl (by decide) (by omega) (by omega) ?_
    refine z_icmp_ge (tgt := 213) hc dX7_begin_180 (by decide) (by first | assumption | exact hi _ | exact ha _ _ | (unfold zb; omega)) (by first | assumption | exact hi _ | exact ha _ _ | (unfold zb; omega)) (fun c_1 => ?_) (fun c_1 => ?_)
    · exact P213 h a k hO hfr hE (fun j hj => hw j (by omega)) h39 h36 h37 h38 hold (by omega)
    · refine v_aload_n hc dX7_begin_183 rfl ?_
      refine r_getA hc ho dX7_begin_184 F_X7_106 hO rfl ?_
      refine z_bipush hc dX7_begin_187 (by decide) ?_
      refine v_iload_n hc dX7_begin_189 rfl ?_
      refine z_imul hc dX7_begin_190 ?_
      refine v_iload hc dX7_begin_191 rfl ?_
      refine z_iadd hc dX7_begin_193 ?_
      refine v_aload_n hc dX7_begin_194 rfl ?_
      refine r_getA hc ho dX7_begin_195 F_X7_91 hO rfl ?_
      refine z_bipush hc dX7_begin_198 (by decide) ?_
      refine v_iload_n hc dX7_begin_200 rfl ?_
      refine z_imul hc dX7_begin_201 ?_
      refine v_iload hc dX7_begin_202 rfl ?_
      refine z_iadd hc dX7_begin_204 ?_
      refine r_iald hc dX7_begin_205 hO 31 rfl (by decide) (by omega) (by omega) ?_
      refine r_iastf hc dX7_begin_206 hO hfr 40 rfl (by decide) (by omega) (by omega) (by first | assumption | exact hi _ | exact ha _ _ | (unfold zb; omega)) (fun h a_2 g_2 k_2 hO hfr => ?_)
      have ha := hO.2.2.2.2
      refine z_iinc hc dX7_begin_207 rfl ?_
      refine v_goto (tgt := 172) hc dX7_begin_210 (by decide) ?_
      have hx : (16 * s + k).toNat = 16 * s.toNat + k.toNat := by omega
      refine ih _ (by omega) h a_2 _ rfl (by omega) (by omega) hO hfr (fun u u1 u2 u3 u4 u5 => (k_2 u u5).trans (hE u u1 u2 u3 u4 u5)) (fun j hj => ?_) (by rw [k_2 39 (by decide)]; exact h39) (by rw [k_2 36 (by decide)]; exact h36) (by rw [k_2 37 (by decide)]; exact h37) (by rw [k_2 38 (by decide)]; exact h38) (fun t ht => ?_)
      · rw [g_2, hx]
        by_cases e : j = k.toNat
        · rw [e, b_up_eq, hE 31 (by decide) (by decide) (by decide) (by decide) (by decide)]
        · rw [b_up_ne _ _ (by omega)]; exact hw j (by omega)
      · obtain ⟨q1, q2, q3, q4, q5⟩ := hold t ht
        have ht30 := hG30 t ht
        refine ⟨by rw [k_2 36 (by decide)]; exact q1, by rw [k_2 37 (by decide)]; exact q2, by rw [k_2 38 (by decide)]; exact q3, by rw [k_2 39 (by decide)]; exact q4, fun j hj => ?_⟩
        rw [g_2, hx, b_up_ne _ _ (by omega)]
        exact q5 j hj
set_option maxHeartbeats 4000000 in
theorem l_X7_begin55 {S : b_S} {l : Launch} {G : b_G} {o : Nat} {ad : Nat → Nat} {i : Nat → Int} {a0 : Nat → Nat → Int} {hB : b_H} {sz : Nat} {post : Option Value → b_H → Nat → Prop} (M : b_M S l G RX7 cX7_begin 5 (some .int) "begin" 1 24 0 0 hB sz post) (hP0 : m_P i a0) (h35 : 1 ≤ i 35 ∧ i 35 ≤ 8) (hGG : ∀ s : Nat, (s : Int) < i 35 → (0 ≤ a0 26 s ∧ a0 26 s < i 5) ∧ (1 ≤ a0 27 s ∧ a0 27 s ≤ 400) ∧ (0 ≤ a0 29 s ∧ a0 29 s ≤ 100000) ∧ (1 ≤ a0 30 s ∧ a0 30 s ≤ 16) ∧ ∀ k : Nat, (k : Int) < a0 30 s → 0 ≤ a0 31 (16 * s + k) ∧ a0 31 (16 * s + k) < a0 12 (a0 26 s).toNat) (P219 : ∀ (h : b_H) (a : Nat → Nat → Int) (s : Int) (x2 x3 x4 : Option Value), (r_O K7 7 o ad i a h) → (∀ b, ¬ r_own K7 o ad b → h b = hB b) → (m_E5 a0 a) → (∀ t : Nat, (t : Int) < i 35 → m_B a0 a t) → i 35 ≤ s → V S 0 0 h sz 219 [some (.ref o), some (.int (zI s)), x2, x3, x4] []) : ∀ (d : Nat) (h : b_H) (a : Nat → Nat → Int) (s : Int) (x2 x3 x4 : Option Value), ((i 35 - s).toNat = d) → (0 ≤ s) → (s ≤ i 35) → (r_O K7 7 o ad i a h) → (∀ b, ¬ r_own K7 o ad b → h b = hB b) → (m_E5 a0 a) → (∀ t : Nat, (t : Int) < s → m_B a0 a t) → V S 0 0 h sz 55 [some (.ref o), some (.int (zI s)), x2, x3, x4] [] := by
  have hc := M.2.2.2.1
  have ho : s_own S = RX7 := M.2.2.1
  have hFr : (s_R S).frames = 1 := by rw [M.2.2.2.2.2.2.2.1]
  have hLo : (s_R S).locals = 24 := by rw [M.2.2.2.2.2.2.2.1]
  have hCe : (s_R S).cells = 0 := by rw [M.2.2.2.2.2.2.2.1]
  have hSl : (s_R S).slots = 0 := by rw [M.2.2.2.2.2.2.2.1]
  intro d
  induction d using Nat.strongRecOn with
  | ind d ih =>
    intro h a s x2 x3 x4 hd h0 h1 hO hfr hE hold
    have hi := hO.2.2.2.1
    have ha := hO.2.2.2.2
    have hP := hP0
    have hI5 := hP.1
    refine v_iload_n hc dX7_begin_55 rfl ?_
    refine v_aload_n hc dX7_begin_56 rfl ?_
    refine r_get hc ho dX7_begin_57 F_X7_240 hO rfl ?_
    refine z_icmp_ge (tgt := 219) hc dX7_begin_60 (by decide) (by first | assumption | exact hi _ | exact ha _ _ | (unfold zb; omega)) (by first | assumption | exact hi _ | exact ha _ _ | (unfold zb; omega)) (fun c_1 => ?_) (fun c_1 => ?_)
    · exact P219 h a s _ _ _ hO hfr hE (fun t ht => hold t (by omega)) (by omega)
    · have hE26 : a 26 = a0 26 := hE 26 (by decide) (by decide) (by decide) (by decide) (by decide)
      have hE27 : a 27 = a0 27 := hE 27 (by decide) (by decide) (by decide) (by decide) (by decide)
      have hE29 : a 29 = a0 29 := hE 29 (by decide) (by decide) (by decide) (by decide) (by decide)
      have hE30 : a 30 = a0 30 := hE 30 (by decide) (by decide) (by decide) (by decide) (by decide)
      have hE8 : a 8 = a0 8 := hE 8 (by decide) (by decide) (by decide) (by decide) (by decide)
      have hE9 : a 9 = a0 9 := hE 9 (by decide) (by decide) (by decide) (by decide) (by decide)
      obtain ⟨hg1, hg2, hg3, hg4, hg5⟩ := hGG s.toNat (by omega)
      obtain ⟨pp, hpp⟩ : ∃ v, a0 26 s.toNat = v := ⟨_, rfl⟩
      obtain ⟨bb, hbb⟩ : ∃ v, a0 27 s.toNat = v := ⟨_, rfl⟩
      rw [hpp] at hg1
      rw [hbb] at hg2
      have hsf := hP.2.2.1 pp.toNat (by omega)
      have hlo0 : 600 * bb / a0 9 pp.toNat ≤ 600 * bb / a0 8 pp.toNat := b_div_le (by omega) (by omega) (by omega)
      have hlo1 : 0 ≤ 600 * bb / a0 9 pp.toNat := Int.ediv_nonneg (by omega) (by omega)
      have hlo2 : 600 * bb / a0 8 pp.toNat ≤ 600 * bb / 30 := b_div_le (by omega) (by omega) (by omega)
      refine v_aload_n hc dX7_begin_63 rfl ?_
      refine r_getA hc ho dX7_begin_64 F_X7_76 hO rfl ?_
      refine v_iload_n hc dX7_begin_67 rfl ?_
      refine r_iald hc dX7_begin_68 hO 26 rfl (by decide) (by omega) (by omega) ?_
      rw [hE26, hpp]
      refine v_istore_n hc dX7_begin_69 (Nat.le_of_ble_eq_true rfl) ?_
      refine v_aload_n hc dX7_begin_70 rfl ?_
      refine r_getA hc ho dX7_begin_71 F_X7_94 hO rfl ?_
      refine v_iload_n hc dX7_begin_74 rfl ?_
      refine v_iload_n hc dX7_begin_75 rfl ?_
      refine r_iastf hc dX7_begin_76 hO hfr 36 rfl (by decide) (by omega) (by omega) (by first | assumption | exact hi _ | exact ha _ _ | (unfold zb; omega)) (fun h a_2 g_2 k_2 hO hfr => ?_)
      have ha := hO.2.2.2.2
      skip
      refine v_aload_n hc dX7_begin_77 rfl ?_
      refine r_getA hc ho dX7_begin_78 F_X7_97 hO rfl ?_
      refine v_iload_n hc dX7_begin_81 rfl ?_
      refine v_aload_n hc dX7_begin_82 rfl ?_
      refine r_getA hc ho dX7_begin_83 F_X7_79 hO rfl ?_
      refine v_iload_n hc dX7_begin_86 rfl ?_
      refine r_iald hc dX7_begin_87 hO 27 rfl (by decide) (by omega) (by omega) ?_
      rw [k_2 27 (by decide), hE27, hbb]
      refine r_iastf hc dX7_begin_88 hO hfr 37 rfl (by decide) (by omega) (by omega) (by first | assumption | exact hi _ | exact ha _ _ | (unfold zb; omega)) (fun h a_3 g_3 k_3 hO hfr => ?_)
      have ha := hO.2.2.2.2
      have hP2 : m_P i a_3 := m_P_5 hP rfl (fun u u1 u2 u3 u4 u5 => ((k_3 u u2).trans (k_2 u u1)).trans (hE u u1 u2 u3 u4 u5))
      have h8 : a_3 8 = a0 8 := by rw [k_3 8 (by decide), k_2 8 (by decide), hE8]
      have h9 : a_3 9 = a0 9 := by rw [k_3 9 (by decide), k_2 9 (by decide), hE9]
      have h27 : a_3 27 s.toNat = bb := by rw [k_3 27 (by decide), k_2 27 (by decide), hE27, hbb]
      have h29 : a_3 29 = a0 29 := by rw [k_3 29 (by decide), k_2 29 (by decide), hE29]
      refine v_aload_n hc dX7_begin_89 rfl ?_
      refine r_getA hc ho dX7_begin_90 F_X7_85 hO rfl ?_
      refine v_iload_n hc dX7_begin_93 rfl ?_
      refine r_iald hc dX7_begin_94 hO 29 rfl (by decide) (by omega) (by omega) ?_
      rw [h29]
      obtain ⟨tt, htt⟩ : ∃ v, a0 29 s.toNat = v := ⟨_, rfl⟩
      rw [htt] at hg3 ⊢
      refine v_istore_n hc dX7_begin_95 (Nat.le_of_ble_eq_true rfl) ?_
      skip
      refine v_iload_n hc dX7_begin_96 rfl ?_
      refine v_aload_n hc dX7_begin_97 rfl ?_
      refine v_iload_n hc dX7_begin_98 rfl ?_
      refine v_aload_n hc dX7_begin_99 rfl ?_
      refine r_getA hc ho dX7_begin_100 F_X7_79 hO rfl ?_
      refine v_iload_n hc dX7_begin_103 rfl ?_
      refine r_iald hc dX7_begin_104 hO 27 rfl (by decide) (by omega) (by omega) ?_
      rw [h27]
      refine v_callV (As := [.int (zI pp), .int (zI bb)]) hc ho dX7_begin_105 KV_X7_178 KB_X7_shortest hO.1 rfl rfl (c_X7_shortest _ _ hO hP2 (p := pp) (b := bb) (by omega) (by omega)) rfl (Nat.le_of_ble_eq_true rfl) ⟨by omega, by omega⟩ ⟨by omega, by omega⟩ (fun r_ h_ sz_ q_ z_ => ?_)
      obtain ⟨rfl, eh_, es_⟩ := q_
      have eh_ := eh_.symm
      subst eh_
      have es_ := es_.symm
      subst es_
      rw [h9]
      refine z_icmp_ge (tgt := 123) hc dX7_begin_108 (by decide) (by first | assumption | exact hi _ | exact ha _ _ | (unfold zb; omega)) (by first | assumption | exact hi _ | exact ha _ _ | (unfold zb; omega)) (fun c_4 => ?_) (fun c_4 => ?_)
      · skip
        refine v_iload_n hc dX7_begin_123 rfl ?_
        skip
        refine v_aload_n hc dX7_begin_124 rfl ?_
        refine v_iload_n hc dX7_begin_125 rfl ?_
        refine v_aload_n hc dX7_begin_126 rfl ?_
        refine r_getA hc ho dX7_begin_127 F_X7_79 hO rfl ?_
        refine v_iload_n hc dX7_begin_130 rfl ?_
        refine r_iald hc dX7_begin_131 hO 27 rfl (by decide) (by omega) (by omega) ?_
        rw [h27]
        refine v_callV (As := [.int (zI pp), .int (zI bb)]) hc ho dX7_begin_132 KV_X7_181 KB_X7_longest hO.1 rfl rfl (c_X7_longest _ _ hO hP2 (p := pp) (b := bb) (by omega) (by omega)) rfl (Nat.le_of_ble_eq_true rfl) ⟨by omega, by omega⟩ ⟨by omega, by omega⟩ (fun r_ h_ sz_ q_ z_ => ?_)
        obtain ⟨rfl, eh_, es_⟩ := q_
        have eh_ := eh_.symm
        subst eh_
        have es_ := es_.symm
        subst es_
        rw [h8]
        refine z_icmp_le (tgt := 150) hc dX7_begin_135 (by decide) (by first | assumption | exact hi _ | exact ha _ _ | (unfold zb; omega)) (by first | assumption | exact hi _ | exact ha _ _ | (unfold zb; omega)) (fun c_5 => ?_) (fun c_5 => ?_)
        · have hcl : tt = q_hd (a0 8 pp.toNat) (a0 9 pp.toNat) bb tt := by unfold q_hd; omega
          rw [hcl]
          have hclb : 0 ≤ q_hd (a0 8 pp.toNat) (a0 9 pp.toNat) bb tt ∧ q_hd (a0 8 pp.toNat) (a0 9 pp.toNat) bb tt ≤ 240000 := q_hd_bd (by omega) (by omega) (by omega) (by omega) (by omega) (by omega)
          refine v_aload_n hc dX7_begin_150 rfl ?_
          refine r_getA hc ho dX7_begin_151 F_X7_100 hO rfl ?_
          refine v_iload_n hc dX7_begin_154 rfl ?_
          refine v_iload_n hc dX7_begin_155 rfl ?_
          refine r_iastf hc dX7_begin_156 hO hfr 38 rfl (by decide) (by omega) (by omega) (by first | assumption | exact hi _ | exact ha _ _ | (unfold zb; omega)) (fun h a_6 g_6 k_6 hO hfr => ?_)
          have ha := hO.2.2.2.2
          have h30 : a_6 30 = a0 30 := by rw [k_6 30 (by decide), k_3 30 (by decide), k_2 30 (by decide), hE30]
          refine v_aload_n hc dX7_begin_157 rfl ?_
          refine r_getA hc ho dX7_begin_158 F_X7_103 hO rfl ?_
          refine v_iload_n hc dX7_begin_161 rfl ?_
          refine v_aload_n hc dX7_begin_162 rfl ?_
          refine r_getA hc ho dX7_begin_163 F_X7_88 hO rfl ?_
          refine v_iload_n hc dX7_begin_166 rfl ?_
          refine r_iald hc dX7_begin_167 hO 30 rfl (by decide) (by omega) (by omega) ?_
          rw [h30]
          refine r_iastf hc dX7_begin_168 hO hfr 39 rfl (by decide) (by omega) (by omega) (by first | assumption | exact hi _ | exact ha _ _ | (unfold zb; omega)) (fun h a_7 g_7 k_7 hO hfr => ?_)
          have ha := hO.2.2.2.2
          skip
          refine z_iconst hc dX7_begin_169 ?_
          refine v_istore hc dX7_begin_170 (Nat.le_of_ble_eq_true rfl) ?_
          refine l_X7_begin172 M (s := s) (by omega) (by omega) (fun t ht => (hGG t (by omega)).2.2.2.1.2) (fun h4 a4 k4 hO hfr hE4 hw4 h394 h364 h374 h384 hold4 hk4 => ?_) _ h a_7 0 rfl (by omega) (by omega) hO hfr (fun u u1 u2 u3 u4 u5 => (k_7 u u4).trans ((k_6 u u3).trans ((k_3 u u2).trans ((k_2 u u1).trans (hE u u1 u2 u3 u4 u5))))) (fun j hj => by omega) (by rw [g_7, b_up_eq]) (by rw [k_7 36 (by decide), k_6 36 (by decide), k_3 36 (by decide), g_2, b_up_eq, hpp]) (by rw [k_7 37 (by decide), k_6 37 (by decide), g_3, b_up_eq, hbb]) (by rw [k_7 38 (by decide), g_6, b_up_eq, hpp, hbb, htt]) (fun t ht => ?_)
          · refine z_iinc hc dX7_begin_213 rfl ?_
            refine v_goto (tgt := 55) hc dX7_begin_216 (by decide) ?_
            exact ih _ (by omega) h4 a4 _ _ _ _ rfl (by omega) (by omega) hO hfr hE4 (fun t ht => by
              by_cases e : t = s.toNat
              · rw [e]; exact ⟨h364, h374, h384, h394, hw4⟩
              · exact hold4 t (by omega))
          · obtain ⟨q1, q2, q3, q4, q5⟩ := hold t (by omega)
            refine ⟨?_, ?_, ?_, ?_, fun j hj => ?_⟩
            · rw [k_7 36 (by decide), k_6 36 (by decide), k_3 36 (by decide), g_2, b_up_ne _ _ (by omega)]; exact q1
            · rw [k_7 37 (by decide), k_6 37 (by decide), g_3, b_up_ne _ _ (by omega), k_2 37 (by decide)]; exact q2
            · rw [k_7 38 (by decide), g_6, b_up_ne _ _ (by omega), k_3 38 (by decide), k_2 38 (by decide)]; exact q3
            · rw [g_7, b_up_ne _ _ (by omega), k_6 39 (by decide), k_3 39 (by decide), k_2 39 (by decide)]; exact q4
            · rw [k_7 40 (by decide), k_6 40 (by decide), k_3 40 (by decide), k_2 40 (by decide)]; exact q5 j hj
        · skip
          refine v_aload_n hc dX7_begin_138 rfl ?_
          refine v_iload_n hc dX7_begin_139 rfl ?_
          refine v_aload_n hc dX7_begin_140 rfl ?_
          refine r_getA hc ho dX7_begin_141 F_X7_79 hO rfl ?_
          refine v_iload_n hc dX7_begin_144 rfl ?_
          refine r_iald hc dX7_begin_145 hO 27 rfl (by decide) (by omega) (by omega) ?_
          rw [h27]
          refine v_callV (As := [.int (zI pp), .int (zI bb)]) hc ho dX7_begin_146 KV_X7_181 KB_X7_longest hO.1 rfl rfl (c_X7_longest _ _ hO hP2 (p := pp) (b := bb) (by omega) (by omega)) rfl (Nat.le_of_ble_eq_true rfl) ⟨by omega, by omega⟩ ⟨by omega, by omega⟩ (fun r_ h_ sz_ q_ z_ => ?_)
          obtain ⟨rfl, eh_, es_⟩ := q_
          have eh_ := eh_.symm
          subst eh_
          have es_ := es_.symm
          subst es_
          rw [h8]
          refine v_istore_n hc dX7_begin_149 (Nat.le_of_ble_eq_true rfl) ?_
          have hcl : 600 * bb / a0 8 pp.toNat = q_hd (a0 8 pp.toNat) (a0 9 pp.toNat) bb tt := by unfold q_hd; omega
          rw [hcl]
          have hclb : 0 ≤ q_hd (a0 8 pp.toNat) (a0 9 pp.toNat) bb tt ∧ q_hd (a0 8 pp.toNat) (a0 9 pp.toNat) bb tt ≤ 240000 := q_hd_bd (by omega) (by omega) (by omega) (by omega) (by omega) (by omega)
          refine v_aload_n hc dX7_begin_150 rfl ?_
          refine r_getA hc ho dX7_begin_151 F_X7_100 hO rfl ?_
          refine v_iload_n hc dX7_begin_154 rfl ?_
          refine v_iload_n hc dX7_begin_155 rfl ?_
          refine r_iastf hc dX7_begin_156 hO hfr 38 rfl (by decide) (by omega) (by omega) (by first | assumption | exact hi _ | exact ha _ _ | (unfold zb; omega)) (fun h a_8 g_8 k_8 hO hfr => ?_)
          have ha := hO.2.2.2.2
          have h30 : a_8 30 = a0 30 := by rw [k_8 30 (by decide), k_3 30 (by decide), k_2 30 (by decide), hE30]
          refine v_aload_n hc dX7_begin_157 rfl ?_
          refine r_getA hc ho dX7_begin_158 F_X7_103 hO rfl ?_
          refine v_iload_n hc dX7_begin_161 rfl ?_
          refine v_aload_n hc dX7_begin_162 rfl ?_
          refine r_getA hc ho dX7_begin_163 F_X7_88 hO rfl ?_
          refine v_iload_n hc dX7_begin_166 rfl ?_
          refine r_iald hc dX7_begin_167 hO 30 rfl (by decide) (by omega) (by omega) ?_
          rw [h30]
          refine r_iastf hc dX7_begin_168 hO hfr 39 rfl (by decide) (by omega) (by omega) (by first | assumption | exact hi _ | exact ha _ _ | (unfold zb; omega)) (fun h a_9 g_9 k_9 hO hfr => ?_)
          have ha := hO.2.2.2.2
          skip
          refine z_iconst hc dX7_begin_169 ?_
          refine v_istore hc dX7_begin_170 (Nat.le_of_ble_eq_true rfl) ?_
          refine l_X7_begin172 M (s := s) (by omega) (by omega) (fun t ht => (hGG t (by omega)).2.2.2.1.2) (fun h4 a4 k4 hO hfr hE4 hw4 h394 h364 h374 h384 hold4 hk4 => ?_) _ h a_9 0 rfl (by omega) (by omega) hO hfr (fun u u1 u2 u3 u4 u5 => (k_9 u u4).trans ((k_8 u u3).trans ((k_3 u u2).trans ((k_2 u u1).trans (hE u u1 u2 u3 u4 u5))))) (fun j hj => by omega) (by rw [g_9, b_up_eq]) (by rw [k_9 36 (by decide), k_8 36 (by decide), k_3 36 (by decide), g_2, b_up_eq, hpp]) (by rw [k_9 37 (by decide), k_8 37 (by decide), g_3, b_up_eq, hbb]) (by rw [k_9 38 (by decide), g_8, b_up_eq, hpp, hbb, htt]) (fun t ht => ?_)
          · refine z_iinc hc dX7_begin_213 rfl ?_
            refine v_goto (tgt := 55) hc dX7_begin_216 (by decide) ?_
            exact ih _ (by omega) h4 a4 _ _ _ _ rfl (by omega) (by omega) hO hfr hE4 (fun t ht => by
              by_cases e : t = s.toNat
              · rw [e]; exact ⟨h364, h374, h384, h394, hw4⟩
              · exact hold4 t (by omega))
          · obtain ⟨q1, q2, q3, q4, q5⟩ := hold t (by omega)
            refine ⟨?_, ?_, ?_, ?_, fun j hj => ?_⟩
            · rw [k_9 36 (by decide), k_8 36 (by decide), k_3 36 (by decide), g_2, b_up_ne _ _ (by omega)]; exact q1
            · rw [k_9 37 (by decide), k_8 37 (by decide), g_3, b_up_ne _ _ (by omega), k_2 37 (by decide)]; exact q2
            · rw [k_9 38 (by decide), g_8, b_up_ne _ _ (by omega), k_3 38 (by decide), k_2 38 (by decide)]; exact q3
            · rw [g_9, b_up_ne _ _ (by omega), k_8 39 (by decide), k_3 39 (by decide), k_2 39 (by decide)]; exact q4
            · rw [k_9 40 (by decide), k_8 40 (by decide), k_3 40 (by decide), k_2 40 (by decide)]; exact q5 j hj
      · skip
        refine v_aload_n hc dX7_begin_111 rfl ?_
        refine v_iload_n hc dX7_begin_112 rfl ?_
        refine v_aload_n hc dX7_begin_113 rfl ?_
        refine r_getA hc ho dX7_begin_114 F_X7_79 hO rfl ?_
        refine v_iload_n hc dX7_begin_117 rfl ?_
        refine r_iald hc dX7_begin_118 hO 27 rfl (by decide) (by omega) (by omega) ?_
        rw [h27]
        refine v_callV (As := [.int (zI pp), .int (zI bb)]) hc ho dX7_begin_119 KV_X7_178 KB_X7_shortest hO.1 rfl rfl (c_X7_shortest _ _ hO hP2 (p := pp) (b := bb) (by omega) (by omega)) rfl (Nat.le_of_ble_eq_true rfl) ⟨by omega, by omega⟩ ⟨by omega, by omega⟩ (fun r_ h_ sz_ q_ z_ => ?_)
        obtain ⟨rfl, eh_, es_⟩ := q_
        have eh_ := eh_.symm
        subst eh_
        have es_ := es_.symm
        subst es_
        rw [h9]
        refine v_istore_n hc dX7_begin_122 (Nat.le_of_ble_eq_true rfl) ?_
        skip
        refine v_iload_n hc dX7_begin_123 rfl ?_
        skip
        refine v_aload_n hc dX7_begin_124 rfl ?_
        refine v_iload_n hc dX7_begin_125 rfl ?_
        refine v_aload_n hc dX7_begin_126 rfl ?_
        refine r_getA hc ho dX7_begin_127 F_X7_79 hO rfl ?_
        refine v_iload_n hc dX7_begin_130 rfl ?_
        refine r_iald hc dX7_begin_131 hO 27 rfl (by decide) (by omega) (by omega) ?_
        rw [h27]
        refine v_callV (As := [.int (zI pp), .int (zI bb)]) hc ho dX7_begin_132 KV_X7_181 KB_X7_longest hO.1 rfl rfl (c_X7_longest _ _ hO hP2 (p := pp) (b := bb) (by omega) (by omega)) rfl (Nat.le_of_ble_eq_true rfl) ⟨by omega, by omega⟩ ⟨by omega, by omega⟩ (fun r_ h_ sz_ q_ z_ => ?_)
        obtain ⟨rfl, eh_, es_⟩ := q_
        have eh_ := eh_.symm
        subst eh_
        have es_ := es_.symm
        subst es_
        rw [h8]
        refine z_icmp_le (tgt := 150) hc dX7_begin_135 (by decide) (by first | assumption | exact hi _ | exact ha _ _ | (unfold zb; omega)) (by first | assumption | exact hi _ | exact ha _ _ | (unfold zb; omega)) (fun c_10 => ?_) (fun c_10 => ?_)
        · have hcl : 600 * bb / a0 9 pp.toNat = q_hd (a0 8 pp.toNat) (a0 9 pp.toNat) bb tt := by unfold q_hd; omega
          rw [hcl]
          have hclb : 0 ≤ q_hd (a0 8 pp.toNat) (a0 9 pp.toNat) bb tt ∧ q_hd (a0 8 pp.toNat) (a0 9 pp.toNat) bb tt ≤ 240000 := q_hd_bd (by omega) (by omega) (by omega) (by omega) (by omega) (by omega)
          refine v_aload_n hc dX7_begin_150 rfl ?_
          refine r_getA hc ho dX7_begin_151 F_X7_100 hO rfl ?_
          refine v_iload_n hc dX7_begin_154 rfl ?_
          refine v_iload_n hc dX7_begin_155 rfl ?_
          refine r_iastf hc dX7_begin_156 hO hfr 38 rfl (by decide) (by omega) (by omega) (by first | assumption | exact hi _ | exact ha _ _ | (unfold zb; omega)) (fun h a_11 g_11 k_11 hO hfr => ?_)
          have ha := hO.2.2.2.2
          have h30 : a_11 30 = a0 30 := by rw [k_11 30 (by decide), k_3 30 (by decide), k_2 30 (by decide), hE30]
          refine v_aload_n hc dX7_begin_157 rfl ?_
          refine r_getA hc ho dX7_begin_158 F_X7_103 hO rfl ?_
          refine v_iload_n hc dX7_begin_161 rfl ?_
          refine v_aload_n hc dX7_begin_162 rfl ?_
          refine r_getA hc ho dX7_begin_163 F_X7_88 hO rfl ?_
          refine v_iload_n hc dX7_begin_166 rfl ?_
          refine r_iald hc dX7_begin_167 hO 30 rfl (by decide) (by omega) (by omega) ?_
          rw [h30]
          refine r_iastf hc dX7_begin_168 hO hfr 39 rfl (by decide) (by omega) (by omega) (by first | assumption | exact hi _ | exact ha _ _ | (unfold zb; omega)) (fun h a_12 g_12 k_12 hO hfr => ?_)
          have ha := hO.2.2.2.2
          skip
          refine z_iconst hc dX7_begin_169 ?_
          refine v_istore hc dX7_begin_170 (Nat.le_of_ble_eq_true rfl) ?_
          refine l_X7_begin172 M (s := s) (by omega) (by omega) (fun t ht => (hGG t (by omega)).2.2.2.1.2) (fun h4 a4 k4 hO hfr hE4 hw4 h394 h364 h374 h384 hold4 hk4 => ?_) _ h a_12 0 rfl (by omega) (by omega) hO hfr (fun u u1 u2 u3 u4 u5 => (k_12 u u4).trans ((k_11 u u3).trans ((k_3 u u2).trans ((k_2 u u1).trans (hE u u1 u2 u3 u4 u5))))) (fun j hj => by omega) (by rw [g_12, b_up_eq]) (by rw [k_12 36 (by decide), k_11 36 (by decide), k_3 36 (by decide), g_2, b_up_eq, hpp]) (by rw [k_12 37 (by decide), k_11 37 (by decide), g_3, b_up_eq, hbb]) (by rw [k_12 38 (by decide), g_11, b_up_eq, hpp, hbb, htt]) (fun t ht => ?_)
          · refine z_iinc hc dX7_begin_213 rfl ?_
            refine v_goto (tgt := 55) hc dX7_begin_216 (by decide) ?_
            exact ih _ (by omega) h4 a4 _ _ _ _ rfl (by omega) (by omega) hO hfr hE4 (fun t ht => by
              by_cases e : t = s.toNat
              · rw [e]; exact ⟨h364, h374, h384, h394, hw4⟩
              · exact hold4 t (by omega))
          · obtain ⟨q1, q2, q3, q4, q5⟩ := hold t (by omega)
            refine ⟨?_, ?_, ?_, ?_, fun j hj => ?_⟩
            · rw [k_12 36 (by decide), k_11 36 (by decide), k_3 36 (by decide), g_2, b_up_ne _ _ (by omega)]; exact q1
            · rw [k_12 37 (by decide), k_11 37 (by decide), g_3, b_up_ne _ _ (by omega), k_2 37 (by decide)]; exact q2
            · rw [k_12 38 (by decide), g_11, b_up_ne _ _ (by omega), k_3 38 (by decide), k_2 38 (by decide)]; exact q3
            · rw [g_12, b_up_ne _ _ (by omega), k_11 39 (by decide), k_3 39 (by decide), k_2 39 (by decide)]; exact q4
            · rw [k_12 40 (by decide), k_11 40 (by decide), k_3 40 (by decide), k_2 40 (by decide)]; exact q5 j hj
        · skip
          refine v_aload_n hc dX7_begin_138 rfl ?_
          refine v_iload_n hc dX7_begin_139 rfl ?_
          refine v_aload_n hc dX7_begin_140 rfl ?_
          refine r_getA hc ho dX7_begin_141 F_X7_79 hO rfl ?_
          refine v_iload_n hc dX7_begin_144 rfl ?_
          refine r_iald hc dX7_begin_145 hO 27 rfl (by decide) (by omega) (by omega) ?_
          rw [h27]
          refine v_callV (As := [.int (zI pp), .int (zI bb)]) hc ho dX7_begin_146 KV_X7_181 KB_X7_longest hO.1 rfl rfl (c_X7_longest _ _ hO hP2 (p := pp) (b := bb) (by omega) (by omega)) rfl (Nat.le_of_ble_eq_true rfl) ⟨by omega, by omega⟩ ⟨by omega, by omega⟩ (fun r_ h_ sz_ q_ z_ => ?_)
          obtain ⟨rfl, eh_, es_⟩ := q_
          have eh_ := eh_.symm
          subst eh_
          have es_ := es_.symm
          subst es_
          rw [h8]
          refine v_istore_n hc dX7_begin_149 (Nat.le_of_ble_eq_true rfl) ?_
          have hcl : 600 * bb / a0 8 pp.toNat = q_hd (a0 8 pp.toNat) (a0 9 pp.toNat) bb tt := by unfold q_hd; omega
          rw [hcl]
          have hclb : 0 ≤ q_hd (a0 8 pp.toNat) (a0 9 pp.toNat) bb tt ∧ q_hd (a0 8 pp.toNat) (a0 9 pp.toNat) bb tt ≤ 240000 := q_hd_bd (by omega) (by omega) (by omega) (by omega) (by omega) (by omega)
          refine v_aload_n hc dX7_begin_150 rfl ?_
          refine r_getA hc ho dX7_begin_151 F_X7_100 hO rfl ?_
          refine v_iload_n hc dX7_begin_154 rfl ?_
          refine v_iload_n hc dX7_begin_155 rfl ?_
          refine r_iastf hc dX7_begin_156 hO hfr 38 rfl (by decide) (by omega) (by omega) (by first | assumption | exact hi _ | exact ha _ _ | (unfold zb; omega)) (fun h a_13 g_13 k_13 hO hfr => ?_)
          have ha := hO.2.2.2.2
          have h30 : a_13 30 = a0 30 := by rw [k_13 30 (by decide), k_3 30 (by decide), k_2 30 (by decide), hE30]
          refine v_aload_n hc dX7_begin_157 rfl ?_
          refine r_getA hc ho dX7_begin_158 F_X7_103 hO rfl ?_
          refine v_iload_n hc dX7_begin_161 rfl ?_
          refine v_aload_n hc dX7_begin_162 rfl ?_
          refine r_getA hc ho dX7_begin_163 F_X7_88 hO rfl ?_
          refine v_iload_n hc dX7_begin_166 rfl ?_
          refine r_iald hc dX7_begin_167 hO 30 rfl (by decide) (by omega) (by omega) ?_
          rw [h30]
          refine r_iastf hc dX7_begin_168 hO hfr 39 rfl (by decide) (by omega) (by omega) (by first | assumption | exact hi _ | exact ha _ _ | (unfold zb; omega)) (fun h a_14 g_14 k_14 hO hfr => ?_)
          have ha := hO.2.2.2.2
          skip
          refine z_iconst hc dX7_begin_169 ?_
          refine v_istore hc dX7_begin_170 (Nat.le_of_ble_eq_true rfl) ?_
          refine l_X7_begin172 M (s := s) (by omega) (by omega) (fun t ht => (hGG t (by omega)).2.2.2.1.2) (fun h4 a4 k4 hO hfr hE4 hw4 h394 h364 h374 h384 hold4 hk4 => ?_) _ h a_14 0 rfl (by omega) (by omega) hO hfr (fun u u1 u2 u3 u4 u5 => (k_14 u u4).trans ((k_13 u u3).trans ((k_3 u u2).trans ((k_2 u u1).trans (hE u u1 u2 u3 u4 u5))))) (fun j hj => by omega) (by rw [g_14, b_up_eq]) (by rw [k_14 36 (by decide), k_13 36 (by decide), k_3 36 (by decide), g_2, b_up_eq, hpp]) (by rw [k_14 37 (by decide), k_13 37 (by decide), g_3, b_up_eq, hbb]) (by rw [k_14 38 (by decide), g_13, b_up_eq, hpp, hbb, htt]) (fun t ht => ?_)
          · refine z_iinc hc dX7_begin_213 rfl ?_
            refine v_goto (tgt := 55) hc dX7_begin_216 (by decide) ?_
            exact ih _ (by omega) h4 a4 _ _ _ _ rfl (by omega) (by omega) hO hfr hE4 (fun t ht => by
              by_cases e : t = s.toNat
              · rw [e]; exact ⟨h364, h374, h384, h394, hw4⟩
              · exact hold4 t (by omega))
          · obtain ⟨q1, q2, q3, q4, q5⟩ := hold t (by omega)
            refine ⟨?_, ?_, ?_, ?_, fun j hj => ?_⟩
            · rw [k_14 36 (by decide), k_13 36 (by decide), k_3 36 (by decide), g_2, b_up_ne _ _ (by omega)]; exact q1
            · rw [k_14 37 (by decide), k_13 37 (by decide), g_3, b_up_ne _ _ (by omega), k_2 37 (by decide)]; exact q2
            · rw [k_14 38 (by decide), g_13, b_up_ne _ _ (by omega), k_3 38 (by decide), k_2 38 (by decide)]; exact q3
            · rw [g_14, b_up_ne _ _ (by omega), k_13 39 (by decide), k_3 39 (by decide), k_2 39 (by decide)]; exact q4
            · rw [k_14 40 (by decide), k_13 40 (by decide), k_3 40 (by decide), k_2 40 (by decide)]; exact q5 j hj
theorem m_QB {i i2 : Nat → Int} {a a2 : Nat → Nat → Int} (hP : m_P i a) (hG : m_G i a) (h35 : i2 35 = i 25) (h5 : i2 5 = i 5) (hE : m_E5 a a2) (hB : ∀ s : Nat, (s : Int) < i 25 → m_B a a2 s) : m_Q i2 a2 := by
  intro s hs
  obtain ⟨b1, b2, b3, b4, b5⟩ := hB s (by omega)
  obtain ⟨g1, g2, g3, g4, g5⟩ := hG.2 s (by omega)
  have hsf := hP.2.2.1 (a 26 s).toNat (by omega)
  have hhd := q_hd_bd (s := a 8 (a 26 s).toNat) (f := a 9 (a 26 s).toNat) (b := a 27 s) (t := a 29 s) (by omega) (by omega) (by omega) (by omega) (by omega) (by omega)
  have hge : a 27 s ≤ q_hd (a 8 (a 26 s).toNat) (a 9 (a 26 s).toNat) (a 27 s) (a 29 s) := by
    have h1 : 600 * a 27 s / 240 ≤ 600 * a 27 s / a 9 (a 26 s).toNat := b_div_le (by omega) (by omega) (by omega)
    unfold q_hd
    omega
  rw [b1, b2, b3, b4, h5, hE 12 (by decide) (by decide) (by decide) (by decide) (by decide)]
  exact ⟨g1, g2, ⟨hge, hhd.2⟩, g4, fun k hk => by rw [b5 k hk]; exact g5 k hk⟩

set_option maxHeartbeats 4000000 in
theorem c_X7_begin (l : Launch) (G : b_G) {o : Nat} {ad : Nat → Nat} {i : Nat → Int} {a : Nat → Nat → Int} {h : b_H} {sz : Nat} (hO : r_O K7 7 o ad i a h) (hP : m_P i a) (hGa : m_G i a) {c : Int} (hC : m_C c i a) (hcc : c ≤ 2000000) : Con l G yX7_begin cX7_begin 5 (some .int) 1 24 0 0 [.ref o] h sz (p_wr K7 7 o ad h sz (fun r i2 a2 => (i 25 = 0 ∧ r = some (.int (zI (-2))) ∧ i2 = i ∧ a2 = a) ∨ (¬ i 25 = 0 ∧ r = some (.int (zI (i 25))) ∧ ∃ i1 a1, n_ck i i1 [32, 33, 34, 35, 41, 46, 47, 48] ∧ i1 32 = 1 ∧ i1 33 = 0 ∧ i1 34 = 0 ∧ i1 35 = i 25 ∧ i1 41 = 0 ∧ i1 46 = 0 ∧ i1 47 = 0 ∧ i1 48 = 0 ∧ m_E5 a a1 ∧ (∀ s : Nat, (s : Int) < i 25 → m_B a a1 s) ∧ m_bp i1 a1 0 i2 a2 ∧ m_P i1 a1 ∧ m_Q i1 a1 ∧ m_C c i1 a1))) := by
  refine Con.ofK (by decide +kernel) rfl rfl ?_
  intro S M
  have hc := M.2.2.2.1
  have ho : s_own S = RX7 := M.2.2.1
  have hFr : (s_R S).frames = 1 := by rw [M.2.2.2.2.2.2.2.1]
  have hLo : (s_R S).locals = 24 := by rw [M.2.2.2.2.2.2.2.1]
  have hCe : (s_R S).cells = 0 := by rw [M.2.2.2.2.2.2.2.1]
  have hSl : (s_R S).slots = 0 := by rw [M.2.2.2.2.2.2.2.1]
  have hi := hO.2.2.2.1
  have ha := hO.2.2.2.2
  have hG1 := hGa.1
  have hfr : ∀ b, ¬ r_own K7 o ad b → h b = h b := fun _ _ => rfl
  refine v_aload_n hc dX7_begin_0 rfl ?_
  refine r_get hc ho dX7_begin_1 F_X7_209 hO rfl ?_
  refine z_if_ne (tgt := 10) hc dX7_begin_4 (by decide) (by first | assumption | exact hi _ | exact ha _ _ | (unfold zb; omega)) (fun c_1 => ?_) (fun c_1 => ?_)
  · refine v_aload_n hc dX7_begin_10 rfl ?_
    refine z_iconst hc dX7_begin_11 ?_
    refine r_putZf hc ho dX7_begin_12 F_X7_230 hO hfr rfl (by omega) (fun h i_2 g_2 k_2 hO hfr => ?_)
    have hi := hO.2.2.2.1
    have e_2_5 := k_2 5 (by decide)
    have e_2_33 := k_2 33 (by decide)
    have e_2_34 := k_2 34 (by decide)
    have e_2_35 := k_2 35 (by decide)
    have e_2_41 := k_2 41 (by decide)
    have e_2_42 := k_2 42 (by decide)
    have e_2_43 := k_2 43 (by decide)
    have e_2_44 := k_2 44 (by decide)
    have e_2_45 := k_2 45 (by decide)
    have e_2_46 := k_2 46 (by decide)
    have e_2_47 := k_2 47 (by decide)
    have e_2_48 := k_2 48 (by decide)
    have e_2_51 := k_2 51 (by decide)
    have e_2_52 := k_2 52 (by decide)
    have e_2_25 := k_2 25 (by decide)
    refine v_aload_n hc dX7_begin_15 rfl ?_
    refine z_iconst hc dX7_begin_16 ?_
    refine r_putZf hc ho dX7_begin_17 F_X7_234 hO hfr rfl (by omega) (fun h i_3 g_3 k_3 hO hfr => ?_)
    have hi := hO.2.2.2.1
    have e_3_5 := k_3 5 (by decide)
    have e_3_34 := k_3 34 (by decide)
    have e_3_35 := k_3 35 (by decide)
    have e_3_41 := k_3 41 (by decide)
    have e_3_42 := k_3 42 (by decide)
    have e_3_43 := k_3 43 (by decide)
    have e_3_44 := k_3 44 (by decide)
    have e_3_45 := k_3 45 (by decide)
    have e_3_46 := k_3 46 (by decide)
    have e_3_47 := k_3 47 (by decide)
    have e_3_48 := k_3 48 (by decide)
    have e_3_51 := k_3 51 (by decide)
    have e_3_52 := k_3 52 (by decide)
    have e_3_25 := k_3 25 (by decide)
    have e_3_32 := k_3 32 (by decide)
    refine v_aload_n hc dX7_begin_20 rfl ?_
    refine z_iconst hc dX7_begin_21 ?_
    refine r_putZf hc ho dX7_begin_22 F_X7_237 hO hfr rfl (by omega) (fun h i_4 g_4 k_4 hO hfr => ?_)
    have hi := hO.2.2.2.1
    have e_4_5 := k_4 5 (by decide)
    have e_4_33 := k_4 33 (by decide)
    have e_4_35 := k_4 35 (by decide)
    have e_4_41 := k_4 41 (by decide)
    have e_4_42 := k_4 42 (by decide)
    have e_4_43 := k_4 43 (by decide)
    have e_4_44 := k_4 44 (by decide)
    have e_4_45 := k_4 45 (by decide)
    have e_4_46 := k_4 46 (by decide)
    have e_4_47 := k_4 47 (by decide)
    have e_4_48 := k_4 48 (by decide)
    have e_4_51 := k_4 51 (by decide)
    have e_4_52 := k_4 52 (by decide)
    have e_4_25 := k_4 25 (by decide)
    have e_4_32 := k_4 32 (by decide)
    refine v_aload_n hc dX7_begin_25 rfl ?_
    refine v_aload_n hc dX7_begin_26 rfl ?_
    refine r_get hc ho dX7_begin_27 F_X7_209 hO rfl ?_
    refine r_putIf hc ho dX7_begin_30 F_X7_240 hO hfr rfl (by first | assumption | exact hi _ | exact ha _ _ | (unfold zb; omega)) (fun h i_5 g_5 k_5 hO hfr => ?_)
    have hi := hO.2.2.2.1
    have e_5_5 := k_5 5 (by decide)
    have e_5_33 := k_5 33 (by decide)
    have e_5_34 := k_5 34 (by decide)
    have e_5_41 := k_5 41 (by decide)
    have e_5_42 := k_5 42 (by decide)
    have e_5_43 := k_5 43 (by decide)
    have e_5_44 := k_5 44 (by decide)
    have e_5_45 := k_5 45 (by decide)
    have e_5_46 := k_5 46 (by decide)
    have e_5_47 := k_5 47 (by decide)
    have e_5_48 := k_5 48 (by decide)
    have e_5_51 := k_5 51 (by decide)
    have e_5_52 := k_5 52 (by decide)
    have e_5_25 := k_5 25 (by decide)
    have e_5_32 := k_5 32 (by decide)
    refine v_aload_n hc dX7_begin_33 rfl ?_
    refine z_iconst hc dX7_begin_34 ?_
    refine r_putIf hc ho dX7_begin_35 F_X7_243 hO hfr rfl (by first | assumption | exact hi _ | exact ha _ _ | (unfold zb; omega)) (fun h i_6 g_6 k_6 hO hfr => ?_)
    have hi := hO.2.2.2.1
    have e_6_5 := k_6 5 (by decide)
    have e_6_33 := k_6 33 (by decide)
    have e_6_34 := k_6 34 (by decide)
    have e_6_35 := k_6 35 (by decide)
    have e_6_42 := k_6 42 (by decide)
    have e_6_43 := k_6 43 (by decide)
    have e_6_44 := k_6 44 (by decide)
    have e_6_45 := k_6 45 (by decide)
    have e_6_46 := k_6 46 (by decide)
    have e_6_47 := k_6 47 (by decide)
    have e_6_48 := k_6 48 (by decide)
    have e_6_51 := k_6 51 (by decide)
    have e_6_52 := k_6 52 (by decide)
    have e_6_25 := k_6 25 (by decide)
    have e_6_32 := k_6 32 (by decide)
    refine v_aload_n hc dX7_begin_38 rfl ?_
    refine z_iconst hc dX7_begin_39 ?_
    refine r_putIf hc ho dX7_begin_40 F_X7_246 hO hfr rfl (by first | assumption | exact hi _ | exact ha _ _ | (unfold zb; omega)) (fun h i_7 g_7 k_7 hO hfr => ?_)
    have hi := hO.2.2.2.1
    have e_7_5 := k_7 5 (by decide)
    have e_7_33 := k_7 33 (by decide)
    have e_7_34 := k_7 34 (by decide)
    have e_7_35 := k_7 35 (by decide)
    have e_7_41 := k_7 41 (by decide)
    have e_7_42 := k_7 42 (by decide)
    have e_7_43 := k_7 43 (by decide)
    have e_7_44 := k_7 44 (by decide)
    have e_7_45 := k_7 45 (by decide)
    have e_7_47 := k_7 47 (by decide)
    have e_7_48 := k_7 48 (by decide)
    have e_7_51 := k_7 51 (by decide)
    have e_7_52 := k_7 52 (by decide)
    have e_7_25 := k_7 25 (by decide)
    have e_7_32 := k_7 32 (by decide)
    refine v_aload_n hc dX7_begin_43 rfl ?_
    refine z_iconst hc dX7_begin_44 ?_
    refine r_putIf hc ho dX7_begin_45 F_X7_249 hO hfr rfl (by first | assumption | exact hi _ | exact ha _ _ | (unfold zb; omega)) (fun h i_8 g_8 k_8 hO hfr => ?_)
    have hi := hO.2.2.2.1
    have e_8_5 := k_8 5 (by decide)
    have e_8_33 := k_8 33 (by decide)
    have e_8_34 := k_8 34 (by decide)
    have e_8_35 := k_8 35 (by decide)
    have e_8_41 := k_8 41 (by decide)
    have e_8_42 := k_8 42 (by decide)
    have e_8_43 := k_8 43 (by decide)
    have e_8_44 := k_8 44 (by decide)
    have e_8_45 := k_8 45 (by decide)
    have e_8_46 := k_8 46 (by decide)
    have e_8_48 := k_8 48 (by decide)
    have e_8_51 := k_8 51 (by decide)
    have e_8_52 := k_8 52 (by decide)
    have e_8_25 := k_8 25 (by decide)
    have e_8_32 := k_8 32 (by decide)
    refine v_aload_n hc dX7_begin_48 rfl ?_
    refine z_iconst hc dX7_begin_49 ?_
    refine r_putIf hc ho dX7_begin_50 F_X7_252 hO hfr rfl (by first | assumption | exact hi _ | exact ha _ _ | (unfold zb; omega)) (fun h i_9 g_9 k_9 hO hfr => ?_)
    have hi := hO.2.2.2.1
    have e_9_5 := k_9 5 (by decide)
    have e_9_33 := k_9 33 (by decide)
    have e_9_34 := k_9 34 (by decide)
    have e_9_35 := k_9 35 (by decide)
    have e_9_41 := k_9 41 (by decide)
    have e_9_42 := k_9 42 (by decide)
    have e_9_43 := k_9 43 (by decide)
    have e_9_44 := k_9 44 (by decide)
    have e_9_45 := k_9 45 (by decide)
    have e_9_46 := k_9 46 (by decide)
    have e_9_47 := k_9 47 (by decide)
    have e_9_51 := k_9 51 (by decide)
    have e_9_52 := k_9 52 (by decide)
    have e_9_25 := k_9 25 (by decide)
    have e_9_32 := k_9 32 (by decide)
    refine z_iconst hc dX7_begin_53 ?_
    refine v_istore_n hc dX7_begin_54 (Nat.le_of_ble_eq_true rfl) ?_
    have hck : n_ck i i_9 [32, 33, 34, 35, 41, 46, 47, 48] := fun u hu => by simp only [List.mem_cons, List.not_mem_nil, or_false, not_or] at hu; rw [k_9 u (by omega), k_8 u (by omega), k_7 u (by omega), k_6 u (by omega), k_5 u (by omega), k_4 u (by omega), k_3 u (by omega), k_2 u (by omega)]
    have f32 : i_9 32 = 1 := by rw [k_9 32 (by decide), k_8 32 (by decide), k_7 32 (by decide), k_6 32 (by decide), k_5 32 (by decide), k_4 32 (by decide), k_3 32 (by decide), g_2]
    have f5 := hck 5 (by decide)
    refine l_X7_begin55 M (i := i_9) (a0 := a) (m_P_i hP f5) (by omega) (fun s hs => by rw [f5]; exact hGa.2 s (by omega)) (fun h4 a4 s4 x24 x34 x44 hO hfr hE4 hB4 hs4 => ?_) _ h a _ _ _ _ rfl (by omega) (by omega) hO hfr (fun _ _ _ _ _ _ => rfl) (fun t ht => by omega)
    have hP4 : m_P i_9 a4 := m_P_5 hP f5 hE4
    have hi := hO.2.2.2.1
    have hQ4 : m_Q i_9 a4 := m_QB hP hGa (by omega) f5 hE4 (fun s hs => hB4 s (by omega))
    have hC4 : m_C c i_9 a4 := ⟨by rw [hE4 50 (by decide) (by decide) (by decide) (by decide) (by decide)]; exact hC.1, by rw [hck 51 (by decide)]; exact hC.2.1, by rw [hck 52 (by decide)]; exact hC.2.2⟩
    refine v_aload_n hc dX7_begin_219 rfl ?_
    refine z_iconst hc dX7_begin_220 ?_
    refine v_callV (As := [.int (zI 0)]) hc ho dX7_begin_221 KV_X7_255 KB_X7_beginPiece hO.1 rfl rfl (c_X7_beginPiece _ _ hO (s := 0) (by omega) hP4 hQ4 hC4 hcc) rfl (Nat.le_of_ble_eq_true rfl) ⟨by omega, by omega⟩ ⟨by omega, by omega⟩ (fun r_ h_ sz_ q_ z_ => ?_)
    obtain ⟨e1_, i9, a9, ⟨rfl, hb9⟩, hO9, hfr9⟩ := q_
    have e1_ := e1_.symm
    subst e1_
    refine v_aload_n hc dX7_begin_224 rfl ?_
    refine r_get hc ho dX7_begin_225 F_X7_240 hO9 rfl ?_
    refine z_iret M dX7_begin_228 (by omega) (by omega) ?_
    exact ⟨rfl, i9, a9, Or.inr ⟨by omega, by rw [hb9.2.2.2.2.2.2.1 35 (by decide)]; congr 3; omega, i_9, a4, hck, f32, by omega, by omega, by omega, by omega, by omega, by omega, by omega, hE4, fun s hs => hB4 s (by omega), hb9, hP4, hQ4, hC4⟩, hO9, fun b hb => (hfr9 b hb).trans (hfr b hb)⟩
  · refine z_bipush hc dX7_begin_7 (by decide) ?_
    refine z_iret M dX7_begin_9 (by omega) (by omega) ?_
    exact ⟨rfl, i, a, Or.inl ⟨by omega, rfl, rfl, rfl⟩, hO, hfr⟩
