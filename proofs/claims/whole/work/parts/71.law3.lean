/-! the law: the calls that change film, drummer, rules -/
set_option maxHeartbeats 4000000 in
theorem law_effect {S : b_S} {b Ls : Nat} {xs : Nat → Int32} (hC : lw_ctx S b Ls xs) {o6 o7 : Nat} {c x : Int} {k m : Nat} {h : b_H} {sz : Nat} (hI : lw_I (s_G S) o6 o7 c k m h sz) (hc5 : c < 512) (hx : 0 ≤ x ∧ x + 5 ≤ Ls) (K : ∀ (k m : Nat) (h : b_H) (sz : Nat), lw_I (s_G S) o6 o7 (c + 1) k m h sz → V S k m h sz 954 [some (.ref b), some (.ref o6), some (.ref o7), some (.int (zI x))] []) : V S k m h sz 816 [some (.ref b), some (.ref o6), some (.ref o7), some (.int (zI x))] [] := by
  obtain ⟨hSX, hSh, hc, ho, hFr, hLo, hCe, hSl, hLs⟩ := hC
  obtain ⟨ad, L, n, I, A, nf, LN, PI, PR, PB, hn, mf, SN, SI, SR, SB, i, s, j, a, hX, hO, hR, hk, hm⟩ := hI
  obtain ⟨hc0, hF, hD, hK, hP, hG, hN, hCc⟩ := id hR
  obtain ⟨fs, h6⟩ := hX.obj
  obtain ⟨hP5, hn12, hmP, hpp, hp0⟩ := id hP
  have hq : ∀ p, p < n → q_J (I (p + 20)) (A (p + 20)) := fun p hp => (hpp p hp).2
  have hL786 := hK.2.2.2.2.1
  obtain ⟨y1, e1, z1⟩ : ∃ y, (xs (x + 1).toNat).toInt = y ∧ zb y := ⟨_, rfl, zb_of _⟩
  obtain ⟨y2, e2, z2⟩ : ∃ y, (xs (x + 2).toNat).toInt = y ∧ zb y := ⟨_, rfl, zb_of _⟩
  obtain ⟨y3, e3, z3⟩ : ∃ y, (xs (x + 3).toNat).toInt = y ∧ zb y := ⟨_, rfl, zb_of _⟩
  obtain ⟨y4, e4, z4⟩ : ∃ y, (xs (x + 4).toNat).toInt = y ∧ zb y := ⟨_, rfl, zb_of _⟩
  refine v_aload_n hc dL_law_816 rfl ?_
  refine v_aload_n hc dL_law_817 rfl ?_
  refine v_iload_n hc dL_law_818 rfl ?_
  refine z_iconst hc dL_law_819 ?_
  refine z_iadd hc dL_law_820 ?_
  refine v_sld hSX hSh hc dL_law_821 (by omega) (by omega) hLs ?_
  rw [e1]
  refine v_aload_n hc dL_law_822 rfl ?_
  refine v_iload_n hc dL_law_823 rfl ?_
  refine z_iconst hc dL_law_824 ?_
  refine z_iadd hc dL_law_825 ?_
  refine v_sld hSX hSh hc dL_law_826 (by omega) (by omega) hLs ?_
  rw [e2]
  refine v_aload_n hc dL_law_827 rfl ?_
  refine v_iload_n hc dL_law_828 rfl ?_
  refine z_iconst hc dL_law_829 ?_
  refine z_iadd hc dL_law_830 ?_
  refine v_sld hSX hSh hc dL_law_831 (by omega) (by omega) hLs ?_
  rw [e3]
  refine v_callV (As := [.int (zI y1), .int (zI y2), .int (zI y3)]) hc ho dL_law_832 KV_L_106 KB_X6_effect h6 rfl rfl (c_X6_effect _ _ hX hD.2.1 z1 z2 z3) rfl (Nat.le_of_ble_eq_true rfl) ⟨by omega, by omega⟩ ⟨by omega, by omega⟩ (fun r6 h6_ s6 q6 z6 => ?_)
  obtain ⟨es6, hp7, i2, a2, hq6, hX2⟩ := q6
  subst es6
  obtain ⟨v6, hv6⟩ : ∃ v : Int32, r6 = some (.int v) := by
    rcases hq6 with q | ⟨-, q | q⟩
    · exact ⟨_, q.2.1⟩
    · exact ⟨_, q.2.1⟩
    · exact ⟨_, q.2.1⟩
  subst hv6
  have hO := hO.kept hp7
  refine v_aload_n hc dL_law_835 rfl ?_
  refine v_aload_n hc dL_law_836 rfl ?_
  refine v_iload_n hc dL_law_837 rfl ?_
  refine z_iconst hc dL_law_838 ?_
  refine z_iadd hc dL_law_839 ?_
  refine v_sld hSX hSh hc dL_law_840 (by omega) (by omega) hLs ?_
  rw [e1]
  refine v_aload_n hc dL_law_841 rfl ?_
  refine v_iload_n hc dL_law_842 rfl ?_
  refine z_iconst hc dL_law_843 ?_
  refine z_iadd hc dL_law_844 ?_
  refine v_sld hSX hSh hc dL_law_845 (by omega) (by omega) hLs ?_
  rw [e2]
  refine v_aload_n hc dL_law_846 rfl ?_
  refine v_iload_n hc dL_law_847 rfl ?_
  refine z_iconst hc dL_law_848 ?_
  refine z_iadd hc dL_law_849 ?_
  refine v_sld hSX hSh hc dL_law_850 (by omega) (by omega) hLs ?_
  rw [e3]
  refine v_callV (As := [.int (zI y1), .int (zI y2), .int (zI y3)]) hc ho dL_law_851 KV_L_109 KB_X7_effect hO.1 rfl rfl (c_X7_effect _ _ hO hD.2.2 z1 z2 z3) rfl (Nat.le_of_ble_eq_true rfl) ⟨by omega, by omega⟩ ⟨by omega, by omega⟩ (fun r7 h7_ s7 q7 z7 => ?_)
  obtain ⟨es7, j2, b2, hq7, hO2, hfr7⟩ := q7
  subst es7
  obtain ⟨v7, hv7⟩ : ∃ v : Int32, r7 = some (.int v) := by
    rcases hq7 with q | q | q
    · exact ⟨_, q.2.1⟩
    · exact ⟨_, q.2.2.1⟩
    · exact ⟨_, q.2.2.1⟩
  subst hv7
  have hX3 := hX2.kept7 hfr7
  obtain ⟨hv, hfin⟩ : v6 = v7 ∧ lw_I (s_G S) o6 o7 (c + 1) (k + 0 + 0) (m + 0 + 0) h7_ s7 := by
    have hcnt := hD.1.2.2.2.1
    rcases hq6 with ⟨c6, r6, e1, e2⟩ | ⟨c6, ⟨d6, r6, e1, e2⟩ | ⟨d6, r6, e1, e2⟩⟩ <;> rcases hq7 with ⟨c7, r7, e3, e4⟩ | ⟨c7, d7, r7, e3, e4⟩ | ⟨c7, d7, r7, e3, e4⟩ <;> first | exact absurd c7 c6 | exact absurd c6 c7 | omega | skip
    · subst e1 e2 e3 e4
      exact ⟨(Value.int.inj (Option.some.inj r6)).trans (Value.int.inj (Option.some.inj r7)).symm, ⟨ad, L, n, I, A, nf, LN, PI, PR, PB, hn, mf, SN, SI, SR, SB, i, s, _, _, by rw [b_up_self, b_up_self] at hX3; exact hX3, hO2, hR.mono, by push_cast; omega, by push_cast; omega⟩⟩
    · subst e1 e2 e3 e4
      exact ⟨(Value.int.inj (Option.some.inj r6)).trans (Value.int.inj (Option.some.inj r7)).symm, ⟨ad, L, n, I, A, nf, LN, PI, PR, PB, hn, mf, SN, SI, SR, SB, i, s, _, _, by rw [b_up_self, b_up_self] at hX3; exact hX3, hO2, hR.mono, by push_cast; omega, by push_cast; omega⟩⟩
    · subst e1 e2 e3 e4
      refine ⟨(Value.int.inj (Option.some.inj r6)).trans (Eq.trans (by rw [hcnt]) (Value.int.inj (Option.some.inj r7)).symm), ⟨ad, L, n, _, _, nf, LN, PI, PR, PB, hn, mf, SN, SI, SR, SB, i, s, _, _, hX3, hO2, ?_, by push_cast; omega, by push_cast; omega⟩⟩
      exact y_effect hR.mono c6 d6
  subst hv
  refine v_icmp_same (tgt := 954) hc dL_law_854 (by decide) ?_
  exact K _ _ _ _ hfin

set_option maxHeartbeats 4000000 in
theorem law_shot {S : b_S} {b Ls : Nat} {xs : Nat → Int32} (hC : lw_ctx S b Ls xs) {o6 o7 : Nat} {c x : Int} {k m : Nat} {h : b_H} {sz : Nat} (hI : lw_I (s_G S) o6 o7 c k m h sz) (hc5 : c < 512) (hx : 0 ≤ x ∧ x + 5 ≤ Ls) (K : ∀ (k m : Nat) (h : b_H) (sz : Nat), lw_I (s_G S) o6 o7 (c + 1) k m h sz → V S k m h sz 954 [some (.ref b), some (.ref o6), some (.ref o7), some (.int (zI x))] []) : V S k m h sz 160 [some (.ref b), some (.ref o6), some (.ref o7), some (.int (zI x))] [] := by
  obtain ⟨hSX, hSh, hc, ho, hFr, hLo, hCe, hSl, hLs⟩ := hC
  obtain ⟨ad, L, n, I, A, nf, LN, PI, PR, PB, hn, mf, SN, SI, SR, SB, i, s, j, a, hX, hO, hR, hk, hm⟩ := hI
  obtain ⟨hc0, hF, hD, hK, hP, hG, hN, hCc⟩ := id hR
  obtain ⟨fs, h6⟩ := hX.obj
  obtain ⟨hP5, hn12, hmP, hpp, hp0⟩ := id hP
  have hq : ∀ p, p < n → q_J (I (p + 20)) (A (p + 20)) := fun p hp => (hpp p hp).2
  have hL786 := hK.2.2.2.2.1
  obtain ⟨y1, e1, z1⟩ : ∃ y, (xs (x + 1).toNat).toInt = y ∧ zb y := ⟨_, rfl, zb_of _⟩
  obtain ⟨y2, e2, z2⟩ : ∃ y, (xs (x + 2).toNat).toInt = y ∧ zb y := ⟨_, rfl, zb_of _⟩
  obtain ⟨y3, e3, z3⟩ : ∃ y, (xs (x + 3).toNat).toInt = y ∧ zb y := ⟨_, rfl, zb_of _⟩
  obtain ⟨y4, e4, z4⟩ : ∃ y, (xs (x + 4).toNat).toInt = y ∧ zb y := ⟨_, rfl, zb_of _⟩
  refine v_aload_n hc dL_law_160 rfl ?_
  refine v_aload_n hc dL_law_161 rfl ?_
  refine v_iload_n hc dL_law_162 rfl ?_
  refine z_iconst hc dL_law_163 ?_
  refine z_iadd hc dL_law_164 ?_
  refine v_sld hSX hSh hc dL_law_165 (by omega) (by omega) hLs ?_
  rw [e1]
  refine v_aload_n hc dL_law_166 rfl ?_
  refine v_iload_n hc dL_law_167 rfl ?_
  refine z_iconst hc dL_law_168 ?_
  refine z_iadd hc dL_law_169 ?_
  refine v_sld hSX hSh hc dL_law_170 (by omega) (by omega) hLs ?_
  rw [e2]
  refine v_callV (As := [.int (zI y1), .int (zI y2)]) hc ho dL_law_171 KV_L_13 KB_X6_shot h6 rfl rfl (c_X6_shot _ _ hX hF.2.1 z1 z2) rfl (Nat.le_of_ble_eq_true rfl) ⟨by omega, by omega⟩ ⟨by omega, by omega⟩ (fun r6 h6_ s6 q6 z6 => ?_)
  obtain ⟨es6, hp7, i2, a2, hq6, hX2⟩ := q6
  subst es6
  obtain ⟨v6, hv6⟩ : ∃ v : Int32, r6 = some (.int v) := by
    rcases hq6 with q | ⟨-, q | q⟩
    · exact ⟨_, q.2.1⟩
    · exact ⟨_, q.2.1⟩
    · exact ⟨_, q.2.1⟩
  subst hv6
  have hO := hO.kept hp7
  refine v_aload_n hc dL_law_174 rfl ?_
  refine v_aload_n hc dL_law_175 rfl ?_
  refine v_iload_n hc dL_law_176 rfl ?_
  refine z_iconst hc dL_law_177 ?_
  refine z_iadd hc dL_law_178 ?_
  refine v_sld hSX hSh hc dL_law_179 (by omega) (by omega) hLs ?_
  rw [e1]
  refine v_aload_n hc dL_law_180 rfl ?_
  refine v_iload_n hc dL_law_181 rfl ?_
  refine z_iconst hc dL_law_182 ?_
  refine z_iadd hc dL_law_183 ?_
  refine v_sld hSX hSh hc dL_law_184 (by omega) (by omega) hLs ?_
  rw [e2]
  refine v_callV (As := [.int (zI y1), .int (zI y2)]) hc ho dL_law_185 KV_L_17 KB_X7_shot hO.1 rfl rfl (c_X7_shot _ _ hO hF.2.2 z1 z2) rfl (Nat.le_of_ble_eq_true rfl) ⟨by omega, by omega⟩ ⟨by omega, by omega⟩ (fun r7 h7_ s7 q7 z7 => ?_)
  obtain ⟨es7, j2, b2, hq7, hO2, hfr7⟩ := q7
  subst es7
  obtain ⟨v7, hv7⟩ : ∃ v : Int32, r7 = some (.int v) := by
    rcases hq7 with q | q | q
    · exact ⟨_, q.2.1⟩
    · exact ⟨_, q.2.2.1⟩
    · exact ⟨_, q.2.2.1⟩
  subst hv7
  have hX3 := hX2.kept7 hfr7
  obtain ⟨hv, hfin⟩ : v6 = v7 ∧ lw_I (s_G S) o6 o7 (c + 1) (k + 0 + 0) (m + 0 + 0) h7_ s7 := by
    have hcnt := hF.1.2.2.2
    rcases hq6 with ⟨c6, r6, e1, e2⟩ | ⟨c6, ⟨d6, r6, e1, e2⟩ | ⟨d6, r6, e1, e2⟩⟩ <;> rcases hq7 with ⟨c7, r7, e3, e4⟩ | ⟨c7, d7, r7, e3, e4⟩ | ⟨c7, d7, r7, e3, e4⟩ <;> first | exact absurd c7 c6 | exact absurd c6 c7 | omega | skip
    · subst e1 e2 e3 e4
      exact ⟨(Value.int.inj (Option.some.inj r6)).trans (Value.int.inj (Option.some.inj r7)).symm, ⟨ad, L, n, I, A, nf, LN, PI, PR, PB, hn, mf, SN, SI, SR, SB, i, s, _, _, by rw [b_up_self, b_up_self] at hX3; exact hX3, hO2, hR.mono, by push_cast; omega, by push_cast; omega⟩⟩
    · subst e1 e2 e3 e4
      exact ⟨(Value.int.inj (Option.some.inj r6)).trans (Value.int.inj (Option.some.inj r7)).symm, ⟨ad, L, n, I, A, nf, LN, PI, PR, PB, hn, mf, SN, SI, SR, SB, i, s, _, _, by rw [b_up_self, b_up_self] at hX3; exact hX3, hO2, hR.mono, by push_cast; omega, by push_cast; omega⟩⟩
    · subst e1 e2 e3 e4
      refine ⟨(Value.int.inj (Option.some.inj r6)).trans (Eq.trans (by rw [hcnt]) (Value.int.inj (Option.some.inj r7)).symm), ⟨ad, L, n, _, _, nf, LN, PI, PR, PB, hn, mf, SN, SI, SR, SB, i, s, _, _, hX3, hO2, ?_, by push_cast; omega, by push_cast; omega⟩⟩
      exact y_shot hR.mono c6 d6
  subst hv
  refine v_icmp_same (tgt := 954) hc dL_law_188 (by decide) ?_
  exact K _ _ _ _ hfin

set_option maxHeartbeats 4000000 in
theorem law_cue {S : b_S} {b Ls : Nat} {xs : Nat → Int32} (hC : lw_ctx S b Ls xs) {o6 o7 : Nat} {c x : Int} {k m : Nat} {h : b_H} {sz : Nat} (hI : lw_I (s_G S) o6 o7 c k m h sz) (hc5 : c < 512) (hx : 0 ≤ x ∧ x + 5 ≤ Ls) (K : ∀ (k m : Nat) (h : b_H) (sz : Nat), lw_I (s_G S) o6 o7 (c + 1) k m h sz → V S k m h sz 954 [some (.ref b), some (.ref o6), some (.ref o7), some (.int (zI x))] []) : V S k m h sz 193 [some (.ref b), some (.ref o6), some (.ref o7), some (.int (zI x))] [] := by
  obtain ⟨hSX, hSh, hc, ho, hFr, hLo, hCe, hSl, hLs⟩ := hC
  obtain ⟨ad, L, n, I, A, nf, LN, PI, PR, PB, hn, mf, SN, SI, SR, SB, i, s, j, a, hX, hO, hR, hk, hm⟩ := hI
  obtain ⟨hc0, hF, hD, hK, hP, hG, hN, hCc⟩ := id hR
  obtain ⟨fs, h6⟩ := hX.obj
  obtain ⟨hP5, hn12, hmP, hpp, hp0⟩ := id hP
  have hq : ∀ p, p < n → q_J (I (p + 20)) (A (p + 20)) := fun p hp => (hpp p hp).2
  have hL786 := hK.2.2.2.2.1
  obtain ⟨y1, e1, z1⟩ : ∃ y, (xs (x + 1).toNat).toInt = y ∧ zb y := ⟨_, rfl, zb_of _⟩
  obtain ⟨y2, e2, z2⟩ : ∃ y, (xs (x + 2).toNat).toInt = y ∧ zb y := ⟨_, rfl, zb_of _⟩
  obtain ⟨y3, e3, z3⟩ : ∃ y, (xs (x + 3).toNat).toInt = y ∧ zb y := ⟨_, rfl, zb_of _⟩
  obtain ⟨y4, e4, z4⟩ : ∃ y, (xs (x + 4).toNat).toInt = y ∧ zb y := ⟨_, rfl, zb_of _⟩
  refine v_aload_n hc dL_law_193 rfl ?_
  refine v_aload_n hc dL_law_194 rfl ?_
  refine v_iload_n hc dL_law_195 rfl ?_
  refine z_iconst hc dL_law_196 ?_
  refine z_iadd hc dL_law_197 ?_
  refine v_sld hSX hSh hc dL_law_198 (by omega) (by omega) hLs ?_
  rw [e1]
  refine v_aload_n hc dL_law_199 rfl ?_
  refine v_iload_n hc dL_law_200 rfl ?_
  refine z_iconst hc dL_law_201 ?_
  refine z_iadd hc dL_law_202 ?_
  refine v_sld hSX hSh hc dL_law_203 (by omega) (by omega) hLs ?_
  rw [e2]
  refine v_callV (As := [.int (zI y1), .int (zI y2)]) hc ho dL_law_204 KV_L_18 KB_X6_cue h6 rfl rfl (c_X6_cue _ _ hX hF.2.1 z1 z2) rfl (Nat.le_of_ble_eq_true rfl) ⟨by omega, by omega⟩ ⟨by omega, by omega⟩ (fun r6 h6_ s6 q6 z6 => ?_)
  obtain ⟨es6, hp7, i2, a2, hq6, hX2⟩ := q6
  subst es6
  obtain ⟨v6, hv6⟩ : ∃ v : Int32, r6 = some (.int v) := by
    rcases hq6 with q | q
    · exact ⟨_, q.2.1⟩
    · exact ⟨_, q.2.1⟩
  subst hv6
  have hO := hO.kept hp7
  refine v_aload_n hc dL_law_207 rfl ?_
  refine v_aload_n hc dL_law_208 rfl ?_
  refine v_iload_n hc dL_law_209 rfl ?_
  refine z_iconst hc dL_law_210 ?_
  refine z_iadd hc dL_law_211 ?_
  refine v_sld hSX hSh hc dL_law_212 (by omega) (by omega) hLs ?_
  rw [e1]
  refine v_aload_n hc dL_law_213 rfl ?_
  refine v_iload_n hc dL_law_214 rfl ?_
  refine z_iconst hc dL_law_215 ?_
  refine z_iadd hc dL_law_216 ?_
  refine v_sld hSX hSh hc dL_law_217 (by omega) (by omega) hLs ?_
  rw [e2]
  refine v_callV (As := [.int (zI y1), .int (zI y2)]) hc ho dL_law_218 KV_L_21 KB_X7_cue hO.1 rfl rfl (c_X7_cue _ _ hO hF.2.2 z1 z2) rfl (Nat.le_of_ble_eq_true rfl) ⟨by omega, by omega⟩ ⟨by omega, by omega⟩ (fun r7 h7_ s7 q7 z7 => ?_)
  obtain ⟨es7, j2, b2, hq7, hO2, hfr7⟩ := q7
  subst es7
  obtain ⟨v7, hv7⟩ : ∃ v : Int32, r7 = some (.int v) := by
    rcases hq7 with q | q
    · exact ⟨_, q.2.1⟩
    · exact ⟨_, q.2.1⟩
  subst hv7
  have hX3 := hX2.kept7 hfr7
  obtain ⟨hv, hfin⟩ : v6 = v7 ∧ lw_I (s_G S) o6 o7 (c + 1) (k + 0 + 0) (m + 0 + 0) h7_ s7 := by
    have hcnt := hF.1.2.2.2
    rcases hq6 with ⟨c6, r6, e1, e2⟩ | ⟨c6, r6, e1, e2⟩ <;> rcases hq7 with ⟨c7, r7, e3, e4⟩ | ⟨c7, r7, e3, e4⟩ <;> first | exact absurd c7 c6 | exact absurd c6 c7 | omega | skip
    · subst e1 e2 e3 e4
      exact ⟨(Value.int.inj (Option.some.inj r6)).trans (Value.int.inj (Option.some.inj r7)).symm, ⟨ad, L, n, I, A, nf, LN, PI, PR, PB, hn, mf, SN, SI, SR, SB, i, s, _, _, by rw [b_up_self, b_up_self] at hX3; exact hX3, hO2, hR.mono, by push_cast; omega, by push_cast; omega⟩⟩
    · subst e1 e2 e3 e4
      refine ⟨(Value.int.inj (Option.some.inj r6)).trans (Eq.trans (by rw [hF.1.2.2.1]) (Value.int.inj (Option.some.inj r7)).symm), ⟨ad, L, n, _, _, nf, LN, PI, PR, PB, hn, mf, SN, SI, SR, SB, i, s, _, _, hX3, hO2, ?_, by push_cast; omega, by push_cast; omega⟩⟩
      exact y_cue hR.mono
  subst hv
  refine v_icmp_same (tgt := 954) hc dL_law_221 (by decide) ?_
  exact K _ _ _ _ hfin

set_option maxHeartbeats 4000000 in
theorem law_hands {S : b_S} {b Ls : Nat} {xs : Nat → Int32} (hC : lw_ctx S b Ls xs) {o6 o7 : Nat} {c x : Int} {k m : Nat} {h : b_H} {sz : Nat} (hI : lw_I (s_G S) o6 o7 c k m h sz) (hc5 : c < 512) (hx : 0 ≤ x ∧ x + 5 ≤ Ls) (K : ∀ (k m : Nat) (h : b_H) (sz : Nat), lw_I (s_G S) o6 o7 (c + 1) k m h sz → V S k m h sz 954 [some (.ref b), some (.ref o6), some (.ref o7), some (.int (zI x))] []) : V S k m h sz 859 [some (.ref b), some (.ref o6), some (.ref o7), some (.int (zI x))] [] := by
  obtain ⟨hSX, hSh, hc, ho, hFr, hLo, hCe, hSl, hLs⟩ := hC
  obtain ⟨ad, L, n, I, A, nf, LN, PI, PR, PB, hn, mf, SN, SI, SR, SB, i, s, j, a, hX, hO, hR, hk, hm⟩ := hI
  obtain ⟨hc0, hF, hD, hK, hP, hG, hN, hCc⟩ := id hR
  obtain ⟨fs, h6⟩ := hX.obj
  obtain ⟨hP5, hn12, hmP, hpp, hp0⟩ := id hP
  have hq : ∀ p, p < n → q_J (I (p + 20)) (A (p + 20)) := fun p hp => (hpp p hp).2
  have hL786 := hK.2.2.2.2.1
  obtain ⟨y1, e1, z1⟩ : ∃ y, (xs (x + 1).toNat).toInt = y ∧ zb y := ⟨_, rfl, zb_of _⟩
  obtain ⟨y2, e2, z2⟩ : ∃ y, (xs (x + 2).toNat).toInt = y ∧ zb y := ⟨_, rfl, zb_of _⟩
  obtain ⟨y3, e3, z3⟩ : ∃ y, (xs (x + 3).toNat).toInt = y ∧ zb y := ⟨_, rfl, zb_of _⟩
  obtain ⟨y4, e4, z4⟩ : ∃ y, (xs (x + 4).toNat).toInt = y ∧ zb y := ⟨_, rfl, zb_of _⟩
  refine v_aload_n hc dL_law_859 rfl ?_
  refine v_aload_n hc dL_law_860 rfl ?_
  refine v_iload_n hc dL_law_861 rfl ?_
  refine z_iconst hc dL_law_862 ?_
  refine z_iadd hc dL_law_863 ?_
  refine v_sld hSX hSh hc dL_law_864 (by omega) (by omega) hLs ?_
  rw [e1]
  refine v_callV (As := [.int (zI y1)]) hc ho dL_law_865 KV_L_110 KB_X6_hands h6 rfl rfl (c_X6_hands _ _ hX hD.2.1 z1) rfl (Nat.le_of_ble_eq_true rfl) ⟨by omega, by omega⟩ ⟨by omega, by omega⟩ (fun r6 h6_ s6 q6 z6 => ?_)
  obtain ⟨es6, hp7, i2, a2, hq6, hX2⟩ := q6
  subst es6
  obtain ⟨v6, hv6⟩ : ∃ v : Int32, r6 = some (.int v) := by
    rcases hq6 with q | q
    · exact ⟨_, q.2.1⟩
    · exact ⟨_, q.2.1⟩
  subst hv6
  have hO := hO.kept hp7
  refine v_aload_n hc dL_law_868 rfl ?_
  refine v_aload_n hc dL_law_869 rfl ?_
  refine v_iload_n hc dL_law_870 rfl ?_
  refine z_iconst hc dL_law_871 ?_
  refine z_iadd hc dL_law_872 ?_
  refine v_sld hSX hSh hc dL_law_873 (by omega) (by omega) hLs ?_
  rw [e1]
  refine v_callV (As := [.int (zI y1)]) hc ho dL_law_874 KV_L_113 KB_X7_hands hO.1 rfl rfl (c_X7_hands _ _ hO hD.2.2 z1) rfl (Nat.le_of_ble_eq_true rfl) ⟨by omega, by omega⟩ ⟨by omega, by omega⟩ (fun r7 h7_ s7 q7 z7 => ?_)
  obtain ⟨es7, j2, b2, hq7, hO2, hfr7⟩ := q7
  subst es7
  obtain ⟨v7, hv7⟩ : ∃ v : Int32, r7 = some (.int v) := by
    rcases hq7 with q | q
    · exact ⟨_, q.2.1⟩
    · exact ⟨_, q.2.1⟩
  subst hv7
  have hX3 := hX2.kept7 hfr7
  obtain ⟨hv, hfin⟩ : v6 = v7 ∧ lw_I (s_G S) o6 o7 (c + 1) (k + 0 + 0) (m + 0 + 0) h7_ s7 := by
    have hcnt := hD.1.2.2.2.2
    rcases hq6 with ⟨c6, r6, e1, e2⟩ | ⟨c6, r6, e1, e2⟩ <;> rcases hq7 with ⟨c7, r7, e3, e4⟩ | ⟨c7, r7, e3, e4⟩ <;> first | exact absurd c7 c6 | exact absurd c6 c7 | omega | skip
    · subst e1 e2 e3 e4
      exact ⟨(Value.int.inj (Option.some.inj r6)).trans (Value.int.inj (Option.some.inj r7)).symm, ⟨ad, L, n, I, A, nf, LN, PI, PR, PB, hn, mf, SN, SI, SR, SB, i, s, _, _, by rw [b_up_self, b_up_self] at hX3; exact hX3, hO2, hR.mono, by push_cast; omega, by push_cast; omega⟩⟩
    · subst e1 e2 e3 e4
      refine ⟨(Value.int.inj (Option.some.inj r6)).trans (Eq.trans (by rw [hcnt]) (Value.int.inj (Option.some.inj r7)).symm), ⟨ad, L, n, _, _, nf, LN, PI, PR, PB, hn, mf, SN, SI, SR, SB, i, s, _, _, hX3, hO2, ?_, by push_cast; omega, by push_cast; omega⟩⟩
      exact y_hands hR.mono c6
  subst hv
  refine v_icmp_same (tgt := 954) hc dL_law_877 (by decide) ?_
  exact K _ _ _ _ hfin

set_option maxHeartbeats 4000000 in
theorem law_rule {S : b_S} {b Ls : Nat} {xs : Nat → Int32} (hC : lw_ctx S b Ls xs) {o6 o7 : Nat} {c x : Int} {k m : Nat} {h : b_H} {sz : Nat} (hI : lw_I (s_G S) o6 o7 c k m h sz) (hc5 : c < 512) (hx : 0 ≤ x ∧ x + 5 ≤ Ls) (K : ∀ (k m : Nat) (h : b_H) (sz : Nat), lw_I (s_G S) o6 o7 (c + 1) k m h sz → V S k m h sz 954 [some (.ref b), some (.ref o6), some (.ref o7), some (.int (zI x))] []) : V S k m h sz 596 [some (.ref b), some (.ref o6), some (.ref o7), some (.int (zI x))] [] := by
  obtain ⟨hSX, hSh, hc, ho, hFr, hLo, hCe, hSl, hLs⟩ := hC
  obtain ⟨ad, L, n, I, A, nf, LN, PI, PR, PB, hn, mf, SN, SI, SR, SB, i, s, j, a, hX, hO, hR, hk, hm⟩ := hI
  obtain ⟨hc0, hF, hD, hK, hP, hG, hN, hCc⟩ := id hR
  obtain ⟨fs, h6⟩ := hX.obj
  obtain ⟨hP5, hn12, hmP, hpp, hp0⟩ := id hP
  have hq : ∀ p, p < n → q_J (I (p + 20)) (A (p + 20)) := fun p hp => (hpp p hp).2
  have hL786 := hK.2.2.2.2.1
  obtain ⟨y1, e1, z1⟩ : ∃ y, (xs (x + 1).toNat).toInt = y ∧ zb y := ⟨_, rfl, zb_of _⟩
  obtain ⟨y2, e2, z2⟩ : ∃ y, (xs (x + 2).toNat).toInt = y ∧ zb y := ⟨_, rfl, zb_of _⟩
  obtain ⟨y3, e3, z3⟩ : ∃ y, (xs (x + 3).toNat).toInt = y ∧ zb y := ⟨_, rfl, zb_of _⟩
  obtain ⟨y4, e4, z4⟩ : ∃ y, (xs (x + 4).toNat).toInt = y ∧ zb y := ⟨_, rfl, zb_of _⟩
  refine v_aload_n hc dL_law_596 rfl ?_
  refine v_aload_n hc dL_law_597 rfl ?_
  refine v_iload_n hc dL_law_598 rfl ?_
  refine z_iconst hc dL_law_599 ?_
  refine z_iadd hc dL_law_600 ?_
  refine v_sld hSX hSh hc dL_law_601 (by omega) (by omega) hLs ?_
  rw [e1]
  refine v_aload_n hc dL_law_602 rfl ?_
  refine v_iload_n hc dL_law_603 rfl ?_
  refine z_iconst hc dL_law_604 ?_
  refine z_iadd hc dL_law_605 ?_
  refine v_sld hSX hSh hc dL_law_606 (by omega) (by omega) hLs ?_
  rw [e2]
  refine v_callV (As := [.int (zI y1), .int (zI y2)]) hc ho dL_law_607 KV_L_65 KB_X6_rule h6 rfl rfl (c_X6_rule _ _ hX z1 z2) rfl (Nat.le_of_ble_eq_true rfl) ⟨by omega, by omega⟩ ⟨by omega, by omega⟩ (fun r6 h6_ s6 q6 z6 => ?_)
  obtain ⟨es6, hp7, i2, a2, hq6, hX2⟩ := q6
  subst es6
  obtain ⟨v6, hv6⟩ : ∃ v : Int32, r6 = some (.int v) := by
    rcases hq6 with q | q | q
    · exact ⟨_, q.2.1⟩
    · exact ⟨_, q.2.2.1⟩
    · exact ⟨_, q.2.2.1⟩
  subst hv6
  have hO := hO.kept hp7
  refine v_aload_n hc dL_law_610 rfl ?_
  refine v_aload_n hc dL_law_611 rfl ?_
  refine v_iload_n hc dL_law_612 rfl ?_
  refine z_iconst hc dL_law_613 ?_
  refine z_iadd hc dL_law_614 ?_
  refine v_sld hSX hSh hc dL_law_615 (by omega) (by omega) hLs ?_
  rw [e1]
  refine v_aload_n hc dL_law_616 rfl ?_
  refine v_iload_n hc dL_law_617 rfl ?_
  refine z_iconst hc dL_law_618 ?_
  refine z_iadd hc dL_law_619 ?_
  refine v_sld hSX hSh hc dL_law_620 (by omega) (by omega) hLs ?_
  rw [e2]
  refine v_callV (As := [.int (zI y1), .int (zI y2)]) hc ho dL_law_621 KV_L_68 KB_X7_rule hO.1 rfl rfl (c_X7_rule _ _ hO hK.2.1 z1 z2) rfl (Nat.le_of_ble_eq_true rfl) ⟨by omega, by omega⟩ ⟨by omega, by omega⟩ (fun r7 h7_ s7 q7 z7 => ?_)
  obtain ⟨es7, j2, b2, hq7, hO2, hfr7⟩ := q7
  subst es7
  obtain ⟨v7, hv7⟩ : ∃ v : Int32, r7 = some (.int v) := by
    rcases hq7 with q | q | q
    · exact ⟨_, q.2.1⟩
    · exact ⟨_, q.2.2.1⟩
    · exact ⟨_, q.2.2.1⟩
  subst hv7
  have hX3 := hX2.kept7 hfr7
  obtain ⟨hv, hfin⟩ : v6 = v7 ∧ lw_I (s_G S) o6 o7 (c + 1) (k + 0 + 0) (m + 0 + 0) h7_ s7 := by
    skip
    rcases hq6 with ⟨c6, r6, e1, e2⟩ | ⟨d6, c6, r6, e1, e2⟩ | ⟨d6, c6, r6, e1, e2⟩ <;> rcases hq7 with ⟨c7, r7, e3, e4⟩ | ⟨d7, c7, r7, e3, e4⟩ | ⟨d7, c7, r7, e3, e4⟩ <;> first | exact absurd c7 c6 | exact absurd c6 c7 | omega | skip
    · subst e1 e2 e3 e4
      exact ⟨(Value.int.inj (Option.some.inj r6)).trans (Value.int.inj (Option.some.inj r7)).symm, ⟨ad, L, n, I, A, nf, LN, PI, PR, PB, hn, mf, SN, SI, SR, SB, i, s, _, _, by rw [b_up_self, b_up_self] at hX3; exact hX3, hO2, hR.mono, by push_cast; omega, by push_cast; omega⟩⟩
    · subst e1 e2 e3 e4
      refine ⟨(Value.int.inj (Option.some.inj r6)).trans (Eq.trans (by rw [hK.1.1]) (Value.int.inj (Option.some.inj r7)).symm), ⟨ad, L, n, _, _, nf, LN, PI, PR, PB, hn, mf, SN, SI, SR, SB, i, s, _, _, hX3, hO2, ?_, by push_cast; omega, by push_cast; omega⟩⟩
      exact y_rule0 hR.mono c6
    · subst e1 e2 e3 e4
      refine ⟨(Value.int.inj (Option.some.inj r6)).trans (Eq.trans (by rw [hK.1.2]) (Value.int.inj (Option.some.inj r7)).symm), ⟨ad, L, n, _, _, nf, LN, PI, PR, PB, hn, mf, SN, SI, SR, SB, i, s, _, _, hX3, hO2, ?_, by push_cast; omega, by push_cast; omega⟩⟩
      exact y_rule1 hR.mono c6
  subst hv
  refine v_icmp_same (tgt := 954) hc dL_law_624 (by decide) ?_
  exact K _ _ _ _ hfin
