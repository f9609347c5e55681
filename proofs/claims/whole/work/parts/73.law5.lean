/-! the law: the night goes on -/
/-- a cover: what lies under it is not looked at -/
def y_Hd (p : Prop) : Prop := p
theorem y_Hd.mk {p : Prop} (q : p) : y_Hd p := q
theorem y_Hd.un {p : Prop} (q : y_Hd p) : p := q
theorem y_reel {c : Int} {L n : Nat} {I : Nat → Nat → Int} {A : Nat → Nat → Nat → Int} {nf : Nat} {LN : Nat → Nat} {PI PR PB : Nat → Nat → Int} {hn : Bool} {mf : Nat} {SN : Nat → Nat} {SI SR SB : Nat → Nat → Int} {i i2 s j : Nat → Int} {a : Nat → Nat → Int} {x : Int} (hR : y_R c L n I A nf LN PI PR PB hn mf SN SI SR SB i s j a) (hq : hn = true) (hx : 0 ≤ x ∧ x ≤ 1) (e12 : i2 12 = x) (hck : n_ck i i2 [12]) (hI : n_I mf SN SI i2 s) : y_R c L n I A nf LN PI PR PB hn mf SN SI SR SB i2 s (b_up j 34 x) a := by
  obtain ⟨h0, hFf, hDd, hKk, hPp, hGg, hNn, hCc⟩ := hR
  have hj : ∀ k, k ≠ 34 → b_up j 34 x k = j k := fun k hk => b_up_ne _ _ hk
  have he : ∀ k, k ≠ 12 → i2 k = i k := fun k hk => hck k (by simpa using hk)
  obtain ⟨n1, n2, n3, n4, n5, n6⟩ := hNn
  obtain ⟨g1, g2, g3, g4, g5, g6⟩ := n6 hq
  obtain ⟨m35, m3, m7, m4, m5, m44, m6, m8, m9, m10, m11, m12, h3, h10, hsq⟩ := g3
  obtain ⟨⟨u1, u2, u3, u4, u5, u6, u7, u8, u9, u10, u11⟩, u12⟩ := g5
  refine ⟨h0, hFf.cg rfl rfl (hj 1 (by decide)) (fun _ _ => rfl), hDd.cg rfl rfl (fun k hk => hj k ((by decide : ∀ k ∈ [53, 57], k ≠ 34) k hk)) (fun _ _ => rfl), hKk.cg rfl rfl (fun k hk => hj k ((by decide : ∀ k ∈ [19, 20], k ≠ 34) k hk)) rfl, hPp.cg (fun _ => rfl) (fun _ => rfl) (hj 5 (by decide)) (m_P_cg hPp.2.2.1 (hj 5 (by decide)) (fun _ _ => rfl)) (fun _ _ => rfl), hGg.cg (fun k hk => hj k ((by decide : ∀ k ∈ [5, 25], k ≠ 34) k hk)) (fun _ _ => rfl), ?_, hCc.cg (fun _ => rfl) (fun k hk => hj k ((by decide : ∀ k ∈ [51, 52], k ≠ 34) k hk)) rfl⟩
  unfold y_Nn
  rw [hj 32 (by decide), hj 48 (by decide), hj 35 (by decide), hj 33 (by decide), b_up_eq]
  refine ⟨n1, n2, n3, hx, n5, fun _ => ⟨hI, g2, ?_, ?_, ?_, ?_⟩⟩
  · unfold y_N
    rw [hj 35 (by decide), hj 42 (by decide), hj 41 (by decide), hj 43 (by decide), hj 44 (by decide), hj 45 (by decide), hj 46 (by decide), hj 47 (by decide), hj 48 (by decide), hj 33 (by decide), b_up_eq, he 3 (by decide), he 7 (by decide), he 4 (by decide), he 5 (by decide), he 6 (by decide), he 8 (by decide), he 9 (by decide), he 10 (by decide), he 11 (by decide)]
    exact ⟨m35, m3, m7, m4, m5, m44, m6, m8, m9, m10, m11, e12, h3, h10, hsq⟩
  · unfold m_Q at g4 ⊢
    rw [hj 35 (by decide), hj 5 (by decide)]
    exact g4
  · unfold m_N m_J m_dn at *
    rw [hj 35 (by decide), hj 42 (by decide), hj 41 (by decide), hj 43 (by decide), hj 44 (by decide), hj 45 (by decide), hj 46 (by decide), hj 47 (by decide), hj 48 (by decide), hj 33 (by decide), b_up_eq]
    exact ⟨⟨u1, u2, u3, u4, u5, u6, u7, u8, u9, by omega, u11⟩, u12⟩
  · rw [he 7 (by decide)]; exact g6
theorem y_seen {c : Int} {L n : Nat} {I : Nat → Nat → Int} {A : Nat → Nat → Nat → Int} {nf : Nat} {LN : Nat → Nat} {PI PR PB : Nat → Nat → Int} {hn : Bool} {mf : Nat} {SN : Nat → Nat} {SI SR SB : Nat → Nat → Int} {i i2 s j j2 : Nat → Int} {a a2 : Nat → Nat → Int} (hR : y_R c L n I A nf LN PI PR PB hn mf SN SI SR SB i s j a) (hq : hn = true) (h10b : i 10 + 1 < mf) (e10 : i2 10 = i 10 + 1) (hck : n_ck i i2 [10]) (hI : n_I mf SN SI i2 (b_up s (i 10 + 1).toNat (i 7))) (e48 : j2 48 = j 48 + 1) (hj : ∀ k, k ≠ 48 → j2 k = j k) (e49 : a2 49 = b_up (a 49) (j 48 + 1).toNat (j 41)) (ha : ∀ k, k ≠ 49 → a2 k = a k) : y_R c L n I A nf LN PI PR PB hn mf SN SI SR SB i2 (b_up s (i 10 + 1).toNat (i 7)) j2 a2 := by
  obtain ⟨h0, hFf, hDd, hKk, hPp, hGg, hNn, hCc⟩ := hR
  have he : ∀ k, k ≠ 10 → i2 k = i k := fun k hk => hck k (by simpa using hk)
  obtain ⟨n1, n2, n3, n4, n5, n6⟩ := hNn
  obtain ⟨g1, g2, g3, g4, g5, g6⟩ := n6 hq
  obtain ⟨m35, m3, m7, m4, m5, m44, m6, m8, m9, m10, m11, m12, h3, h10, hsq⟩ := g3
  obtain ⟨⟨u1, u2, u3, u4, u5, u6, u7, u8, u9, u10, u11⟩, u12⟩ := g5
  refine ⟨h0, hFf.cg rfl rfl (hj 1 (by decide)) (fun k hk => ha k ((by decide : ∀ k ∈ [2, 3, 4], k ≠ 49) k hk)), hDd.cg rfl rfl (fun k hk => hj k ((by decide : ∀ k ∈ [53, 57], k ≠ 48) k hk)) (fun k hk => ha k ((by decide : ∀ k ∈ [54, 55, 56], k ≠ 49) k hk)), hKk.cg rfl rfl (fun k hk => hj k ((by decide : ∀ k ∈ [19, 20], k ≠ 48) k hk)) (ha 22 (by decide)), hPp.cg (fun _ => rfl) (fun _ => rfl) (hj 5 (by decide)) (m_P_cg hPp.2.2.1 (hj 5 (by decide)) (fun k hk => ha k ((by decide : ∀ k ∈ [6, 7, 8, 9, 10, 11, 12, 13, 14, 15, 16], k ≠ 49) k hk))) (fun k hk => ha k ((by decide : ∀ k ∈ [6, 7, 8, 9, 10, 11, 12, 13, 14, 15, 50], k ≠ 49) k hk)), hGg.cg (fun k hk => hj k ((by decide : ∀ k ∈ [5, 25], k ≠ 48) k hk)) (fun k hk => ha k ((by decide : ∀ k ∈ [6, 8, 9, 12, 13, 14, 26, 27, 28, 29, 30, 31], k ≠ 49) k hk)), ?_, hCc.cg (fun _ => rfl) (fun k hk => hj k ((by decide : ∀ k ∈ [51, 52], k ≠ 48) k hk)) (ha 50 (by decide))⟩
  unfold y_Nn
  rw [hj 32 (by decide), e48, hj 35 (by decide), hj 33 (by decide), hj 34 (by decide)]
  refine ⟨n1, by omega, n3, n4, n5, fun _ => ⟨hI, ?_, ?_, ?_, ?_, ?_⟩⟩
  · rw [ha 36 (by decide), ha 37 (by decide), ha 38 (by decide), ha 39 (by decide), ha 40 (by decide)]
    exact y_S_cong g2 ⟨ha 12 (by decide), ha 13 (by decide), ha 14 (by decide)⟩
  · unfold y_N
    rw [hj 35 (by decide), hj 42 (by decide), hj 41 (by decide), hj 43 (by decide), hj 44 (by decide), hj 45 (by decide), hj 46 (by decide), hj 47 (by decide), e48, hj 33 (by decide), hj 34 (by decide), he 3 (by decide), he 7 (by decide), he 4 (by decide), he 5 (by decide), he 6 (by decide), he 8 (by decide), he 9 (by decide), e10, he 11 (by decide), he 12 (by decide), e49]
    refine ⟨m35, m3, m7, m4, m5, m44, m6, m8, m9, by omega, m11, m12, h3, by omega, fun q q1 q2 => ?_⟩
    rw [← m10, ← m7]
    by_cases e : q = (i 10 + 1).toNat
    · rw [e, b_up_eq, b_up_eq]
    · rw [b_up_ne _ _ e, b_up_ne _ _ e]
      exact hsq q q1 (by omega)
  · unfold m_Q at g4 ⊢
    rw [hj 35 (by decide), hj 5 (by decide), ha 36 (by decide), ha 37 (by decide), ha 38 (by decide), ha 39 (by decide), ha 40 (by decide), ha 12 (by decide)]
    exact g4
  · unfold m_N m_J m_dn at *
    rw [hj 35 (by decide), hj 42 (by decide), hj 41 (by decide), hj 43 (by decide), hj 44 (by decide), hj 45 (by decide), hj 46 (by decide), hj 47 (by decide), e48, hj 33 (by decide), hj 34 (by decide), e49, ha 37 (by decide), ha 38 (by decide)]
    refine ⟨⟨u1, u2, u3, u4, u5, u6, u7, by omega, u9, u10, fun q q1 q2 => ?_⟩, u12⟩
    by_cases e : q = (j 48 + 1).toNat
    · rw [e, b_up_eq]; omega
    · rw [b_up_ne _ _ e]
      exact u11 q q1 (by omega)
  · rw [he 7 (by decide)]; exact g6
theorem y_clk {mf : Nat} {SN : Nat → Nat} {SI SB : Nat → Nat → Int} {s : Nat → Int} : ∀ (m : Nat) (I I2 : Nat → Nat → Int) (i i2 : Nat → Int), n_rn mf SN SI SB s m I i I2 i2 → i2 7 ≤ i 7 + m
  | 0, I, I2, i, i2, h => by rw [h.2]; omega
  | m + 1, I, I2, i, i2, h => by
    rcases h with ⟨-, -, e⟩ | ⟨-, I1, i1, ⟨i0, t7, -, ht⟩, h2⟩
    · rw [e]; omega
    · have ih := y_clk m I1 I2 i1 i2 h2
      have e1 : i1 7 = i0 7 := by
        rcases ht with ⟨-, -, e⟩ | ⟨-, ⟨-, -, -, -, -, -, q, -⟩ | ⟨-, -, ⟨-, -, -, q⟩ | ⟨-, -, -, q⟩ | ⟨-, -, -, -, q⟩⟩⟩
        · rw [e]
        · exact q 7 (by decide)
        · exact q 7 (by decide)
        · exact q 7 (by decide)
        · exact q 7 (by decide)
      push_cast
      omega
theorem q_J_cg {i i2 : Nat → Int} {a : Nat → Nat → Int} (h : q_J i a) (he : ∀ k, k ≠ 5 → i2 k = i k) : q_J i2 a := by
  unfold q_J q_I q_D at h ⊢
  rw [he 4 (by decide), he 10 (by decide), he 11 (by decide), he 6 (by decide), he 7 (by decide), he 1 (by decide)]
  exact h
theorem y_go {c : Int} {L n : Nat} {I I2 : Nat → Nat → Int} {A : Nat → Nat → Nat → Int} {nf : Nat} {LN : Nat → Nat} {PI PR PB : Nat → Nat → Int} {hn : Bool} {mf : Nat} {SN : Nat → Nat} {SI SR SB : Nat → Nat → Int} {i i2 s j j2 : Nat → Int} {a a2 : Nat → Nat → Int} {c2 : Int} {m : Nat} (hR : y_R c L n I A nf LN PI PR PB hn mf SN SI SR SB i s j a) (hq : hn = true) (hm : (m : Int) ≤ 600) (hr6 : n_rn mf SN SI SB s m I i I2 i2) (hr7 : m_rn m j a j2 a2) (hI : n_I mf SN SI i2 s) (hc2 : c2 ≤ 601 * c + 600) (hA : m_A c2 j2 a2) : y_R (c + 1) L n I2 A nf LN PI PR PB hn mf SN SI SR SB i2 s j2 a2 ∧ i2 7 = j2 41 := by
  obtain ⟨h0, hFf, hDd, hKk, hPp, hGg, hNn, hCc⟩ := hR
  obtain ⟨n1, n2, n3, n4, n5, n6⟩ := hNn
  obtain ⟨g1, g2, g3, g4, g5, g6⟩ := n6 hq
  have h35 := g3.1
  obtain ⟨p1, p2, p3, p4, p5⟩ := id hPp
  obtain ⟨G1, b1, ⟨b2, b7⟩, b3, b4, b5, b6⟩ := y_run (n := n) (I0 := I) (j0 := j) g2 (fun p hp => (p4 p hp).1.2.2.2.1) (fun q hq2 => by have := (g4 q (by omega)).1; omega) m I I2 i i2 j j2 a a2 g3 ⟨fun _ _ _ => rfl, ⟨fun p hp => (p4 p hp).1.2.2.2.2.2.1, fun _ _ => rfl⟩, fun _ _ => rfl, fun _ _ => rfl, hCc.2.1, hCc.2.2⟩ hr6 hr7
  have hck := y_clk m I I2 i i2 hr6
  obtain ⟨a1, a2_, a3, a4⟩ := hA
  have hIt : ∀ t, ¬ (20 ≤ t) → I2 t = I t := fun t ht => funext fun k => b1 t k (by omega)
  have hIp : ∀ p k : Nat, k ≠ 5 → I2 (p + 20) k = I (p + 20) k := fun p k hk => b1 _ k (by omega)
  obtain ⟨k1, k2, k3, k4, k5⟩ := hKk.cg (hIt 5 (by omega)) rfl (fun k hk => b4 k ((by decide : ∀ k ∈ [19, 20], k ∉ [33, 41, 42, 43, 44, 45, 46, 47, 51, 52]) k hk)) (b3 22 (by decide))
  refine ⟨⟨by omega, hFf.cg (hIt 1 (by omega)) rfl (b4 1 (by decide)) (fun k hk => b3 k ((by decide : ∀ k ∈ [2, 3, 4], k ≠ 50) k hk)), hDd.cg (hIt 0 (by omega)) rfl (fun k hk => b4 k ((by decide : ∀ k ∈ [53, 57], k ∉ [33, 41, 42, 43, 44, 45, 46, 47, 51, 52]) k hk)) (fun k hk => b3 k ((by decide : ∀ k ∈ [54, 55, 56], k ≠ 50) k hk)), ⟨k1, k2, k3, by omega, k5⟩, ?_, hGg.cg (fun k hk => b4 k ((by decide : ∀ k ∈ [5, 25], k ∉ [33, 41, 42, 43, 44, 45, 46, 47, 51, 52]) k hk)) (fun k hk => b3 k ((by decide : ∀ k ∈ [6, 8, 9, 12, 13, 14, 26, 27, 28, 29, 30, 31], k ≠ 50) k hk)), ?_, m_C_mono a4 (by omega), b5, b6⟩, G1.2.2.1⟩
  · refine ⟨p1.trans (b4 5 (by decide)).symm, p2, a1, fun p hp => ⟨?_, q_J_cg (p4 p hp).2 (hIp p)⟩, fun p hp => ?_⟩
    · obtain ⟨u0, u1, u2, u3, u4, u5, u6, u7, u8⟩ := (p4 p hp).1
      unfold y_p
      rw [hIp p 0 (by decide), hIp p 1 (by decide), hIp p 2 (by decide), hIp p 3 (by decide), hIp p 4 (by decide), hIp p 6 (by decide), hIp p 7 (by decide), hIp p 10 (by decide), hIp p 11 (by decide), b3 6 (by decide), b3 7 (by decide), b3 8 (by decide), b3 9 (by decide), b3 10 (by decide), b3 11 (by decide), b3 12 (by decide), b3 13 (by decide), b3 14 (by decide), b3 15 (by decide)]
      exact ⟨u0, u1, u2, u3, u4, b2 p hp, u6, u7, u8⟩
    · exact ⟨(b1 _ _ (by omega)).trans (p5 p hp).1, by rw [b3 12 (by decide)]; exact (p5 p hp).2.1, (b7 p hp).trans (p5 p hp).2.2⟩
  · have j33 := a3.1.2.2.2.2.2.2.2.2.1
    refine ⟨by rw [b4 32 (by decide)]; exact n1, by rw [b4 48 (by decide)]; exact n2, by rw [b4 35 (by decide)]; exact n3, by rw [b4 34 (by decide)]; exact n4, by omega, fun _ => ⟨hI, ?_, G1, a2_, a3, by omega⟩⟩
    rw [b3 36 (by decide), b3 37 (by decide), b3 38 (by decide), b3 39 (by decide), b3 40 (by decide)]
    exact y_S_cong g2 ⟨b3 12 (by decide), b3 13 (by decide), b3 14 (by decide)⟩

set_option maxHeartbeats 4000000 in
theorem law_reel {S : b_S} {b Ls : Nat} {xs : Nat → Int32} (hC : lw_ctx S b Ls xs) {o6 o7 : Nat} {c x : Int} {k m : Nat} {h : b_H} {sz : Nat} (hI : lw_I (s_G S) o6 o7 c k m h sz) (hc5 : c < 512) (hx : 0 ≤ x ∧ x + 5 ≤ Ls) (K : ∀ (k m : Nat) (h : b_H) (sz : Nat), lw_I (s_G S) o6 o7 (c + 1) k m h sz → V S k m h sz 954 [some (.ref b), some (.ref o6), some (.ref o7), some (.int (zI x))] []) : V S k m h sz 734 [some (.ref b), some (.ref o6), some (.ref o7), some (.int (zI x))] [] := by
  obtain ⟨hSX, hSh, hc, ho, hFr, hLo, hCe, hSl, hLs⟩ := hC
  obtain ⟨ad, L, n, I, A, nf, LN, PI, PR, PB, hn, mf, SN, SI, SR, SB, i, s, j, a, hX, hO, hR, hk, hm⟩ := hI
  obtain ⟨hc0, hF, hD, hK, hP, hG, hN, hCc⟩ := id hR
  obtain ⟨fs, h6⟩ := hX.obj
  obtain ⟨hP5, hn12, hmP, hpp, hp0⟩ := id hP
  have hq : ∀ p, p < n → q_J (I (p + 20)) (A (p + 20)) := fun p hp => (hpp p hp).2
  have hL786 := hK.2.2.2.2.1
  obtain ⟨y1, e1, z1⟩ : ∃ y, (xs (x + 1).toNat).toInt = y ∧ zb y := ⟨_, rfl, zb_of _⟩
  obtain ⟨y2, e2, z2⟩ : ∃ y, (xs (x + 2).toNat).toInt = y ∧ zb y := ⟨_, rfl, zb_of _⟩
  obtain ⟨y3, e3, z3⟩ : ∃ y, (xs (x + 3).toNat).toInt = y ∧ zb y := ⟨_, rfl, zb_of _⟩
  obtain ⟨y4, e4, z4⟩ : ∃ y, (xs (x + 4).toNat).toInt = y ∧ zb y := ⟨_, rfl, zb_of _⟩
  refine v_aload_n hc dL_law_734 rfl ?_
  refine v_aload_n hc dL_law_735 rfl ?_
  refine v_iload_n hc dL_law_736 rfl ?_
  refine z_iconst hc dL_law_737 ?_
  refine z_iadd hc dL_law_738 ?_
  refine v_sld hSX hSh hc dL_law_739 (by omega) (by omega) hLs ?_
  rw [e1]
  refine v_callV (As := [.int (zI y1)]) hc ho dL_law_740 KV_L_90 KB_X6_reel h6 rfl rfl (c_X6_reel _ _ hX (fun q => (hN.2.2.2.2.2 q).1) z1) rfl (Nat.le_of_ble_eq_true rfl) ⟨by omega, by omega⟩ ⟨by omega, by omega⟩ (fun r6 h6_ s6 q6 z6 => ?_)
  obtain ⟨es6, hp7, i2, s2, hq6, hX2, hNI2⟩ := q6
  subst es6
  obtain ⟨v6, hv6⟩ : ∃ v : Int32, r6 = some (.int v) := by
    rcases hq6 with q | q | q
    · exact ⟨_, q.2.1⟩
    · exact ⟨_, q.2.2.1⟩
    · exact ⟨_, q.2.2.1⟩
  subst hv6
  have hO := hO.kept hp7
  refine v_aload_n hc dL_law_743 rfl ?_
  refine v_aload_n hc dL_law_744 rfl ?_
  refine v_iload_n hc dL_law_745 rfl ?_
  refine z_iconst hc dL_law_746 ?_
  refine z_iadd hc dL_law_747 ?_
  refine v_sld hSX hSh hc dL_law_748 (by omega) (by omega) hLs ?_
  rw [e1]
  refine v_callV (As := [.int (zI y1)]) hc ho dL_law_749 KV_L_93 KB_X7_reel hO.1 rfl rfl (c_X7_reel _ _ hO hN.2.2.2.1 z1) rfl (Nat.le_of_ble_eq_true rfl) ⟨by omega, by omega⟩ ⟨by omega, by omega⟩ (fun r7 h7_ s7 q7 z7 => ?_)
  obtain ⟨es7, j2, b2, hq7, hO2, hfr7⟩ := q7
  subst es7
  obtain ⟨v7, hv7⟩ : ∃ v : Int32, r7 = some (.int v) := by
    rcases hq7 with q | q | q
    · exact ⟨_, q.2.1⟩
    · exact ⟨_, q.2.2.1⟩
    · exact ⟨_, q.2.2.1⟩
  subst hv7
  have hX3 := hX2.kept7 hfr7
  obtain ⟨hv, hfin⟩ : v6 = v7 ∧ lw_I (s_G S) o6 o7 (c + 1) (k + 0 + 0) (m + 0 + 0) h7_ s7 := by
    rcases hq6 with ⟨c6, r6, e2, e1⟩ | ⟨c6, d6, r6, e2, e1⟩ | ⟨c6, d6, r6, e12, eck, e2⟩ <;> rcases hq7 with ⟨c7, r7, e3, e4⟩ | ⟨c7, d7, r7, e3, e4⟩ | ⟨c7, d7, r7, e3, e4⟩ <;> first | exact absurd c7 c6 | exact absurd c6 c7 | exact absurd (hN.1.mpr d7) d6 | exact absurd d7 (hN.1.mp d6) | skip
    · subst e1 e2 e3 e4
      exact ⟨(Value.int.inj (Option.some.inj r6)).trans (Value.int.inj (Option.some.inj r7)).symm, ⟨ad, L, n, _, A, nf, LN, PI, PR, PB, hn, mf, SN, SI, SR, SB, _, _, _, _, hX3, hO2, hR.mono, by push_cast; omega, by push_cast; omega⟩⟩
    · subst e1 e2 e3 e4
      exact ⟨(Value.int.inj (Option.some.inj r6)).trans (Value.int.inj (Option.some.inj r7)).symm, ⟨ad, L, n, _, A, nf, LN, PI, PR, PB, hn, mf, SN, SI, SR, SB, _, _, _, _, hX3, hO2, hR.mono, by push_cast; omega, by push_cast; omega⟩⟩
    · subst e2 e3 e4
      exact ⟨(Value.int.inj (Option.some.inj r6)).trans (Eq.trans (by rw [(hN.2.2.2.2.2 d6).2.2.1.2.2.2.2.2.2.2.2.2.2.2.1]) (Value.int.inj (Option.some.inj r7)).symm), ⟨ad, L, n, _, A, nf, LN, PI, PR, PB, hn, mf, SN, SI, SR, SB, _, _, _, _, hX3, hO2, y_reel hR.mono d6 c6 e12 eck (hNI2 d6), by push_cast; omega, by push_cast; omega⟩⟩
  subst hv
  refine v_icmp_same (tgt := 954) hc dL_law_752 (by decide) ?_
  exact K _ _ _ _ hfin

set_option maxHeartbeats 4000000 in
theorem law_seen {S : b_S} {b Ls : Nat} {xs : Nat → Int32} (hC : lw_ctx S b Ls xs) {o6 o7 : Nat} {c x : Int} {k m : Nat} {h : b_H} {sz : Nat} (hI : lw_I (s_G S) o6 o7 c k m h sz) (hc5 : c < 512) (hx : 0 ≤ x ∧ x + 5 ≤ Ls) (K : ∀ (k m : Nat) (h : b_H) (sz : Nat), lw_I (s_G S) o6 o7 (c + 1) k m h sz → V S k m h sz 954 [some (.ref b), some (.ref o6), some (.ref o7), some (.int (zI x))] []) : V S k m h sz 721 [some (.ref b), some (.ref o6), some (.ref o7), some (.int (zI x))] [] := by
  obtain ⟨hSX, hSh, hc, ho, hFr, hLo, hCe, hSl, hLs⟩ := hC
  obtain ⟨ad, L, n, I, A, nf, LN, PI, PR, PB, hn, mf, SN, SI, SR, SB, i, s, j, a, hX, hO, hR, hk, hm⟩ := hI
  obtain ⟨hc0, hF, hD, hK, hP, hG, hN, hCc⟩ := id hR
  obtain ⟨fs, h6⟩ := hX.obj
  obtain ⟨hP5, hn12, hmP, hpp, hp0⟩ := id hP
  have hq : ∀ p, p < n → q_J (I (p + 20)) (A (p + 20)) := fun p hp => (hpp p hp).2
  have hL786 := hK.2.2.2.2.1
  obtain ⟨y1, e1, z1⟩ : ∃ y, (xs (x + 1).toNat).toInt = y ∧ zb y := ⟨_, rfl, zb_of _⟩
  obtain ⟨y2, e2, z2⟩ : ∃ y, (xs (x + 2).toNat).toInt = y ∧ zb y := ⟨_, rfl, zb_of _⟩
  obtain ⟨y3, e3, z3⟩ : ∃ y, (xs (x + 3).toNat).toInt = y ∧ zb y := ⟨_, rfl, zb_of _⟩
  obtain ⟨y4, e4, z4⟩ : ∃ y, (xs (x + 4).toNat).toInt = y ∧ zb y := ⟨_, rfl, zb_of _⟩
  refine v_aload_n hc dL_law_721 rfl ?_
  refine v_callV (As := []) hc ho dL_law_722 KV_L_86 KB_X6_seen h6 rfl rfl (c_X6_seen _ _ hX (fun q => (hN.2.2.2.2.2 q).1)) rfl (Nat.le_of_ble_eq_true rfl) ⟨by omega, by omega⟩ ⟨by omega, by omega⟩ (fun r6 h6_ s6 q6 z6 => ?_)
  obtain ⟨es6, hp7, i2, s2, hq6, hX2, hNI2⟩ := q6
  subst es6
  obtain ⟨v6, hv6⟩ : ∃ v : Int32, r6 = some (.int v) := by
    rcases hq6 with q | q
    · exact ⟨_, q.2.1⟩
    · exact ⟨_, q.2.1⟩
  subst hv6
  have hO := hO.kept hp7
  refine v_aload_n hc dL_law_725 rfl ?_
  refine v_callV (As := []) hc ho dL_law_726 KV_L_89 KB_X7_seen hO.1 rfl rfl (c_X7_seen _ _ hO hN.2.1 hN.2.2.1) rfl (Nat.le_of_ble_eq_true rfl) ⟨by omega, by omega⟩ ⟨by omega, by omega⟩ (fun r7 h7_ s7 q7 z7 => ?_)
  obtain ⟨es7, j2, b2, hq7, hO2, hfr7⟩ := q7
  subst es7
  obtain ⟨v7, hv7⟩ : ∃ v : Int32, r7 = some (.int v) := by
    rcases hq7 with q | q
    · exact ⟨_, q.2.1⟩
    · exact ⟨_, q.2.1⟩
  subst hv7
  have hX3 := hX2.kept7 hfr7
  obtain ⟨hv, hfin⟩ : v6 = v7 ∧ lw_I (s_G S) o6 o7 (c + 1) (k + 0 + 0) (m + 0 + 0) h7_ s7 := by
    have hiff : (hn = true ∧ i 11 = 0 ∧ i 12 = 0 ∧ i 10 + 1 < mf) ↔ ¬ (j 32 = 0 ∨ ¬ j 33 = 0 ∨ ¬ j 34 = 0 ∨ j 48 = j 35 - 1) := by
      constructor
      · rintro ⟨q1, q2, q3, q4⟩
        have g3 := (hN.2.2.2.2.2 q1).2.2.1
        have q5 := hN.1.mp q1
        obtain ⟨m35, m3, m7, m4, m5, m44, m6, m8, m9, m10, m11, m12, h3, h10, hsq⟩ := g3
        omega
      · intro q
        have q1 : hn = true := hN.1.mpr (fun z => q (Or.inl z))
        have g3 := (hN.2.2.2.2.2 q1).2.2.1
        obtain ⟨m35, m3, m7, m4, m5, m44, m6, m8, m9, m10, m11, m12, h3, h10, hsq⟩ := g3
        exact ⟨q1, by omega, by omega, by omega⟩
    rcases hq6 with ⟨c6, r6, e2, e1⟩ | ⟨c6, r6, e10, eck, e2⟩ <;> rcases hq7 with ⟨c7, r7, e3, e4⟩ | ⟨c7, r7, e48, ej, e49, ea⟩ <;> first | exact absurd (hiff.mpr c7) c6 | exact absurd c7 (hiff.mp c6) | skip
    · subst e1 e2 e3 e4
      exact ⟨(Value.int.inj (Option.some.inj r6)).trans (Value.int.inj (Option.some.inj r7)).symm, ⟨ad, L, n, _, A, nf, LN, PI, PR, PB, hn, mf, SN, SI, SR, SB, _, _, _, _, hX3, hO2, hR.mono, by push_cast; omega, by push_cast; omega⟩⟩
    · subst e2
      exact ⟨(Value.int.inj (Option.some.inj r6)).trans (Eq.trans (by rw [(hN.2.2.2.2.2 c6.1).2.2.1.2.2.2.2.2.2.2.2.2.1]) (Value.int.inj (Option.some.inj r7)).symm), ⟨ad, L, n, _, A, nf, LN, PI, PR, PB, hn, mf, SN, SI, SR, SB, _, _, _, _, hX3, hO2, y_seen hR.mono c6.1 c6.2.2.2 e10 eck (hNI2 c6.1) e48 ej e49 ea, by push_cast; omega, by push_cast; omega⟩⟩
  subst hv
  refine v_icmp_same (tgt := 954) hc dL_law_729 (by decide) ?_
  exact K _ _ _ _ hfin

set_option maxHeartbeats 4000000 in
theorem law_go {S : b_S} {b Ls : Nat} {xs : Nat → Int32} (hC : lw_ctx S b Ls xs) {o6 o7 : Nat} {c x : Int} {k m : Nat} {h : b_H} {sz : Nat} (hI : lw_I (s_G S) o6 o7 c k m h sz) (hc5 : c < 512) (hx : 0 ≤ x ∧ x + 5 ≤ Ls) (K : ∀ (k m : Nat) (h : b_H) (sz : Nat), lw_I (s_G S) o6 o7 (c + 1) k m h sz → V S k m h sz 954 [some (.ref b), some (.ref o6), some (.ref o7), some (.int (zI x))] []) : V S k m h sz 698 [some (.ref b), some (.ref o6), some (.ref o7), some (.int (zI x))] [] := by
  obtain ⟨hSX, hSh, hc, ho, hFr, hLo, hCe, hSl, hLs⟩ := hC
  obtain ⟨ad, L, n, I, A, nf, LN, PI, PR, PB, hn, mf, SN, SI, SR, SB, i, s, j, a, hX, hO, hR, hk, hm⟩ := hI
  obtain ⟨hc0, hF, hD, hK, hP, hG, hN, hCc⟩ := id hR
  obtain ⟨fs, h6⟩ := hX.obj
  obtain ⟨hP5, hn12, hmP, hpp, hp0⟩ := id hP
  have hq : ∀ p, p < n → q_J (I (p + 20)) (A (p + 20)) := fun p hp => (hpp p hp).2
  have hL786 := hK.2.2.2.2.1
  obtain ⟨y1, e1, z1⟩ : ∃ y, (xs (x + 1).toNat).toInt = y ∧ zb y := ⟨_, rfl, zb_of _⟩
  obtain ⟨y2, e2, z2⟩ : ∃ y, (xs (x + 2).toNat).toInt = y ∧ zb y := ⟨_, rfl, zb_of _⟩
  obtain ⟨y3, e3, z3⟩ : ∃ y, (xs (x + 3).toNat).toInt = y ∧ zb y := ⟨_, rfl, zb_of _⟩
  obtain ⟨y4, e4, z4⟩ : ∃ y, (xs (x + 4).toNat).toInt = y ∧ zb y := ⟨_, rfl, zb_of _⟩
  have hpb : ∀ p, 0 ≤ I (p + 20) 5 ∧ I (p + 20) 5 ≤ 1999999000 := fun p => by
    by_cases q : p < n
    · have h1 := (hpp p q).1.2.2.2.2.2.1
      have h2 := hCc.1.1 p
      omega
    · rw [(hp0 p (by omega)).1]; omega
  have hmA : ¬ j 32 = 0 → m_A (601 * c) j a := fun q => by
    obtain ⟨g1, g2, g3, g4, g5, g6⟩ := hN.2.2.2.2.2 (hN.1.mpr q)
    exact ⟨hmP, g4, g5, hCc.1⟩
  have h41 : ¬ j 32 = 0 → j 41 ≤ 399000 := fun q => by
    obtain ⟨g1, g2, g3, g4, g5, g6⟩ := hN.2.2.2.2.2 (hN.1.mpr q)
    have := g3.2.2.1
    omega
  refine v_aload_n hc dL_law_698 rfl ?_
  refine v_aload_n hc dL_law_699 rfl ?_
  refine v_iload_n hc dL_law_700 rfl ?_
  refine z_iconst hc dL_law_701 ?_
  refine z_iadd hc dL_law_702 ?_
  refine v_sld hSX hSh hc dL_law_703 (by omega) (by omega) hLs ?_
  rw [e1]
  refine v_callV (As := [.int (zI y1)]) hc ho dL_law_704 KV_L_82 KB_X6_go h6 rfl rfl (c_X6_go _ _ hX (fun q => (hN.2.2.2.2.2 q).1) z1 (fun q => by have := (hN.2.2.2.2.2 q).2.2.2.2.2; omega) hpb) rfl (Nat.le_of_ble_eq_true rfl) ⟨by omega, by omega⟩ ⟨by omega, by omega⟩ (fun r6 h6_ s6 q6 z6 => ?_)
  obtain ⟨es6, hp7, I2, i2, hq6, hX2, hNI2⟩ := q6
  subst es6
  obtain ⟨v6, hv6⟩ : ∃ v : Int32, r6 = some (.int v) := by
    rcases hq6 with q | q | q
    · exact ⟨_, q.2.1⟩
    · exact ⟨_, q.2.2.1⟩
    · exact ⟨_, q.2.2.2⟩
  subst hv6
  have hO := hO.kept hp7
  refine v_aload_n hc dL_law_707 rfl ?_
  refine v_aload_n hc dL_law_708 rfl ?_
  refine v_iload_n hc dL_law_709 rfl ?_
  refine z_iconst hc dL_law_710 ?_
  refine z_iadd hc dL_law_711 ?_
  refine v_sld hSX hSh hc dL_law_712 (by omega) (by omega) hLs ?_
  rw [e1]
  refine v_callV (As := [.int (zI y1)]) hc ho dL_law_713 KV_L_85 KB_X7_go hO.1 rfl rfl (c_X7_go _ _ hO z1 (c := 601 * c) (fun q => hmA q) (fun q => (h41 q)) (by omega) (by omega)) rfl (Nat.le_of_ble_eq_true rfl) ⟨by omega, by omega⟩ ⟨by omega, by omega⟩ (fun r7 h7_ s7 q7 z7 => ?_)
  obtain ⟨es7, j2, b2, hq7, hO2, hfr7⟩ := q7
  subst es7
  obtain ⟨v7, hv7⟩ : ∃ v : Int32, r7 = some (.int v) := by
    rcases hq7 with q | q | q
    · exact ⟨_, q.2.1⟩
    · exact ⟨_, q.2.2.1⟩
    · exact ⟨_, q.2.2.2.1⟩
  subst hv7
  have hX3 := hX2.kept7 hfr7
  obtain ⟨hv, hfin⟩ : v6 = v7 ∧ lw_I (s_G S) o6 o7 (c + 1) (k + 0 + 0) (m + 0 + 0) h7_ s7 := by
    have hiff : (hn = true ∧ i 11 = 0) ↔ (¬ j 32 = 0 ∧ j 33 = 0) := by
      clear hq6 hq7
      constructor
      · rintro ⟨q1, q2⟩
        have g3 := (hN.2.2.2.2.2 q1).2.2.1.2.2.2.2.2.2.2.2.2.2.1
        exact ⟨hN.1.mp q1, by omega⟩
      · rintro ⟨q1, q2⟩
        have g3 := (hN.2.2.2.2.2 (hN.1.mpr q1)).2.2.1.2.2.2.2.2.2.2.2.2.2.1
        exact ⟨hN.1.mpr q1, by omega⟩
    rcases hq6 with ⟨c6, r6, e2, e1⟩ | ⟨c6, d6, r6, e2, e1⟩ | ⟨c6, d6, n6, r6⟩ <;> rcases hq7 with ⟨c7, r7, e3, e4⟩ | ⟨c7, d7, r7, e3, e4⟩ | ⟨c7, d7, n7, r7, cc2, hcc2, hA2⟩ <;> first | exact absurd c7 c6 | exact absurd c6 c7 | exact absurd (hiff.mpr d7) d6 | exact absurd (hiff.mp d6) d7 | skip
    · subst e1 e2 e3 e4
      exact ⟨(Value.int.inj (Option.some.inj r6)).trans (Value.int.inj (Option.some.inj r7)).symm, ⟨ad, L, n, _, A, nf, LN, PI, PR, PB, hn, mf, SN, SI, SR, SB, _, _, _, _, hX3, hO2, hR.mono, by push_cast; omega, by push_cast; omega⟩⟩
    · subst e1 e2 e3 e4
      exact ⟨(Value.int.inj (Option.some.inj r6)).trans (Value.int.inj (Option.some.inj r7)).symm, ⟨ad, L, n, _, A, nf, LN, PI, PR, PB, hn, mf, SN, SI, SR, SB, _, _, _, _, hX3, hO2, hR.mono, by push_cast; omega, by push_cast; omega⟩⟩
    · obtain ⟨w1, w2⟩ := y_go hR d6.1 (by omega) n6 n7 (hNI2 d6.1) hcc2 hA2
      exact ⟨(Value.int.inj (Option.some.inj r6)).trans (Eq.trans (by rw [w2]) (Value.int.inj (Option.some.inj r7)).symm), ⟨ad, L, n, _, A, nf, LN, PI, PR, PB, hn, mf, SN, SI, SR, SB, _, _, _, _, hX3, hO2, w1, by push_cast; omega, by push_cast; omega⟩⟩
  subst hv
  refine v_icmp_same (tgt := 954) hc dL_law_716 (by decide) ?_
  exact K _ _ _ _ hfin
