/-! the law: the night begins -/
theorem y_begin {c : Int} {L n : Nat} {I : Nat → Nat → Int} {A : Nat → Nat → Nat → Int} {nf : Nat} {LN : Nat → Nat} {PI PR PB : Nat → Nat → Int} {hn : Bool} {mf : Nat} {SN : Nat → Nat} {SI SR SB : Nat → Nat → Int} {i i2 s j j1 j2 : Nat → Int} {a a1 a2 : Nat → Nat → Int} (hR : y_R c L n I A nf LN PI PR PB hn mf SN SI SR SB i s j a) (hq : ¬ nf = 0) (h4 : i2 4 = 0) (h5 : i2 5 = 0) (h6 : i2 6 = PB 0 0) (hck : n_ck (fun _ => 0) i2 [4, 5, 6]) (ck1 : n_ck j j1 [32, 33, 34, 35, 41, 46, 47, 48]) (f32 : j1 32 = 1) (f33 : j1 33 = 0) (f34 : j1 34 = 0) (f35 : j1 35 = j 25) (f41 : j1 41 = 0) (f46 : j1 46 = 0) (f47 : j1 47 = 0) (f48 : j1 48 = 0) (hE : m_E5 a a1) (hB : ∀ q : Nat, (q : Int) < j 25 → m_B a a1 q) (hbp : m_bp j1 a1 0 j2 a2) (hP1 : m_P j1 a1) (hQ1 : m_Q j1 a1) : y_R (c + 1) L n (n_pl I (PI 0 1)) A nf LN PI PR PB true nf LN PI PR PB i2 (fun _ => 0) j2 a2 := by
  obtain ⟨h0, hFf, hDd, hKk, hPp, hGg, hNn, hCc⟩ := hR
  obtain ⟨p1, p2, p3, p4, p5⟩ := id hPp
  obtain ⟨g1, g2, g3, g4, g5⟩ := id hGg
  obtain ⟨b42, b43, b44, b45, b51, b52, bck, b50, bq⟩ := id hbp
  have e0 : (0 : Int).toNat = 0 := rfl
  have e16 : (16 * (0 : Int)).toNat = 0 := rfl
  rw [e0, e16] at b45
  rw [e0] at b51 b50
  have hE1 : ∀ k, k ∉ [36, 37, 38, 39, 40, 50] → a1 k = a k := fun k hk => hE k (fun z => hk (by rw [z]; decide)) (fun z => hk (by rw [z]; decide)) (fun z => hk (by rw [z]; decide)) (fun z => hk (by rw [z]; decide)) (fun z => hk (by rw [z]; decide))
  have e50 : a1 50 = a 50 := hE 50 (by decide) (by decide) (by decide) (by decide) (by decide)
  have ea : ∀ k, k ∉ [36, 37, 38, 39, 40, 50] → a2 k = a k := fun k hk => (bq k (fun z => hk (by rw [z]; decide))).trans (hE1 k hk)
  have ej : ∀ k, k ∉ [32, 33, 34, 35, 41, 42, 43, 44, 45, 46, 47, 48, 51, 52] → j2 k = j k := fun k hk => (bck k (fun z => hk (by revert z; simp; omega))).trans (ck1 k (fun z => hk (by revert z; simp; omega)))
  have ez : ∀ k, k ∉ [4, 5, 6] → i2 k = 0 := hck
  have hS1 : y_S nf LN PI PR PB a2 (a2 36) (a2 37) (a2 38) (a2 39) (a2 40) := by
    rw [bq 36 (by decide), bq 37 (by decide), bq 38 (by decide), bq 39 (by decide), bq 40 (by decide)]
    intro q hq2
    obtain ⟨s1, s2, s5, s4, s6, s7, s8, s9⟩ := g3 q hq2
    obtain ⟨m36, m37, m38, m39, m40⟩ := hB q (by omega)
    obtain ⟨u1, u2, u3, u4, u5⟩ := hQ1 q (by omega)
    have s5 : PI q 5 = max 1 (q_hd (a 8 (a 26 q).toNat) (a 9 (a 26 q).toNat) (a 27 q) (a 29 q)) := s5
    rw [← m38] at s5
    refine ⟨s1.trans m36.symm, s2.trans m37.symm, by omega, s4.trans m39.symm, s6, s7, by omega, fun k hk => ?_⟩
    obtain ⟨r1, r2, r3, r4, r5⟩ := s9 k hk
    rw [m40 k (by omega), m36, ea 12 (by decide), ea 13 (by decide), ea 14 (by decide)]
    exact ⟨r1, r2, r3, r4, r5⟩
  obtain ⟨b1, ⟨b2, b7⟩, b3, b4, b5, b6⟩ : y_B n I j1 a1 (n_pl I (PI 0 1)) j2 a2 := by
    refine y_B_pl (mf := nf) (SI := PI) (fun p hp => ?_) (fun q hq2 => ?_) (j := j1) (c := a1) (I := I) ⟨fun _ _ _ => rfl, ⟨fun p hp => ?_, fun _ _ => rfl⟩, fun _ _ => rfl, fun _ _ => rfl, ?_, ?_⟩ ⟨Or.inr ⟨0, by omega, ?_, b50, bq, b51, b52⟩, fun k hk => bck k (fun z => hk (by revert z; simp; omega))⟩
    · rw [hE1 11 (by decide)]; exact (p4 p hp).1.2.2.2.1
    · have h1 := (hQ1 q (by omega)).1
      have h2 := ck1 5 (by decide)
      omega
    · rw [e50]; exact (p4 p hp).1.2.2.2.2.2.1
    · rw [ck1 51 (by decide)]; exact hCc.2.1
    · rw [ck1 52 (by decide)]; exact hCc.2.2
    · rw [(hB 0 (by omega)).1, (g3 0 (by omega)).1]
  have hIt : ∀ t, ¬ (20 ≤ t) → n_pl I (PI 0 1) t = I t := fun t ht => funext fun k => b1 t k (by omega)
  have hIp : ∀ p k : Nat, k ≠ 5 → n_pl I (PI 0 1) (p + 20) k = I (p + 20) k := fun p k hk => b1 _ k (by omega)
  obtain ⟨I2, hI2⟩ : ∃ I2, n_pl I (PI 0 1) = I2 := ⟨_, rfl⟩
  rw [hI2] at b1 b2 b5 b6 hIt hIp ⊢
  obtain ⟨k1, k2, k3, k4, k5⟩ := hKk.cg (hIt 5 (by omega)) rfl (fun k hk => ej k ((by decide : ∀ k ∈ [19, 20], k ∉ [32, 33, 34, 35, 41, 42, 43, 44, 45, 46, 47, 48, 51, 52]) k hk)) (ea 22 (by decide))
  have h35 : j2 35 = nf := by rw [bck 35 (by decide), f35]; omega
  have h5j : j2 5 = j1 5 := bck 5 (by decide)
  have hd11 := hP1.2.2.2.2.2.2.1 (a1 36 0).toNat
  have hC1 := hCc.1
  refine ⟨by omega, hFf.cg (hIt 1 (by omega)) rfl (ej 1 (by decide)) (fun k hk => ea k ((by decide : ∀ k ∈ [2, 3, 4], k ∉ [36, 37, 38, 39, 40, 50]) k hk)), hDd.cg (hIt 0 (by omega)) rfl (fun k hk => ej k ((by decide : ∀ k ∈ [53, 57], k ∉ [32, 33, 34, 35, 41, 42, 43, 44, 45, 46, 47, 48, 51, 52]) k hk)) (fun k hk => ea k ((by decide : ∀ k ∈ [54, 55, 56], k ∉ [36, 37, 38, 39, 40, 50]) k hk)), ⟨k1, k2, k3, by omega, k5⟩, ?_, hGg.cg (fun k hk => ej k ((by decide : ∀ k ∈ [5, 25], k ∉ [32, 33, 34, 35, 41, 42, 43, 44, 45, 46, 47, 48, 51, 52]) k hk)) (fun k hk => ea k ((by decide : ∀ k ∈ [6, 8, 9, 12, 13, 14, 26, 27, 28, 29, 30, 31], k ∉ [36, 37, 38, 39, 40, 50]) k hk)), ?_, ?_, b5, b6⟩
  · refine ⟨p1.trans (ej 5 (by decide)).symm, p2, m_P_cg hP1 h5j (fun k hk => bq k ((by decide : ∀ k ∈ [6, 7, 8, 9, 10, 11, 12, 13, 14, 15, 16], k ≠ 50) k hk)), fun p hp => ⟨?_, q_J_cg (p4 p hp).2 (hIp p)⟩, fun p hp => ?_⟩
    · obtain ⟨u0, u1, u2, u3, u4, u5, u6, u7, u8⟩ := (p4 p hp).1
      unfold y_p
      rw [hIp p 0 (by decide), hIp p 1 (by decide), hIp p 2 (by decide), hIp p 3 (by decide), hIp p 4 (by decide), hIp p 6 (by decide), hIp p 7 (by decide), hIp p 10 (by decide), hIp p 11 (by decide), ea 6 (by decide), ea 7 (by decide), ea 8 (by decide), ea 9 (by decide), ea 10 (by decide), ea 11 (by decide), ea 12 (by decide), ea 13 (by decide), ea 14 (by decide), ea 15 (by decide)]
      exact ⟨u0, u1, u2, u3, u4, b2 p hp, u6, u7, u8⟩
    · exact ⟨(b1 _ _ (by omega)).trans (p5 p hp).1, by rw [ea 12 (by decide)]; exact (p5 p hp).2.1, by rw [b7 p hp, e50]; exact (p5 p hp).2.2⟩
  · have q32 : j2 32 = 1 := (bck 32 (by decide)).trans f32
    have q33 : j2 33 = 0 := (bck 33 (by decide)).trans f33
    have q34 : j2 34 = 0 := (bck 34 (by decide)).trans f34
    have q41 : j2 41 = 0 := (bck 41 (by decide)).trans f41
    have q46 : j2 46 = 0 := (bck 46 (by decide)).trans f46
    have q47 : j2 47 = 0 := (bck 47 (by decide)).trans f47
    have q48 : j2 48 = 0 := (bck 48 (by decide)).trans f48
    have z3 := ez 3 (by decide)
    have z7 := ez 7 (by decide)
    have z8 := ez 8 (by decide)
    have z9 := ez 9 (by decide)
    have z10 := ez 10 (by decide)
    have z11 := ez 11 (by decide)
    have z12 := ez 12 (by decide)
    have hL0 := (hS1 0 (by omega)).2.2.2.2.1
    have hL6 := (hS1 0 (by omega)).2.2.2.2.2.1
    obtain ⟨r1, r2, r3, r4, r5⟩ := (hS1 0 (by omega)).2.2.2.2.2.2.2 0 (by omega)
    have r4 : PB 0 0 = a2 13 (8 * a2 36 0 + a2 40 0).toNat := r4
    rw [bq 13 (by decide), bq 36 (by decide), bq 40 (by decide)] at r4
    have h45 : i2 6 = j2 45 := by rw [h6, r4, b45]
    have hb45 : 1 ≤ j2 45 ∧ j2 45 ≤ 64 := by
      obtain ⟨⟨u1, u1'⟩, u2, u3, u4, u5⟩ := hQ1 0 (by omega)
      have w1 := hP1.2.2.2.2.2.2.2.2.1 (a1 36 0).toNat (a1 40 0).toNat (by have := hP1.1; omega) (by have := u5 0 (by omega); have h7 : 0 ≤ a1 40 0 ∧ a1 40 0 < a1 12 (a1 36 0).toNat := this; omega)
      have w2 := hP1.2.2.2.2.2.2.2.1 (8 * (a1 36 0).toNat + (a1 40 0).toNat)
      have w3 := u5 0 (by omega)
      have w3 : 0 ≤ a1 40 0 ∧ a1 40 0 < a1 12 (a1 36 0).toNat := w3
      have e1 : (8 * a1 36 0 + a1 40 0).toNat = 8 * (a1 36 0).toNat + (a1 40 0).toNat := by omega
      rw [b45, e1]
      exact ⟨w1, w2.2⟩
    refine ⟨⟨fun _ => by omega, fun _ => rfl⟩, by omega, by omega, by omega, by omega, fun _ => ⟨?_, hS1, ?_, ?_, ⟨?_, fun _ => ?_⟩, by omega⟩⟩
    · refine ⟨by omega, by omega, by omega, ?_, fun _ => ?_, by omega, by omega, by omega, by omega, by omega, by omega, fun _ => ⟨Int.le_refl 0, show (0 : Int) ≤ i2 7 by omega⟩⟩
      · rw [z3, e0]; omega
      · unfold n_dn
        rw [z7, h4, Int.sub_zero, Int.zero_mul, Int.zero_ediv]
        omega
    · refine ⟨h35, by omega, by omega, by omega, ?_, by omega, h45, by omega, by omega, by omega, by omega, by omega, by omega, by omega, fun q q1 q2 => by omega⟩
      rw [z3, e0, b44, h5]
      omega
    · unfold m_Q at hQ1 ⊢
      rw [bck 35 (by decide), h5j, bq 36 (by decide), bq 37 (by decide), bq 38 (by decide), bq 39 (by decide), bq 40 (by decide), bq 12 (by decide)]
      exact hQ1
    · refine ⟨by omega, by omega, by omega, by omega, by omega, by omega, by omega, by omega, by omega, by omega, fun q q1 q2 => by omega⟩
    · unfold m_dn
      rw [b43, Int.zero_mul, Int.zero_ediv]
      omega
  · obtain ⟨c1, c2, c3⟩ := hC1
    refine ⟨fun q => ?_, ?_, ?_⟩
    · rw [b50, e50]
      have w1 := c1 q
      by_cases e : q = (a1 36 0).toNat
      · rw [← e, b_up_eq]; omega
      · rw [b_up_ne _ _ e]; omega
    · rw [b51, ck1 51 (by decide)]; omega
    · rw [b52, ck1 52 (by decide)]; omega

set_option maxHeartbeats 4000000 in
theorem law_begin {S : b_S} {b Ls : Nat} {xs : Nat → Int32} (hC : lw_ctx S b Ls xs) {o6 o7 : Nat} {c x : Int} {k m : Nat} {h : b_H} {sz : Nat} (hI : lw_I (s_G S) o6 o7 c k m h sz) (hc5 : c < 512) (hx : 0 ≤ x ∧ x + 5 ≤ Ls) (K : ∀ (k m : Nat) (h : b_H) (sz : Nat), lw_I (s_G S) o6 o7 (c + 1) k m h sz → V S k m h sz 954 [some (.ref b), some (.ref o6), some (.ref o7), some (.int (zI x))] []) : V S k m h sz 685 [some (.ref b), some (.ref o6), some (.ref o7), some (.int (zI x))] [] := by
  obtain ⟨hSX, hSh, hc, ho, hFr, hLo, hCe, hSl, hLs⟩ := hC
  obtain ⟨ad, L, n, I, A, nf, LN, PI, PR, PB, hn, mf, SN, SI, SR, SB, i, s, j, a, hX, hO, hR, hk, hm⟩ := hI
  obtain ⟨hc0, hF, hD, hK, hP, hG, hN, hCc⟩ := id hR
  obtain ⟨fs, h6⟩ := hX.obj
  obtain ⟨hP5, hn12, hmP, hpp, hp0⟩ := id hP
  have hq : ∀ p, p < n → q_J (I (p + 20)) (A (p + 20)) := fun p hp => (hpp p hp).2
  have hL786 := hK.2.2.2.2.1
  obtain ⟨y1, e1, z1⟩ : ∃ y, (xs (x + 1).toNat).toInt = y ∧ zb y := ⟨_, rfl, zb_of _⟩
  obtain ⟨y2, e2, z2⟩ : ∃ y, (xs (x + 2).toNat).toInt = y ∧ zb y := ⟨_, rfl, zb_of _⟩
  obtain ⟨y3, e3, z3⟩ : ∃ y, (xs (x + 3).toNat).toInt = y ∧ zb y := ⟨_, rfl, zb_of _⟩
  obtain ⟨y4, e4, z4⟩ : ∃ y, (xs (x + 4).toNat).toInt = y ∧ zb y := ⟨_, rfl, zb_of _⟩
  have hpb : ∀ p, 0 ≤ I (p + 20) 5 ∧ I (p + 20) 5 ≤ 2000000000 := fun p => by
    by_cases q : p < n
    · have h1 := (hpp p q).1.2.2.2.2.2.1
      have h2 := hCc.1.1 p
      omega
    · rw [(hp0 p (by omega)).1]; omega
  refine v_aload_n hc dL_law_685 rfl ?_
  refine v_callV (As := []) hc ho dL_law_686 KV_L_78 KB_X6_begin h6 rfl rfl (c_X6_begin _ _ hX hpb) rfl (Nat.le_of_ble_eq_true rfl) ⟨by omega, by omega⟩ ⟨by omega, by omega⟩ (fun r6 h6_ s6 q6 z6 => ?_)
  obtain ⟨v6, hv6⟩ : ∃ v : Int32, r6 = some (.int v) := by
    rcases q6 with q | q
    · exact ⟨_, q.2.1⟩
    · exact ⟨_, q.2.1⟩
  subst hv6
  have hp7 : ∀ b, r_own K7 o7 ad b → h6_ b = h b := fun b hb => by
    rcases q6 with q | q
    · rw [q.2.2.1]
    · exact q.2.2.2.1 b hb
  have hO := hO.kept hp7
  replace q6 := y_Hd.mk q6
  refine v_aload_n hc dL_law_689 rfl ?_
  refine v_callV (As := []) hc ho dL_law_690 KV_L_81 KB_X7_begin hO.1 rfl rfl (c_X7_begin _ _ hO hmP hG.2.2.2.1 (c := 601 * c) hCc.1 (by omega)) rfl (Nat.le_of_ble_eq_true rfl) ⟨by omega, by omega⟩ ⟨by omega, by omega⟩ (fun r7 h7_ s7 q7 z7 => ?_)
  obtain ⟨es7, j2, b2, hq7, hO2, hfr7⟩ := q7
  subst es7
  obtain ⟨v7, hv7⟩ : ∃ v : Int32, r7 = some (.int v) := by
    rcases hq7 with q | q
    · exact ⟨_, q.2.1⟩
    · exact ⟨_, q.2.1⟩
  subst hv7
  obtain ⟨hv, hfin⟩ : v6 = v7 ∧ lw_I (s_G S) o6 o7 (c + 1) (k + 2 + 0) (m + 21 + 0) h7_ s7 := by
    have hiff : nf = 0 ↔ j 25 = 0 := by
      have hG1 := hG.1
      clear q6 hq7
      omega
    replace q6 := q6.un
    rcases q6 with ⟨c6, r6, e6, es6, hX2⟩ | ⟨c6, r6, es6, hp7_, i2, w4, w5, w6, wck, hX2⟩ <;> rcases hq7 with ⟨c7, r7, e3, e4⟩ | ⟨c7, r7, i1, a1, ck1, f32, f33, f34, f35, f41, f46, f47, f48, hE5, hB5, hbp, hmP1, hmQ1, hmC1⟩ <;> first | exact absurd (hiff.mpr c7) c6 | exact absurd (hiff.mp c6) c7 | skip
    · have hX3 := hX2.kept7 hfr7
      subst e3 e4
      exact ⟨(Value.int.inj (Option.some.inj r6)).trans (Value.int.inj (Option.some.inj r7)).symm, ⟨ad, L, n, I, A, nf, LN, PI, PR, PB, hn, mf, SN, SI, SR, SB, i, s, _, _, hX3, hO2, hR.mono, by omega, by omega⟩⟩
    · have hX3 := hX2.kept7 hfr7
      exact ⟨(Value.int.inj (Option.some.inj r6)).trans (Eq.trans (by rw [hG.1]) (Value.int.inj (Option.some.inj r7)).symm), ⟨ad, L, n, _, A, nf, LN, PI, PR, PB, true, nf, LN, PI, PR, PB, i2, _, _, _, hX3, hO2, y_begin hR c6 w4 w5 w6 wck ck1 f32 f33 f34 f35 f41 f46 f47 f48 hE5 hB5 hbp hmP1 hmQ1, by omega, by omega⟩⟩
  subst hv
  refine v_icmp_same (tgt := 954) hc dL_law_693 (by decide) ?_
  exact K _ _ _ _ hfin
