/-! the law: the programme -/
theorem y_fT {I : Nat → Nat → Int} {A : Nat → Nat → Nat → Int} {j : Nat → Int} {a : Nat → Nat → Int} (hFf : y_Ff I A j a) (v : Int) (s : Nat) : f_T (A 1) (I 1 3).toNat v s = m_T j a v s := by
  obtain ⟨⟨f1, f2, f3, f4⟩, -⟩ := hFf
  unfold f_T m_T
  rw [f1, f3, f4]
theorem y_fbe {n : Nat} {I : Nat → Nat → Int} {A : Nat → Nat → Nat → Int} {j : Nat → Int} {a : Nat → Nat → Int} (hFf : y_Ff I A j a) (hPp : y_Pp n I A j a) (v : Int) {s p : Nat} (hp : p < n) : c_fb I A (f_m (A 1) (I 1 3).toNat s) (f_T (A 1) (I 1 3).toNat v s) p = m_fb j a v s p := by
  rw [y_fT hFf]
  obtain ⟨⟨f1, f2, f3, f4⟩, -, m1, m2, m3, m4⟩ := hFf
  obtain ⟨pp, pJ⟩ := hPp.2.2.2.1 p hp
  have hmP := hPp.2.2.1
  have h5 := hPp.1
  have hb3 := m4 (f_F (a 4) (j 1).toNat (s : Int))
  have hb9 := hmP.2.2.1 p (by omega)
  have hM : f_m (A 1) (I 1 3).toNat s = a 3 (f_F (a 4) (j 1).toNat (s : Int)) := by
    unfold f_m
    rw [f2, f3, f4]
  have pp2 : y_p (I (p + 20)) (A (p + 20)) a ((p : Int)).toNat := by rw [Int.toNat_natCast]; exact pp
  obtain ⟨u0, u1, u2, u3, u4, u5, u6, u7, u8⟩ := pp
  rw [hM]
  unfold c_fb m_fb
  rw [u1]
  by_cases z : a 7 p / 2 ^ (a 3 (f_F (a 4) (j 1).toNat (s : Int))).toNat % 2 = 1
  · rw [if_pos z, if_pos ⟨hb3, z⟩]
    refine y_bt 400 (fun b q1 q2 => ?_) (fun b q1 q2 => ?_)
    · have h1 := y_hw pJ pp2 hmP.2.2.2.2.2.2.2.2.2.1 (b := (b : Int)) (by omega) (by omega)
      rw [Int.toNat_natCast] at h1
      exact h1.symm
    · show q_ms _ _ b _ = p_mf _ _ _
      rw [u6, u7, p_mf_ms (by omega) (by omega) (by omega)]
  · rw [if_neg z, if_neg (fun q => z q.2)]
theorem y_fme {n : Nat} {I : Nat → Nat → Int} {A : Nat → Nat → Nat → Int} {j : Nat → Int} {a : Nat → Nat → Int} (hFf : y_Ff I A j a) (hPp : y_Pp n I A j a) (v : Int) {s p : Nat} (hp : p < n) : c_fm I A (f_m (A 1) (I 1 3).toNat s) (f_T (A 1) (I 1 3).toNat v s) p = if m_fb j a v s p < 0 then -2 else m_fm j a v s p := by
  unfold c_fm m_fm
  rw [y_fbe hFf hPp v hp, y_fT hFf]
  obtain ⟨pp, pJ⟩ := hPp.2.2.2.1 p hp
  have h5 := hPp.1
  have hb9 := hPp.2.2.1.2.2.1 p (by omega)
  obtain ⟨u0, u1, u2, u3, u4, u5, u6, u7, u8⟩ := pp
  have hb := m_fb_bd j a v s p
  obtain ⟨b, eb⟩ : ∃ b, m_fb j a v s p = b := ⟨_, rfl⟩
  rw [eb] at hb ⊢
  rcases hb with e | e
  · rw [if_pos e, if_pos (by omega)]
  · rw [if_neg (by omega), if_neg (by omega), if_neg (by omega), u6, u7, p_mf_ms (by omega) (by omega) (by omega)]
theorem y_pick {n : Nat} {I : Nat → Nat → Int} {A : Nat → Nat → Nat → Int} {j : Nat → Int} {a : Nat → Nat → Int} {c : Int} {L L2 : Nat} (hFf : y_Ff I A j a) (hPp : y_Pp n I A j a) (hKk : y_Kk c L I A j a) {v : Int} {St : Nat} (hSt : St ≤ 8) {kI : Nat → Int} {kA : Nat → Nat → Int} (hcR : c_R I A v St n (I 5) kI kA) (hcI : c_I L2 kI kA) {a1 : Nat → Nat → Int} (hE : m_E3 a a1) (hft : ∀ t p : Nat, t < St → (p : Int) < j 5 → m_ft j a a1 v t p) : (c_L St n (c_ms kA) (c_jn kA) (kA 8) St 0 (-1) = 1048575 → ∀ q, ¬ z_v St (j 5).toNat (m_zf a1) (m_zt a1) (m_zj j a1) q) ∧ (¬ c_L St n (c_ms kA) (c_jn kA) (kA 8) St 0 (-1) = 1048575 → z_b St (j 5).toNat (m_zf a1) (m_zt a1) (m_zj j a1) (c_cx St n (c_ms kA) (c_jn kA) (kA 8)) ∧ z_c (m_zf a1) (m_zj j a1) (c_cx St n (c_ms kA) (c_jn kA) (kA 8)) St = c_L St n (c_ms kA) (c_jn kA) (kA 8) St 0 (-1)) := by
  obtain ⟨r0, r1, r2, r3, r9, r10, r11, r4, r6, r7, r8⟩ := hcR
  have h5 := hPp.1
  have hn5 : (j 5).toNat = n := by omega
  have hn12 := hPp.2.1
  rw [hn5]
  have up : ∀ p, p < n → I (p + 20) 0 = a 6 p ∧ I (p + 20) 2 = a 10 p := fun p hp => ⟨(hPp.2.2.2.1 p hp).1.1, (hPp.2.2.2.1 p hp).1.2.2.1⟩
  have h1 : ∀ s p, s < St → p < n → c_ms kA s p = m_zf a1 s p := fun s p hs hp => by
    obtain ⟨t1, t2⟩ := hft s p hs (by omega)
    show kA 6 (s * 12 + p) = if a1 21 (12 * s + p) < 0 then -2 else a1 22 (12 * s + p)
    rw [(r6 s p hs hp).2, y_fme hFf hPp v hp, t1, t2]
  have h2 : ∀ p, p < n → decide (¬ I (p + 20) 2 = 0) = m_zt a1 p := fun p hp => by
    show _ = decide (¬ a1 10 p = 0)
    rw [hE 10 (by decide) (by decide) (by decide), (up p hp).2]
  have h3 : ∀ p q : Nat, p < n → q < n → c_jn kA (p : Int) q = m_zj j a1 p q := fun p q hp hq => by
    show (if (p : Int) < 0 then 0 else kA 7 ((p : Int).toNat * 12 + q)) = _
    rw [if_neg (by omega), Int.toNat_natCast, r7 p q hp hq]
    unfold c_jc m_zj
    rw [hE 6 (by decide) (by decide) (by decide), hKk.1.1, hKk.1.2, (up p hp).1, (up q hq).1]
    by_cases z : j 20 < p_st (a 6 p) (a 6 q)
    · rw [if_pos z, if_neg (by omega)]
    · rw [if_neg z, if_pos (by omega), Int.mul_comm]
  obtain ⟨A1, A2⟩ := y_prog (St := St) (n := n) (ms := c_ms kA) (jn := c_jn kA) (bt := kA 8) (us := c_uz I A v St) (th := fun p => decide (¬ I (p + 20) 2 = 0)) hn12 hSt (fun s p => (hcI.2.2.1 _).2) (fun l p => by
    show 0 ≤ (if l < 0 then 0 else kA 7 (l.toNat * 12 + p)) ∧ _
    have h7 := hcI.2.2.2.1 (l.toNat * 12 + p)
    unfold c_jn
    by_cases z : l < 0
    · rw [if_pos z]; exact ⟨by omega, Or.inl (by omega)⟩
    · rw [if_neg z]; exact h7) (fun p => if_pos (by omega)) r8 (fun p hp hu => by
    unfold c_uz at hu
    rw [Bool.and_eq_true, decide_eq_true_eq] at hu
    exact decide_eq_false (fun z => z hu.1)) (fun s p hs hp h0 hth => by
    unfold c_uz
    rw [Bool.and_eq_true, decide_eq_true_eq, w_an_iff]
    have hth2 := of_decide_eq_false hth
    refine ⟨Decidable.byContradiction hth2, s, hs, ?_⟩
    rw [decide_eq_true_eq]
    intro z
    have h6 : kA 6 (s * 12 + p) = -2 := by
      rw [(r6 s p hs hp).2]
      unfold c_fm
      rw [if_pos z]
    have h0' : 0 ≤ kA 6 (s * 12 + p) := h0
    omega)
  refine ⟨fun e q hv => A1 e q (y_zv_cong (fun s p hs hp => (h1 s p hs hp).symm) (fun p hp => (h2 p hp).symm) (fun p q hp hq => (h3 p q hp hq).symm) hv).1, fun e => ?_⟩
  obtain ⟨B1, B2⟩ := A2 e
  exact ⟨y_zb_cong h1 h2 h3 B1, by rw [← (y_zv_cong h1 h2 h3 B1.1).2]; exact B2⟩
theorem y_Kk.new {n : Nat} {I : Nat → Nat → Int} {A : Nat → Nat → Nat → Int} {j : Nat → Int} {a : Nat → Nat → Int} {j2 : Nat → Int} {a2 : Nat → Nat → Int} {c : Int} {L L2 : Nat} (hKk : y_Kk c L I A j a) (hc5 : c < 512) {v : Int} {St : Nat} {kI : Nat → Int} {kA : Nat → Nat → Int} (hcR : c_R I A v St n (I 5) kI kA) (hcI : c_I L2 kI kA) (hL2 : L2 ≤ 786432) (e19 : j2 19 = j 19) (e20 : j2 20 = j 20) (h22 : ∀ q, 0 ≤ a2 22 q ∧ a2 22 q ≤ 100000) : y_Kk (c + 1) L2 (b_up I 5 kI) (b_up A 5 kA) j2 a2 := by
  obtain ⟨r0, r1, r2, r3, r9, r10, r11, -⟩ := hcR
  obtain ⟨⟨k1, k2⟩, k3, k4, k5, k6, k7⟩ := hKk
  obtain ⟨t0, t1, t11, -⟩ := k4
  obtain ⟨i1, i2, i3, i4, i5, i6, i7, i8, i9, i10⟩ := hcI
  unfold y_Kk m_R c_T
  rw [b_up_eq, b_up_eq, e19, e20]
  refine ⟨⟨by omega, by omega⟩, k3, ⟨by omega, by omega, by omega, i3, i4, i9, i10⟩, by omega, hL2, h22⟩
theorem y_prg {c : Int} {L n : Nat} {I : Nat → Nat → Int} {A : Nat → Nat → Nat → Int} {nf : Nat} {LN : Nat → Nat} {PI PR PB : Nat → Nat → Int} {hn : Bool} {mf : Nat} {SN : Nat → Nat} {SI SR SB : Nat → Nat → Int} {i s j j2 : Nat → Int} {a a2 : Nat → Nat → Int} {L2 : Nat} {kI : Nat → Int} {kA : Nat → Nat → Int} {nf2 : Nat} {LN2 : Nat → Nat} {PI2 PR2 PB2 : Nat → Nat → Int} (hR : y_R c L n I A nf LN PI PR PB hn mf SN SI SR SB i s j a) (hK2 : y_Kk (c + 1) L2 (b_up I 5 kI) (b_up A 5 kA) j2 a2) (hG2 : y_Gg nf2 LN2 PI2 PR2 PB2 j2 a2) (hP2 : m_P j2 a2) (ej : ∀ k, k ∉ [18, 25] → j2 k = j k) (ea : ∀ k, k ∉ [16, 17, 21, 22, 23, 24, 26, 27, 28, 29, 30, 31] → a2 k = a k) : y_R (c + 1) L2 n (b_up I 5 kI) (b_up A 5 kA) nf2 LN2 PI2 PR2 PB2 hn mf SN SI SR SB i s j2 a2 := by
  obtain ⟨h0, hFf, hDd, -, hPp, hGg, hNn, hCc⟩ := hR.mono
  exact ⟨h0, hFf.cg (b_up_ne _ _ (by decide)) (b_up_ne _ _ (by decide)) (ej 1 (by decide)) (fun k hk => ea k ((by decide : ∀ k ∈ [2, 3, 4], k ∉ [16, 17, 21, 22, 23, 24, 26, 27, 28, 29, 30, 31]) k hk)), hDd.cg (b_up_ne _ _ (by decide)) (b_up_ne _ _ (by decide)) (fun k hk => ej k ((by decide : ∀ k ∈ [53, 57], k ∉ [18, 25]) k hk)) (fun k hk => ea k ((by decide : ∀ k ∈ [54, 55, 56], k ∉ [16, 17, 21, 22, 23, 24, 26, 27, 28, 29, 30, 31]) k hk)), hK2, hPp.cg (fun p => b_up_ne _ _ (by omega)) (fun p => b_up_ne _ _ (by omega)) (ej 5 (by decide)) hP2 (fun k hk => ea k ((by decide : ∀ k ∈ [6, 7, 8, 9, 10, 11, 12, 13, 14, 15, 50], k ∉ [16, 17, 21, 22, 23, 24, 26, 27, 28, 29, 30, 31]) k hk)), hG2, hNn.cg (fun k hk => ej k ((by decide : ∀ k ∈ [5, 32, 33, 34, 35, 41, 42, 43, 44, 45, 46, 47, 48], k ∉ [18, 25]) k hk)) (fun k hk => ea k ((by decide : ∀ k ∈ [12, 13, 14, 36, 37, 38, 39, 40, 49], k ∉ [16, 17, 21, 22, 23, 24, 26, 27, 28, 29, 30, 31]) k hk)), hCc.cg (fun p => b_up_ne _ _ (by omega)) (fun k hk => ej k ((by decide : ∀ k ∈ [51, 52], k ∉ [18, 25]) k hk)) (ea 50 (by decide))⟩
theorem p_st_self (x : Int) : p_st x x = 0 := by
  unfold p_st
  rw [Int.sub_self]
  decide
theorem y_Ggn {n : Nat} {I : Nat → Nat → Int} {A : Nat → Nat → Nat → Int} {j : Nat → Int} {a : Nat → Nat → Int} {j2 : Nat → Int} {a2 : Nat → Nat → Int} (hFf : y_Ff I A j a) (hPp : y_Pp n I A j a) {v : Int} (hv : 12 ≤ v) {St : Nat} (hSt8 : St ≤ 8) {kI : Nat → Int} {kA : Nat → Nat → Int} (hcR : c_R I A v St n (I 5) kI kA) {X g : Nat → Nat} (hXn : ∀ s, s < St → X s < n) (hXb : ∀ s, s < St → 1 ≤ m_fb j a v s (X s)) (hXg : ∀ s, s < St → X s = g s) (h25 : j2 25 = (St : Int)) (h5j : j2 5 = j 5) (ea : ∀ k, k ∉ [16, 17, 21, 22, 23, 24, 26, 27, 28, 29, 30, 31] → a2 k = a k) (hrow : ∀ s : Nat, s < St → a2 26 s = (g s : Int) ∧ a2 27 s = m_fb j a v s (g s) ∧ a2 28 s = m_fm j a v s (g s) ∧ a2 29 s = m_T j a v s ∧ m_gw a a2 (g s) (m_fb j a v s (g s)) s) {PR2 PB2 : Nat → Nat → Int} (hPRB : ∀ s, s < St → (∀ k, k < q_ln (A (X s + 20)) (kA 5 (s * 12 + X s)) → PR2 s k = q_rx (I (X s + 20) 4).toNat (A (X s + 20) 8) (A (X s + 20) 9) (A (X s + 20) 12) (I (X s + 20) 10) (kA 5 (s * 12 + X s)) k) ∧ ∀ k, k < q_ln (A (X s + 20)) (kA 5 (s * 12 + X s)) → PB2 s k = A (X s + 20) 8 (q_rx (I (X s + 20) 4).toNat (A (X s + 20) 8) (A (X s + 20) 9) (A (X s + 20) 12) (I (X s + 20) 10) (kA 5 (s * 12 + X s)) k).toNat) : y_Gg St (fun s => q_ln (A (X s + 20)) (kA 5 (s * 12 + X s))) (fun s => t_iv (I (X s + 20)) (A (X s + 20)) (kA 5 (s * 12 + X s)) (kA 4 s) (X s : Int) (p_st (I (X s + 20) 0) (I ((if s + 1 < St then X (s + 1) else X s) + 20) 0))) PR2 PB2 j2 a2 := by
  obtain ⟨r0, r1, r2, r3, r9, r10, r11, r4, r6, r7, r8⟩ := hcR
  have h5 := hPp.1
  have hmP := hPp.2.2.1
  have h14 := hmP.2.2.2.2.2.2.2.2.2.1
  have hTb : ∀ s, 0 ≤ m_T j a v s ∧ m_T j a v s ≤ 100000 := fun s => by
    rw [← y_fT hFf]
    exact f_T_bd hFf.2.1.2.2.1 (by have := hFf.2.1.1; omega) hv s
  have e26 : ∀ s, s < St → a2 26 s = (X s : Int) := fun s hs => by rw [hXg s hs]; exact (hrow s hs).1
  have core : ∀ s, s < St → (kA 5 (s * 12 + X s) = m_fb j a v s (X s) ∧ m_fb j a v s (X s) ≤ 400 ∧ kA 4 s = m_T j a v s) ∧ (1 ≤ q_ln (A (X s + 20)) (kA 5 (s * 12 + X s)) ∧ q_ln (A (X s + 20)) (kA 5 (s * 12 + X s)) ≤ 16 ∧ ((q_ln (A (X s + 20)) (kA 5 (s * 12 + X s)) : Nat) : Int) = a2 30 s) ∧ ∀ k : Nat, k < q_ln (A (X s + 20)) (kA 5 (s * 12 + X s)) → ∃ x : Nat, (x : Int) < a 12 (X s) ∧ a2 31 (16 * s + k) = (x : Int) ∧ q_rx (I (X s + 20) 4).toNat (A (X s + 20) 8) (A (X s + 20) 9) (A (X s + 20) 12) (I (X s + 20) 10) (kA 5 (s * 12 + X s)) k = (x : Int) := by
    intro s hs
    have hp := hXn s hs
    obtain ⟨pp, pJ⟩ := hPp.2.2.2.1 (X s) hp
    have hb : kA 5 (s * 12 + X s) = m_fb j a v s (X s) := (r6 s _ hs hp).1.trans (y_fbe hFf hPp v hp)
    have hbd := m_fb_bd j a v s (X s)
    have h1 := hXb s hs
    have hr := hrow s hs
    rw [← hXg s hs] at hr
    obtain ⟨-, -, -, -, N, w1, w2, w3⟩ := hr
    rw [hb]
    have hb4 : m_fb j a v s (X s) ≤ 400 := by omega
    have pp2 : y_p (I (X s + 20)) (A (X s + 20)) a ((X s : Int)).toNat := by rw [Int.toNat_natCast]; exact pp
    obtain ⟨-, -, l3⟩ := y_wl pJ pp2 h14 h1 hb4 (Or.inl w1)
    have wn1 := w1.1
    have wn2 := w1.2.1
    obtain ⟨l4, l5⟩ := l3 (by omega)
    have e13 := y_wis pJ pp2 h14 h1 hb4 w1
    refine ⟨⟨rfl, hb4, (r4 s hs).trans (y_fT hFf v s)⟩, ⟨by omega, by omega, by omega⟩, fun k hk => ?_⟩
    have hr2 := (y_rw pJ pp2 h14 h1 hb4 w1 k (by omega)).2
    obtain ⟨v1, v2, v3, v4, v5⟩ := q_st_ok pJ ⟨h1, hb4⟩ (by omega) k (by omega)
    refine ⟨_, ?_, w3 k (by omega), hr2⟩
    rw [← hr2, ← pp.2.2.2.2.1]
    exact v5
  refine ⟨h25.symm, hSt8, fun s hs => ?_, ⟨by omega, fun s hs => ?_⟩, fun s hs => ⟨?_, ?_⟩⟩
  · obtain ⟨⟨c1, c2, c3⟩, ⟨c4, c5, c6⟩, c7⟩ := core s hs
    obtain ⟨pp, pJ⟩ := hPp.2.2.2.1 (X s) (hXn s hs)
    have hr := hrow s hs
    rw [← hXg s hs] at hr
    obtain ⟨w26, w27, w28, w29, -⟩ := hr
    refine ⟨?_, ?_, ?_, c6, c4, c5, ?_, fun k hk => ?_⟩
    · show ((X s : Nat) : Int) = a2 26 s
      exact w26.symm
    · show kA 5 (s * 12 + X s) = a2 27 s
      rw [c1, w27]
    · show max 1 (q_hd (I (X s + 20) 6) (I (X s + 20) 7) (kA 5 (s * 12 + X s)) (kA 4 s)) = max 1 (q_hd (a2 8 (a2 26 s).toNat) (a2 9 (a2 26 s).toNat) (a2 27 s) (a2 29 s))
      rw [ea 8 (by decide), ea 9 (by decide), w26, w27, w29, Int.toNat_natCast, c1, c3, pp.2.2.2.2.2.2.1, pp.2.2.2.2.2.2.2.1]
    · rw [w26]; omega
    · have hk : k < q_ln (A (X s + 20)) (kA 5 (s * 12 + X s)) := hk
      obtain ⟨x, x1, x2, x3⟩ := c7 k hk
      obtain ⟨y1, y2, y3, y4⟩ := pp.2.2.2.2.2.2.2.2 x (by rw [pp.2.2.2.2.1]; exact x1)
      have hix : (8 * ((X s : Nat) : Int) + (x : Int)).toNat = 8 * X s + x := by omega
      rw [ea 12 (by decide), ea 13 (by decide), ea 14 (by decide), w26, x2, Int.toNat_natCast, hix]
      refine ⟨by omega, x1, ((hPRB s hs).1 k hk).trans x3, ((hPRB s hs).2 k hk).trans (by rw [x3, Int.toNat_natCast]; exact y1), ?_⟩
      show t_ex (fun q => bI (I (X s + 20) 11 / 2 ^ (q_rx (I (X s + 20) 4).toNat (A (X s + 20) 8) (A (X s + 20) 9) (A (X s + 20) 12) (I (X s + 20) 10) (kA 5 (s * 12 + X s)) q).toNat % 2 = 1)) (q_ln (A (X s + 20)) (kA 5 (s * 12 + X s))) / 2 ^ k % 2 = a 14 (8 * X s + x) % 2
      rw [t_ex_bit (fun q _ => bI_01 _) k hk]
      show bI (I (X s + 20) 11 / 2 ^ (q_rx (I (X s + 20) 4).toNat (A (X s + 20) 8) (A (X s + 20) 9) (A (X s + 20) 12) (I (X s + 20) 10) (kA 5 (s * 12 + X s)) k).toNat % 2 = 1) = _
      rw [x3, Int.toNat_natCast, y4]
      unfold bI
      split <;> omega
  · have hs : s < St := by omega
    obtain ⟨⟨c1, c2, c3⟩, ⟨c4, c5, c6⟩, c7⟩ := core s hs
    have hr := hrow s hs
    rw [← hXg s hs] at hr
    obtain ⟨w26, w27, w28, w29, -⟩ := hr
    have hXns := hXn s hs
    have hXbs := hXb s hs
    have hTs := hTb s
    refine ⟨by omega, by omega, by omega, by omega, fun k hk => ?_⟩
    obtain ⟨x, x1, x2, x3⟩ := c7 k (by omega)
    rw [ea 12 (by decide), w26, x2, Int.toNat_natCast]
    exact ⟨by omega, x1⟩
  · obtain ⟨⟨c1, c2, c3⟩, -, -⟩ := core s hs
    obtain ⟨pp, pJ⟩ := hPp.2.2.2.1 (X s) (hXn s hs)
    have hr := hrow s hs
    rw [← hXg s hs] at hr
    obtain ⟨w26, w27, w28, w29, -⟩ := hr
    have hXns := hXn s hs
    have hXbs := hXb s hs
    have hb9 := hmP.2.2.1 (X s) (by omega)
    show q_ms (I (X s + 20) 6) (I (X s + 20) 7) (kA 5 (s * 12 + X s)) (kA 4 s) = a2 28 s
    rw [w28, c1, c3, pp.2.2.2.2.2.2.1, pp.2.2.2.2.2.2.2.1]
    unfold m_fm
    rw [if_neg (by omega), p_mf_ms (by omega) (by omega) (by omega)]
  · show p_st (I (X s + 20) 0) (I ((if s + 1 < St then X (s + 1) else X s) + 20) 0) = _
    by_cases e : s + 1 = St
    · rw [if_pos e, if_neg (by omega)]
      exact p_st_self _
    · have hs1 : s + 1 < St := by omega
      rw [if_neg e, if_pos hs1, e26 s hs, e26 (s + 1) hs1, ea 6 (by decide), Int.toNat_natCast, Int.toNat_natCast, (hPp.2.2.2.1 _ (hXn s hs)).1.1, (hPp.2.2.2.1 _ (hXn _ hs1)).1.1]
theorem y_zz {I : Nat → Nat → Int} {A : Nat → Nat → Nat → Int} {v : Int} {St n : Nat} (hS : St ≤ 8) (hn : n ≤ 12) : 0 ≤ c_zz I A v St n ∧ c_zz I A v St n ≤ 393216 := by
  unfold c_zz
  have hle := c_bn_le (c_uz I A v St) n
  have h12 : (2 : Int) ^ c_bn (c_uz I A v St) n ≤ 4096 := by
    have h1 : 2 ^ c_bn (c_uz I A v St) n ≤ 2 ^ 12 := Nat.pow_le_pow_right (by omega) (by omega)
    have h2 : (2 : Int) ^ c_bn (c_uz I A v St) n = ((2 ^ c_bn (c_uz I A v St) n : Nat) : Int) := by norm_cast
    rw [h2]
    have h3 : (2 : Nat) ^ 12 = 4096 := rfl
    omega
  have hp0 : (0 : Int) < 2 ^ c_bn (c_uz I A v St) n := Int.pow_pos (by omega)
  have hk : 0 ≤ (if c_nt I n = true then 1 else (St : Int)) ∧ (if c_nt I n = true then 1 else (St : Int)) ≤ 8 := by split <;> omega
  generalize (if c_nt I n = true then 1 else (St : Int)) = u at hk ⊢
  generalize (2 : Int) ^ c_bn (c_uz I A v St) n = w at h12 hp0 ⊢
  have h4 : u * w ≤ 8 * 4096 := Int.mul_le_mul (by omega) h12 (by omega) (by omega)
  have h5 : 0 ≤ u * w := Int.mul_nonneg (by omega) (by omega)
  omega
set_option maxHeartbeats 4000000 in
theorem law_programme {S : b_S} {b Ls : Nat} {xs : Nat → Int32} (hC : lw_ctx S b Ls xs) {o6 o7 : Nat} {c x : Int} {k m : Nat} {h : b_H} {sz : Nat} (hI : lw_I (s_G S) o6 o7 c k m h sz) (hc5 : c < 512) (hx : 0 ≤ x ∧ x + 5 ≤ Ls) (K : ∀ (k m : Nat) (h : b_H) (sz : Nat), lw_I (s_G S) o6 o7 (c + 1) k m h sz → V S k m h sz 954 [some (.ref b), some (.ref o6), some (.ref o7), some (.int (zI x))] []) : V S k m h sz 629 [some (.ref b), some (.ref o6), some (.ref o7), some (.int (zI x))] [] := by
  obtain ⟨hSX, hSh, hc, ho, hFr, hLo, hCe, hSl, hLs⟩ := hC
  obtain ⟨ad, L, n, I, A, nf, LN, PI, PR, PB, hn, mf, SN, SI, SR, SB, i, s, j, a, hX, hO, hR, hk, hm⟩ := hI
  obtain ⟨hc0, hF, hD, hK, hP, hG, hN, hCc⟩ := id hR
  obtain ⟨fs, h6⟩ := hX.obj
  obtain ⟨hP5, hn12, hmP, hpp, hp0⟩ := id hP
  have hq : ∀ p, p < n → q_J (I (p + 20)) (A (p + 20)) := fun p hp => (hpp p hp).2
  have hL786 := hK.2.2.2.2.1
  obtain ⟨y1, e1, z1⟩ : ∃ y, (xs (x + 1).toNat).toInt = y ∧ zb y := ⟨_, rfl, zb_of _⟩
  obtain ⟨y2, e2, z2⟩ : ∃ y, (xs (x + 2).toNat).toInt = y ∧ zb y := ⟨_, rfl, zb_of _⟩
  obtain ⟨y3, e3, z3⟩ : ∃ y, (xs (x + 3).toNat).toInt = y ∧ zb y := ⟨_, rfl, zb_of _⟩
  obtain ⟨y4, e4, z4⟩ : ∃ y, (xs (x + 4).toNat).toInt = y ∧ zb y := ⟨_, rfl, zb_of _⟩
  have hkey : ∀ p, p < n → 0 ≤ I (p + 20) 0 ∧ I (p + 20) 0 ≤ 11 := fun p hp => by
    rw [(hpp p hp).1.1]; exact hmP.2.2.2.1 p
  have hth : ∀ p, p < n → I (p + 20) 2 = 0 ∨ I (p + 20) 2 = 1 := fun p hp => by
    have h1 := hmP.2.2.2.2.2.1 p
    rw [(hpp p hp).1.2.2.1]; omega
  have hfct : f_ct (A 1 2) (I 1 3).toNat = f_ct (a 4) (j 1).toNat := e_stretches hF
  obtain ⟨w, hw, hw0, hw1⟩ : ∃ w : Nat, (∀ St : Nat, f_ct (A 1 2) (I 1 3).toNat = (St : Int) → (12 ≤ y1 ∧ y1 ≤ 30) → (1 ≤ St ∧ St ≤ 8) → 1 ≤ n → (L : Int) < c_zz I A y1 St n → max (c_zz I A y1 St n) (2 * (L : Int)) ≤ w) ∧ (w = 0 ∨ (L : Int) < 393216 ∧ w ≤ 786432) ∧ (w = 0 ∨ ∃ St : Nat, f_ct (A 1 2) (I 1 3).toNat = (St : Int) ∧ (12 ≤ y1 ∧ y1 ≤ 30) ∧ (1 ≤ St ∧ St ≤ 8) ∧ 1 ≤ n ∧ (L : Int) < c_zz I A y1 St n ∧ (w : Int) = max (c_zz I A y1 St n) (2 * (L : Int))) := by
    by_cases q : ∃ St : Nat, f_ct (A 1 2) (I 1 3).toNat = (St : Int) ∧ (12 ≤ y1 ∧ y1 ≤ 30) ∧ (1 ≤ St ∧ St ≤ 8) ∧ 1 ≤ n ∧ (L : Int) < c_zz I A y1 St n
    · obtain ⟨St, q1, q2, q3, q4, q5⟩ := q
      have hz := y_zz (I := I) (A := A) (v := y1) q3.2 hn12
      refine ⟨(max (c_zz I A y1 St n) (2 * (L : Int))).toNat, fun T t1 _ _ _ _ => ?_, Or.inr ⟨by omega, by omega⟩, Or.inr ⟨St, q1, q2, q3, q4, q5, by omega⟩⟩
      have e : T = St := by omega
      rw [e]; omega
    · exact ⟨0, fun T t1 t2 t3 t4 t5 => absurd ⟨T, t1, t2, t3, t4, t5⟩ q, Or.inl rfl, Or.inl rfl⟩
  replace hw1 := y_Hd.mk hw1
  refine v_aload_n hc dL_law_629 rfl ?_
  refine v_aload_n hc dL_law_630 rfl ?_
  refine v_iload_n hc dL_law_631 rfl ?_
  refine z_iconst hc dL_law_632 ?_
  refine z_iadd hc dL_law_633 ?_
  refine v_sld hSX hSh hc dL_law_634 (by omega) (by omega) hLs ?_
  rw [e1]
  refine v_callV (As := [.int (zI y1)]) hc ho dL_law_635 KV_L_69 KB_X6_programme h6 rfl rfl (c_X6_programme _ _ hX hF.2.1 hK.2.2.1 hn12 hq hkey hth z1 (w := w) hw) rfl (Nat.le_of_ble_eq_true rfl) ⟨by omega, by omega⟩ ⟨by omega, by omega⟩ (fun r6 h6_ s6 q6 z6 => ?_)
  obtain ⟨v6, hv6⟩ : ∃ v : Int32, r6 = some (.int v) := by
    rcases q6 with q | q | q | ⟨St, -, -, -, -, -, L2, kI, kA, -, -, -, -, -, q | ⟨cst, -, -, -, q, -⟩⟩
    · exact ⟨_, q.2.1⟩
    · exact ⟨_, q.2.2.1⟩
    · exact ⟨_, q.2.2.1⟩
    · exact ⟨_, q.2.1⟩
    · exact ⟨_, q⟩
  subst hv6
  have hp7 : ∀ b, r_own K7 o7 ad b → h6_ b = h b := fun b hb => by
    rcases q6 with q | q | q | ⟨St, -, -, -, -, -, L2, kI, kA, -, -, -, -, q, -⟩
    · rw [q.2.2.1]
    · rw [q.2.2.2.1]
    · rw [q.2.2.2.1]
    · exact q b hb
  have hO := hO.kept hp7
  replace q6 := y_Hd.mk q6
  refine v_aload_n hc dL_law_638 rfl ?_
  refine v_aload_n hc dL_law_639 rfl ?_
  refine v_iload_n hc dL_law_640 rfl ?_
  refine z_iconst hc dL_law_641 ?_
  refine z_iadd hc dL_law_642 ?_
  refine v_sld hSX hSh hc dL_law_643 (by omega) (by omega) hLs ?_
  rw [e1]
  refine v_callV (As := [.int (zI y1)]) hc ho dL_law_644 KV_L_73 KB_X7_programme hO.1 rfl rfl (c_X7_programme _ _ hO z1 hF.2.2 hmP hK.2.1 hK.2.2.2.2.2) rfl (Nat.le_of_ble_eq_true rfl) ⟨by omega, by omega⟩ ⟨by omega, by omega⟩ (fun r7 h7_ s7 q7 z7 => ?_)
  obtain ⟨es7, j2, b2, hq7, hO2, hfr7⟩ := q7
  subst es7
  obtain ⟨v7, hv7⟩ : ∃ v : Int32, r7 = some (.int v) := by
    rcases hq7 with q | q | q | ⟨St, -, -, -, -, a1, -, -, -, q | ⟨g, best, -, -, -, q, -⟩, -⟩
    · exact ⟨_, q.2.1⟩
    · exact ⟨_, q.2.2.1⟩
    · exact ⟨_, q.2.2.1⟩
    · exact ⟨_, q.2.1⟩
    · exact ⟨_, q⟩
  subst hv7
  obtain ⟨hv, hfin⟩ : v6 = v7 ∧ lw_I (s_G S) o6 o7 (c + 1) (k + 35 + 0) (m + (w + 8403) + 0) h7_ s7 := by
    replace q6 := q6.un
    replace hw1 := hw1.un
    rcases q6 with ⟨c6, r6, eh6, es6⟩ | ⟨c6, d6, r6, eh6, es6⟩ | ⟨c6, d6, r6, eh6, es6⟩ | ⟨St, hSt, c6, hS1, hS8, hn1, L2, kI, kA, hcR, hcI, hL2, hsz, hp7_, hres⟩
    · rcases hq7 with ⟨c7, r7, e3, e4⟩ | ⟨c7, q⟩ | ⟨c7, q⟩ | ⟨St, hSt, c7, q⟩
      · have eh6 := eh6.symm
        subst eh6
        have es6 := es6.symm
        subst es6
        have hX3 := hX.kept7 hfr7
        have hw0' : w = 0 := by
          rcases hw1 with q | ⟨T, t1, t2, t3, t4, -⟩
          · exact q
          · exfalso
            exact c6 t2
        clear hw hw0 hw1
        subst e3 e4
        exact ⟨(Value.int.inj (Option.some.inj r6)).trans (Value.int.inj (Option.some.inj r7)).symm, ⟨ad, L, n, I, A, nf, LN, PI, PR, PB, hn, mf, SN, SI, SR, SB, i, s, _, _, hX3, hO2, hR.mono, by omega, by omega⟩⟩
      · exact absurd c7 c6
      · exact absurd c7 c6
      · exact absurd c7 c6
    · rcases hq7 with ⟨c7, q⟩ | ⟨c7, d7, r7, e3, e4⟩ | ⟨c7, d7, q⟩ | ⟨St, hSt, c7, g1, g2, q⟩
      · exact absurd c6 c7
      · have eh6 := eh6.symm
        subst eh6
        have es6 := es6.symm
        subst es6
        have hX3 := hX.kept7 hfr7
        have hw0' : w = 0 := by
          rcases hw1 with q | ⟨T, t1, t2, t3, t4, -⟩
          · exact q
          · exfalso
            omega
        clear hw hw0 hw1
        subst e3 e4
        exact ⟨(Value.int.inj (Option.some.inj r6)).trans (Value.int.inj (Option.some.inj r7)).symm, ⟨ad, L, n, I, A, nf, LN, PI, PR, PB, hn, mf, SN, SI, SR, SB, i, s, _, _, hX3, hO2, hR.mono, by omega, by omega⟩⟩
      · clear q; omega
      · clear q; omega
    · rcases hq7 with ⟨c7, q⟩ | ⟨c7, d7, q⟩ | ⟨c7, d7, r7, e3, e4⟩ | ⟨St, hSt, c7, g1, g2, a1, hE, hft, -, hcs, hP2, h22⟩
      · exact absurd c6 c7
      · clear q; omega
      · have eh6 := eh6.symm
        subst eh6
        have es6 := es6.symm
        subst es6
        have hX3 := hX.kept7 hfr7
        have hw0' : w = 0 := by
          rcases hw1 with q | ⟨T, t1, t2, t3, t4, -⟩
          · exact q
          · exfalso
            omega
        clear hw hw0 hw1
        subst e3 e4
        exact ⟨(Value.int.inj (Option.some.inj r6)).trans (Value.int.inj (Option.some.inj r7)).symm, ⟨ad, L, n, I, A, nf, LN, PI, PR, PB, hn, mf, SN, SI, SR, SB, i, s, _, _, hX3, hO2, hR.mono, by omega, by omega⟩⟩
      · have hn0 : n = 0 := by
          rcases d6 with q | q
          · clear hcs hft; omega
          · exact q.2
        have hw0' : w = 0 := by
          rcases hw1 with q | ⟨T, t1, t2, t3, t4, -⟩
          · exact q
          · clear hcs hft; omega
        have h50 : (j 5).toNat = 0 := by clear hcs hft hw1 hw0 hw; omega
        rcases hcs with ⟨hno, r7, ea, ej⟩ | ⟨g, best, hbb, hzb, q⟩
        · have eh6 := eh6.symm
          subst eh6
          have es6 := es6.symm
          subst es6
          have hX3 := hX.kept7 hfr7
          clear hw hw0 hw1 hft
          have hea : ∀ k, k ∉ [16, 17, 21, 22, 23, 24, 26, 27, 28, 29, 30, 31] → b2 k = a k := (fun k hk => ea k (fun z => hk (by rw [z]; decide)) (fun z => hk (by rw [z]; decide)) (fun z => hk (by rw [z]; decide)) (fun z => hk (by rw [z]; decide)) (fun z => hk (by rw [z]; decide)))
          obtain ⟨u0, u1, u2, u3, u4, u5, u6, u7⟩ := hR.mono
          refine ⟨(Value.int.inj (Option.some.inj r6)).trans (Value.int.inj (Option.some.inj r7)).symm, ⟨ad, L, n, I, A, nf, LN, PI, PR, PB, hn, mf, SN, SI, SR, SB, i, s, _, _, hX3, hO2, ⟨u0, u1.cg rfl rfl (ej 1) (fun k hk => hea k ((by decide : ∀ k ∈ [2, 3, 4], k ∉ [16, 17, 21, 22, 23, 24, 26, 27, 28, 29, 30, 31]) k hk)), u2.cg rfl rfl (fun k _ => ej k) (fun k hk => hea k ((by decide : ∀ k ∈ [54, 55, 56], k ∉ [16, 17, 21, 22, 23, 24, 26, 27, 28, 29, 30, 31]) k hk)), ?_, u4.cg (fun _ => rfl) (fun _ => rfl) (ej 5) hP2 (fun k hk => hea k ((by decide : ∀ k ∈ [6, 7, 8, 9, 10, 11, 12, 13, 14, 15, 50], k ∉ [16, 17, 21, 22, 23, 24, 26, 27, 28, 29, 30, 31]) k hk)), u5.cg (fun k _ => ej k) (fun k hk => ea k ((by decide : ∀ k ∈ [6, 8, 9, 12, 13, 14, 26, 27, 28, 29, 30, 31], k ≠ 16) k hk) ((by decide : ∀ k ∈ [6, 8, 9, 12, 13, 14, 26, 27, 28, 29, 30, 31], k ≠ 21) k hk) ((by decide : ∀ k ∈ [6, 8, 9, 12, 13, 14, 26, 27, 28, 29, 30, 31], k ≠ 22) k hk) ((by decide : ∀ k ∈ [6, 8, 9, 12, 13, 14, 26, 27, 28, 29, 30, 31], k ≠ 23) k hk) ((by decide : ∀ k ∈ [6, 8, 9, 12, 13, 14, 26, 27, 28, 29, 30, 31], k ≠ 24) k hk)), u6.cg (fun k _ => ej k) (fun k hk => hea k ((by decide : ∀ k ∈ [12, 13, 14, 36, 37, 38, 39, 40, 49], k ∉ [16, 17, 21, 22, 23, 24, 26, 27, 28, 29, 30, 31]) k hk)), u7.cg (fun _ => rfl) (fun k _ => ej k) (hea 50 (by decide))⟩, by omega, by omega⟩⟩
          obtain ⟨t1, t2, t3, t4, t5, t6⟩ := u3
          refine ⟨?_, ?_, t3, t4, t5, h22⟩
          · rw [ej 19, ej 20]; exact t1
          · unfold m_R at t2 ⊢
            rw [ej 19, ej 20]; exact t2
        · exfalso
          have h1 := (hzb.1 0 (by clear hft; omega)).1
          omega
    · rcases hq7 with ⟨c7, q⟩ | ⟨c7, d7, q⟩ | ⟨c7, d7, q⟩ | ⟨T, hT, c7, g1, g2, a1, hE, hft, -, hcs, hP2, h22⟩
      · exact absurd c6 c7
      · clear q hres; omega
      · clear q hres; omega
      · have eT : T = St := by clear hres hcs hft hcR hw1 hw; omega
        subst eT
        have hpk := y_pick hF hP hK hS8 hcR hcI hE hft
        have hzz := y_zz (I := I) (A := A) (v := y1) hS8 hn12
        have hLL : L2 ≤ 786432 ∧ m + (w + 8403) ≤ 60000 + 8600 * (c + 1) + 2 * L2 := by
          clear hres hcs hft hcR hpk hfr7 hw0
          rcases hL2 with ⟨l1, l2⟩ | ⟨l1, l2⟩
          · have hw0' : w = 0 := by
              rcases hw1 with q | ⟨U, t1, t2, t3, t4, t5, -⟩
              · exact q
              · have e : U = T := by omega
                rw [e] at t5
                omega
            omega
          · have hw2 : (w : Int) ≤ max (c_zz I A y1 T n) (2 * (L : Int)) := by
              rcases hw1 with q | ⟨U, t1, t2, t3, t4, t5, t6⟩
              · omega
              · have e : U = T := by omega
                rw [e] at t6
                omega
            omega
        have hKn : ∀ j2 : Nat → Int, ∀ b2 : Nat → Nat → Int, j2 19 = j 19 → j2 20 = j 20 → (∀ q, 0 ≤ b2 22 q ∧ b2 22 q ≤ 100000) → y_Kk (c + 1) L2 (b_up I 5 kI) (b_up A 5 kA) j2 b2 := fun j2 b2 q1 q2 q3 => hK.new hc5 hcR hcI hLL.1 q1 q2 q3
        obtain ⟨hL1, hLm⟩ := hLL
        rcases hres with ⟨hcl, r6, hX2⟩ | ⟨cst, hcl, hcn, hcb, r6, PR2, PB2, hPRB, hX2⟩
        · have hX3 := hX2.kept7 hfr7
          rcases hcs with ⟨hno, r7, ea, ej⟩ | ⟨g, best, hbb, hzb, q⟩
          · have hea : ∀ k, k ∉ [16, 17, 21, 22, 23, 24, 26, 27, 28, 29, 30, 31] → b2 k = a k := (fun k hk => ea k (fun z => hk (by rw [z]; decide)) (fun z => hk (by rw [z]; decide)) (fun z => hk (by rw [z]; decide)) (fun z => hk (by rw [z]; decide)) (fun z => hk (by rw [z]; decide)))
            refine ⟨(Value.int.inj (Option.some.inj r6)).trans (Value.int.inj (Option.some.inj r7)).symm, ⟨ad, L2, n, _, _, nf, LN, PI, PR, PB, hn, mf, SN, SI, SR, SB, i, s, _, _, hX3, hO2, y_prg hR (hKn _ _ (ej 19) (ej 20) h22) (hG.cg (fun k _ => ej k) (fun k hk => ea k ((by decide : ∀ k ∈ [6, 8, 9, 12, 13, 14, 26, 27, 28, 29, 30, 31], k ≠ 16) k hk) ((by decide : ∀ k ∈ [6, 8, 9, 12, 13, 14, 26, 27, 28, 29, 30, 31], k ≠ 21) k hk) ((by decide : ∀ k ∈ [6, 8, 9, 12, 13, 14, 26, 27, 28, 29, 30, 31], k ≠ 22) k hk) ((by decide : ∀ k ∈ [6, 8, 9, 12, 13, 14, 26, 27, 28, 29, 30, 31], k ≠ 23) k hk) ((by decide : ∀ k ∈ [6, 8, 9, 12, 13, 14, 26, 27, 28, 29, 30, 31], k ≠ 24) k hk))) hP2 (fun k _ => ej k) hea, ?_, ?_⟩⟩
            · clear hw1 hw hft hcR; omega
            · clear hw1 hw hft hcR; omega
          · exact absurd hzb.1 (hpk.1 hcl g)
        · have hX3 := hX2.kept7 hfr7
          have hcn2 : ¬ c_L T n (c_ms kA) (c_jn kA) (kA 8) T 0 (-1) = 1048575 := by rw [hcl]; exact hcn
          obtain ⟨hzx, hcx⟩ := hpk.2 hcn2
          rcases hcs with ⟨hno, q⟩ | ⟨g, best, hbb, hzb, hbest, r7, e25, ej, hrow, ea⟩
          · exact absurd hzx.1 (hno _)
          · obtain ⟨hu1, hu2⟩ := z_b_uniq hzx hzb
            have hcb2 : cst = best := by rw [← hcl, ← hcx, hu1, hbest]
            have hn5 : (j 5).toNat = n := by omega
            have hej : ∀ k, k ∉ [18, 25] → j2 k = j k := fun k hk => ej k (fun z => hk (by rw [z]; decide)) (fun z => hk (by rw [z]; decide))
            have hea : ∀ k, k ∉ [16, 17, 21, 22, 23, 24, 26, 27, 28, 29, 30, 31] → b2 k = a k := (fun k hk => ea k (fun z => hk (by rw [z]; decide)) (fun z => hk (by rw [z]; decide)) (fun z => hk (by rw [z]; decide)) (fun z => hk (by rw [z]; decide)) (fun z => hk (by rw [z]; decide)) (fun z => hk (by rw [z]; decide)) (fun z => hk (by rw [z]; decide)) (fun z => hk (by rw [z]; decide)) (fun z => hk (by rw [z]; decide)) (fun z => hk (by rw [z]; decide)) (fun z => hk (by rw [z]; decide)) (fun z => hk (by rw [z]; decide)))
            have hXn : ∀ s, s < T → (c_cx T n (c_ms kA) (c_jn kA) (kA 8)) s < n := fun s hs => by
              have h1 := (hzx.1 s hs).1
              rw [hn5] at h1
              exact h1
            have hXb : ∀ s, s < T → 1 ≤ m_fb j a y1 s ((c_cx T n (c_ms kA) (c_jn kA) (kA 8)) s) := fun s hs => by
              have h1 := (hzx.1 s hs).2.1
              have h2 := hXn s hs
              generalize (c_cx T n (c_ms kA) (c_jn kA) (kA 8)) s = p at h1 h2 ⊢
              have h3 := (hft s p hs (by omega)).1
              have h4 := m_fb_bd j a y1 s p
              rcases h4 with e | e
              · have h5 : 0 ≤ (if a1 21 (12 * s + p) < 0 then -2 else a1 22 (12 * s + p)) := h1
                rw [h3, e, if_pos (by omega)] at h5
                omega
              · exact e.1
            have hGn := y_Ggn hF hP c6.1 hS8 hcR hXn hXb hu2 e25 (hej 5 (by decide)) hea hrow hPRB
            refine ⟨(Value.int.inj (Option.some.inj r6)).trans (Eq.trans (by rw [hcb2]) (Value.int.inj (Option.some.inj r7)).symm), ⟨ad, L2, n, _, _, T, _, _, PR2, PB2, hn, mf, SN, SI, SR, SB, i, s, _, _, hX3, hO2, y_prg hR (hKn _ _ (hej 19 (by decide)) (hej 20 (by decide)) h22) hGn hP2 hej hea, ?_, ?_⟩⟩
            · clear hw1 hw hft hcR hPRB hrow; omega
            · clear hw1 hw hft hcR hPRB hrow; omega
  subst hv
  refine v_icmp_same (tgt := 954) hc dL_law_647 (by decide) ?_
  exact K _ _ _ _ hfin
