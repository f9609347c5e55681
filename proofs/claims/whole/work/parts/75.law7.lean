/-! the law: a piece, a block -/
theorem y_Nn.cg5 {c : Int} {hn : Bool} {mf : Nat} {SN : Nat → Nat} {SI SR SB : Nat → Nat → Int} {i s j j2 : Nat → Int} {a a2 : Nat → Nat → Int} (h : y_Nn c hn mf SN SI SR SB i s j a) (hj : ∀ k ∈ [32, 33, 34, 35, 41, 42, 43, 44, 45, 46, 47, 48], j2 k = j k) (ha : ∀ k ∈ [36, 37, 38, 39, 40, 49], a2 k = a k) (hQ : m_Q j a → m_Q j2 a2) (hS : y_S mf SN SI SR SB a (a 36) (a 37) (a 38) (a 39) (a 40) → y_S mf SN SI SR SB a2 (a2 36) (a2 37) (a2 38) (a2 39) (a2 40)) : y_Nn c hn mf SN SI SR SB i s j2 a2 := by
  obtain ⟨n1, n2, n3, n4, n5, n6⟩ := h
  refine ⟨?_, ?_, ?_, ?_, ?_, fun q => ?_⟩
  · rw [hj 32 (by decide)]; exact n1
  · rw [hj 48 (by decide)]; exact n2
  · rw [hj 35 (by decide)]; exact n3
  · rw [hj 34 (by decide)]; exact n4
  · rw [hj 33 (by decide)]; exact n5
  · obtain ⟨g1, g2, g3, g4, g5, g6⟩ := n6 q
    refine ⟨g1, hS g2, ?_, hQ g4, ?_, g6⟩
    · unfold y_N at g3 ⊢
      rw [hj 33 (by decide), hj 34 (by decide), hj 35 (by decide), hj 41 (by decide), hj 42 (by decide), hj 43 (by decide), hj 44 (by decide), hj 45 (by decide), hj 46 (by decide), hj 47 (by decide), hj 48 (by decide), ha 49 (by decide)]
      exact g3
    · unfold m_N m_J m_dn at g5 ⊢
      rw [hj 33 (by decide), hj 34 (by decide), hj 35 (by decide), hj 41 (by decide), hj 42 (by decide), hj 43 (by decide), hj 44 (by decide), hj 45 (by decide), hj 46 (by decide), hj 47 (by decide), hj 48 (by decide), ha 49 (by decide), ha 37 (by decide), ha 38 (by decide)]
      exact g5
theorem y_piece {c : Int} {L n : Nat} {I : Nat → Nat → Int} {A : Nat → Nat → Nat → Int} {nf : Nat} {LN : Nat → Nat} {PI PR PB : Nat → Nat → Int} {hn : Bool} {mf : Nat} {SN : Nat → Nat} {SI SR SB : Nat → Nat → Int} {i s j j2 : Nat → Int} {a a2 : Nat → Nat → Int} {x y z u : Int} {i3 : Nat → Int} {a3 : Nat → Nat → Int} (hR : y_R c L n I A nf LN PI PR PB hn mf SN SI SR SB i s j a) (hok : p_ok x y z u) (h12 : n < 12) (hJ : q_J i3 a3) (v0 : i3 0 = x / 100) (v1 : i3 1 = x % 100) (v2 : i3 2 = bI (z = 1)) (v3 : i3 3 = u) (v4 : i3 4 = 0) (v5 : i3 5 = 0) (v6 : i3 6 = y / 1000) (v7 : i3 7 = y % 1000) (ej5 : j2 5 = j 5 + 1) (ej : ∀ k, k ≠ 5 → j2 k = j k) (w6 : a2 6 = b_up (a 6) n (x / 100)) (w7 : a2 7 = b_up (a 7) n (x % 100)) (w8 : a2 8 = b_up (a 8) n (y / 1000)) (w9 : a2 9 = b_up (a 9) n (y % 1000)) (w10 : a2 10 = b_up (a 10) n (bI (z = 1))) (w11 : a2 11 = b_up (a 11) n u) (ea : ∀ k, k ∉ [6, 7, 8, 9, 10, 11] → a2 k = a k) : y_R c L (n + 1) (b_up I (n + 20) i3) (b_up A (n + 20) a3) nf LN PI PR PB hn mf SN SI SR SB i s j2 a2 := by
  obtain ⟨h0, hFf, hDd, hKk, hPp, hGg, hNn, hCc⟩ := hR
  obtain ⟨p1, p2, p3, p4, p5⟩ := id hPp
  obtain ⟨o1, o2, o3, o4, o5, o6, o7⟩ := id hok
  obtain ⟨d1, d2, d3, d4, d5, d6, d7, d8, d9, d10, d11, d12⟩ := id p3
  have hIt : ∀ t, t < 20 → b_up I (n + 20) i3 t = I t := fun t ht => b_up_ne _ _ (by omega)
  have hAt : ∀ t, t < 20 → b_up A (n + 20) a3 t = A t := fun t ht => b_up_ne _ _ (by omega)
  have hIp : ∀ p, p ≠ n → b_up I (n + 20) i3 (p + 20) = I (p + 20) := fun p hp => b_up_ne _ _ (by omega)
  have hAp : ∀ p, p ≠ n → b_up A (n + 20) a3 (p + 20) = A (p + 20) := fun p hp => b_up_ne _ _ (by omega)
  have h26 : ∀ q, q < nf → 0 ≤ a 26 q ∧ a 26 q < n := fun q hq => by
    have h1 := (hGg.2.2.2.1.2 q (by have := hGg.1; omega)).1
    omega
  refine ⟨h0, hFf.cg (hIt 1 (by omega)) (hAt 1 (by omega)) (ej 1 (by decide)) (fun k hk => ea k ((by decide : ∀ k ∈ [2, 3, 4], k ∉ [6, 7, 8, 9, 10, 11]) k hk)), hDd.cg (hIt 0 (by omega)) (hAt 0 (by omega)) (fun k hk => ej k ((by decide : ∀ k ∈ [53, 57], k ≠ 5) k hk)) (fun k hk => ea k ((by decide : ∀ k ∈ [54, 55, 56], k ∉ [6, 7, 8, 9, 10, 11]) k hk)), hKk.cg (hIt 5 (by omega)) (hAt 5 (by omega)) (fun k hk => ej k ((by decide : ∀ k ∈ [19, 20], k ≠ 5) k hk)) (ea 22 (by decide)), ?_, ?_, ?_, ?_⟩
  · refine ⟨by rw [ej5]; push_cast; omega, by omega, ?_, fun p hp => ?_, fun p hp => ?_⟩
    · unfold m_P
      rw [ej5, w6, w7, w8, w9, w10, w11, ea 12 (by decide), ea 13 (by decide), ea 14 (by decide), ea 15 (by decide), ea 16 (by decide)]
      refine ⟨by omega, d2, fun q hq => ?_, b_up_all (P := fun v => 0 ≤ v ∧ v ≤ 11) d4 ⟨by omega, by omega⟩, b_up_all (P := fun v => 0 ≤ v ∧ v ≤ 63) d5 ⟨by omega, by omega⟩, b_up_all (P := fun v => 0 ≤ v ∧ v ≤ 1) d6 (bI01 _), b_up_all (P := fun v => 0 ≤ v ∧ v ≤ 999) d7 ⟨by omega, by omega⟩, d8, d9, d10, d11, d12⟩
      by_cases e : q = n
      · rw [e, b_up_eq, b_up_eq]; omega
      · rw [b_up_ne _ _ e, b_up_ne _ _ e]; exact d3 q (by omega)
    · by_cases e : p = n
      · subst e
        rw [b_up_eq, b_up_eq]
        refine ⟨?_, hJ⟩
        unfold y_p
        rw [w6, w7, w8, w9, w10, w11, ea 12 (by decide), ea 50 (by decide), ea 13 (by decide), ea 14 (by decide), ea 15 (by decide), b_up_eq, b_up_eq, b_up_eq, b_up_eq, b_up_eq, b_up_eq, v0, v1, v2, v3, v4, v5, v6, v7]
        exact ⟨rfl, rfl, rfl, rfl, (p5 p (by omega)).2.1.symm, (p5 p (by omega)).2.2.symm, rfl, rfl, fun q hq => by omega⟩
      · rw [hIp p e, hAp p e]
        obtain ⟨⟨u0, u1, u2, u3, u4, u5, u6, u7, u8⟩, hq⟩ := p4 p (by omega)
        refine ⟨?_, hq⟩
        unfold y_p
        rw [w6, w7, w8, w9, w10, w11, ea 12 (by decide), ea 50 (by decide), ea 13 (by decide), ea 14 (by decide), ea 15 (by decide), b_up_ne _ _ e, b_up_ne _ _ e, b_up_ne _ _ e, b_up_ne _ _ e, b_up_ne _ _ e, b_up_ne _ _ e]
        exact ⟨u0, u1, u2, u3, u4, u5, u6, u7, u8⟩
    · rw [hIp p (by omega), ea 12 (by decide), ea 50 (by decide)]
      exact p5 p (by omega)
  · obtain ⟨g1, g2, g3, g4, g5⟩ := id hGg
    refine ⟨by rw [ej 25 (by decide)]; exact g1, g2, ?_, ?_, ?_⟩
    · intro q hq
      obtain ⟨s1, s2, s5, s4, s6, s7, s8, s9⟩ := g3 q hq
      have hne : (a 26 q).toNat ≠ n := by have := h26 q hq; omega
      rw [ea 26 (by decide), ea 27 (by decide), ea 30 (by decide), ea 31 (by decide), ea 12 (by decide), ea 13 (by decide), ea 14 (by decide)]
      refine ⟨s1, s2, ?_, s4, s6, s7, s8, s9⟩
      show PI q 5 = max 1 (q_hd (a2 8 (a 26 q).toNat) (a2 9 (a 26 q).toNat) (a 27 q) (a2 29 q))
      rw [w8, w9, ea 29 (by decide), b_up_ne _ _ hne, b_up_ne _ _ hne]
      exact s5
    · unfold m_G at g4 ⊢
      rw [ej 25 (by decide), ej5, ea 26 (by decide), ea 27 (by decide), ea 29 (by decide), ea 30 (by decide), ea 31 (by decide), ea 12 (by decide)]
      refine ⟨g4.1, fun q hq => ?_⟩
      obtain ⟨t1, t2⟩ := g4.2 q hq
      exact ⟨⟨t1.1, by omega⟩, t2⟩
    · intro q hq
      obtain ⟨t1, t2⟩ := g5 q hq
      have hne : (a 26 q).toNat ≠ n := by have := h26 q hq; omega
      rw [ea 28 (by decide), ea 26 (by decide), w6, b_up_ne _ _ hne]
      refine ⟨t1, ?_⟩
      by_cases e : q + 1 = nf
      · rw [if_pos e] at t2 ⊢; exact t2
      · rw [if_neg e] at t2 ⊢
        rw [b_up_ne _ _ (show (a 26 (q + 1)).toNat ≠ n by have := h26 (q + 1) (by omega); omega)]
        exact t2
  · refine hNn.cg5 (fun k hk => ej k ((by decide : ∀ k ∈ [32, 33, 34, 35, 41, 42, 43, 44, 45, 46, 47, 48], k ≠ 5) k hk)) (fun k hk => ea k ((by decide : ∀ k ∈ [36, 37, 38, 39, 40, 49], k ∉ [6, 7, 8, 9, 10, 11]) k hk)) (fun hQ => ?_) (fun hS => ?_)
    · unfold m_Q at hQ ⊢
      rw [ej 35 (by decide), ej5, ea 36 (by decide), ea 37 (by decide), ea 38 (by decide), ea 39 (by decide), ea 40 (by decide), ea 12 (by decide)]
      intro q hq
      obtain ⟨t1, t2⟩ := hQ q hq
      exact ⟨⟨t1.1, by omega⟩, t2⟩
    · rw [ea 36 (by decide), ea 37 (by decide), ea 38 (by decide), ea 39 (by decide), ea 40 (by decide)]
      exact y_S_cong hS ⟨ea 12 (by decide), ea 13 (by decide), ea 14 (by decide)⟩
  · obtain ⟨c1, c2, c3⟩ := hCc
    refine ⟨?_, ?_, ?_⟩
    · unfold m_C at c1 ⊢
      rw [ea 50 (by decide), ej 51 (by decide), ej 52 (by decide)]
      exact c1
    · rw [ej 51 (by decide), c2, f_sm, b_up_eq, v5, Int.zero_mul, Int.add_zero]
      refine y_smc (fun k hk => ?_)
      rw [hIp k (by omega)]
    · rw [ej 52 (by decide), c3, f_sm, b_up_eq, v5, Int.add_zero]
      refine y_smc (fun k hk => ?_)
      rw [hIp k (by omega)]
theorem y_S_blk {mf : Nat} {SN : Nat → Nat} {SI SR SB : Nat → Nat → Int} {a a2 : Nat → Nat → Int} {P Q T U R : Nat → Int} {p : Nat} {y z : Int} (hS : y_S mf SN SI SR SB a P Q T U R) (h8 : ∀ q, 0 ≤ a 12 q ∧ a 12 q ≤ 8) (hp8 : a 12 p < 8) (w12 : a2 12 = b_up (a 12) p (a 12 p + 1)) (w13 : a2 13 = b_up (a 13) (8 * p + (a 12 p).toNat) y) (w14 : a2 14 = b_up (a 14) (8 * p + (a 12 p).toNat) z) : y_S mf SN SI SR SB a2 P Q T U R := by
  intro q hq
  obtain ⟨s1, s2, s5, s4, s6, s7, s8, s9⟩ := hS q hq
  refine ⟨s1, s2, s5, s4, s6, s7, s8, fun k hk => ?_⟩
  obtain ⟨r1, r2, r3, r4, r5⟩ := s9 k hk
  have hpp := h8 p
  have hpq := h8 (P q).toNat
  have hne : (8 * P q + R (16 * q + k)).toNat ≠ 8 * p + (a 12 p).toNat := by
    intro e
    by_cases z : (P q).toNat = p
    · rw [z] at r2; omega
    · omega
  rw [w12, w13, w14, b_up_ne _ _ hne, b_up_ne _ _ hne]
  refine ⟨r1, ?_, r3, r4, r5⟩
  by_cases z : (P q).toNat = p
  · rw [z, b_up_eq]
    rw [z] at r2; omega
  · rw [b_up_ne _ _ z]; exact r2
theorem y_bit2 {u w : Int} {t k : Nat} (h0 : 0 ≤ u) (h1 : u < 2 ^ t) (hw : w = 0 ∨ w = 1) : (k < t → (u + w * 2 ^ t) / 2 ^ k % 2 = u / 2 ^ k % 2) ∧ (k = t → (u + w * 2 ^ t) / 2 ^ k % 2 = w) ∧ u + w * 2 ^ t < 2 ^ (t + 1) := by
  have hz : u / 2 ^ t % 2 = 0 := by rw [Int.ediv_eq_zero_of_lt h0 h1]; rfl
  have hp : (2 : Int) ^ (t + 1) = 2 ^ t * 2 := Int.pow_succ _ _
  rcases hw with e | e
  · rw [e, Int.zero_mul, Int.add_zero]
    exact ⟨fun _ => rfl, fun q => by rw [q]; exact hz, by omega⟩
  · rw [e, Int.one_mul]
    refine ⟨fun q => ?_, fun q => ?_, by omega⟩
    · rw [y_bit t k u hz, if_neg (by omega)]
    · rw [y_bit t k u hz, if_pos q]
theorem y_block {c : Int} {L n : Nat} {I : Nat → Nat → Int} {A : Nat → Nat → Nat → Int} {nf : Nat} {LN : Nat → Nat} {PI PR PB : Nat → Nat → Int} {hn : Bool} {mf : Nat} {SN : Nat → Nat} {SI SR SB : Nat → Nat → Int} {i s j : Nat → Int} {a a2 : Nat → Nat → Int} {y z u : Int} {p : Nat} {i3 : Nat → Int} {a3 : Nat → Nat → Int} (hR : y_R c L n I A nf LN PI PR PB hn mf SN SI SR SB i s j a) (hp : p < n) (hy : 1 ≤ y ∧ y ≤ 64) (hz : 0 ≤ z ∧ z ≤ 3) (hu : 0 ≤ u ∧ u ≤ 255) (h8 : I (p + 20) 4 < 8) (v4 : i3 4 = I (p + 20) 4 + 1) (v10 : i3 10 = I (p + 20) 10 + z / 2 * 2 ^ (I (p + 20) 4).toNat) (v11 : i3 11 = I (p + 20) 11 + z % 2 * 2 ^ (I (p + 20) 4).toNat) (vk : ∀ k, k ≠ 4 → k ≠ 10 → k ≠ 11 → i3 k = I (p + 20) k) (u8 : a3 8 = b_up (A (p + 20) 8) (I (p + 20) 4).toNat y) (u9 : a3 9 = b_up (A (p + 20) 9) (I (p + 20) 4).toNat u) (hB1 : ∀ q : Nat, (q : Int) < I (p + 20) 4 + 1 → 1 ≤ a3 8 q) (hqI : q_I i3 a3) (hqD : q_D i3 (b_up (A (p + 20) 8) (I (p + 20) 4).toNat y) (b_up (A (p + 20) 9) (I (p + 20) 4).toNat u) (a3 12) (a3 13) 401 0) (w12 : a2 12 = b_up (a 12) p (a 12 p + 1)) (w13 : a2 13 = b_up (a 13) (8 * p + (a 12 p).toNat) y) (w14 : a2 14 = b_up (a 14) (8 * p + (a 12 p).toNat) z) (w15 : a2 15 = b_up (a 15) (8 * p + (a 12 p).toNat) u) (ea : ∀ k, k ∉ [12, 13, 14, 15] → a2 k = a k) : y_R c L n (b_up I (p + 20) i3) (b_up A (p + 20) a3) nf LN PI PR PB hn mf SN SI SR SB i s j a2 := by
  obtain ⟨h0, hFf, hDd, hKk, hPp, hGg, hNn, hCc⟩ := hR
  obtain ⟨p1, p2, p3, p4, p5⟩ := id hPp
  obtain ⟨d1, d2, d3, d4, d5, d6, d7, d8, d9, d10, d11, d12⟩ := id p3
  have hIt : ∀ t, t < 20 → b_up I (p + 20) i3 t = I t := fun t ht => b_up_ne _ _ (by omega)
  have hAt : ∀ t, t < 20 → b_up A (p + 20) a3 t = A t := fun t ht => b_up_ne _ _ (by omega)
  have hIp : ∀ q, q ≠ p → b_up I (p + 20) i3 (q + 20) = I (q + 20) := fun q hq => b_up_ne _ _ (by omega)
  have hAp : ∀ q, q ≠ p → b_up A (p + 20) a3 (q + 20) = A (q + 20) := fun q hq => b_up_ne _ _ (by omega)
  obtain ⟨⟨x0, x1, x2, x3, x4, x5, x6, x7, x8⟩, ⟨hI0, hB0, hE0, hX0, hD0⟩⟩ := p4 p hp
  have hd2 := d2 p
  have ht : (a 12 p).toNat = (I (p + 20) 4).toNat := by rw [x4]
  have hbE := fun k : Nat => y_bit2 (k := k) (w := z / 2) hI0.2.1.1 hE0 (by omega)
  have hbX := fun k : Nat => y_bit2 (k := k) (w := z % 2) hI0.2.2.1.1 hX0 (by omega)
  have hsuc : (I (p + 20) 4 + 1).toNat = (I (p + 20) 4).toNat + 1 := by omega
  refine ⟨h0, hFf.cg (hIt 1 (by omega)) (hAt 1 (by omega)) rfl (fun k hk => ea k ((by decide : ∀ k ∈ [2, 3, 4], k ∉ [12, 13, 14, 15]) k hk)), hDd.cg (hIt 0 (by omega)) (hAt 0 (by omega)) (fun _ _ => rfl) (fun k hk => ea k ((by decide : ∀ k ∈ [54, 55, 56], k ∉ [12, 13, 14, 15]) k hk)), hKk.cg (hIt 5 (by omega)) (hAt 5 (by omega)) (fun _ _ => rfl) (ea 22 (by decide)), ?_, ?_, ?_, ?_⟩
  · refine ⟨p1, p2, ?_, fun q hq => ?_, fun q hq => ?_⟩
    · unfold m_P
      rw [w12, w13, w14, w15, ea 6 (by decide), ea 7 (by decide), ea 8 (by decide), ea 9 (by decide), ea 10 (by decide), ea 11 (by decide), ea 16 (by decide)]
      refine ⟨d1, b_up_all (P := fun v => 0 ≤ v ∧ v ≤ 8) d2 ⟨by omega, by omega⟩, d3, d4, d5, d6, d7, b_up_all (P := fun v => 0 ≤ v ∧ v ≤ 64) d8 ⟨by omega, by omega⟩, fun q x hq hx => ?_, b_up_all (P := fun v => 0 ≤ v ∧ v ≤ 3) d10 hz, b_up_all (P := fun v => 0 ≤ v ∧ v ≤ 255) d11 hu, d12⟩
      by_cases e : 8 * q + x = 8 * p + (a 12 p).toNat
      · rw [e, b_up_eq]; omega
      · rw [b_up_ne _ _ e]
        refine d9 q x hq ?_
        by_cases e2 : q = p
        · rw [e2] at hx e ⊢
          rw [b_up_eq] at hx
          omega
        · rw [b_up_ne _ _ e2] at hx; exact hx
    · by_cases e : q = p
      · subst e
        rw [b_up_eq, b_up_eq]
        constructor
        · unfold y_p
          rw [w12, w13, w14, w15, ea 6 (by decide), ea 7 (by decide), ea 8 (by decide), ea 9 (by decide), ea 10 (by decide), ea 11 (by decide), ea 50 (by decide), b_up_eq, vk 0 (by decide) (by decide) (by decide), vk 1 (by decide) (by decide) (by decide), vk 2 (by decide) (by decide) (by decide), vk 3 (by decide) (by decide) (by decide), vk 5 (by decide) (by decide) (by decide), vk 6 (by decide) (by decide) (by decide), vk 7 (by decide) (by decide) (by decide), v4, v10, v11, u8, u9, ht]
          refine ⟨x0, x1, x2, x3, by rw [x4], x5, x6, x7, fun x hx => ?_⟩
          by_cases e : x = (I (q + 20) 4).toNat
          · rw [← e, b_up_eq, b_up_eq, b_up_eq, b_up_eq, b_up_eq]
            have g1 := (hbE x).2.1 e
            have g2 := (hbX x).2.1 e
            rw [← e] at g1 g2
            exact ⟨rfl, rfl, g1, g2⟩
          · have hne : 8 * q + x ≠ 8 * q + (I (q + 20) 4).toNat := by omega
            rw [b_up_ne _ _ e, b_up_ne _ _ e, b_up_ne _ _ hne, b_up_ne _ _ hne, b_up_ne _ _ hne, (hbE x).1 (by omega), (hbX x).1 (by omega)]
            exact x8 x (by omega)
        · refine ⟨hqI, fun x hx => hB1 x (by omega), ?_, ?_, ?_⟩
          · rw [v4, v10, hsuc]; exact (hbE 0).2.2
          · rw [v4, v11, hsuc]; exact (hbX 0).2.2
          · rw [u8, u9]; exact hqD
      · rw [hIp q e, hAp q e]
        obtain ⟨⟨y0, y1, y2, y3, y4, y5, y6, y7, y8⟩, hq2⟩ := p4 q hq
        refine ⟨?_, hq2⟩
        unfold y_p
        rw [w12, w13, w14, w15, ea 6 (by decide), ea 7 (by decide), ea 8 (by decide), ea 9 (by decide), ea 10 (by decide), ea 11 (by decide), ea 50 (by decide), b_up_ne _ _ e]
        refine ⟨y0, y1, y2, y3, y4, y5, y6, y7, fun x hx => ?_⟩
        have hdq := d2 q
        have hne : 8 * q + x ≠ 8 * p + (a 12 p).toNat := by omega
        rw [b_up_ne _ _ hne, b_up_ne _ _ hne, b_up_ne _ _ hne]
        exact y8 x hx
    · rw [hIp q (by omega), ea 50 (by decide), w12, b_up_ne _ _ (show q ≠ p by omega)]
      exact p5 q hq
  · obtain ⟨g1, g2, g3, g4, g5⟩ := id hGg
    refine ⟨g1, g2, ?_, ?_, ?_⟩
    · rw [ea 26 (by decide), ea 27 (by decide), ea 8 (by decide), ea 9 (by decide), ea 29 (by decide), ea 30 (by decide), ea 31 (by decide)]
      exact y_S_blk g3 d2 (by omega) w12 w13 w14
    · unfold m_G at g4 ⊢
      rw [ea 26 (by decide), ea 27 (by decide), ea 29 (by decide), ea 30 (by decide), ea 31 (by decide), w12]
      refine ⟨g4.1, fun q hq => ?_⟩
      obtain ⟨t1, t2, t3, t4, t5⟩ := g4.2 q hq
      refine ⟨t1, t2, t3, t4, fun k hk => ⟨(t5 k hk).1, ?_⟩⟩
      have h1 := (t5 k hk).2
      by_cases e : (a 26 q).toNat = p
      · rw [e, b_up_eq]; rw [e] at h1; omega
      · rw [b_up_ne _ _ e]; exact h1
    · rw [ea 28 (by decide), ea 6 (by decide), ea 26 (by decide)]; exact g5
  · refine hNn.cg5 (fun _ _ => rfl) (fun k hk => ea k ((by decide : ∀ k ∈ [36, 37, 38, 39, 40, 49], k ∉ [12, 13, 14, 15]) k hk)) (fun hQ => ?_) (fun hS => ?_)
    · unfold m_Q at hQ ⊢
      rw [ea 36 (by decide), ea 37 (by decide), ea 38 (by decide), ea 39 (by decide), ea 40 (by decide), w12]
      intro q hq
      obtain ⟨t1, t2, t3, t4, t5⟩ := hQ q hq
      refine ⟨t1, t2, t3, t4, fun k hk => ⟨(t5 k hk).1, ?_⟩⟩
      have h1 := (t5 k hk).2
      by_cases e : (a 36 q).toNat = p
      · rw [e, b_up_eq]; rw [e] at h1; omega
      · rw [b_up_ne _ _ e]; exact h1
    · rw [ea 36 (by decide), ea 37 (by decide), ea 38 (by decide), ea 39 (by decide), ea 40 (by decide)]
      exact y_S_blk hS d2 (by omega) w12 w13 w14
  · obtain ⟨c1, c2, c3⟩ := hCc
    have h3 : ∀ q, b_up I (p + 20) i3 (q + 20) 5 = I (q + 20) 5 ∧ b_up I (p + 20) i3 (q + 20) 3 = I (q + 20) 3 := fun q => by
      by_cases e : q = p
      · rw [e, b_up_eq]; exact ⟨vk 5 (by decide) (by decide) (by decide), vk 3 (by decide) (by decide) (by decide)⟩
      · rw [hIp q e]; exact ⟨rfl, rfl⟩
    refine ⟨?_, ?_, ?_⟩
    · unfold m_C at c1 ⊢
      rw [ea 50 (by decide)]
      exact c1
    · rw [c2]
      exact y_smc (fun k hk => by rw [(h3 k).1, (h3 k).2])
    · rw [c3]
      exact y_smc (fun k hk => by rw [(h3 k).1])

set_option maxHeartbeats 4000000 in
theorem law_piece {S : b_S} {b Ls : Nat} {xs : Nat → Int32} (hC : lw_ctx S b Ls xs) {o6 o7 : Nat} {c x : Int} {k m : Nat} {h : b_H} {sz : Nat} (hI : lw_I (s_G S) o6 o7 c k m h sz) (hc5 : c < 512) (hx : 0 ≤ x ∧ x + 5 ≤ Ls) (K : ∀ (k m : Nat) (h : b_H) (sz : Nat), lw_I (s_G S) o6 o7 (c + 1) k m h sz → V S k m h sz 954 [some (.ref b), some (.ref o6), some (.ref o7), some (.int (zI x))] []) : V S k m h sz 305 [some (.ref b), some (.ref o6), some (.ref o7), some (.int (zI x))] [] := by
  obtain ⟨hSX, hSh, hc, ho, hFr, hLo, hCe, hSl, hLs⟩ := hC
  obtain ⟨ad, L, n, I, A, nf, LN, PI, PR, PB, hn, mf, SN, SI, SR, SB, i, s, j, a, hX, hO, hR, hk, hm⟩ := hI
  obtain ⟨hc0, hF, hD, hK, hP, hG, hN, hCc⟩ := id hR
  obtain ⟨fs, h6⟩ := hX.obj
  obtain ⟨hP5, hn12, hmP, hpp, hp0⟩ := id hP
  have hq : ∀ p, p < n → q_J (I (p + 20)) (A (p + 20)) := fun p hp => (hpp p hp).2
  have hL786 := hK.2.2.2.2.1
  obtain ⟨y1, e1, z1⟩ : ∃ y, (xs (x + 1).toNat).toInt = y ∧ zb y := ⟨_, rfl, zb_of _⟩
  obtain ⟨y2, e2, z2⟩ : ∃ y, (xs (x + 2).toNat).toInt = y ∧ zb y := ⟨_, rfl, zb_of _⟩
  obtain ⟨y3, e3, z3⟩ : ∃ y, (xs (x + 3).toNat).toInt = y ∧ zb y := ⟨_, rfl, zb_of _⟩
  obtain ⟨y4, e4, z4⟩ : ∃ y, (xs (x + 4).toNat).toInt = y ∧ zb y := ⟨_, rfl, zb_of _⟩
  refine v_aload_n hc dL_law_305 rfl ?_
  refine v_aload_n hc dL_law_306 rfl ?_
  refine v_iload_n hc dL_law_307 rfl ?_
  refine z_iconst hc dL_law_308 ?_
  refine z_iadd hc dL_law_309 ?_
  refine v_sld hSX hSh hc dL_law_310 (by omega) (by omega) hLs ?_
  rw [e1]
  refine v_aload_n hc dL_law_311 rfl ?_
  refine v_iload_n hc dL_law_312 rfl ?_
  refine z_iconst hc dL_law_313 ?_
  refine z_iadd hc dL_law_314 ?_
  refine v_sld hSX hSh hc dL_law_315 (by omega) (by omega) hLs ?_
  rw [e2]
  refine v_aload_n hc dL_law_316 rfl ?_
  refine v_iload_n hc dL_law_317 rfl ?_
  refine z_iconst hc dL_law_318 ?_
  refine z_iadd hc dL_law_319 ?_
  refine v_sld hSX hSh hc dL_law_320 (by omega) (by omega) hLs ?_
  rw [e3]
  refine v_aload_n hc dL_law_321 rfl ?_
  refine v_iload_n hc dL_law_322 rfl ?_
  refine z_iconst hc dL_law_323 ?_
  refine z_iadd hc dL_law_324 ?_
  refine v_sld hSX hSh hc dL_law_325 (by omega) (by omega) hLs ?_
  rw [e4]
  refine v_callV (As := [.int (zI y1), .int (zI y2), .int (zI y3), .int (zI y4)]) hc ho dL_law_326 KV_L_35 KB_X6_piece h6 rfl rfl (c_X6_piece _ _ hX hn12 z1 z2 z3 z4) rfl (Nat.le_of_ble_eq_true rfl) ⟨by omega, by omega⟩ ⟨by omega, by omega⟩ (fun r6 h6_ s6 q6 z6 => ?_)
  obtain ⟨v6, hv6⟩ : ∃ v : Int32, r6 = some (.int v) := by
    rcases q6 with q | q | q
    · exact ⟨_, q.2.1⟩
    · exact ⟨_, q.2.2.1⟩
    · exact ⟨_, q.2.2.1⟩
  subst hv6
  have hp7 : ∀ b, r_own K7 o7 ad b → h6_ b = h b := fun b hb => by
    rcases q6 with q | q | q
    · rw [q.2.2.1]
    · rw [q.2.2.2.1]
    · exact q.2.2.2.2.1 b hb
  have hO := hO.kept hp7
  replace q6 := y_Hd.mk q6
  refine v_aload_n hc dL_law_329 rfl ?_
  refine v_aload_n hc dL_law_330 rfl ?_
  refine v_iload_n hc dL_law_331 rfl ?_
  refine z_iconst hc dL_law_332 ?_
  refine z_iadd hc dL_law_333 ?_
  refine v_sld hSX hSh hc dL_law_334 (by omega) (by omega) hLs ?_
  rw [e1]
  refine v_aload_n hc dL_law_335 rfl ?_
  refine v_iload_n hc dL_law_336 rfl ?_
  refine z_iconst hc dL_law_337 ?_
  refine z_iadd hc dL_law_338 ?_
  refine v_sld hSX hSh hc dL_law_339 (by omega) (by omega) hLs ?_
  rw [e2]
  refine v_aload_n hc dL_law_340 rfl ?_
  refine v_iload_n hc dL_law_341 rfl ?_
  refine z_iconst hc dL_law_342 ?_
  refine z_iadd hc dL_law_343 ?_
  refine v_sld hSX hSh hc dL_law_344 (by omega) (by omega) hLs ?_
  rw [e3]
  refine v_aload_n hc dL_law_345 rfl ?_
  refine v_iload_n hc dL_law_346 rfl ?_
  refine z_iconst hc dL_law_347 ?_
  refine z_iadd hc dL_law_348 ?_
  refine v_sld hSX hSh hc dL_law_349 (by omega) (by omega) hLs ?_
  rw [e4]
  refine v_callV (As := [.int (zI y1), .int (zI y2), .int (zI y3), .int (zI y4)]) hc ho dL_law_350 KV_L_39 KB_X7_piece hO.1 rfl rfl (c_X7_piece _ _ hO hmP z1 z2 z3 z4) rfl (Nat.le_of_ble_eq_true rfl) ⟨by omega, by omega⟩ ⟨by omega, by omega⟩ (fun r7 h7_ s7 q7 z7 => ?_)
  obtain ⟨es7, j2, b2, hq7, hO2, hfr7⟩ := q7
  subst es7
  obtain ⟨v7, hv7⟩ : ∃ v : Int32, r7 = some (.int v) := by
    rcases hq7 with q | q | q
    · exact ⟨_, q.2.1⟩
    · exact ⟨_, q.2.2.1⟩
    · exact ⟨_, q.2.2.1⟩
  subst hv7
  obtain ⟨hv, hfin⟩ : v6 = v7 ∧ lw_I (s_G S) o6 o7 (c + 1) (k + 6 + 0) (m + 4714 + 0) h7_ s7 := by
    have hnj : (j 5).toNat = n := by omega
    replace q6 := q6.un
    rcases q6 with ⟨c6, r6, eh6, es6⟩ | ⟨c6, d6, r6, eh6, es6⟩ | ⟨c6, d6, r6, es6, hp7_, a3, hJ3, hX2⟩ <;> rcases hq7 with ⟨c7, r7, e3, e4⟩ | ⟨c7, d7, r7, e3, e4⟩ | ⟨c7, d7, r7, e3, e4⟩ <;> first | exact absurd c7 c6 | exact absurd c6 c7 | omega | skip
    · have eh6 := eh6.symm
      subst eh6
      have es6 := es6.symm
      subst es6
      have hX3 := hX.kept7 hfr7
      subst e3 e4
      exact ⟨(Value.int.inj (Option.some.inj r6)).trans (Value.int.inj (Option.some.inj r7)).symm, ⟨ad, L, n, I, A, nf, LN, PI, PR, PB, hn, mf, SN, SI, SR, SB, i, s, _, _, hX3, hO2, hR.mono, by omega, by omega⟩⟩
    · have eh6 := eh6.symm
      subst eh6
      have es6 := es6.symm
      subst es6
      have hX3 := hX.kept7 hfr7
      subst e3 e4
      exact ⟨(Value.int.inj (Option.some.inj r6)).trans (Value.int.inj (Option.some.inj r7)).symm, ⟨ad, L, n, I, A, nf, LN, PI, PR, PB, hn, mf, SN, SI, SR, SB, i, s, _, _, hX3, hO2, hR.mono, by omega, by omega⟩⟩
    · have hX3 := hX2.kept7 hfr7
      rw [hnj] at e4
      subst e3 e4
      exact ⟨(Value.int.inj (Option.some.inj r6)).trans (Eq.trans (by rw [hP5]) (Value.int.inj (Option.some.inj r7)).symm), ⟨ad, L, n + 1, _, _, nf, LN, PI, PR, PB, hn, mf, SN, SI, SR, SB, i, s, _, _, hX3, hO2, y_piece hR.mono c6 d6 hJ3 rfl rfl rfl rfl rfl rfl rfl rfl (b_up_eq _ _ _) (fun k hk => b_up_ne _ _ hk) rfl rfl rfl rfl rfl rfl (fun k hk => (r_up_ne (fun z => hk (by rw [z]; decide))).trans ((r_up_ne (fun z => hk (by rw [z]; decide))).trans ((r_up_ne (fun z => hk (by rw [z]; decide))).trans ((r_up_ne (fun z => hk (by rw [z]; decide))).trans ((r_up_ne (fun z => hk (by rw [z]; decide))).trans (r_up_ne (fun z => hk (by rw [z]; decide)))))))), by omega, by omega⟩⟩
  subst hv
  refine v_icmp_same (tgt := 954) hc dL_law_353 (by decide) ?_
  exact K _ _ _ _ hfin

set_option maxHeartbeats 4000000 in
theorem law_block {S : b_S} {b Ls : Nat} {xs : Nat → Int32} (hC : lw_ctx S b Ls xs) {o6 o7 : Nat} {c x : Int} {k m : Nat} {h : b_H} {sz : Nat} (hI : lw_I (s_G S) o6 o7 c k m h sz) (hc5 : c < 512) (hx : 0 ≤ x ∧ x + 5 ≤ Ls) (K : ∀ (k m : Nat) (h : b_H) (sz : Nat), lw_I (s_G S) o6 o7 (c + 1) k m h sz → V S k m h sz 954 [some (.ref b), some (.ref o6), some (.ref o7), some (.int (zI x))] []) : V S k m h sz 358 [some (.ref b), some (.ref o6), some (.ref o7), some (.int (zI x))] [] := by
  obtain ⟨hSX, hSh, hc, ho, hFr, hLo, hCe, hSl, hLs⟩ := hC
  obtain ⟨ad, L, n, I, A, nf, LN, PI, PR, PB, hn, mf, SN, SI, SR, SB, i, s, j, a, hX, hO, hR, hk, hm⟩ := hI
  obtain ⟨hc0, hF, hD, hK, hP, hG, hN, hCc⟩ := id hR
  obtain ⟨fs, h6⟩ := hX.obj
  obtain ⟨hP5, hn12, hmP, hpp, hp0⟩ := id hP
  have hq : ∀ p, p < n → q_J (I (p + 20)) (A (p + 20)) := fun p hp => (hpp p hp).2
  have hL786 := hK.2.2.2.2.1
  obtain ⟨y1, e1, z1⟩ : ∃ y, (xs (x + 1).toNat).toInt = y ∧ zb y := ⟨_, rfl, zb_of _⟩
  obtain ⟨y2, e2, z2⟩ : ∃ y, (xs (x + 2).toNat).toInt = y ∧ zb y := ⟨_, rfl, zb_of _⟩
  obtain ⟨y3, e3, z3⟩ : ∃ y, (xs (x + 3).toNat).toInt = y ∧ zb y := ⟨_, rfl, zb_of _⟩
  obtain ⟨y4, e4, z4⟩ : ∃ y, (xs (x + 4).toNat).toInt = y ∧ zb y := ⟨_, rfl, zb_of _⟩
  refine v_aload_n hc dL_law_358 rfl ?_
  refine v_aload_n hc dL_law_359 rfl ?_
  refine v_iload_n hc dL_law_360 rfl ?_
  refine z_iconst hc dL_law_361 ?_
  refine z_iadd hc dL_law_362 ?_
  refine v_sld hSX hSh hc dL_law_363 (by omega) (by omega) hLs ?_
  rw [e1]
  refine v_aload_n hc dL_law_364 rfl ?_
  refine v_iload_n hc dL_law_365 rfl ?_
  refine z_iconst hc dL_law_366 ?_
  refine z_iadd hc dL_law_367 ?_
  refine v_sld hSX hSh hc dL_law_368 (by omega) (by omega) hLs ?_
  rw [e2]
  refine v_aload_n hc dL_law_369 rfl ?_
  refine v_iload_n hc dL_law_370 rfl ?_
  refine z_iconst hc dL_law_371 ?_
  refine z_iadd hc dL_law_372 ?_
  refine v_sld hSX hSh hc dL_law_373 (by omega) (by omega) hLs ?_
  rw [e3]
  refine v_aload_n hc dL_law_374 rfl ?_
  refine v_iload_n hc dL_law_375 rfl ?_
  refine z_iconst hc dL_law_376 ?_
  refine z_iadd hc dL_law_377 ?_
  refine v_sld hSX hSh hc dL_law_378 (by omega) (by omega) hLs ?_
  rw [e4]
  refine v_callV (As := [.int (zI y1), .int (zI y2), .int (zI y3), .int (zI y4)]) hc ho dL_law_379 KV_L_40 KB_X6_block h6 rfl rfl (c_X6_block _ _ hX hn12 hq z1 z2 z3 z4) rfl (Nat.le_of_ble_eq_true rfl) ⟨by omega, by omega⟩ ⟨by omega, by omega⟩ (fun r6 h6_ s6 q6 z6 => ?_)
  obtain ⟨es6, hp7, I2, A2, hq6, hX2⟩ := q6
  subst es6
  obtain ⟨v6, hv6⟩ : ∃ v : Int32, r6 = some (.int v) := by
    rcases hq6 with q | ⟨-, w3, w4, -, -, q | q⟩
    · exact ⟨_, q.2.1⟩
    · exact ⟨_, q.2.1⟩
    · exact ⟨_, q.2.1⟩
  subst hv6
  have hO := hO.kept hp7
  replace hq6 := y_Hd.mk hq6
  refine v_aload_n hc dL_law_382 rfl ?_
  refine v_aload_n hc dL_law_383 rfl ?_
  refine v_iload_n hc dL_law_384 rfl ?_
  refine z_iconst hc dL_law_385 ?_
  refine z_iadd hc dL_law_386 ?_
  refine v_sld hSX hSh hc dL_law_387 (by omega) (by omega) hLs ?_
  rw [e1]
  refine v_aload_n hc dL_law_388 rfl ?_
  refine v_iload_n hc dL_law_389 rfl ?_
  refine z_iconst hc dL_law_390 ?_
  refine z_iadd hc dL_law_391 ?_
  refine v_sld hSX hSh hc dL_law_392 (by omega) (by omega) hLs ?_
  rw [e2]
  refine v_aload_n hc dL_law_393 rfl ?_
  refine v_iload_n hc dL_law_394 rfl ?_
  refine z_iconst hc dL_law_395 ?_
  refine z_iadd hc dL_law_396 ?_
  refine v_sld hSX hSh hc dL_law_397 (by omega) (by omega) hLs ?_
  rw [e3]
  refine v_aload_n hc dL_law_398 rfl ?_
  refine v_iload_n hc dL_law_399 rfl ?_
  refine z_iconst hc dL_law_400 ?_
  refine z_iadd hc dL_law_401 ?_
  refine v_sld hSX hSh hc dL_law_402 (by omega) (by omega) hLs ?_
  rw [e4]
  refine v_callV (As := [.int (zI y1), .int (zI y2), .int (zI y3), .int (zI y4)]) hc ho dL_law_403 KV_L_43 KB_X7_block hO.1 rfl rfl (c_X7_block _ _ hO hmP z1 z2 z3 z4) rfl (Nat.le_of_ble_eq_true rfl) ⟨by omega, by omega⟩ ⟨by omega, by omega⟩ (fun r7 h7_ s7 q7 z7 => ?_)
  obtain ⟨es7, j2, b2, hq7, hO2, hfr7⟩ := q7
  subst es7
  obtain ⟨v7, hv7⟩ : ∃ v : Int32, r7 = some (.int v) := by
    rcases hq7 with q | q | q
    · exact ⟨_, q.2.1⟩
    · exact ⟨_, q.2.2.1⟩
    · exact ⟨_, q.2.2.1⟩
  subst hv7
  obtain ⟨hv, hfin⟩ : v6 = v7 ∧ lw_I (s_G S) o6 o7 (c + 1) (k + 0 + 0) (m + 0 + 0) h7_ s7 := by
    have hX3 := hX2.kept7 hfr7
    replace hq6 := hq6.un
    rcases hq6 with ⟨c6, r6, e1, e2⟩ | ⟨c6, i3, a3, e1, e2, ⟨d6, r6, e5, e6⟩ | ⟨d6, r6, v4, v10, v11, vk, u8, u9, hB1, hqI, hqD⟩⟩
    · rcases hq7 with ⟨c7, r7, e3, e4⟩ | ⟨c7, d7, r7, e3, e4⟩ | ⟨c7, d7, r7, e3, e4⟩
      · rw [e1, e2] at hX3
        subst e3 e4
        exact ⟨(Value.int.inj (Option.some.inj r6)).trans (Value.int.inj (Option.some.inj r7)).symm, ⟨ad, L, n, I, A, nf, LN, PI, PR, PB, hn, mf, SN, SI, SR, SB, i, s, _, _, hX3, hO2, hR.mono, by omega, by omega⟩⟩
      · exact absurd ⟨⟨c7.1.1, by omega⟩, c7.2⟩ c6
      · exact absurd ⟨⟨c7.1.1, by omega⟩, c7.2⟩ c6
    · have x4 := (hpp y1.toNat (by omega)).1.2.2.2.2.1
      rcases hq7 with ⟨c7, r7, e3, e4⟩ | ⟨c7, d7, r7, e3, e4⟩ | ⟨c7, d7, r7, e3, e4⟩
      · exact absurd ⟨⟨c6.1.1, by omega⟩, c6.2⟩ c7
      · rw [e1, e2, e5, e6, b_up_self, b_up_self] at hX3
        subst e3 e4
        exact ⟨(Value.int.inj (Option.some.inj r6)).trans (Value.int.inj (Option.some.inj r7)).symm, ⟨ad, L, n, I, A, nf, LN, PI, PR, PB, hn, mf, SN, SI, SR, SB, i, s, _, _, hX3, hO2, hR.mono, by omega, by omega⟩⟩
      · omega
    · have x4 := (hpp y1.toNat (by omega)).1.2.2.2.2.1
      rcases hq7 with ⟨c7, r7, e3, e4⟩ | ⟨c7, d7, r7, e3, e4⟩ | ⟨c7, d7, r7, e3, e4⟩
      · exact absurd ⟨⟨c6.1.1, by omega⟩, c6.2⟩ c7
      · omega
      · have hd2 := hmP.2.1 y1.toNat
        have he : (8 * y1 + a 12 y1.toNat).toNat = 8 * y1.toNat + (a 12 y1.toNat).toNat := by omega
        rw [e1, e2] at hX3
        rw [he] at e4
        subst e3 e4
        exact ⟨(Value.int.inj (Option.some.inj r6)).trans (Eq.trans (by rw [x4]) (Value.int.inj (Option.some.inj r7)).symm), ⟨ad, L, n, _, _, nf, LN, PI, PR, PB, hn, mf, SN, SI, SR, SB, i, s, _, _, hX3, hO2, y_block hR.mono (by omega) c6.2.1 c6.2.2.1 c6.2.2.2 d6 v4 v10 v11 vk u8 u9 hB1 hqI hqD rfl rfl rfl rfl (fun k hk => (r_up_ne (fun z => hk (by rw [z]; decide))).trans ((r_up_ne (fun z => hk (by rw [z]; decide))).trans ((r_up_ne (fun z => hk (by rw [z]; decide))).trans (r_up_ne (fun z => hk (by rw [z]; decide)))))), by omega, by omega⟩⟩
  subst hv
  refine v_icmp_same (tgt := 954) hc dL_law_406 (by decide) ?_
  exact K _ _ _ _ hfin
