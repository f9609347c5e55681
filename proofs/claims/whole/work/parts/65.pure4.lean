/-! pure: the night, class against reference -/
/-- the parts of a programme or of a night, and the reference's rows of them -/
def y_S (mf : Nat) (SN : Nat → Nat) (SI SR SB : Nat → Nat → Int) (c : Nat → Nat → Int) (P Q T U R : Nat → Int) : Prop := ∀ s, s < mf → SI s 1 = P s ∧ SI s 2 = Q s ∧ SI s 5 = T s ∧ (SN s : Int) = U s ∧ 1 ≤ SN s ∧ SN s ≤ 16 ∧ 0 ≤ P s ∧ ∀ k : Nat, k < SN s → 0 ≤ R (16 * s + k) ∧ R (16 * s + k) < c 12 (P s).toNat ∧ SR s k = R (16 * s + k) ∧ SB s k = c 13 (8 * P s + R (16 * s + k)).toNat ∧ SI s 8 / 2 ^ k % 2 = c 14 (8 * P s + R (16 * s + k)).toNat % 2
/-- a night's state -/
def y_N (mf : Nat) (SN : Nat → Nat) (i s : Nat → Int) (j : Nat → Int) (c : Nat → Nat → Int) : Prop := j 35 = mf ∧ i 3 = j 42 ∧ i 7 = j 41 ∧ i 7 - i 4 = j 43 ∧ i 5 = min (j 44) ((SN (i 3).toNat : Int) - 1) ∧ 0 ≤ j 44 ∧ i 6 = j 45 ∧ i 8 = j 46 ∧ i 9 = j 47 ∧ i 10 = j 48 ∧ i 11 = j 33 ∧ i 12 = j 34 ∧ (0 ≤ i 3 ∧ i 3 < mf) ∧ (0 ≤ i 10 ∧ i 10 < mf) ∧ ∀ q : Nat, 1 ≤ q → (q : Int) ≤ i 10 → s q = c 49 q
/-- what a turn or a tenth does to plays -/
def y_pl (mf : Nat) (SI : Nat → Nat → Int) (I : Nat → Nat → Int) (j : Nat → Int) (c : Nat → Nat → Int) (I2 : Nat → Nat → Int) (j2 : Nat → Int) (c2 : Nat → Nat → Int) : Prop :=
  ((I2 = I ∧ c2 = c ∧ j2 51 = j 51 ∧ j2 52 = j 52) ∨ (∃ q : Nat, q < mf ∧ I2 = n_pl I (c 36 q) ∧ c2 50 = b_up (c 50) (c 36 q).toNat (c 50 (c 36 q).toNat + 1) ∧ (∀ k, k ≠ 50 → c2 k = c k) ∧ j2 51 = j 51 + c 11 (c 36 q).toNat ∧ j2 52 = j 52 + 1)) ∧ n_ck j j2 [33, 41, 42, 43, 44, 45, 46, 47, 51, 52]
theorem y_turn {mf : Nat} {SN : Nat → Nat} {SI SR SB : Nat → Nat → Int} {s : Nat → Int} {I I2 : Nat → Nat → Int} {i i2 j j2 : Nat → Int} {c c2 : Nat → Nat → Int} (hS : y_S mf SN SI SR SB c (c 36) (c 37) (c 38) (c 39) (c 40)) (hN : y_N mf SN i s j c) (ht : n_tn mf SN SI SB s I i I2 i2) (hm : m_eb j c j2 c2) : y_N mf SN i2 s j2 c2 ∧ y_pl mf SI I j c I2 j2 c2 := by
  obtain ⟨n35, n3, n7, n4, n5, n44, n6, n8, n9, n10, n11, n12, h3, h10, hsq⟩ := hN
  obtain ⟨k, hk⟩ : ∃ k : Nat, i 3 = k := ⟨(i 3).toNat, by omega⟩
  have hk42 : j 42 = k := by omega
  obtain ⟨s1, s2, s5, s39, sl1, sl2, sP, sR⟩ := hS k (by omega)
  have hkn : (i 3).toNat = k := by omega
  have hkn2 : (j 42).toNat = k := by omega
  rw [hkn] at n5
  obtain ⟨t, ht5⟩ : ∃ t : Nat, i 5 = t := ⟨(i 5).toNat, by omega⟩
  have htn : (i 5).toNat = t := by omega
  obtain ⟨r1, r2, r3, r4, r5⟩ := sR t (by omega)
  have hbk : m_bk j c = c 40 (16 * k + t) := by
    unfold m_bk
    rw [hkn2, ← s39, hk42, ← n5, ht5]
    congr 1
  unfold n_tn at ht
  unfold m_eb at hm
  rw [hkn, htn, r5] at ht
  rw [hkn2, hbk] at hm
  have hck : ∀ {l : List Nat} {x y : Nat → Int}, n_ck x y l → ∀ q, q ∉ l → y q = x q := fun h => h
  rcases hm with ⟨m1, m2, m3, m4, m5⟩ | ⟨⟨m1, m2, m3⟩, i1, m4, m5, m6⟩ | ⟨m1, m2, m3, m4, m5, m6, m7⟩
  · rcases ht with ⟨⟨t1, -⟩, -⟩ | ⟨-, tI, t2⟩
    · omega
    · rcases t2 with ⟨t2, -⟩ | ⟨-, -, t3, t4⟩ | ⟨-, t2, -⟩
      · omega
      · subst m5
        have e : ∀ q, q ≠ 11 → i2 q = i q := fun q hq => t4 q (by simpa using hq)
        have f : ∀ q, q ≠ 33 → j2 q = j q := fun q hq => m4 q (by simpa using hq)
        refine ⟨⟨?_, ?_, ?_, ?_, ?_, ?_, ?_, ?_, ?_, ?_, ?_, ?_, ?_, ?_, ?_⟩, Or.inl ⟨tI, rfl, f 51 (by decide), f 52 (by decide)⟩, fun q hq => f q (fun z => hq (by rw [z]; decide))⟩
        · rw [f 35 (by decide)]; exact n35
        · rw [e 3 (by decide), f 42 (by decide)]; exact n3
        · rw [e 7 (by decide), f 41 (by decide)]; exact n7
        · rw [e 7 (by decide), e 4 (by decide), f 43 (by decide)]; exact n4
        · rw [e 5 (by decide), e 3 (by decide), f 44 (by decide), hkn]; exact n5
        · rw [f 44 (by decide)]; exact n44
        · rw [e 6 (by decide), f 45 (by decide)]; exact n6
        · rw [e 8 (by decide), f 46 (by decide)]; exact n8
        · rw [e 9 (by decide), f 47 (by decide)]; exact n9
        · rw [e 10 (by decide), f 48 (by decide)]; exact n10
        · rw [t3, m3]
        · rw [e 12 (by decide), f 34 (by decide)]; exact n12
        · rw [e 3 (by decide)]; exact h3
        · rw [e 10 (by decide)]; exact h10
        · rw [e 10 (by decide)]; exact hsq
      · omega
  · have hc14 : c 14 (8 * c 36 k + c 40 (16 * k + t)).toNat % 2 = 1 := m3
    have hcond : i 3 < i 10 ∧ c 14 (8 * c 36 k + c 40 (16 * k + t)).toNat % 2 = 1 := ⟨by omega, hc14⟩
    rcases ht with ⟨-, t3, t9, t4, t5, t6, t7, tI⟩ | ⟨t1, -⟩
    · obtain ⟨b42, b43, b44, b45, b51, b52, bck, b50, bq⟩ := m6
      obtain ⟨p1, p2, p5, p39, pl1, pl2, pP, pR⟩ := hS (k + 1) (by omega)
      obtain ⟨u1, u2, u3, u4, u5⟩ := pR 0 (by omega)
      have e1 : (i 3 + 1).toNat = k + 1 := by omega
      have e2 : (j 42 + 1).toNat = k + 1 := by omega
      rw [e1] at t9 t6 tI
      rw [e2] at m4 b45 b51 b50
      have g : ∀ q, q ≠ 47 → i1 q = j q := fun q hq => m5 q (by simpa using hq)
      have f : ∀ q, q ∉ [42, 43, 44, 45, 47, 51, 52] → j2 q = j q := fun q hq => by
        rw [bck q (fun z => hq (by revert z; simp; omega)), g q (fun z => hq (by rw [z]; decide))]
      have e : ∀ q, q ∉ [3, 4, 5, 6, 9] → i2 q = i q := t7
      have h49 := hsq (k + 1) (by omega) (by push_cast; omega)
      refine ⟨⟨?_, ?_, ?_, ?_, ?_, ?_, ?_, ?_, ?_, ?_, ?_, ?_, ?_, ?_, ?_⟩, Or.inr ⟨k + 1, by omega, by rw [tI, p1], b50, bq, ?_, ?_⟩, fun q hq => f q (fun z => hq (by revert z; simp; omega))⟩
      · rw [f 35 (by decide)]; exact n35
      · rw [t3, b42]; omega
      · rw [e 7 (by decide), f 41 (by decide)]; exact n7
      · rw [e 7 (by decide), t4, b43]; omega
      · rw [t5, t3, b44, e1]; omega
      · rw [b44]; omega
      · rw [t6, u4, b45]
        congr 2
        rw [show (16 * (j 42 + 1)).toNat = 16 * (k + 1) + 0 by omega]
      · rw [e 8 (by decide), f 46 (by decide)]; exact n8
      · rw [t9, bck 47 (by decide), m4, ← n9, ← n7, h49]
      · rw [e 10 (by decide), f 48 (by decide)]; exact n10
      · rw [e 11 (by decide), f 33 (by decide)]; exact n11
      · rw [e 12 (by decide), f 34 (by decide)]; exact n12
      · rw [t3]; omega
      · rw [e 10 (by decide)]; exact h10
      · rw [e 10 (by decide), bq 49 (by decide)]; exact hsq
      · rw [b51, g 51 (by decide)]
      · rw [b52, g 52 (by decide)]
    · exact absurd hcond t1
  · have hcond : ¬ (i 3 < i 10 ∧ c 14 (8 * c 36 k + c 40 (16 * k + t)).toNat % 2 = 1) := fun z => m2 ⟨by omega, by omega, z.2⟩
    subst m7
    rcases ht with ⟨t1, -⟩ | ⟨-, tI, t2⟩
    · exact absurd t1 hcond
    · have f : ∀ q, q ∉ [44, 45, 46] → j2 q = j q := m6
      have h42 : (16 * j 42 + min (j 44 + 1) (c2 39 k - 1)).toNat = 16 * k + (min (j 44 + 1) (c2 39 k - 1)).toNat := by omega
      rw [h42] at m5
      rcases t2 with ⟨t2, t3, t4, t5⟩ | ⟨t2, t3, -⟩ | ⟨t2, t3, t4, t5, t6⟩
      · have hmin : (min (j 44 + 1) (c2 39 k - 1)).toNat = t + 1 := by omega
        obtain ⟨u1, u2, u3, u4, u5⟩ := sR (t + 1) (by omega)
        have e : ∀ q, q ∉ [5, 6] → i2 q = i q := t5
        have e1 : (i 5 + 1).toNat = t + 1 := by omega
        rw [e1, u4] at t4
        rw [hmin] at m5
        rw [if_neg (by omega)] at m4
        refine ⟨⟨?_, ?_, ?_, ?_, ?_, ?_, ?_, ?_, ?_, ?_, ?_, ?_, ?_, ?_, ?_⟩, Or.inl ⟨tI, rfl, f 51 (by decide), f 52 (by decide)⟩, fun q hq => f q (fun z => hq (by revert z; simp; omega))⟩
        · rw [f 35 (by decide)]; exact n35
        · rw [e 3 (by decide), f 42 (by decide)]; exact n3
        · rw [e 7 (by decide), f 41 (by decide)]; exact n7
        · rw [e 7 (by decide), e 4 (by decide), f 43 (by decide)]; exact n4
        · rw [t3, e 3 (by decide), m3, hkn]; omega
        · rw [m3]; omega
        · rw [t4, m5, n6]
        · rw [e 8 (by decide), m4]; omega
        · rw [e 9 (by decide), f 47 (by decide)]; exact n9
        · rw [e 10 (by decide), f 48 (by decide)]; exact n10
        · rw [e 11 (by decide), f 33 (by decide)]; exact n11
        · rw [e 12 (by decide), f 34 (by decide)]; exact n12
        · rw [e 3 (by decide)]; exact h3
        · rw [e 10 (by decide)]; exact h10
        · rw [e 10 (by decide)]; exact hsq
      · omega
      · have hmin : (min (j 44 + 1) (c2 39 k - 1)).toNat = t := by omega
        have e : ∀ q, q ∉ [6, 8] → i2 q = i q := t6
        rw [r4] at t5
        rw [hmin] at m5
        rw [if_pos (by omega)] at m4
        refine ⟨⟨?_, ?_, ?_, ?_, ?_, ?_, ?_, ?_, ?_, ?_, ?_, ?_, ?_, ?_, ?_⟩, Or.inl ⟨tI, rfl, f 51 (by decide), f 52 (by decide)⟩, fun q hq => f q (fun z => hq (by revert z; simp; omega))⟩
        · rw [f 35 (by decide)]; exact n35
        · rw [e 3 (by decide), f 42 (by decide)]; exact n3
        · rw [e 7 (by decide), f 41 (by decide)]; exact n7
        · rw [e 7 (by decide), e 4 (by decide), f 43 (by decide)]; exact n4
        · rw [e 5 (by decide), e 3 (by decide), m3, hkn]; omega
        · rw [m3]; omega
        · rw [t5, m5, n6]
        · rw [t4, m4]; omega
        · rw [e 9 (by decide), f 47 (by decide)]; exact n9
        · rw [e 10 (by decide), f 48 (by decide)]; exact n10
        · rw [e 11 (by decide), f 33 (by decide)]; exact n11
        · rw [e 12 (by decide), f 34 (by decide)]; exact n12
        · rw [e 3 (by decide)]; exact h3
        · rw [e 10 (by decide)]; exact h10
        · rw [e 10 (by decide)]; exact hsq
