/-! what each piece of the relation looks at -/
section CG
variable {c : Int} {L n : Nat} {I I2 : Nat → Nat → Int} {A A2 : Nat → Nat → Nat → Int} {nf : Nat} {LN : Nat → Nat} {PI PR PB : Nat → Nat → Int} {hn : Bool} {mf : Nat} {SN : Nat → Nat} {SI SR SB : Nat → Nat → Int} {i s j j2 : Nat → Int} {a a2 : Nat → Nat → Int}
theorem y_Ff.cg (h : y_Ff I A j a) (hI : I2 1 = I 1) (hA : A2 1 = A 1) (hj : j2 1 = j 1) (ha : ∀ k ∈ [2, 3, 4], a2 k = a k) : y_Ff I2 A2 j2 a2 := by
  unfold y_Ff m_F at h ⊢
  rw [hI, hA, hj, ha 2 (by decide), ha 3 (by decide), ha 4 (by decide)]
  exact h
theorem y_Dd.cg (h : y_Dd I A j a) (hI : I2 0 = I 0) (hA : A2 0 = A 0) (hj : ∀ k ∈ [53, 57], j2 k = j k) (ha : ∀ k ∈ [54, 55, 56], a2 k = a k) : y_Dd I2 A2 j2 a2 := by
  unfold y_Dd m_E at h ⊢
  rw [hI, hA, hj 53 (by decide), hj 57 (by decide), ha 54 (by decide), ha 55 (by decide), ha 56 (by decide)]
  exact h
theorem y_Kk.cg (h : y_Kk c L I A j a) (hI : I2 5 = I 5) (hA : A2 5 = A 5) (hj : ∀ k ∈ [19, 20], j2 k = j k) (ha : a2 22 = a 22) : y_Kk c L I2 A2 j2 a2 := by
  unfold y_Kk m_R at h ⊢
  rw [hI, hA, hj 19 (by decide), hj 20 (by decide), ha]
  exact h
theorem m_P_cg (h : m_P j a) (hj : j2 5 = j 5) (ha : ∀ k ∈ [6, 7, 8, 9, 10, 11, 12, 13, 14, 15, 16], a2 k = a k) : m_P j2 a2 := by
  unfold m_P at h ⊢
  rw [hj, ha 6 (by decide), ha 7 (by decide), ha 8 (by decide), ha 9 (by decide), ha 10 (by decide), ha 11 (by decide), ha 12 (by decide), ha 13 (by decide), ha 14 (by decide), ha 15 (by decide), ha 16 (by decide)]
  exact h
theorem y_p_cg {i : Nat → Int} {b : Nat → Nat → Int} {p : Nat} (h : y_p i b a p) (ha : ∀ k ∈ [6, 7, 8, 9, 10, 11, 12, 13, 14, 15, 50], a2 k = a k) : y_p i b a2 p := by
  unfold y_p at h ⊢
  rw [ha 6 (by decide), ha 7 (by decide), ha 8 (by decide), ha 9 (by decide), ha 10 (by decide), ha 11 (by decide), ha 12 (by decide), ha 13 (by decide), ha 14 (by decide), ha 15 (by decide), ha 50 (by decide)]
  exact h
/-- as y_Pp, but for what the ways' room (16) holds -/
theorem y_Pp.cg (h : y_Pp n I A j a) (hI : ∀ p, I2 (p + 20) = I (p + 20)) (hA : ∀ p, A2 (p + 20) = A (p + 20)) (hj : j2 5 = j 5) (hP : m_P j2 a2) (ha : ∀ k ∈ [6, 7, 8, 9, 10, 11, 12, 13, 14, 15, 50], a2 k = a k) : y_Pp n I2 A2 j2 a2 := by
  obtain ⟨h1, h2, h3, h4, h5⟩ := h
  refine ⟨h1.trans hj.symm, h2, hP, fun p hp => ?_, fun p hp => by rw [hI, ha 12 (by decide), ha 50 (by decide)]; exact h5 p hp⟩
  rw [hI, hA]
  exact ⟨y_p_cg (h4 p hp).1 ha, (h4 p hp).2⟩
theorem y_Gg.cg (h : y_Gg nf LN PI PR PB j a) (hj : ∀ k ∈ [5, 25], j2 k = j k) (ha : ∀ k ∈ [6, 8, 9, 12, 13, 14, 26, 27, 28, 29, 30, 31], a2 k = a k) : y_Gg nf LN PI PR PB j2 a2 := by
  unfold y_Gg m_G y_S at h ⊢
  rw [hj 5 (by decide), hj 25 (by decide), ha 6 (by decide), ha 8 (by decide), ha 9 (by decide), ha 12 (by decide), ha 13 (by decide), ha 14 (by decide), ha 26 (by decide), ha 27 (by decide), ha 28 (by decide), ha 29 (by decide), ha 30 (by decide), ha 31 (by decide)]
  exact h
theorem y_Nn.cg (h : y_Nn c hn mf SN SI SR SB i s j a) (hj : ∀ k ∈ [5, 32, 33, 34, 35, 41, 42, 43, 44, 45, 46, 47, 48], j2 k = j k) (ha : ∀ k ∈ [12, 13, 14, 36, 37, 38, 39, 40, 49], a2 k = a k) : y_Nn c hn mf SN SI SR SB i s j2 a2 := by
  unfold y_Nn m_Q m_N m_J m_dn y_S y_N at h ⊢
  rw [hj 5 (by decide), hj 32 (by decide), hj 33 (by decide), hj 34 (by decide), hj 35 (by decide), hj 41 (by decide), hj 42 (by decide), hj 43 (by decide), hj 44 (by decide), hj 45 (by decide), hj 46 (by decide), hj 47 (by decide), hj 48 (by decide), ha 12 (by decide), ha 13 (by decide), ha 14 (by decide), ha 36 (by decide), ha 37 (by decide), ha 38 (by decide), ha 39 (by decide), ha 40 (by decide), ha 49 (by decide)]
  exact h
theorem y_Cc.cg (h : y_Cc c n I j a) (hI : ∀ p, I2 (p + 20) = I (p + 20)) (hj : ∀ k ∈ [51, 52], j2 k = j k) (ha : a2 50 = a 50) : y_Cc c n I2 j2 a2 := by
  unfold y_Cc m_C at h ⊢
  rw [hj 51 (by decide), hj 52 (by decide), ha]
  simp only [hI]
  exact h
end CG
