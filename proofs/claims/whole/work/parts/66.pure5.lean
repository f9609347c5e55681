/-! pure: tenths and runs of the night -/
theorem y_S_cong {mf : Nat} {SN : Nat → Nat} {SI SR SB : Nat → Nat → Int} {c c2 : Nat → Nat → Int} {P Q T U R : Nat → Int} (h : y_S mf SN SI SR SB c P Q T U R) (h2 : c2 12 = c 12 ∧ c2 13 = c 13 ∧ c2 14 = c 14) : y_S mf SN SI SR SB c2 P Q T U R := by
  unfold y_S at h ⊢
  rw [h2.1, h2.2.1, h2.2.2]
  exact h
theorem y_tick {mf : Nat} {SN : Nat → Nat} {SI SR SB : Nat → Nat → Int} {s : Nat → Int} {I I2 : Nat → Nat → Int} {i i2 j j2 : Nat → Int} {c c2 : Nat → Nat → Int} (hS : y_S mf SN SI SR SB c (c 36) (c 37) (c 38) (c 39) (c 40)) (hN : y_N mf SN i s j c) (ht : n_tk mf SN SI SB s I i I2 i2) (hm : m_tk j c j2 c2) : y_N mf SN i2 s j2 c2 ∧ y_pl mf SI I j c I2 j2 c2 := by
  obtain ⟨i1, t7, tck, ht⟩ := ht
  obtain ⟨j1, m41, m43, mck, hm⟩ := hm
  have e : ∀ q, q ∉ [7] → i1 q = i q := tck
  have f : ∀ q, q ∉ [41, 43] → j1 q = j q := mck
  have hN1 : y_N mf SN i1 s j1 c := by
    obtain ⟨n35, n3, n7, n4, n5, n44, n6, n8, n9, n10, n11, n12, h3, h10, hsq⟩ := hN
    refine ⟨?_, ?_, ?_, ?_, ?_, ?_, ?_, ?_, ?_, ?_, ?_, ?_, ?_, ?_, ?_⟩
    · rw [f 35 (by decide)]; exact n35
    · rw [e 3 (by decide), f 42 (by decide)]; exact n3
    · rw [t7, m41, n7]
    · rw [t7, e 4 (by decide), m43]; omega
    · rw [e 5 (by decide), e 3 (by decide), f 44 (by decide)]; exact n5
    · rw [f 44 (by decide)]; exact n44
    · rw [e 6 (by decide), f 45 (by decide)]; exact n6
    · rw [e 8 (by decide), f 46 (by decide)]; exact n8
    · rw [e 9 (by decide), f 47 (by decide)]; exact n9
    · rw [e 10 (by decide), f 48 (by decide)]; exact n10
    · rw [e 11 (by decide), f 33 (by decide)]; exact n11
    · rw [e 12 (by decide), f 34 (by decide)]; exact n12
    · rw [e 3 (by decide)]; exact h3
    · rw [e 10 (by decide)]; exact h10
    · rw [e 10 (by decide)]; exact hsq
  have hpl : ∀ {I2 : Nat → Nat → Int} {j2 : Nat → Int} {c2 : Nat → Nat → Int}, y_pl mf SI I j1 c I2 j2 c2 → y_pl mf SI I j c I2 j2 c2 := by
    intro I2 j2 c2 ⟨q1, q2⟩
    refine ⟨?_, fun q hq => (q2 q hq).trans (f q (fun z => hq (by revert z; simp; omega)))⟩
    rw [← f 51 (by decide), ← f 52 (by decide)]
    exact q1
  have hdn : n_dn SI i1 = m_dn j1 c := by
    have h3 := hN1.2.2.2.2.2.2.2.2.2.2.2.2.1
    obtain ⟨s1, s2, s5, -⟩ := hS (i1 3).toNat (by omega)
    unfold n_dn m_dn
    rw [s2, s5, hN1.2.2.2.1, ← hN1.2.1]
  have h6 := hN1.2.2.2.2.2.2.1
  rw [hdn, h6] at ht
  rcases ht with ⟨t1, t2, t3⟩ | ⟨t1, t2⟩
  · rcases hm with ⟨m1, m2, m3⟩ | ⟨m1, m2⟩
    · subst t2; subst t3; subst m2; subst m3
      exact ⟨hN1, hpl ⟨Or.inl ⟨rfl, rfl, rfl, rfl⟩, fun _ _ => rfl⟩⟩
    · omega
  · rcases hm with ⟨m1, m2, m3⟩ | ⟨m1, m2⟩
    · omega
    · obtain ⟨g1, g2⟩ := y_turn hS hN1 t2 m2
      exact ⟨g1, hpl g2⟩
theorem y_sm {f g : Nat → Int} {p : Nat} {x : Int} : ∀ {n : Nat}, p < n → (∀ k, k < n → k ≠ p → g k = f k) → g p = f p + x → f_sm g n = f_sm f n + x
  | 0, hp, _, _ => absurd hp (by omega)
  | n + 1, hp, h1, h2 => by
    rw [f_sm, f_sm]
    by_cases e : p = n
    · subst e
      have h3 : ∀ m, m ≤ p → f_sm g m = f_sm f m := by
        intro m
        induction m with
        | zero => intro _; rfl
        | succ m ih => intro hm; rw [f_sm, f_sm, ih (by omega), h1 m (by omega) (by omega)]
      rw [h3 p (Nat.le_refl p), h2]
      omega
    · rw [y_sm (n := n) (by omega) (fun k hk q => h1 k (by omega) q) h2, h1 n (by omega) (fun q => e q.symm)]
      omega
/-- plays and fees, and what else of the two stays -/
def y_B (n : Nat) (I0 : Nat → Nat → Int) (j0 : Nat → Int) (c0 : Nat → Nat → Int) (I : Nat → Nat → Int) (j : Nat → Int) (c : Nat → Nat → Int) : Prop :=
  (∀ t k : Nat, ¬ (20 ≤ t ∧ t < 20 + n ∧ k = 5) → I t k = I0 t k) ∧ ((∀ p, p < n → I (p + 20) 5 = c 50 p) ∧ ∀ p, n ≤ p → c 50 p = c0 50 p) ∧ (∀ k, k ≠ 50 → c k = c0 k) ∧ n_ck j0 j [33, 41, 42, 43, 44, 45, 46, 47, 51, 52] ∧ j 51 = f_sm (fun p => I (p + 20) 5 * I (p + 20) 3) n ∧ j 52 = f_sm (fun p => I (p + 20) 5) n
theorem y_B_pl {mf n : Nat} {SI : Nat → Nat → Int} {I0 I I2 : Nat → Nat → Int} {j0 j j2 : Nat → Int} {c0 c c2 : Nat → Nat → Int} (h11 : ∀ p, p < n → I0 (p + 20) 3 = c0 11 p) (h36 : ∀ q, q < mf → 0 ≤ c0 36 q ∧ c0 36 q < n) (hB : y_B n I0 j0 c0 I j c) (hp : y_pl mf SI I j c I2 j2 c2) : y_B n I0 j0 c0 I2 j2 c2 := by
  obtain ⟨b1, ⟨b2, b7⟩, b3, b4, b5, b6⟩ := hB
  obtain ⟨q1, q2⟩ := hp
  have hj : n_ck j0 j2 [33, 41, 42, 43, 44, 45, 46, 47, 51, 52] := fun q hq => (q2 q hq).trans (b4 q hq)
  rcases q1 with ⟨rfl, rfl, e1, e2⟩ | ⟨q, hq, rfl, e50, ec, e1, e2⟩
  · exact ⟨b1, ⟨b2, b7⟩, b3, hj, e1.trans b5, e2.trans b6⟩
  · have h3 := h36 q hq
    rw [← b3 36 (by decide)] at h3
    obtain ⟨p, hpn⟩ : ∃ p : Nat, c 36 q = p := ⟨(c 36 q).toNat, by omega⟩
    have hpt : (c 36 q).toNat = p := by omega
    have hI : n_pl I (c 36 q) = b_up I (p + 20) (b_up (I (p + 20)) 5 (I (p + 20) 5 + 1)) := by unfold n_pl; rw [hpt]
    rw [hI]
    rw [hpt] at e50 e1
    have hne : ∀ t k : Nat, ¬ (t = p + 20 ∧ k = 5) → b_up I (p + 20) (b_up (I (p + 20)) 5 (I (p + 20) 5 + 1)) t k = I t k := fun t k z => by
      by_cases e : t = p + 20
      · rw [e, b_up_eq, b_up_ne _ _ (fun y => z ⟨e, y⟩)]
      · rw [b_up_ne _ _ e]
    have heq : b_up I (p + 20) (b_up (I (p + 20)) 5 (I (p + 20) 5 + 1)) (p + 20) 5 = I (p + 20) 5 + 1 := by rw [b_up_eq, b_up_eq]
    have h113 : I (p + 20) 3 = c 11 p := by rw [b1 _ _ (by omega), h11 p (by omega), b3 11 (by decide)]
    refine ⟨fun t k z => ?_, ⟨fun u hu => ?_, fun u hu => by rw [e50, b_up_ne _ _ (by omega)]; exact b7 u hu⟩, fun k hk => (ec k hk).trans (b3 k hk), hj, ?_, ?_⟩
    · rw [hne t k (fun y => z ⟨by omega, by omega, y.2⟩)]
      exact b1 t k z
    · rw [e50]
      by_cases e : u = p
      · rw [e, heq, b_up_eq, b2 p (by omega)]
      · rw [hne _ _ (by omega), b_up_ne _ _ e]
        exact b2 u hu
    · rw [e1, b5]
      refine (y_sm (p := p) (x := c 11 p) (by omega) (fun u hu e => ?_) ?_).symm
      · show _ * _ = _ * _
        rw [hne (u + 20) 5 (by omega), hne (u + 20) 3 (by omega)]
      · show _ * _ = _ * _ + _
        rw [heq, hne (p + 20) 3 (by omega), h113, Int.add_mul, Int.one_mul]
    · rw [e2, b6]
      refine (y_sm (p := p) (x := 1) (by omega) (fun u hu e => ?_) heq).symm
      exact hne (u + 20) 5 (by omega)
theorem y_run {mf n : Nat} {SN : Nat → Nat} {SI SR SB : Nat → Nat → Int} {s : Nat → Int} {I0 : Nat → Nat → Int} {j0 : Nat → Int} {c0 : Nat → Nat → Int} (hS : y_S mf SN SI SR SB c0 (c0 36) (c0 37) (c0 38) (c0 39) (c0 40)) (h11 : ∀ p, p < n → I0 (p + 20) 3 = c0 11 p) (h36 : ∀ q, q < mf → 0 ≤ c0 36 q ∧ c0 36 q < n) : ∀ (m : Nat) (I I2 : Nat → Nat → Int) (i i2 j j2 : Nat → Int) (c c2 : Nat → Nat → Int), y_N mf SN i s j c → y_B n I0 j0 c0 I j c → n_rn mf SN SI SB s m I i I2 i2 → m_rn m j c j2 c2 → y_N mf SN i2 s j2 c2 ∧ y_B n I0 j0 c0 I2 j2 c2 := by
  intro m
  induction m with
  | zero =>
    intro I I2 i i2 j j2 c c2 hN hB ⟨e1, e2⟩ ⟨e3, e4⟩
    rw [e1, e2, e3, e4]
    exact ⟨hN, hB⟩
  | succ m ih =>
    intro I I2 i i2 j j2 c c2 hN hB ht hm
    have h11e := hN.2.2.2.2.2.2.2.2.2.2.1
    rcases ht with ⟨t1, t2, t3⟩ | ⟨t1, I1, i1, t2, t3⟩
    · rcases hm with ⟨m1, m2, m3⟩ | ⟨m1, -⟩
      · rw [t2, t3, m2, m3]
        exact ⟨hN, hB⟩
      · exact absurd (h11e.trans m1) t1
    · rcases hm with ⟨m1, -⟩ | ⟨m1, j1, c1, m2, m3⟩
      · exact absurd (h11e.symm.trans t1) m1
      · have hc := hB.2.2.1
        have hS1 : y_S mf SN SI SR SB c (c 36) (c 37) (c 38) (c 39) (c 40) := by
          rw [hc 36 (by decide), hc 37 (by decide), hc 38 (by decide), hc 39 (by decide), hc 40 (by decide)]
          exact y_S_cong hS ⟨hc 12 (by decide), hc 13 (by decide), hc 14 (by decide)⟩
        obtain ⟨g1, g2⟩ := y_tick hS1 hN t2 m2
        exact ih I1 I2 i1 i2 j1 j2 c1 c2 g1 (y_B_pl h11 h36 hB g2) t3 m3
