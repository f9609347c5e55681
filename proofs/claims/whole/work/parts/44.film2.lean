/-! the film: the next cue; the tenths of a stretch -/
theorem f_fi_eq {p : Nat → Bool} {n y : Nat} (h1 : ∀ k, k < y → p k = false) (h2 : y < n → p y = true) (h3 : y ≤ n) : f_fi p n 0 = y := by
  have hb := f_fi_ge p n 0
  rcases Nat.lt_trichotomy (f_fi p n 0) y with q | q | q
  · have := f_fi_yes p n 0 (by omega)
    rw [h1 _ q] at this; cases this
  · exact q
  · have := f_fi_no p n 0 y (by omega) q
    rw [h2 (by omega)] at this; cases this
theorem f_ct_0 {c : Nat → Int} {x : Nat} : ∀ {j : Nat}, (∀ k, x ≤ k → k < x + j → c k = 0) → f_ct c (x + j) = f_ct c x
  | 0, _ => rfl
  | j + 1, h => by
    rw [← Nat.add_assoc, f_ct, f_ct_0 (fun k h1 h2 => h k h1 (by omega)), if_pos (h (x + j) (by omega) (by omega))]
    omega
theorem f_F_at {c : Nat → Int} {n : Nat} {s : Int} (h : f_F c n s < n) : ¬ c (f_F c n s) = 0 ∧ f_ct c (f_F c n s) = s := by
  have := f_fi_yes (fun k => decide (¬ c k = 0 ∧ f_ct c k = s)) n 0 (by rw [Nat.zero_add]; exact h)
  exact of_decide_eq_true this
theorem f_F_nx {c : Nat → Int} {n : Nat} {s : Int} (h : f_F c n s < n) : f_L c n (f_F c n s + 1) = f_F c n (s + 1) := by
  obtain ⟨g1, g2⟩ := f_F_at h
  have hb := f_fi_ge (fun k => decide (¬ c k = 0)) (n - (f_F c n s + 1)) (f_F c n s + 1)
  have hct1 : f_ct c (f_F c n s + 1) = s + 1 := by rw [f_ct, g2, if_neg g1]
  have hz : ∀ k, f_F c n s + 1 ≤ k → k < f_L c n (f_F c n s + 1) → c k = 0 := fun k h1 h2 => by
    have := f_fi_no (fun k => decide (¬ c k = 0)) _ _ k h1 h2
    rw [decide_eq_false_iff_not] at this
    omega
  symm
  refine f_fi_eq (fun k hk => ?_) (fun hy => ?_) (by unfold f_L; omega)
  · rw [decide_eq_false_iff_not]
    intro q
    by_cases e : k ≤ f_F c n s
    · obtain ⟨j, hj⟩ : ∃ j, f_F c n s = k + j := ⟨f_F c n s - k, by omega⟩
      have := f_ct_le c k j
      rw [← hj, g2] at this
      omega
    · exact q.1 (hz k (by omega) hk)
  · rw [decide_eq_true_eq]
    have hy2 := f_fi_yes (fun k => decide (¬ c k = 0)) (n - (f_F c n s + 1)) (f_F c n s + 1) (by unfold f_L at hy; omega)
    refine ⟨of_decide_eq_true hy2, ?_⟩
    obtain ⟨j, hj⟩ : ∃ j, f_L c n (f_F c n s + 1) = (f_F c n s + 1) + j := ⟨f_L c n (f_F c n s + 1) - (f_F c n s + 1), by unfold f_L; omega⟩
    rw [hj, f_ct_0 (fun k h1 h2 => hz k h1 (by omega)), hct1]
theorem f_L_bd {c : Nat → Int} {n x : Nat} (h : x ≤ n) : x ≤ f_L c n x ∧ f_L c n x ≤ n := by
  have := f_fi_ge (fun k => decide (¬ c k = 0)) (n - x) x
  unfold f_L
  omega
/-- the tenths of stretch s by a speed, and its mood -/
def f_T (a : Nat → Nat → Int) (n : Nat) (v : Int) (s : Nat) : Int := ((f_sm (a 0) (f_F (a 2) n ((s : Int) + 1)) - f_sm (a 0) (f_F (a 2) n (s : Int))) * 10).tdiv v
def f_m (a : Nat → Nat → Int) (n : Nat) (s : Nat) : Int := a 1 (f_F (a 2) n (s : Int))
theorem f_T_bd {a : Nat → Nat → Int} {n : Nat} {v : Int} (ha : ∀ j, 0 ≤ a 0 j ∧ a 0 j ≤ 2000) (hn : n ≤ 60) (hv : 12 ≤ v) (s : Nat) : 0 ≤ f_T a n v s ∧ f_T a n v s ≤ 100000 := by
  have h1 := f_F_mono (a 2) n (s := (s : Int)) (by omega)
  have h2 := f_F_bd (a 2) n ((s : Int) + 1)
  obtain ⟨j, hj⟩ : ∃ j, f_F (a 2) n ((s : Int) + 1) = f_F (a 2) n (s : Int) + j := ⟨f_F (a 2) n ((s : Int) + 1) - f_F (a 2) n (s : Int), by omega⟩
  have h3 := f_sm_le ha (f_F (a 2) n (s : Int)) j
  rw [← hj] at h3
  have h4 := f_sm_bd ha (f_F (a 2) n ((s : Int) + 1))
  have h5 := f_sm_bd ha (f_F (a 2) n (s : Int))
  unfold f_T
  generalize f_sm (a 0) (f_F (a 2) n ((s : Int) + 1)) = x at *
  generalize f_sm (a 0) (f_F (a 2) n (s : Int)) = y at *
  rw [Int.tdiv_eq_ediv_of_nonneg (by omega)]
  have h6 := b_div_le (x := (x - y) * 10) (y := v) (m := 12) (by omega) hv (by omega)
  refine ⟨Int.ediv_nonneg (by omega) (by omega), ?_⟩
  omega
