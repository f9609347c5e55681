def d_ok (t : Nat) : Bool := t == 0 || (decide (d_bc (d_an t ((t : Int) - 1)) = d_bc t - 1) && decide (0 ≤ d_an t ((t : Int) - 1)) && decide (d_an t ((t : Int) - 1) < t))
theorem d_ok_all : (List.range 4096).all d_ok = true := by decide +kernel
theorem d_st {t : Int} (h0 : 0 < t) (h1 : t < 4096) : d_bc (d_an t (t - 1)) = d_bc t - 1 ∧ 0 ≤ d_an t (t - 1) ∧ d_an t (t - 1) < t := by
  obtain ⟨m, rfl⟩ : ∃ m : Nat, t = m := ⟨t.toNat, by omega⟩
  have h := List.all_eq_true.mp d_ok_all m (List.mem_range.mpr (by omega))
  simp only [d_ok, Bool.or_eq_true, beq_iff_eq, Bool.and_eq_true, decide_eq_true_eq] at h
  rcases h with h | h
  · omega
  · exact ⟨h.1.1, h.1.2, h.2⟩
theorem d_bc_0 : d_bc 0 = 0 := by decide +kernel
def d_okb (t : Nat) : Bool := decide (0 ≤ d_bc t) && decide (d_bc t ≤ 12)
theorem d_okb_all : (List.range 4096).all d_okb = true := by decide +kernel
theorem d_bc_bd {t : Int} (h0 : 0 ≤ t) (h1 : t < 4096) : 0 ≤ d_bc t ∧ d_bc t ≤ 12 := by
  obtain ⟨m, rfl⟩ : ∃ m : Nat, t = m := ⟨t.toNat, by omega⟩
  have h := List.all_eq_true.mp d_okb_all m (List.mem_range.mpr (by omega))
  simpa [d_okb] using h

