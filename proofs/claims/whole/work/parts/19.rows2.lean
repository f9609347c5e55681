/-! division of what isn't negative; bits -/
section R2
variable {S : b_S} {k n : Nat} {h : b_H} {sz pc : Nat} {lv : List (Option Value)} {rest : List Value} {cc : ByteArray}
theorem z_idivN (hc : s_cc S = cc) {x y : Int} (hd : decode cc pc = .ok (.idiv, 1)) (hx : zb x) (hy : zb y) (h0 : 0 < y) (hp : 0 ≤ x) (K : V S k n h sz (pc + 1) lv (.int (zI (x / y)) :: rest)) : V S k n h sz pc lv (.int (zI y) :: .int (zI x) :: rest) :=
  z_idiv hc hd hx hy h0 (by rw [Int.tdiv_eq_ediv_of_nonneg hp]; exact K)
theorem z_iremN (hc : s_cc S = cc) {x y : Int} (hd : decode cc pc = .ok (.irem, 1)) (hx : zb x) (hy : zb y) (h0 : 0 < y) (hp : 0 ≤ x) (K : V S k n h sz (pc + 1) lv (.int (zI (x % y)) :: rest)) : V S k n h sz pc lv (.int (zI y) :: .int (zI x) :: rest) :=
  z_irem hc hd hx hy h0 (by rw [Int.tmod_eq_emod_of_nonneg hp]; exact K)
end R2
theorem zI_and2 {x : Int} (hx : 0 ≤ x) (hx2 : x < 4) : zI x &&& zI 2 = zI (x / 2 * 2) := by
  obtain ⟨m, rfl⟩ : ∃ m : Nat, x = m := ⟨x.toNat, by omega⟩
  have key : ∀ m : Fin 4, Int32.ofInt ((m.val : Nat) : Int) &&& Int32.ofInt 2 = Int32.ofInt (((m.val : Nat) : Int) / 2 * 2) := by decide +kernel
  exact key ⟨m, by omega⟩
theorem b_div_bd {x y : Int} (hx : 0 ≤ x) (hy : 0 < y) : 0 ≤ x / y ∧ x / y ≤ x := ⟨Int.ediv_nonneg hx (by omega), Int.ediv_le_self _ hx⟩
theorem b_div_le {x y m : Int} (hx : 0 ≤ x) (hy : m ≤ y) (hm : 0 < m) : x / y ≤ x / m := by
  have h1 : x / y * y ≤ x := Int.ediv_mul_le x (by omega)
  have h2 : 0 ≤ x / y := Int.ediv_nonneg hx (by omega)
  apply (Int.le_ediv_iff_mul_le hm).mpr
  exact Int.le_trans (Int.mul_le_mul_of_nonneg_left hy h2) h1
