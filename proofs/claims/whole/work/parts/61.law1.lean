/-! the law: its ground -/
section LG
variable {S : b_S} {k n : Nat} {h : b_H} {sz pc : Nat} {lv : List (Option Value)} {rest : List Value} {cc : ByteArray} {b L : Nat} {xs : Nat → Int32}
theorem v_sld (hSX : s_X S = fun s => va_X b L xs s s.heap ∧ b < s.heap.size) (hSh : s_h S = fun _ => none) (hc : s_cc S = cc) (hd : decode cc pc = .ok (.iaload, 1)) {j : Int} (h0 : 0 ≤ j) (h1 : j < L) (hL : L ≤ 2560) (K : V S k n h sz (pc + 1) lv (.int (zI (xs j.toNat).toInt) :: rest)) : V S k n h sz pc lv (.int (zI j) :: .ref b :: rest) := by
  intro p e s m args below meth c H ls locs C B
  obtain ⟨hx, hcb, hml, hrt, hlk, hnm, hown, hts, hE, hX, hs0, hZ⟩ := id C
  rw [hSX] at hX
  have hbA : ¬ b_A (s_h S) (s_sz S) b := by
    rw [hSh, ← hs0]
    intro q
    rcases q with q | q
    · exact q rfl
    · have := hX.2
      omega
  have K2 := K p e s m args below meth c H ls locs C B
  rw [show zI (xs j.toNat).toInt = xs j.toNat from Int32.ofInt_toInt _] at K2
  refine va_sld hx (hcb.trans hc) hX.1 hX.2 hbA B.2.2.2.1 (i := zI j) (zI_in h0 h1 (by omega)) hd ?_
  rw [zI_clamp ⟨by omega, by omega⟩]
  exact K2
theorem v_slen (hSX : s_X S = fun s => va_X b L xs s s.heap ∧ b < s.heap.size) (hSh : s_h S = fun _ => none) (hc : s_cc S = cc) (hd : decode cc pc = .ok (.arraylength, 1)) (K : V S k n h sz (pc + 1) lv (.int (zI L) :: rest)) : V S k n h sz pc lv (.ref b :: rest) := by
  intro p e s m args below meth c H ls locs C B
  obtain ⟨hx, hcb, hml, hrt, hlk, hnm, hown, hts, hE, hX, hs0, hZ⟩ := id C
  rw [hSX] at hX
  have hbA : ¬ b_A (s_h S) (s_sz S) b := by
    rw [hSh, ← hs0]
    intro q
    rcases q with q | q
    · exact q rfl
    · have := hX.2
      omega
  have K2 := K p e s m args below meth c H ls locs C B
  rw [show zI (L : Int) = Int32.ofNat L from rfl] at K2
  exact va_slen hx (hcb.trans hc) hX.1 hX.2 hbA B.2.2.2.1 hd K2
end LG
/-- the classes' numbers, the array classes, the empty list's array, the mirror: out of the tables' words -/
theorem law_G {b : Nat} {s : State} (hts : ∀ w ∈ lw_tbl, w.before #[Value.ref b] s = true) (hgv : (Jvm.Cond.and given_1 narrow_1).before #[Value.ref b] s = true) : ∃ G : b_G, b_E G s ∧ b_Z G (b_A (fun _ => none) s.heap.size) s s.heap := by
  have hT : ∀ w ∈ b_T, w.before #[Value.ref b] s = true := fun w hw => hts w (List.mem_filter.mp hw).1
  have hA : ∀ a : Nat, a < s.heap.size → ¬ b_A (fun _ => none) s.heap.size a := fun a ha q => by
    rcases q with q | q
    · exact q rfl
    · omega
  have hs := flat_of_before _ hgv
  obtain ⟨c0, w0, u0⟩ := u_known (C := RX0) (T := TX0) (N := 5) (n := 5) hT CF0.2.1 (hts (.instantiable RX0 5) (by decide +kernel))
  obtain ⟨c1, w1, u1⟩ := u_known (C := RX1) (T := TX1) (N := 4) (n := 4) hT CF1.2.1 (hts (.instantiable RX1 4) (by decide +kernel))
  obtain ⟨c2, w2, u2⟩ := u_known (C := RX2) (T := TX2) (N := 13) (n := 13) hT CF2.2.1 (hts (.instantiable RX2 13) (by decide +kernel))
  obtain ⟨c3, w3, u3⟩ := u_known (C := RX3) (T := TX3) (N := 9) (n := 9) hT CF3.2.1 (hts (.instantiable RX3 9) (by decide +kernel))
  obtain ⟨c4, w4, u4⟩ := u_known (C := RX4) (T := TX4) (N := 14) (n := 14) hT CF4.2.1 (hts (.instantiable RX4 14) (by decide +kernel))
  obtain ⟨c5, w5, u5⟩ := u_known (C := RX5) (T := TX5) (N := 13) (n := 13) hT CF5.2.1 (hts (.instantiable RX5 13) (by decide +kernel))
  obtain ⟨c6, w6, u6⟩ := u_known (C := RX6) (T := TX6) (N := 6) (n := 6) hT CF6.2.1 (hts (.instantiable RX6 6) (by decide +kernel))
  obtain ⟨c7, w7, u7⟩ := u_known (C := RX7) (T := TX7) (N := 58) (n := 58) hT CF7.2.1 (hts (.instantiable RX7 58) (by decide +kernel))
  obtain ⟨c8, w8, u8⟩ := u_known (C := RJx4a65c) (T := TJx4a65c) (N := 3) (n := 3) hT CF8.2.1 (hts (.instantiable RJx4a65c 3) (by decide +kernel))
  obtain ⟨cI, kI, pI, i1, i2, i3⟩ := Cond.arrayClass_spec (hts (.arrayClass .int) (by decide +kernel))
  obtain ⟨cZ, kZ, pZ, z1, z2, z3⟩ := Cond.arrayClass_spec (hts (.arrayClass .boolean) (by decide +kernel))
  have hao := hts (.arrayOver (.object "java/lang/Object")) (by decide +kernel)
  obtain ⟨cp, cO, kO, o1, -, o3, o4, o5⟩ := Cond.arrayOver_spec hao
  obtain ⟨mi, hmi⟩ := va_Mi.of (C := "[Ljava/lang/Object;") (hs _ (by decide +kernel))
  obtain ⟨t, ht, hTt⟩ := va_Tof (tm := .static "java/util/ArrayList" "DEFAULTCAPACITY_EMPTY_ELEMENTDATA" "[Ljava/lang/Object;") (ty := .object "java/lang/Object") (N := 0) (f := fun _ => .null) (A := b_A (fun _ => none) s.heap.size) (by omega) (hs _ (by decide +kernel)) (va_eqt (z := 0) (hs _ (by decide +kernel))) (fun j hj => absurd hj (by omega)) hA
  refine ⟨((fun k => match k with | 0 => c0 | 1 => c1 | 2 => c2 | 3 => c3 | 4 => c4 | 5 => c5 | 6 => c6 | 7 => c7 | _ => c8, fun k => match k with | 0 => w0 | 1 => w1 | 2 => w2 | 3 => w3 | 4 => w4 | 5 => w5 | 6 => w6 | 7 => w7 | _ => w8), fun k => match k with | 0 => cI | 1 => cZ | _ => cO, t, mi), ⟨⟨fun k q hq => ?_, fun k q hq => ?_⟩, fun w hw => ?_, fun w hw => ?_, va_AO.of hao, hmi, va_Dc.of (hts (.declares ⟨"java/lang/Object", "getClass", "()Ljava/lang/Class;"⟩) (by decide +kernel))⟩, va_Zof (hts (.laysStatic "java/util/ArrayList" "DEFAULTCAPACITY_EMPTY_ELEMENTDATA" "[Ljava/lang/Object;") (by decide +kernel)) (hts (.initialized "java/util/ArrayList") (by decide +kernel)) ht hA, hTt⟩
  · match k, hq with
    | 0, hq => cases hq; exact u0
    | 1, hq => cases hq; exact u1
    | 2, hq => cases hq; exact u2
    | 3, hq => cases hq; exact u3
    | 4, hq => cases hq; exact u4
    | 5, hq => cases hq; exact u5
    | 6, hq => cases hq; exact u6
    | 7, hq => cases hq; exact u7
    | 8, hq => cases hq; exact u8
    | k + 9, hq => simp [b_C] at hq
  · match k, hq with
    | 0, hq => cases hq; exact ⟨fun n z => ⟨fun k h => (by cases h), kI, i2, pI, i3⟩, i1⟩
    | 1, hq => cases hq; exact ⟨fun n z => ⟨fun k h => (by cases h), kZ, z2, pZ, z3⟩, z1⟩
    | 2, hq => cases hq; exact ⟨fun n z => ⟨fun k h => (by cases h), kO, o3, cp, o4⟩, ⟨kO, cp, o3, o4, o1, o5⟩⟩
    | k + 3, hq => simp [b_ty] at hq
  · have hw2 := List.mem_filter.mp hw
    have hb2 := hts w (List.mem_append.mpr (Or.inr hw2.1))
    have hk := hw2.2
    revert hb2
    cases w <;> first | (intro hb2; exact va_any rfl hb2) | (simp at hk; done)
  · have hw2 := List.mem_filter.mp hw
    have hb2 := hts w (List.mem_append.mpr (Or.inr hw2.1))
    have hk := hw2.2
    revert hb2
    cases w <;> first | (intro hb2; exact va_any rfl hb2) | (simp at hk; done)
