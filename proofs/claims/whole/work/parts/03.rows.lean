theorem b_bmod {z : Int} (h1 : -2147483648 ≤ z) (h2 : z < 2147483648) : z.bmod (2 ^ 32) = z := by
  rw [Int.bmod_def]
  split <;> omega

/-! numbers: zI a is the int of a -/
theorem zI_add (a b : Int) : zI a + zI b = zI (a + b) := by
  apply Int32.toInt_inj.mp
  simp only [zI, Int32.toInt_add, Int32.toInt_ofInt]
  simp [Int.add_bmod_bmod, Int.bmod_add_bmod]
theorem zI_sub (a b : Int) : zI a - zI b = zI (a - b) := by
  apply Int32.toInt_inj.mp
  simp only [zI, Int32.toInt_sub, Int32.toInt_ofInt]
  simp [Int.sub_bmod_bmod, Int.bmod_sub_bmod]
theorem zI_mul (a b : Int) : zI a * zI b = zI (a * b) := by
  apply Int32.toInt_inj.mp
  simp only [zI, Int32.toInt_mul, Int32.toInt_ofInt]
  simp [Int.mul_bmod_bmod, Int.bmod_mul_bmod]
theorem zI_neg (a : Int) : -zI a = zI (-a) := by
  have h := zI_sub 0 a
  rw [show (0 : Int) - a = -a by omega] at h
  rw [← h]
  apply Int32.toInt_inj.mp
  simp [zI, Int32.toInt_sub, Int32.toInt_neg]
def zb (a : Int) : Prop := -2147483648 ≤ a ∧ a < 2147483648
theorem zI_toInt {a : Int} (h : zb a) : (zI a).toInt = a := by
  unfold zb at h
  rw [zI, Int32.toInt_ofInt]
  exact b_bmod h.1 h.2
theorem zI_of (x : Int32) : x = zI x.toInt := by
  rw [zI, Int32.ofInt_toInt]
theorem zb_of (x : Int32) : zb x.toInt := ⟨by have := Int32.le_toInt x; simpa using this, by have := Int32.toInt_lt x; simpa using this⟩
theorem zI_inj {a b : Int} (ha : zb a) (hb : zb b) : zI a = zI b ↔ a = b := ⟨fun h => by rw [← zI_toInt ha, ← zI_toInt hb, h], fun h => by rw [h]⟩
theorem zI_lt {a b : Int} (ha : zb a) (hb : zb b) : zI a < zI b ↔ a < b := by rw [Int32.lt_iff_toInt_lt, zI_toInt ha, zI_toInt hb]
theorem zI_le {a b : Int} (ha : zb a) (hb : zb b) : zI a ≤ zI b ↔ a ≤ b := by rw [Int32.le_iff_toInt_le, zI_toInt ha, zI_toInt hb]
theorem zI_div {a b : Int} (ha : zb a) (hb : zb b) (h0 : 0 < b) : zI a / zI b = zI (a.tdiv b) := by
  apply Int32.toInt_inj.mp
  rw [Int32.toInt_div, zI_toInt ha, zI_toInt hb, zI, Int32.toInt_ofInt]
theorem zI_nat (n : Nat) : nI n = zI n := rfl
theorem zI_clamp {a : Int} (h : zb a) : (zI a).toNatClampNeg = a.toNat := by
  show (zI a).toInt.toNat = a.toNat
  rw [zI_toInt h]
theorem zI_in {a : Int} {n : Nat} (h0 : 0 ≤ a) (h1 : a < n) (hn : n < 2147483648) : vp_in (zI a) n := by
  rw [vp_in_iff, zI_toInt ⟨by omega, by omega⟩]
  exact ⟨h0, h1⟩

theorem z_iconst {S : b_S} {k n : Nat} {h : b_H} {sz pc : Nat} {lv : List (Option Value)} {rest : List Value} {cc : ByteArray} (hc : s_cc S = cc) {i : Int} (hd : decode cc pc = .ok (.iconst i, 1)) (K : V S k n h sz (pc + 1) lv (.int (zI i) :: rest)) : V S k n h sz pc lv rest := by
  intro p e s m args below meth c H ls locs C B
  exact lv_iconst C.1 (C.2.1.trans hc) hd rfl (K p e s m args below meth c H ls locs C B)
theorem z_bipush {S : b_S} {k n : Nat} {h : b_H} {sz pc : Nat} {lv : List (Option Value)} {rest : List Value} {cc : ByteArray} (hc : s_cc S = cc) {i : Int} (hd : decode cc pc = .ok (.bipush i, 2)) (hv : (Int8.ofInt i).toInt32 = zI i) (K : V S k n h sz (pc + 2) lv (.int (zI i) :: rest)) : V S k n h sz pc lv rest := by
  intro p e s m args below meth c H ls locs C B
  exact lv_bipush C.1 (C.2.1.trans hc) hd hv (K p e s m args below meth c H ls locs C B)
theorem z_sipush {S : b_S} {k n : Nat} {h : b_H} {sz pc : Nat} {lv : List (Option Value)} {rest : List Value} {cc : ByteArray} (hc : s_cc S = cc) {i : Int} (hd : decode cc pc = .ok (.sipush i, 3)) (hv : (Int16.ofInt i).toInt32 = zI i) (K : V S k n h sz (pc + 3) lv (.int (zI i) :: rest)) : V S k n h sz pc lv rest := by
  intro p e s m args below meth c H ls locs C B
  exact lv_sipush C.1 (C.2.1.trans hc) hd hv (K p e s m args below meth c H ls locs C B)
theorem v_null {S : b_S} {k n : Nat} {h : b_H} {sz pc : Nat} {lv : List (Option Value)} {rest : List Value} {cc : ByteArray} (hc : s_cc S = cc)  (hd : decode cc pc = .ok (.aconst_null, 1)) (K : V S k n h sz (pc + 1) lv (.null :: rest)) : V S k n h sz pc lv rest := by
  intro p e s m args below meth c H ls locs C B
  exact lv_null C.1 (C.2.1.trans hc) hd (K p e s m args below meth c H ls locs C B)
theorem v_iload_n {S : b_S} {k n : Nat} {h : b_H} {sz pc : Nat} {lv : List (Option Value)} {rest : List Value} {cc : ByteArray} (hc : s_cc S = cc) {i : Fin 4} {x : Int32} (hd : decode cc pc = .ok (.iload_n i, 1)) (hl : lv[(i : Nat)]? = some (some (.int x))) (K : V S k n h sz (pc + 1) lv (.int x :: rest)) : V S k n h sz pc lv rest := by
  intro p e s m args below meth c H ls locs C B
  exact lv_iload_n C.1 (C.2.1.trans hc) hd rfl (B.2.2.2.2.1.2.2 _ _ hl).1 (K p e s m args below meth c H ls locs C B)
theorem v_iload {S : b_S} {k n : Nat} {h : b_H} {sz pc : Nat} {lv : List (Option Value)} {rest : List Value} {cc : ByteArray} (hc : s_cc S = cc) {i : Nat} {x : Int32} (hd : decode cc pc = .ok (.iload i, 2)) (hl : lv[i]? = some (some (.int x))) (K : V S k n h sz (pc + 2) lv (.int x :: rest)) : V S k n h sz pc lv rest := by
  intro p e s m args below meth c H ls locs C B
  exact lv_iload C.1 (C.2.1.trans hc) hd (B.2.2.2.2.1.2.2 _ _ hl).1 (K p e s m args below meth c H ls locs C B)
theorem v_aload_n {S : b_S} {k n : Nat} {h : b_H} {sz pc : Nat} {lv : List (Option Value)} {rest : List Value} {cc : ByteArray} (hc : s_cc S = cc) {i : Fin 4} {x : Nat} (hd : decode cc pc = .ok (.aload_n i, 1)) (hl : lv[(i : Nat)]? = some (some (.ref x))) (K : V S k n h sz (pc + 1) lv (.ref x :: rest)) : V S k n h sz pc lv rest := by
  intro p e s m args below meth c H ls locs C B
  exact lv_aload_n C.1 (C.2.1.trans hc) hd rfl (B.2.2.2.2.1.2.2 _ _ hl).1 (K p e s m args below meth c H ls locs C B)
theorem v_aload {S : b_S} {k n : Nat} {h : b_H} {sz pc : Nat} {lv : List (Option Value)} {rest : List Value} {cc : ByteArray} (hc : s_cc S = cc) {i : Nat} {x : Nat} (hd : decode cc pc = .ok (.aload i, 2)) (hl : lv[i]? = some (some (.ref x))) (K : V S k n h sz (pc + 2) lv (.ref x :: rest)) : V S k n h sz pc lv rest := by
  intro p e s m args below meth c H ls locs C B
  exact lv_aload C.1 (C.2.1.trans hc) hd (B.2.2.2.2.1.2.2 _ _ hl).1 (K p e s m args below meth c H ls locs C B)
theorem v_aload_nN {S : b_S} {k n : Nat} {h : b_H} {sz pc : Nat} {lv : List (Option Value)} {rest : List Value} {cc : ByteArray} (hc : s_cc S = cc) {i : Fin 4} (hd : decode cc pc = .ok (.aload_n i, 1)) (hl : lv[(i : Nat)]? = some (some .null)) (K : V S k n h sz (pc + 1) lv (.null :: rest)) : V S k n h sz pc lv rest := by
  intro p e s m args below meth c H ls locs C B
  exact lv_aload_nN C.1 (C.2.1.trans hc) hd rfl (B.2.2.2.2.1.2.2 _ _ hl).1 (K p e s m args below meth c H ls locs C B)
theorem v_aloadN {S : b_S} {k n : Nat} {h : b_H} {sz pc : Nat} {lv : List (Option Value)} {rest : List Value} {cc : ByteArray} (hc : s_cc S = cc) {i : Nat} (hd : decode cc pc = .ok (.aload i, 2)) (hl : lv[i]? = some (some .null)) (K : V S k n h sz (pc + 2) lv (.null :: rest)) : V S k n h sz pc lv rest := by
  intro p e s m args below meth c H ls locs C B
  exact lv_aloadN C.1 (C.2.1.trans hc) hd (B.2.2.2.2.1.2.2 _ _ hl).1 (K p e s m args below meth c H ls locs C B)
theorem v_istore_n {S : b_S} {k n : Nat} {h : b_H} {sz pc : Nat} {lv : List (Option Value)} {rest : List Value} {cc : ByteArray} (hc : s_cc S = cc) {i : Fin 4} {x : Int32} (hd : decode cc pc = .ok (.istore_n i, 1)) (hn : (i : Nat) < lv.length) (K : V S k n h sz (pc + 1) (lv.set i (some (.int x))) rest) : V S k n h sz pc lv (.int x :: rest) := by
  intro p e s m args below meth c H ls locs C B
  exact lv_istore_n C.1 (C.2.1.trans hc) hd rfl B.2.2.2.2.1.has hn rfl (fun ls' hl' => K p e s m args below meth c H ls' locs C ⟨B.1, B.2.1, B.2.2.1, B.2.2.2.1, B.2.2.2.2.1.set rfl hl', by rw [List.length_set]; exact B.2.2.2.2.2⟩)
theorem v_istore {S : b_S} {k n : Nat} {h : b_H} {sz pc : Nat} {lv : List (Option Value)} {rest : List Value} {cc : ByteArray} (hc : s_cc S = cc) {i : Nat} {x : Int32} (hd : decode cc pc = .ok (.istore i, 2)) (hn : (i : Nat) < lv.length) (K : V S k n h sz (pc + 2) (lv.set i (some (.int x))) rest) : V S k n h sz pc lv (.int x :: rest) := by
  intro p e s m args below meth c H ls locs C B
  exact lv_istore C.1 (C.2.1.trans hc) hd B.2.2.2.2.1.has hn rfl (fun ls' hl' => K p e s m args below meth c H ls' locs C ⟨B.1, B.2.1, B.2.2.1, B.2.2.2.1, B.2.2.2.2.1.set rfl hl', by rw [List.length_set]; exact B.2.2.2.2.2⟩)
theorem v_astore_n {S : b_S} {k n : Nat} {h : b_H} {sz pc : Nat} {lv : List (Option Value)} {rest : List Value} {cc : ByteArray} (hc : s_cc S = cc) {i : Fin 4} {x : Nat} (hd : decode cc pc = .ok (.astore_n i, 1)) (hn : (i : Nat) < lv.length) (K : V S k n h sz (pc + 1) (lv.set i (some (.ref x))) rest) : V S k n h sz pc lv (.ref x :: rest) := by
  intro p e s m args below meth c H ls locs C B
  exact lv_astore_n C.1 (C.2.1.trans hc) hd rfl B.2.2.2.2.1.has hn rfl (fun ls' hl' => K p e s m args below meth c H ls' locs C ⟨B.1, B.2.1, B.2.2.1, B.2.2.2.1, B.2.2.2.2.1.set rfl hl', by rw [List.length_set]; exact B.2.2.2.2.2⟩)
theorem v_astore {S : b_S} {k n : Nat} {h : b_H} {sz pc : Nat} {lv : List (Option Value)} {rest : List Value} {cc : ByteArray} (hc : s_cc S = cc) {i : Nat} {x : Nat} (hd : decode cc pc = .ok (.astore i, 2)) (hn : (i : Nat) < lv.length) (K : V S k n h sz (pc + 2) (lv.set i (some (.ref x))) rest) : V S k n h sz pc lv (.ref x :: rest) := by
  intro p e s m args below meth c H ls locs C B
  exact lv_astore C.1 (C.2.1.trans hc) hd B.2.2.2.2.1.has hn rfl (fun ls' hl' => K p e s m args below meth c H ls' locs C ⟨B.1, B.2.1, B.2.2.1, B.2.2.2.1, B.2.2.2.2.1.set rfl hl', by rw [List.length_set]; exact B.2.2.2.2.2⟩)
theorem v_astore_nN {S : b_S} {k n : Nat} {h : b_H} {sz pc : Nat} {lv : List (Option Value)} {rest : List Value} {cc : ByteArray} (hc : s_cc S = cc) {i : Fin 4} (hd : decode cc pc = .ok (.astore_n i, 1)) (hn : (i : Nat) < lv.length) (K : V S k n h sz (pc + 1) (lv.set i (some .null)) rest) : V S k n h sz pc lv (.null :: rest) := by
  intro p e s m args below meth c H ls locs C B
  exact lv_astore_nN C.1 (C.2.1.trans hc) hd rfl B.2.2.2.2.1.has hn rfl (fun ls' hl' => K p e s m args below meth c H ls' locs C ⟨B.1, B.2.1, B.2.2.1, B.2.2.2.1, B.2.2.2.2.1.set rfl hl', by rw [List.length_set]; exact B.2.2.2.2.2⟩)
theorem v_astoreN {S : b_S} {k n : Nat} {h : b_H} {sz pc : Nat} {lv : List (Option Value)} {rest : List Value} {cc : ByteArray} (hc : s_cc S = cc) {i : Nat} (hd : decode cc pc = .ok (.astore i, 2)) (hn : (i : Nat) < lv.length) (K : V S k n h sz (pc + 2) (lv.set i (some .null)) rest) : V S k n h sz pc lv (.null :: rest) := by
  intro p e s m args below meth c H ls locs C B
  exact lv_astoreN C.1 (C.2.1.trans hc) hd B.2.2.2.2.1.has hn rfl (fun ls' hl' => K p e s m args below meth c H ls' locs C ⟨B.1, B.2.1, B.2.2.1, B.2.2.2.1, B.2.2.2.2.1.set rfl hl', by rw [List.length_set]; exact B.2.2.2.2.2⟩)
theorem b_al_at {lv : List (Option Value)} {i : Nat} {v : Value} (hl : lv[i]? = some (some v)) : ∃ j : Nat, (b_al 0 lv)[j]? = some (i, v) :=
  List.getElem?_of_mem ((b_al_mem lv 0 (i, v)).mpr ⟨i, by omega, hl⟩)
theorem z_iinc {S : b_S} {k n : Nat} {h : b_H} {sz pc : Nat} {lv : List (Option Value)} {rest : List Value} {cc : ByteArray} (hc : s_cc S = cc) {i : Nat} {z : Int} {x : Int} (hd : decode cc pc = .ok (.iinc i z, 3)) (hl : lv[i]? = some (some (.int (zI x)))) (K : V S k n h sz (pc + 3) (lv.set i (some (.int (zI (x + z))))) rest) : V S k n h sz pc lv rest := by
  intro p e s m args below meth c H ls locs C B
  obtain ⟨j, hj⟩ := b_al_at hl
  have hn : i < lv.length := (List.getElem?_eq_some_iff.mp hl).1
  exact lv_iinc C.1 (C.2.1.trans hc) hd B.2.2.2.2.1.has hj (v := zI (x + z)) (zI_add x z) hn rfl (fun ls' hl' => K p e s m args below meth c H ls' locs C ⟨B.1, B.2.1, B.2.2.1, B.2.2.2.1, B.2.2.2.2.1.set rfl hl', by rw [List.length_set]; exact B.2.2.2.2.2⟩)
theorem z_iadd {S : b_S} {k n : Nat} {h : b_H} {sz pc : Nat} {lv : List (Option Value)} {rest : List Value} {cc : ByteArray} (hc : s_cc S = cc) {x y : Int} (hd : decode cc pc = .ok (.iadd, 1)) (K : V S k n h sz (pc + 1) lv (.int (zI (x + y)) :: rest)) : V S k n h sz pc lv (.int (zI y) :: .int (zI x) :: rest) := by
  intro p e s m args below meth c H ls locs C B
  exact lv_iadd C.1 (C.2.1.trans hc) hd (by rw [zI_add]; exact K p e s m args below meth c H ls locs C B)
theorem z_isub {S : b_S} {k n : Nat} {h : b_H} {sz pc : Nat} {lv : List (Option Value)} {rest : List Value} {cc : ByteArray} (hc : s_cc S = cc) {x y : Int} (hd : decode cc pc = .ok (.isub, 1)) (K : V S k n h sz (pc + 1) lv (.int (zI (x - y)) :: rest)) : V S k n h sz pc lv (.int (zI y) :: .int (zI x) :: rest) := by
  intro p e s m args below meth c H ls locs C B
  exact lv_isub C.1 (C.2.1.trans hc) hd (by rw [zI_sub]; exact K p e s m args below meth c H ls locs C B)
theorem z_imul {S : b_S} {k n : Nat} {h : b_H} {sz pc : Nat} {lv : List (Option Value)} {rest : List Value} {cc : ByteArray} (hc : s_cc S = cc) {x y : Int} (hd : decode cc pc = .ok (.imul, 1)) (K : V S k n h sz (pc + 1) lv (.int (zI (x * y)) :: rest)) : V S k n h sz pc lv (.int (zI y) :: .int (zI x) :: rest) := by
  intro p e s m args below meth c H ls locs C B
  exact lv_imul C.1 (C.2.1.trans hc) hd (by rw [zI_mul]; exact K p e s m args below meth c H ls locs C B)
theorem z_ineg {S : b_S} {k n : Nat} {h : b_H} {sz pc : Nat} {lv : List (Option Value)} {rest : List Value} {cc : ByteArray} (hc : s_cc S = cc) {x : Int} (hd : decode cc pc = .ok (.ineg, 1)) (K : V S k n h sz (pc + 1) lv (.int (zI (-x)) :: rest)) : V S k n h sz pc lv (.int (zI x) :: rest) := by
  intro p e s m args below meth c H ls locs C B
  exact lv_ineg C.1 (C.2.1.trans hc) hd (by rw [zI_neg]; exact K p e s m args below meth c H ls locs C B)
theorem v_iand {S : b_S} {k n : Nat} {h : b_H} {sz pc : Nat} {lv : List (Option Value)} {rest : List Value} {cc : ByteArray} (hc : s_cc S = cc) {x y : Int32} {v : Int} (hd : decode cc pc = .ok (.iand, 1)) (hv : x &&& y = zI v) (K : V S k n h sz (pc + 1) lv (.int (zI v) :: rest)) : V S k n h sz pc lv (.int y :: .int x :: rest) := by
  intro p e s m args below meth c H ls locs C B
  exact lv_iand C.1 (C.2.1.trans hc) hd (by rw [hv]; exact K p e s m args below meth c H ls locs C B)
theorem v_ior {S : b_S} {k n : Nat} {h : b_H} {sz pc : Nat} {lv : List (Option Value)} {rest : List Value} {cc : ByteArray} (hc : s_cc S = cc) {x y : Int32} {v : Int} (hd : decode cc pc = .ok (.ior, 1)) (hv : x ||| y = zI v) (K : V S k n h sz (pc + 1) lv (.int (zI v) :: rest)) : V S k n h sz pc lv (.int y :: .int x :: rest) := by
  intro p e s m args below meth c H ls locs C B
  exact lv_ior C.1 (C.2.1.trans hc) hd (by rw [hv]; exact K p e s m args below meth c H ls locs C B)
theorem v_ixor {S : b_S} {k n : Nat} {h : b_H} {sz pc : Nat} {lv : List (Option Value)} {rest : List Value} {cc : ByteArray} (hc : s_cc S = cc) {x y : Int32} {v : Int} (hd : decode cc pc = .ok (.ixor, 1)) (hv : x ^^^ y = zI v) (K : V S k n h sz (pc + 1) lv (.int (zI v) :: rest)) : V S k n h sz pc lv (.int y :: .int x :: rest) := by
  intro p e s m args below meth c H ls locs C B
  exact lv_ixor C.1 (C.2.1.trans hc) hd (by rw [hv]; exact K p e s m args below meth c H ls locs C B)
theorem v_ishl {S : b_S} {k n : Nat} {h : b_H} {sz pc : Nat} {lv : List (Option Value)} {rest : List Value} {cc : ByteArray} (hc : s_cc S = cc) {x y : Int32} {v : Int} (hd : decode cc pc = .ok (.ishl, 1)) (hv : x <<< (y &&& 31) = zI v) (K : V S k n h sz (pc + 1) lv (.int (zI v) :: rest)) : V S k n h sz pc lv (.int y :: .int x :: rest) := by
  intro p e s m args below meth c H ls locs C B
  exact lv_ishl C.1 (C.2.1.trans hc) hd (by rw [hv]; exact K p e s m args below meth c H ls locs C B)
theorem v_ishr {S : b_S} {k n : Nat} {h : b_H} {sz pc : Nat} {lv : List (Option Value)} {rest : List Value} {cc : ByteArray} (hc : s_cc S = cc) {x y : Int32} {v : Int} (hd : decode cc pc = .ok (.ishr, 1)) (hv : x >>> (y &&& 31) = zI v) (K : V S k n h sz (pc + 1) lv (.int (zI v) :: rest)) : V S k n h sz pc lv (.int y :: .int x :: rest) := by
  intro p e s m args below meth c H ls locs C B
  exact lv_ishr C.1 (C.2.1.trans hc) hd (by rw [hv]; exact K p e s m args below meth c H ls locs C B)
theorem v_iushr {S : b_S} {k n : Nat} {h : b_H} {sz pc : Nat} {lv : List (Option Value)} {rest : List Value} {cc : ByteArray} (hc : s_cc S = cc) {x y : Int32} {v : Int} (hd : decode cc pc = .ok (.iushr, 1)) (hv : (x.toUInt32 >>> (y.toUInt32 &&& Int32.toUInt32 31)).toInt32 = zI v) (K : V S k n h sz (pc + 1) lv (.int (zI v) :: rest)) : V S k n h sz pc lv (.int y :: .int x :: rest) := by
  intro p e s m args below meth c H ls locs C B
  exact lv_iushr C.1 (C.2.1.trans hc) hd hv (K p e s m args below meth c H ls locs C B)
theorem z_idiv {S : b_S} {k n : Nat} {h : b_H} {sz pc : Nat} {lv : List (Option Value)} {rest : List Value} {cc : ByteArray} (hc : s_cc S = cc) {x y : Int} (hd : decode cc pc = .ok (.idiv, 1)) (hx : zb x) (hy : zb y) (h0 : 0 < y) (K : V S k n h sz (pc + 1) lv (.int (zI (x.tdiv y)) :: rest)) : V S k n h sz pc lv (.int (zI y) :: .int (zI x) :: rest) := by
  intro p e s m args below meth c H ls locs C B
  have hne : ¬ zI y = 0 := fun q => by
    have := (zI_inj hy (b := 0) ⟨by omega, by omega⟩).mp q
    omega
  exact lv_idiv C.1 (C.2.1.trans hc) hd hne (by rw [zI_div hx hy h0]; exact K p e s m args below meth c H ls locs C B)
theorem z_irem {S : b_S} {k n : Nat} {h : b_H} {sz pc : Nat} {lv : List (Option Value)} {rest : List Value} {cc : ByteArray} (hc : s_cc S = cc) {x y : Int} (hd : decode cc pc = .ok (.irem, 1)) (hx : zb x) (hy : zb y) (h0 : 0 < y) (K : V S k n h sz (pc + 1) lv (.int (zI (x.tmod y)) :: rest)) : V S k n h sz pc lv (.int (zI y) :: .int (zI x) :: rest) := by
  intro p e s m args below meth c H ls locs C B
  have hne : ¬ zI y = 0 := fun q => by
    have := (zI_inj hy (b := 0) ⟨by omega, by omega⟩).mp q
    omega
  exact lv_irem C.1 (C.2.1.trans hc) hd hne (by rw [zI_div hx hy h0, zI_mul, zI_sub, show x - x.tdiv y * y = x.tmod y by rw [Int.mul_comm, Int.tmod_def]]; exact K p e s m args below meth c H ls locs C B)
theorem v_dup {S : b_S} {k n : Nat} {h : b_H} {sz pc : Nat} {lv : List (Option Value)} {rest : List Value} {cc : ByteArray} (hc : s_cc S = cc) {va : Value} (hd : decode cc pc = .ok (.dup, 1)) (hva : va.category = 1) (K : V S k n h sz (pc + 1) lv (va :: va :: rest)) : V S k n h sz pc lv (va :: rest) := by
  intro p e s m args below meth c H ls locs C B
  exact lv_dup C.1 (C.2.1.trans hc) hd hva (K p e s m args below meth c H ls locs C B)
theorem v_pop {S : b_S} {k n : Nat} {h : b_H} {sz pc : Nat} {lv : List (Option Value)} {rest : List Value} {cc : ByteArray} (hc : s_cc S = cc) {va : Value} (hd : decode cc pc = .ok (.pop, 1)) (hva : va.category = 1) (K : V S k n h sz (pc + 1) lv rest) : V S k n h sz pc lv (va :: rest) := by
  intro p e s m args below meth c H ls locs C B
  exact lv_pop C.1 (C.2.1.trans hc) hd hva (K p e s m args below meth c H ls locs C B)
theorem v_dup_x1 {S : b_S} {k n : Nat} {h : b_H} {sz pc : Nat} {lv : List (Option Value)} {rest : List Value} {cc : ByteArray} (hc : s_cc S = cc) {va vb : Value} (hd : decode cc pc = .ok (.dup_x1, 1)) (hva : va.category = 1) (hvb : vb.category = 1) (K : V S k n h sz (pc + 1) lv (va :: vb :: va :: rest)) : V S k n h sz pc lv (va :: vb :: rest) := by
  intro p e s m args below meth c H ls locs C B
  exact lv_dup_x1 C.1 (C.2.1.trans hc) hd hva hvb (K p e s m args below meth c H ls locs C B)
theorem v_dup2 {S : b_S} {k n : Nat} {h : b_H} {sz pc : Nat} {lv : List (Option Value)} {rest : List Value} {cc : ByteArray} (hc : s_cc S = cc) {va vb : Value} (hd : decode cc pc = .ok (.dup2, 1)) (hva : va.category = 1) (hvb : vb.category = 1) (K : V S k n h sz (pc + 1) lv (va :: vb :: va :: vb :: rest)) : V S k n h sz pc lv (va :: vb :: rest) := by
  intro p e s m args below meth c H ls locs C B
  exact lv_dup2_11 C.1 (C.2.1.trans hc) hd hva hvb (K p e s m args below meth c H ls locs C B)
theorem v_i2l {S : b_S} {k n : Nat} {h : b_H} {sz pc : Nat} {lv : List (Option Value)} {rest : List Value} {cc : ByteArray} (hc : s_cc S = cc) {x : Int32} (hd : decode cc pc = .ok (.i2l, 1)) (K : V S k n h sz (pc + 1) lv (.long x.toInt64 :: rest)) : V S k n h sz pc lv (.int x :: rest) := by
  intro p e s m args below meth c H ls locs C B
  exact lv_i2l C.1 (C.2.1.trans hc) hd rfl (K p e s m args below meth c H ls locs C B)
theorem v_l2i {S : b_S} {k n : Nat} {h : b_H} {sz pc : Nat} {lv : List (Option Value)} {rest : List Value} {cc : ByteArray} (hc : s_cc S = cc) {x : Int64} {v : Int} (hd : decode cc pc = .ok (.l2i, 1)) (hv : x.toInt32 = zI v) (K : V S k n h sz (pc + 1) lv (.int (zI v) :: rest)) : V S k n h sz pc lv (.long x :: rest) := by
  intro p e s m args below meth c H ls locs C B
  exact lv_l2i C.1 (C.2.1.trans hc) hd hv (K p e s m args below meth c H ls locs C B)
theorem v_lmul {S : b_S} {k n : Nat} {h : b_H} {sz pc : Nat} {lv : List (Option Value)} {rest : List Value} {cc : ByteArray} (hc : s_cc S = cc) {x y : Int64} (hd : decode cc pc = .ok (.lmul, 1)) (K : V S k n h sz (pc + 1) lv (.long (x * y) :: rest)) : V S k n h sz pc lv (.long y :: .long x :: rest) := by
  intro p e s m args below meth c H ls locs C B
  exact lv_lmul C.1 (C.2.1.trans hc) hd (K p e s m args below meth c H ls locs C B)
theorem v_ldiv {S : b_S} {k n : Nat} {h : b_H} {sz pc : Nat} {lv : List (Option Value)} {rest : List Value} {cc : ByteArray} (hc : s_cc S = cc) {x y : Int64} (hd : decode cc pc = .ok (.ldiv, 1)) (hne : ¬ y = 0) (K : V S k n h sz (pc + 1) lv (.long (x / y) :: rest)) : V S k n h sz pc lv (.long y :: .long x :: rest) := by
  intro p e s m args below meth c H ls locs C B
  exact lv_ldiv C.1 (C.2.1.trans hc) hd hne (K p e s m args below meth c H ls locs C B)
theorem z_icmp_eq {S : b_S} {k n : Nat} {h : b_H} {sz pc : Nat} {lv : List (Option Value)} {rest : List Value} {cc : ByteArray} (hc : s_cc S = cc) {x y : Int} {off : Int} {tgt : Nat} (hd : decode cc pc = .ok (.if_icmp .eq off, 3)) (ht : (pc : Int) + off = (tgt : Int)) (hx : zb x) (hy : zb y) (KT : x = y → V S k n h sz tgt lv rest) (KF : ¬ x = y → V S k n h sz (pc + 3) lv rest) : V S k n h sz pc lv (.int (zI y) :: .int (zI x) :: rest) := by
  intro p e s m args below meth c H ls locs C B
  exact lv_icmp_eq C.1 (C.2.1.trans hc) hd ht (fun q => KT ((zI_inj hx hy).mp q) p e s m args below meth c H ls locs C B) (fun q => KF (fun r => q ((zI_inj hx hy).mpr r)) p e s m args below meth c H ls locs C B)
theorem z_if_eq {S : b_S} {k n : Nat} {h : b_H} {sz pc : Nat} {lv : List (Option Value)} {rest : List Value} {cc : ByteArray} (hc : s_cc S = cc) {x : Int} {off : Int} {tgt : Nat} (hd : decode cc pc = .ok (.ifCond .eq off, 3)) (ht : (pc : Int) + off = (tgt : Int)) (hx : zb x) (KT : x = 0 → V S k n h sz tgt lv rest) (KF : ¬ x = 0 → V S k n h sz (pc + 3) lv rest) : V S k n h sz pc lv (.int (zI x) :: rest) := by
  intro p e s m args below meth c H ls locs C B
  have hy : zb 0 := ⟨by omega, by omega⟩
  exact lv_if_eq C.1 (C.2.1.trans hc) hd ht (fun q => KT ((zI_inj hx hy).mp q) p e s m args below meth c H ls locs C B) (fun q => KF (fun r => q ((zI_inj hx hy).mpr r)) p e s m args below meth c H ls locs C B)
theorem z_icmp_ne {S : b_S} {k n : Nat} {h : b_H} {sz pc : Nat} {lv : List (Option Value)} {rest : List Value} {cc : ByteArray} (hc : s_cc S = cc) {x y : Int} {off : Int} {tgt : Nat} (hd : decode cc pc = .ok (.if_icmp .ne off, 3)) (ht : (pc : Int) + off = (tgt : Int)) (hx : zb x) (hy : zb y) (KT : ¬ x = y → V S k n h sz tgt lv rest) (KF : x = y → V S k n h sz (pc + 3) lv rest) : V S k n h sz pc lv (.int (zI y) :: .int (zI x) :: rest) := by
  intro p e s m args below meth c H ls locs C B
  exact lv_icmp_ne C.1 (C.2.1.trans hc) hd ht (fun q => KT (fun r => q ((zI_inj hx hy).mpr r)) p e s m args below meth c H ls locs C B) (fun q => KF ((zI_inj hx hy).mp q) p e s m args below meth c H ls locs C B)
theorem z_if_ne {S : b_S} {k n : Nat} {h : b_H} {sz pc : Nat} {lv : List (Option Value)} {rest : List Value} {cc : ByteArray} (hc : s_cc S = cc) {x : Int} {off : Int} {tgt : Nat} (hd : decode cc pc = .ok (.ifCond .ne off, 3)) (ht : (pc : Int) + off = (tgt : Int)) (hx : zb x) (KT : ¬ x = 0 → V S k n h sz tgt lv rest) (KF : x = 0 → V S k n h sz (pc + 3) lv rest) : V S k n h sz pc lv (.int (zI x) :: rest) := by
  intro p e s m args below meth c H ls locs C B
  have hy : zb 0 := ⟨by omega, by omega⟩
  exact lv_if_ne C.1 (C.2.1.trans hc) hd ht (fun q => KT (fun r => q ((zI_inj hx hy).mpr r)) p e s m args below meth c H ls locs C B) (fun q => KF ((zI_inj hx hy).mp q) p e s m args below meth c H ls locs C B)
theorem z_icmp_lt {S : b_S} {k n : Nat} {h : b_H} {sz pc : Nat} {lv : List (Option Value)} {rest : List Value} {cc : ByteArray} (hc : s_cc S = cc) {x y : Int} {off : Int} {tgt : Nat} (hd : decode cc pc = .ok (.if_icmp .lt off, 3)) (ht : (pc : Int) + off = (tgt : Int)) (hx : zb x) (hy : zb y) (KT : x < y → V S k n h sz tgt lv rest) (KF : ¬ x < y → V S k n h sz (pc + 3) lv rest) : V S k n h sz pc lv (.int (zI y) :: .int (zI x) :: rest) := by
  intro p e s m args below meth c H ls locs C B
  exact lv_icmp_lt C.1 (C.2.1.trans hc) hd ht (fun q => KT ((zI_lt hx hy).mp q) p e s m args below meth c H ls locs C B) (fun q => KF (fun r => q ((zI_lt hx hy).mpr r)) p e s m args below meth c H ls locs C B)
theorem z_if_lt {S : b_S} {k n : Nat} {h : b_H} {sz pc : Nat} {lv : List (Option Value)} {rest : List Value} {cc : ByteArray} (hc : s_cc S = cc) {x : Int} {off : Int} {tgt : Nat} (hd : decode cc pc = .ok (.ifCond .lt off, 3)) (ht : (pc : Int) + off = (tgt : Int)) (hx : zb x) (KT : x < 0 → V S k n h sz tgt lv rest) (KF : ¬ x < 0 → V S k n h sz (pc + 3) lv rest) : V S k n h sz pc lv (.int (zI x) :: rest) := by
  intro p e s m args below meth c H ls locs C B
  have hy : zb 0 := ⟨by omega, by omega⟩
  exact lv_if_lt C.1 (C.2.1.trans hc) hd ht (fun q => KT ((zI_lt hx hy).mp q) p e s m args below meth c H ls locs C B) (fun q => KF (fun r => q ((zI_lt hx hy).mpr r)) p e s m args below meth c H ls locs C B)
theorem z_icmp_ge {S : b_S} {k n : Nat} {h : b_H} {sz pc : Nat} {lv : List (Option Value)} {rest : List Value} {cc : ByteArray} (hc : s_cc S = cc) {x y : Int} {off : Int} {tgt : Nat} (hd : decode cc pc = .ok (.if_icmp .ge off, 3)) (ht : (pc : Int) + off = (tgt : Int)) (hx : zb x) (hy : zb y) (KT : y ≤ x → V S k n h sz tgt lv rest) (KF : ¬ y ≤ x → V S k n h sz (pc + 3) lv rest) : V S k n h sz pc lv (.int (zI y) :: .int (zI x) :: rest) := by
  intro p e s m args below meth c H ls locs C B
  exact lv_icmp_ge C.1 (C.2.1.trans hc) hd ht (fun q => KT ((zI_le hy hx).mp q) p e s m args below meth c H ls locs C B) (fun q => KF (fun r => q ((zI_le hy hx).mpr r)) p e s m args below meth c H ls locs C B)
theorem z_if_ge {S : b_S} {k n : Nat} {h : b_H} {sz pc : Nat} {lv : List (Option Value)} {rest : List Value} {cc : ByteArray} (hc : s_cc S = cc) {x : Int} {off : Int} {tgt : Nat} (hd : decode cc pc = .ok (.ifCond .ge off, 3)) (ht : (pc : Int) + off = (tgt : Int)) (hx : zb x) (KT : 0 ≤ x → V S k n h sz tgt lv rest) (KF : ¬ 0 ≤ x → V S k n h sz (pc + 3) lv rest) : V S k n h sz pc lv (.int (zI x) :: rest) := by
  intro p e s m args below meth c H ls locs C B
  have hy : zb 0 := ⟨by omega, by omega⟩
  exact lv_if_ge C.1 (C.2.1.trans hc) hd ht (fun q => KT ((zI_le hy hx).mp q) p e s m args below meth c H ls locs C B) (fun q => KF (fun r => q ((zI_le hy hx).mpr r)) p e s m args below meth c H ls locs C B)
theorem z_icmp_gt {S : b_S} {k n : Nat} {h : b_H} {sz pc : Nat} {lv : List (Option Value)} {rest : List Value} {cc : ByteArray} (hc : s_cc S = cc) {x y : Int} {off : Int} {tgt : Nat} (hd : decode cc pc = .ok (.if_icmp .gt off, 3)) (ht : (pc : Int) + off = (tgt : Int)) (hx : zb x) (hy : zb y) (KT : y < x → V S k n h sz tgt lv rest) (KF : ¬ y < x → V S k n h sz (pc + 3) lv rest) : V S k n h sz pc lv (.int (zI y) :: .int (zI x) :: rest) := by
  intro p e s m args below meth c H ls locs C B
  exact lv_icmp_gt C.1 (C.2.1.trans hc) hd ht (fun q => KT ((zI_lt hy hx).mp q) p e s m args below meth c H ls locs C B) (fun q => KF (fun r => q ((zI_lt hy hx).mpr r)) p e s m args below meth c H ls locs C B)
theorem z_if_gt {S : b_S} {k n : Nat} {h : b_H} {sz pc : Nat} {lv : List (Option Value)} {rest : List Value} {cc : ByteArray} (hc : s_cc S = cc) {x : Int} {off : Int} {tgt : Nat} (hd : decode cc pc = .ok (.ifCond .gt off, 3)) (ht : (pc : Int) + off = (tgt : Int)) (hx : zb x) (KT : 0 < x → V S k n h sz tgt lv rest) (KF : ¬ 0 < x → V S k n h sz (pc + 3) lv rest) : V S k n h sz pc lv (.int (zI x) :: rest) := by
  intro p e s m args below meth c H ls locs C B
  have hy : zb 0 := ⟨by omega, by omega⟩
  exact lv_if_gt C.1 (C.2.1.trans hc) hd ht (fun q => KT ((zI_lt hy hx).mp q) p e s m args below meth c H ls locs C B) (fun q => KF (fun r => q ((zI_lt hy hx).mpr r)) p e s m args below meth c H ls locs C B)
theorem z_icmp_le {S : b_S} {k n : Nat} {h : b_H} {sz pc : Nat} {lv : List (Option Value)} {rest : List Value} {cc : ByteArray} (hc : s_cc S = cc) {x y : Int} {off : Int} {tgt : Nat} (hd : decode cc pc = .ok (.if_icmp .le off, 3)) (ht : (pc : Int) + off = (tgt : Int)) (hx : zb x) (hy : zb y) (KT : x ≤ y → V S k n h sz tgt lv rest) (KF : ¬ x ≤ y → V S k n h sz (pc + 3) lv rest) : V S k n h sz pc lv (.int (zI y) :: .int (zI x) :: rest) := by
  intro p e s m args below meth c H ls locs C B
  exact lv_icmp_le C.1 (C.2.1.trans hc) hd ht (fun q => KT ((zI_le hx hy).mp q) p e s m args below meth c H ls locs C B) (fun q => KF (fun r => q ((zI_le hx hy).mpr r)) p e s m args below meth c H ls locs C B)
theorem z_if_le {S : b_S} {k n : Nat} {h : b_H} {sz pc : Nat} {lv : List (Option Value)} {rest : List Value} {cc : ByteArray} (hc : s_cc S = cc) {x : Int} {off : Int} {tgt : Nat} (hd : decode cc pc = .ok (.ifCond .le off, 3)) (ht : (pc : Int) + off = (tgt : Int)) (hx : zb x) (KT : x ≤ 0 → V S k n h sz tgt lv rest) (KF : ¬ x ≤ 0 → V S k n h sz (pc + 3) lv rest) : V S k n h sz pc lv (.int (zI x) :: rest) := by
  intro p e s m args below meth c H ls locs C B
  have hy : zb 0 := ⟨by omega, by omega⟩
  exact lv_if_le C.1 (C.2.1.trans hc) hd ht (fun q => KT ((zI_le hx hy).mp q) p e s m args below meth c H ls locs C B) (fun q => KF (fun r => q ((zI_le hx hy).mpr r)) p e s m args below meth c H ls locs C B)
theorem v_goto {S : b_S} {k n : Nat} {h : b_H} {sz pc : Nat} {lv : List (Option Value)} {rest : List Value} {cc : ByteArray} (hc : s_cc S = cc) {off : Int} {tgt : Nat} (hd : decode cc pc = .ok (.goto off, 3)) (ht : (pc : Int) + off = (tgt : Int)) (K : V S k n h sz tgt lv rest) : V S k n h sz pc lv rest := by
  intro p e s m args below meth c H ls locs C B
  exact lv_goto C.1 (C.2.1.trans hc) hd ht (K p e s m args below meth c H ls locs C B)
theorem v_ifnull {S : b_S} {k n : Nat} {h : b_H} {sz pc : Nat} {lv : List (Option Value)} {rest : List Value} {cc : ByteArray} (hc : s_cc S = cc) {x : Nat} {off : Int} (hd : decode cc pc = .ok (.ifnull off, 3)) (K : V S k n h sz (pc + 3) lv rest) : V S k n h sz pc lv (.ref x :: rest) := by
  intro p e s m args below meth c H ls locs C B
  exact lv_ifnull C.1 (C.2.1.trans hc) hd (K p e s m args below meth c H ls locs C B)
theorem v_ifnullN {S : b_S} {k n : Nat} {h : b_H} {sz pc : Nat} {lv : List (Option Value)} {rest : List Value} {cc : ByteArray} (hc : s_cc S = cc) {off : Int} {tgt : Nat} (hd : decode cc pc = .ok (.ifnull off, 3)) (ht : (pc : Int) + off = (tgt : Int)) (K : V S k n h sz tgt lv rest) : V S k n h sz pc lv (.null :: rest) := by
  intro p e s m args below meth c H ls locs C B
  exact lv_ifnullN C.1 (C.2.1.trans hc) hd ht (K p e s m args below meth c H ls locs C B)
theorem v_ifnonnull {S : b_S} {k n : Nat} {h : b_H} {sz pc : Nat} {lv : List (Option Value)} {rest : List Value} {cc : ByteArray} (hc : s_cc S = cc) {x : Nat} {off : Int} {tgt : Nat} (hd : decode cc pc = .ok (.ifnonnull off, 3)) (ht : (pc : Int) + off = (tgt : Int)) (K : V S k n h sz tgt lv rest) : V S k n h sz pc lv (.ref x :: rest) := by
  intro p e s m args below meth c H ls locs C B
  exact lv_ifnonnull C.1 (C.2.1.trans hc) hd ht (K p e s m args below meth c H ls locs C B)
theorem v_ifnonnullN {S : b_S} {k n : Nat} {h : b_H} {sz pc : Nat} {lv : List (Option Value)} {rest : List Value} {cc : ByteArray} (hc : s_cc S = cc) {off : Int} (hd : decode cc pc = .ok (.ifnonnull off, 3)) (K : V S k n h sz (pc + 3) lv rest) : V S k n h sz pc lv (.null :: rest) := by
  intro p e s m args below meth c H ls locs C B
  exact lv_ifnonnullN C.1 (C.2.1.trans hc) hd (K p e s m args below meth c H ls locs C B)
theorem v_acmp_eq {S : b_S} {k n : Nat} {h : b_H} {sz pc : Nat} {lv : List (Option Value)} {rest : List Value} {cc : ByteArray} (hc : s_cc S = cc) {x y : Nat} {off : Int} {tgt : Nat} (hd : decode cc pc = .ok (.if_acmp .eq off, 3)) (ht : (pc : Int) + off = (tgt : Int)) (KT : x = y → V S k n h sz tgt lv rest) (KF : ¬ x = y → V S k n h sz (pc + 3) lv rest) : V S k n h sz pc lv (.ref y :: .ref x :: rest) := by
  intro p e s m args below meth c H ls locs C B
  exact lv_acmp_eq (rx := some x) (ry := some y) C.1 (C.2.1.trans hc) hd ht (fun q => KT (by simpa using q) p e s m args below meth c H ls locs C B) (fun q => KF (by simpa using q) p e s m args below meth c H ls locs C B)
theorem v_acmp_ne {S : b_S} {k n : Nat} {h : b_H} {sz pc : Nat} {lv : List (Option Value)} {rest : List Value} {cc : ByteArray} (hc : s_cc S = cc) {x y : Nat} {off : Int} {tgt : Nat} (hd : decode cc pc = .ok (.if_acmp .ne off, 3)) (ht : (pc : Int) + off = (tgt : Int)) (KT : ¬ x = y → V S k n h sz tgt lv rest) (KF : x = y → V S k n h sz (pc + 3) lv rest) : V S k n h sz pc lv (.ref y :: .ref x :: rest) := by
  intro p e s m args below meth c H ls locs C B
  exact lv_acmp_ne (rx := some x) (ry := some y) C.1 (C.2.1.trans hc) hd ht (fun q => KT (by simpa using q) p e s m args below meth c H ls locs C B) (fun q => KF (by simpa using q) p e s m args below meth c H ls locs C B)
theorem z_tableOut {S : b_S} {k n : Nat} {h : b_H} {sz pc : Nat} {lv : List (Option Value)} {rest : List Value} {cc : ByteArray} (hc : s_cc S = cc) {dflt lo hi : Int} {offs : Array Int} {len : Nat} {x : Int} {tgt : Nat} (hd : decode cc pc = .ok (.tableswitch dflt lo hi offs, len)) (hx : zb x) (hh : x < lo ∨ hi < x) (ht : (pc : Int) + dflt = (tgt : Int)) (K : V S k n h sz tgt lv rest) : V S k n h sz pc lv (.int (zI x) :: rest) := by
  intro p e s m args below meth c H ls locs C B
  exact lv_tableOut C.1 (C.2.1.trans hc) hd (by rw [zI_toInt hx]; exact hh) ht (K p e s m args below meth c H ls locs C B)
theorem z_tableIn {S : b_S} {k n : Nat} {h : b_H} {sz pc : Nat} {lv : List (Option Value)} {rest : List Value} {cc : ByteArray} (hc : s_cc S = cc) {dflt lo hi : Int} {offs : Array Int} {len : Nat} {x off : Int} {tgt : Nat} (hd : decode cc pc = .ok (.tableswitch dflt lo hi offs, len)) (hx : zb x) (h1 : ¬ x < lo) (h2 : ¬ hi < x) (ho : offs[(x - lo).toNat]? = some off) (ht : (pc : Int) + off = (tgt : Int)) (K : V S k n h sz tgt lv rest) : V S k n h sz pc lv (.int (zI x) :: rest) := by
  intro p e s m args below meth c H ls locs C B
  exact lv_tableIn C.1 (C.2.1.trans hc) hd (by rw [zI_toInt hx]; exact h1) (by rw [zI_toInt hx]; exact h2) (by rw [zI_toInt hx]; exact ho) ht (K p e s m args below meth c H ls locs C B)
