/-! cells by themselves: new ones, stores, by fresh names of the heap -/
section R4
variable {S : b_S} {k n : Nat} {h : b_H} {sz pc : Nat} {lv : List (Option Value)} {st rest : List Value} {cc : ByteArray}
theorem v_dom (K : (∀ b, h b ≠ none → b < sz) → V S k n h sz pc lv st) : V S k n h sz pc lv st := by
  intro p e s m args below meth c H ls locs C B
  exact K (fun b hb => by rw [← B.1]; exact B.2.1.lt hb) p e s m args below meth c H ls locs C B
theorem x_newI (hc : s_cc S = cc) (hd : decode cc pc = .ok (.newarray .int, 2)) {N : Nat} {z : Int} (hz : z = N) (hN : N ≤ 134217728) (hk : k + 1 ≤ (s_R S).cells) (hn : n + N ≤ (s_R S).slots) (K : ∀ h' : b_H, h' sz = some (b_iA N (fun _ => 0)) → (∀ b, b ≠ sz → h' b = h b) → V S (k + 1) (n + N) h' (sz + 1) (pc + 2) lv (.ref sz :: rest)) : V S k n h sz pc lv (.int (zI z) :: rest) :=
  z_newI hc hd AC_I hz hN hk hn (K _ (b_set_eq _ _ _) (fun _ q => b_set_ne _ _ q))
theorem x_newZ (hc : s_cc S = cc) (hd : decode cc pc = .ok (.newarray .boolean, 2)) {N : Nat} {z : Int} (hz : z = N) (hN : N ≤ 134217728) (hk : k + 1 ≤ (s_R S).cells) (hn : n + N ≤ (s_R S).slots) (K : ∀ h' : b_H, h' sz = some (b_zA N (fun _ => 0)) → (∀ b, b ≠ sz → h' b = h b) → V S (k + 1) (n + N) h' (sz + 1) (pc + 2) lv (.ref sz :: rest)) : V S k n h sz pc lv (.int (zI z) :: rest) :=
  z_newZ hc hd AC_Z hz hN hk hn (K _ (b_set_eq _ _ _) (fun _ q => b_set_ne _ _ q))
theorem x_newq (hc : s_cc S = cc) {own : String} (ho : s_own S = own) {idx : Nat} (hd : decode cc pc = .ok (.anewarray idx, 3)) (hw : Cond.classLink own idx "java/lang/Object" ∈ b_T) {N : Nat} {z : Int} (hz : z = N) (hN : N ≤ 134217728) (hk : k + 1 ≤ (s_R S).cells) (hn : n + N ≤ (s_R S).slots) (K : ∀ h' : b_H, h' sz = some (b_qA N (fun _ => none)) → (∀ b, b ≠ sz → h' b = h b) → V S (k + 1) (n + N) h' (sz + 1) (pc + 3) lv (.ref sz :: rest)) : V S k n h sz pc lv (.int (zI z) :: rest) :=
  v_newq hc ho hd hw hz hN hk hn (K _ (b_set_eq _ _ _) (fun _ q => b_set_ne _ _ q))
theorem x_new (hc : s_cc S = cc) {own : String} (ho : s_own S = own) {idx ci N : Nat} {fs : List Value} (hd : decode cc pc = .ok (.new idx, 3)) (F : b_NW own idx ci N fs) (hk : k + 1 ≤ (s_R S).cells) (hn : n + N ≤ (s_R S).slots) (K : ∀ h' : b_H, h' sz = some (b_ob ci fs) → (∀ b, b ≠ sz → h' b = h b) → V S (k + 1) (n + N) h' (sz + 1) (pc + 3) lv (.ref sz :: rest)) : V S k n h sz pc lv rest :=
  v_new hc ho hd F hk hn (K _ (b_set_eq _ _ _) (fun _ q => b_set_ne _ _ q))
theorem x_iast (hc : s_cc S = cc) (hd : decode cc pc = .ok (.iastore, 1)) {a N : Nat} {f : Nat → Int} {i x : Int} (ha : h a = some (b_iA N f)) (hN : N < 2147483648) (h0 : 0 ≤ i) (h1 : i < N) (K : ∀ h' : b_H, h' a = some (b_iA N (b_up f i.toNat x)) → (∀ b, b ≠ a → h' b = h b) → V S k n h' sz (pc + 1) lv rest) : V S k n h sz pc lv (.int (zI x) :: .int (zI i) :: .ref a :: rest) :=
  z_iast hc hd ha hN h0 h1 (K _ (b_set_eq _ _ _) (fun _ q => b_set_ne _ _ q))
theorem x_put (hc : s_cc S = cc) {own : String} (ho : s_own S = own) {idx ci f : Nat} {t : FieldType} {dc : String} (hd : decode cc pc = .ok (.putfield idx, 3)) (F : b_FL own idx ci f t false dc) {a : Nat} {fs : List Value} {v : Value} (ha : h a = some (b_ob ci fs)) (hl : Nat.ble (f + 1) fs.length = true) (hn : narrow t v = v ∧ fits t v = true) (K : ∀ h' : b_H, h' a = some (b_ob ci (fs.set f v)) → (∀ b, b ≠ a → h' b = h b) → V S k n h' sz (pc + 3) lv rest) : V S k n h sz pc lv (v :: .ref a :: rest) :=
  v_put hc ho hd F ha (Nat.le_of_ble_eq_true hl) hn (K _ (b_set_eq _ _ _) (fun _ q => b_set_ne _ _ q))
theorem x_putF (hc : s_cc S = cc) {own : String} (ho : s_own S = own) (hi2 : s_nm S = "<init>") {idx ci f : Nat} {t : FieldType} (hd : decode cc pc = .ok (.putfield idx, 3)) (F : b_FL own idx ci f t true own) {a : Nat} {fs : List Value} {v : Value} (ha : h a = some (b_ob ci fs)) (hl : Nat.ble (f + 1) fs.length = true) (hn : narrow t v = v ∧ fits t v = true) (K : ∀ h' : b_H, h' a = some (b_ob ci (fs.set f v)) → (∀ b, b ≠ a → h' b = h b) → V S k n h' sz (pc + 3) lv rest) : V S k n h sz pc lv (v :: .ref a :: rest) :=
  v_putF hc ho hi2 hd F ha (Nat.le_of_ble_eq_true hl) hn (K _ (b_set_eq _ _ _) (fun _ q => b_set_ne _ _ q))
theorem x_aast (hc : s_cc S = cc) (hd : decode cc pc = .ok (.aastore, 1)) {a N : Nat} {f : Nat → Option Nat} {i : Int} {v ci : Nat} {vs : List Value} {r : vw_C} (ha : h a = some (b_qA N f)) (hN : N < 2147483648) (h0 : 0 ≤ i) (h1 : i < N) (hv : h v = some (b_ob ci vs)) (hr : b_C[ci]? = some r) (hca : Cond.castable r.1 "java/lang/Object" ∈ b_Ca) (K : ∀ h' : b_H, h' a = some (b_qA N (b_up f i.toNat (some v))) → (∀ b, b ≠ a → h' b = h b) → V S k n h' sz (pc + 1) lv rest) : V S k n h sz pc lv (.ref v :: .int (zI i) :: .ref a :: rest) :=
  v_aast hc hd ha hN h0 h1 hv hr hca (K _ (b_set_eq _ _ _) (fun _ q => b_set_ne _ _ q))
end R4
theorem r_O.lt {K : r_K} {ci o : Nat} {ad : Nat → Nat} {i : Nat → Int} {a : Nat → Nat → Int} {h : b_H} {sz : Nat} (hO : r_O K ci o ad i a h) (hd : ∀ b, h b ≠ none → b < sz) : ∀ b, r_own K o ad b → b < sz := by
  rintro b (rfl | ⟨k, p, hk, rfl⟩)
  · exact hd _ (b_some hO.1)
  · exact hd _ (b_some (hO.2.1 k p.1 p.2 hk))
/-! making an object with arrays of its own: the arrays lie one behind the other, from s0 on -/
def r_ars (K : r_K) : List b_X := K.filterMap (fun x => x.map (fun p => r_ar p.1 p.2 (fun _ => 0)))
def r_ix (K : r_K) (k : Nat) : Nat := ((K.take k).filterMap id).length
theorem r_ars_at : ∀ (K : r_K) (k : Nat) (p : Bool × Nat), K[k]? = some (some p) → (r_ars K)[r_ix K k]? = some (r_ar p.1 p.2 (fun _ => 0))
  | [], k, p, h => by simp at h
  | none :: t, 0, p, h => by simp at h
  | some q :: t, 0, p, h => by simp at h; subst h; simp [r_ars, r_ix]
  | none :: t, k + 1, p, h => by
    have := r_ars_at t k p (by simpa using h)
    simpa [r_ars, r_ix] using this
  | some q :: t, k + 1, p, h => by
    have := r_ars_at t k p (by simpa using h)
    simpa [r_ars, r_ix] using this
theorem r_ix_inj : ∀ (K : r_K) (j k : Nat) (p q : Bool × Nat), K[j]? = some (some p) → K[k]? = some (some q) → r_ix K j = r_ix K k → j = k
  | [], j, k, p, q, h, _, _ => by simp at h
  | x :: t, 0, 0, p, q, _, _, _ => rfl
  | none :: t, 0, k + 1, p, q, h, _, _ => by simp at h
  | none :: t, k + 1, 0, p, q, _, h, _ => by simp at h
  | some x :: t, 0, k + 1, p, q, _, _, h => by simp [r_ix] at h
  | some x :: t, k + 1, 0, p, q, _, _, h => by simp [r_ix] at h
  | none :: t, j + 1, k + 1, p, q, h1, h2, h3 => by
    have := r_ix_inj t j k p q (by simpa using h1) (by simpa using h2) (by simpa [r_ix] using h3)
    omega
  | some x :: t, j + 1, k + 1, p, q, h1, h2, h3 => by
    have := r_ix_inj t j k p q (by simpa using h1) (by simpa using h2) (by simpa [r_ix] using h3)
    omega
/-- the making so far: the object's fields fs, the arrays ar at s0 and on, all else below s0 as in hB -/
def r_Mk (ci o s0 : Nat) (hB : b_H) (fs : List Value) (ar : List b_X) (h : b_H) : Prop := h o = some (b_ob ci fs) ∧ (∀ j x, ar[j]? = some x → h (s0 + j) = some x) ∧ (∀ b, b < s0 → b ≠ o → h b = hB b)
theorem r_Mk.done {K : r_K} {ci o s0 : Nat} {hB h : b_H} {fs : List Value} {ar : List b_X} (M : r_Mk ci o s0 hB fs ar h) {i : Nat → Int} (hi : ∀ k, zb (i k)) (hfs : fs = r_fs K 0 (fun k => s0 + r_ix K k) i) (har : ar = r_ars K) : r_O K ci o (fun k => s0 + r_ix K k) i (fun _ _ => 0) h := by
  subst hfs; subst har
  refine ⟨M.1, fun k z n hk => M.2.1 _ _ (r_ars_at K k (z, n) hk), fun j k p q h1 h2 h3 => r_ix_inj K j k p q h1 h2 (by dsimp only at h3; omega), hi, fun _ _ => ⟨(by decide : (-2147483648 : Int) ≤ 0), (by decide : (0 : Int) < 2147483648)⟩⟩
section RM
variable {S : b_S} {k n : Nat} {h hB : b_H} {sz pc : Nat} {lv : List (Option Value)} {rest : List Value} {cc : ByteArray} {own : String} {idx ci o f s0 : Nat} {fs : List Value} {ar : List b_X} {t : FieldType} {dc : String}
theorem r_Mk.push {M : r_Mk ci o s0 hB fs ar h} {h1 : b_H} {x : b_X} (ho : o < s0) (hz : sz = s0 + ar.length) (e1 : h1 sz = some x) (e2 : ∀ b, b ≠ sz → h1 b = h b) : r_Mk ci o s0 hB fs (ar ++ [x]) h1 := by
  refine ⟨(e2 o (by omega)).trans M.1, fun j y hj => ?_, fun b hb hn => (e2 b (by omega)).trans (M.2.2 b hb hn)⟩
  by_cases q : j < ar.length
  · rw [List.getElem?_append_left q] at hj
    rw [e2 _ (by omega)]; exact M.2.1 j y hj
  · rw [List.getElem?_append_right (by omega)] at hj
    have hl := (List.getElem?_eq_some_iff.mp hj).1
    have hj0 : j = ar.length := by simp at hl; omega
    subst hj0
    simp at hj
    rw [← hz, e1, hj]
theorem r_Mk.put {M : r_Mk ci o s0 hB fs ar h} {h1 : b_H} {fs1 : List Value} (ho : o < s0) (e1 : h1 o = some (b_ob ci fs1)) (e2 : ∀ b, b ≠ o → h1 b = h b) : r_Mk ci o s0 hB fs1 ar h1 :=
  ⟨e1, fun j y hj => (e2 _ (by omega)).trans (M.2.1 j y hj), fun b hb hn => (e2 b hn).trans (M.2.2 b hb hn)⟩
theorem k_newI (hc : s_cc S = cc) (hd : decode cc pc = .ok (.newarray .int, 2)) (M : r_Mk ci o s0 hB fs ar h) (ho : o < s0) (hz : sz = s0 + ar.length) {N : Nat} {z : Int} (hzz : z = N) (hN : N ≤ 134217728) (hk : k + 1 ≤ (s_R S).cells) (hn : n + N ≤ (s_R S).slots) (K : ∀ h : b_H, r_Mk ci o s0 hB fs (ar ++ [b_iA N (fun _ => 0)]) h → V S (k + 1) (n + N) h (sz + 1) (pc + 2) lv (.ref sz :: rest)) : V S k n h sz pc lv (.int (zI z) :: rest) :=
  x_newI hc hd hzz hN hk hn (fun h' e1 e2 => K h' (M.push ho hz e1 e2))
theorem k_newZ (hc : s_cc S = cc) (hd : decode cc pc = .ok (.newarray .boolean, 2)) (M : r_Mk ci o s0 hB fs ar h) (ho : o < s0) (hz : sz = s0 + ar.length) {N : Nat} {z : Int} (hzz : z = N) (hN : N ≤ 134217728) (hk : k + 1 ≤ (s_R S).cells) (hn : n + N ≤ (s_R S).slots) (K : ∀ h : b_H, r_Mk ci o s0 hB fs (ar ++ [b_zA N (fun _ => 0)]) h → V S (k + 1) (n + N) h (sz + 1) (pc + 2) lv (.ref sz :: rest)) : V S k n h sz pc lv (.int (zI z) :: rest) :=
  x_newZ hc hd hzz hN hk hn (fun h' e1 e2 => K h' (M.push ho hz e1 e2))
theorem k_put (hc : s_cc S = cc) (ho : s_own S = own) (hd : decode cc pc = .ok (.putfield idx, 3)) (F : b_FL own idx ci f t false dc) (M : r_Mk ci o s0 hB fs ar h) (ho2 : o < s0) {v : Value} (hl : Nat.ble (f + 1) fs.length = true) (hn : narrow t v = v ∧ fits t v = true) (K : ∀ h : b_H, r_Mk ci o s0 hB (fs.set f v) ar h → V S k n h sz (pc + 3) lv rest) : V S k n h sz pc lv (v :: .ref o :: rest) :=
  x_put hc ho hd F M.1 hl hn (fun h' e1 e2 => K h' (M.put ho2 e1 e2))
theorem k_putF (hc : s_cc S = cc) (ho : s_own S = own) (hi2 : s_nm S = "<init>") (hd : decode cc pc = .ok (.putfield idx, 3)) (F : b_FL own idx ci f t true own) (M : r_Mk ci o s0 hB fs ar h) (ho2 : o < s0) {v : Value} (hl : Nat.ble (f + 1) fs.length = true) (hn : narrow t v = v ∧ fits t v = true) (K : ∀ h : b_H, r_Mk ci o s0 hB (fs.set f v) ar h → V S k n h sz (pc + 3) lv rest) : V S k n h sz pc lv (v :: .ref o :: rest) :=
  x_putF hc ho hi2 hd F M.1 hl hn (fun h' e1 e2 => K h' (M.put ho2 e1 e2))
end RM
