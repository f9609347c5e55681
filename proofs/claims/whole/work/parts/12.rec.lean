/-! objects whose fields are ints and int or boolean arrays of their own -/
abbrev r_K : Type := List (Option (Bool × Nat))
def r_fs : r_K → Nat → (Nat → Nat) → (Nat → Int) → List Value
  | [], _, _, _ => []
  | none :: t, k, ad, i => .int (zI (i k)) :: r_fs t (k + 1) ad i
  | some _ :: t, k, ad, i => .ref (ad k) :: r_fs t (k + 1) ad i
def r_ar (z : Bool) (n : Nat) (f : Nat → Int) : b_X := match z with
  | true => b_zA n f
  | false => b_iA n f
def r_O (K : r_K) (ci o : Nat) (ad : Nat → Nat) (i : Nat → Int) (a : Nat → Nat → Int) (h : b_H) : Prop :=
  h o = some (b_ob ci (r_fs K 0 ad i)) ∧ (∀ (k : Nat) (z : Bool) (n : Nat), K[k]? = some (some (z, n)) → h (ad k) = some (r_ar z n (a k))) ∧ (∀ (j k : Nat) (p q : Bool × Nat), K[j]? = some (some p) → K[k]? = some (some q) → ad j = ad k → j = k) ∧ (∀ k, zb (i k)) ∧ (∀ k j, zb (a k j))
def r_own (K : r_K) (o : Nat) (ad : Nat → Nat) (b : Nat) : Prop := b = o ∨ ∃ (k : Nat) (p : Bool × Nat), K[k]? = some (some p) ∧ b = ad k
theorem r_fs_len : ∀ (K : r_K) (k : Nat) (ad : Nat → Nat) (i : Nat → Int), (r_fs K k ad i).length = K.length
  | [], _, _, _ => rfl
  | none :: t, k, ad, i => by simp [r_fs, r_fs_len t]
  | some _ :: t, k, ad, i => by simp [r_fs, r_fs_len t]
theorem r_fs_get : ∀ (K : r_K) (k f : Nat) (ad : Nat → Nat) (i : Nat → Int), K[f]? = some none → (r_fs K k ad i)[f]? = some (.int (zI (i (k + f))))
  | [], _, _, _, _, h => by simp at h
  | none :: t, k, 0, ad, i, _ => rfl
  | some _ :: t, k, 0, ad, i, h => by simp at h
  | none :: t, k, f + 1, ad, i, h => by
    rw [r_fs, List.getElem?_cons_succ, r_fs_get t (k + 1) f ad i (by simpa using h), show k + 1 + f = k + (f + 1) by omega]
  | some _ :: t, k, f + 1, ad, i, h => by
    rw [r_fs, List.getElem?_cons_succ, r_fs_get t (k + 1) f ad i (by simpa using h), show k + 1 + f = k + (f + 1) by omega]
theorem r_fs_getA : ∀ (K : r_K) (k f : Nat) (ad : Nat → Nat) (i : Nat → Int) (p : Bool × Nat), K[f]? = some (some p) → (r_fs K k ad i)[f]? = some (.ref (ad (k + f)))
  | [], _, _, _, _, _, h => by simp at h
  | some _ :: t, k, 0, ad, i, _, _ => rfl
  | none :: t, k, 0, ad, i, _, h => by simp at h
  | none :: t, k, f + 1, ad, i, p, h => by
    rw [r_fs, List.getElem?_cons_succ, r_fs_getA t (k + 1) f ad i p (by simpa using h), show k + 1 + f = k + (f + 1) by omega]
  | some _ :: t, k, f + 1, ad, i, p, h => by
    rw [r_fs, List.getElem?_cons_succ, r_fs_getA t (k + 1) f ad i p (by simpa using h), show k + 1 + f = k + (f + 1) by omega]
theorem r_fs_out : ∀ (K : r_K) (k f : Nat) (ad : Nat → Nat) (i : Nat → Int) (v : Int), f < k → r_fs K k ad (b_up i f v) = r_fs K k ad i
  | [], _, _, _, _, _, _ => rfl
  | none :: t, k, f, ad, i, v, h => by rw [r_fs, r_fs, b_up_ne _ _ (by omega), r_fs_out t (k + 1) f ad i v (by omega)]
  | some _ :: t, k, f, ad, i, v, h => by rw [r_fs, r_fs, r_fs_out t (k + 1) f ad i v (by omega)]
theorem r_fs_set : ∀ (K : r_K) (k f : Nat) (ad : Nat → Nat) (i : Nat → Int) (v : Int), K[f]? = some none → (r_fs K k ad i).set f (.int (zI v)) = r_fs K k ad (b_up i (k + f) v)
  | [], _, _, _, _, _, h => by simp at h
  | none :: t, k, 0, ad, i, v, _ => by
    show Value.int (zI v) :: r_fs t (k + 1) ad i = Value.int (zI (b_up i k v k)) :: r_fs t (k + 1) ad (b_up i k v)
    rw [b_up_eq, r_fs_out t (k + 1) k ad i v (by omega)]
  | some _ :: t, k, 0, ad, i, v, h => by simp at h
  | none :: t, k, f + 1, ad, i, v, h => by
    rw [r_fs, r_fs, List.set_cons_succ, r_fs_set t (k + 1) f ad i v (by simpa using h), show k + 1 + f = k + (f + 1) by omega, b_up_ne _ _ (by omega)]
  | some _ :: t, k, f + 1, ad, i, v, h => by
    rw [r_fs, r_fs, List.set_cons_succ, r_fs_set t (k + 1) f ad i v (by simpa using h), show k + 1 + f = k + (f + 1) by omega]
def r_up (a : Nat → Nat → Int) (f j : Nat) (x : Int) : Nat → Nat → Int := b_up a f (b_up (a f) j x)
theorem r_O.kept {K : r_K} {ci o : Nat} {ad : Nat → Nat} {i : Nat → Int} {a : Nat → Nat → Int} {h h1 : b_H} (hO : r_O K ci o ad i a h) (hq : ∀ b, r_own K o ad b → h1 b = h b) : r_O K ci o ad i a h1 :=
  ⟨(hq o (Or.inl rfl)).trans hO.1, fun k z n hk => (hq _ (Or.inr ⟨k, (z, n), hk, rfl⟩)).trans (hO.2.1 k z n hk), hO.2.2⟩
theorem r_O.ne {K : r_K} {ci o : Nat} {ad : Nat → Nat} {i : Nat → Int} {a : Nat → Nat → Int} {h : b_H} (hO : r_O K ci o ad i a h) {k : Nat} {p : Bool × Nat} (hk : K[k]? = some (some p)) : ad k ≠ o := by
  intro e
  obtain ⟨z, n⟩ := p
  have h1 := hO.2.1 k z n hk
  rw [e, hO.1] at h1
  cases z <;> cases h1
theorem r_O.put {K : r_K} {ci o : Nat} {ad : Nat → Nat} {i : Nat → Int} {a : Nat → Nat → Int} {h : b_H} (hO : r_O K ci o ad i a h) {f : Nat} {v : Int} (hk : K[f]? = some none) (hv : zb v) : r_O K ci o ad (b_up i f v) a (b_set h o (b_ob ci ((r_fs K 0 ad i).set f (.int (zI v))))) := by
  refine ⟨by rw [b_set_eq, r_fs_set K 0 f ad i v hk, Nat.zero_add], fun k z n h2 => ?_, hO.2.2.1, fun k => ?_, hO.2.2.2.2⟩
  · rw [b_set_ne _ _ (hO.ne h2)]; exact hO.2.1 k z n h2
  · by_cases e : k = f
    · rw [e, b_up_eq]; exact hv
    · rw [b_up_ne _ _ e]; exact hO.2.2.2.1 k
theorem r_O.ast {K : r_K} {ci o : Nat} {ad : Nat → Nat} {i : Nat → Int} {a : Nat → Nat → Int} {h : b_H} (hO : r_O K ci o ad i a h) {f j n : Nat} {z : Bool} {v : Int} (hk : K[f]? = some (some (z, n))) (hv : zb v) : r_O K ci o ad i (r_up a f j v) (b_set h (ad f) (r_ar z n (b_up (a f) j v))) := by
  refine ⟨by rw [b_set_ne _ _ (Ne.symm (hO.ne hk))]; exact hO.1, fun k z' n' h2 => ?_, hO.2.2.1, hO.2.2.2.1, fun k q => ?_⟩
  · by_cases e : k = f
    · subst e
      rw [hk] at h2; cases h2
      rw [b_set_eq, r_up, b_up_eq]
    · rw [b_set_ne _ _ (fun q => e (hO.2.2.1 k f _ _ h2 hk q)), r_up, b_up_ne _ _ e]; exact hO.2.1 k z' n' h2
  · by_cases e : k = f
    · subst e
      rw [r_up, b_up_eq]
      by_cases e2 : q = j
      · rw [e2, b_up_eq]; exact hv
      · rw [b_up_ne _ _ e2]; exact hO.2.2.2.2 _ _
    · rw [r_up, b_up_ne _ _ e]; exact hO.2.2.2.2 _ _
section RR
variable {S : b_S} {k n : Nat} {h hB : b_H} {sz pc : Nat} {lv : List (Option Value)} {rest : List Value} {cc : ByteArray} {own : String} {K : r_K} {idx ci o f : Nat} {ad : Nat → Nat} {i : Nat → Int} {a : Nat → Nat → Int} {t : FieldType} {fin : Bool} {dc : String}
theorem r_get (hc : s_cc S = cc) (ho : s_own S = own) (hd : decode cc pc = .ok (.getfield idx, 3)) (F : b_FL own idx ci f t fin dc) (hO : r_O K ci o ad i a h) (hk : K[f]? = some none) (KK : V S k n h sz (pc + 3) lv (.int (zI (i f)) :: rest)) : V S k n h sz pc lv (.ref o :: rest) :=
  v_get hc ho hd F hO.1 (by rw [r_fs_get K 0 f ad i hk, Nat.zero_add]) KK
theorem r_getA (hc : s_cc S = cc) (ho : s_own S = own) (hd : decode cc pc = .ok (.getfield idx, 3)) (F : b_FL own idx ci f t fin dc) (hO : r_O K ci o ad i a h) {p : Bool × Nat} (hk : K[f]? = some (some p)) (KK : V S k n h sz (pc + 3) lv (.ref (ad f) :: rest)) : V S k n h sz pc lv (.ref o :: rest) :=
  v_get hc ho hd F hO.1 (by rw [r_fs_getA K 0 f ad i p hk, Nat.zero_add]) KK
theorem r_frame1 {x : b_X} (hfr : ∀ b, ¬ r_own K o ad b → h b = hB b) {c : Nat} (hc : r_own K o ad c) : ∀ b, ¬ r_own K o ad b → b_set h c x b = hB b := fun b hb => by
  rw [b_set_ne _ _ (fun e => hb (by rw [e]; exact hc))]; exact hfr b hb
theorem r_putI (hc : s_cc S = cc) (ho : s_own S = own) (hd : decode cc pc = .ok (.putfield idx, 3)) (F : b_FL own idx ci f .int false dc) (hO : r_O K ci o ad i a h) (hfr : ∀ b, ¬ r_own K o ad b → h b = hB b) (hk : K[f]? = some none) {v : Int} (hv : zb v) (KK : ∀ h, r_O K ci o ad (b_up i f v) a h → (∀ b, ¬ r_own K o ad b → h b = hB b) → V S k n h sz (pc + 3) lv rest) : V S k n h sz pc lv (.int (zI v) :: .ref o :: rest) :=
  v_put hc ho hd F hO.1 (by rw [r_fs_len]; exact (List.getElem?_eq_some_iff.mp hk).1) ⟨rfl, rfl⟩ (KK _ (hO.put hk hv) (r_frame1 hfr (Or.inl rfl)))
theorem r_putZ (hc : s_cc S = cc) (ho : s_own S = own) (hd : decode cc pc = .ok (.putfield idx, 3)) (F : b_FL own idx ci f .boolean false dc) (hO : r_O K ci o ad i a h) (hfr : ∀ b, ¬ r_own K o ad b → h b = hB b) (hk : K[f]? = some none) {v : Int} (hv : v = 0 ∨ v = 1) (KK : ∀ h, r_O K ci o ad (b_up i f v) a h → (∀ b, ¬ r_own K o ad b → h b = hB b) → V S k n h sz (pc + 3) lv rest) : V S k n h sz pc lv (.int (zI v) :: .ref o :: rest) :=
  v_put hc ho hd F hO.1 (by rw [r_fs_len]; exact (List.getElem?_eq_some_iff.mp hk).1) (by rcases hv with rfl | rfl <;> decide) (KK _ (hO.put hk (by rcases hv with rfl | rfl <;> exact ⟨by omega, by omega⟩)) (r_frame1 hfr (Or.inl rfl)))
theorem r_iald (hc : s_cc S = cc) (hd : decode cc pc = .ok (.iaload, 1)) (hO : r_O K ci o ad i a h) {N : Nat} (f : Nat) (hk : K[f]? = some (some (false, N))) (hN : N < 2147483648) {j : Int} (h0 : 0 ≤ j) (h1 : j < N) (KK : V S k n h sz (pc + 1) lv (.int (zI (a f j.toNat)) :: rest)) : V S k n h sz pc lv (.int (zI j) :: .ref (ad f) :: rest) :=
  z_iald hc hd (hO.2.1 f false N hk) hN h0 h1 KK
theorem r_zald (hc : s_cc S = cc) (hd : decode cc pc = .ok (.baload, 1)) (hO : r_O K ci o ad i a h) {N : Nat} (f : Nat) (hk : K[f]? = some (some (true, N))) (hN : N < 2147483648) {j : Int} (h0 : 0 ≤ j) (h1 : j < N) (KK : V S k n h sz (pc + 1) lv (.int (zI (a f j.toNat)) :: rest)) : V S k n h sz pc lv (.int (zI j) :: .ref (ad f) :: rest) :=
  z_zald hc hd (hO.2.1 f true N hk) hN h0 h1 KK
theorem r_iast (hc : s_cc S = cc) (hd : decode cc pc = .ok (.iastore, 1)) (hO : r_O K ci o ad i a h) (hfr : ∀ b, ¬ r_own K o ad b → h b = hB b) {N : Nat} (f : Nat) (hk : K[f]? = some (some (false, N))) (hN : N < 2147483648) {j x : Int} (h0 : 0 ≤ j) (h1 : j < N) (hx : zb x) (KK : ∀ h, r_O K ci o ad i (r_up a f j.toNat x) h → (∀ b, ¬ r_own K o ad b → h b = hB b) → V S k n h sz (pc + 1) lv rest) : V S k n h sz pc lv (.int (zI x) :: .int (zI j) :: .ref (ad f) :: rest) :=
  z_iast hc hd (hO.2.1 f false N hk) hN h0 h1 (KK _ (hO.ast hk hx) (r_frame1 hfr (Or.inr ⟨f, _, hk, rfl⟩)))
theorem r_zast (hc : s_cc S = cc) (hd : decode cc pc = .ok (.bastore, 1)) (hO : r_O K ci o ad i a h) (hfr : ∀ b, ¬ r_own K o ad b → h b = hB b) {N : Nat} (f : Nat) (hk : K[f]? = some (some (true, N))) (hN : N < 2147483648) {j x : Int} (h0 : 0 ≤ j) (h1 : j < N) (hx : x = 0 ∨ x = 1) (KK : ∀ h, r_O K ci o ad i (r_up a f j.toNat x) h → (∀ b, ¬ r_own K o ad b → h b = hB b) → V S k n h sz (pc + 1) lv rest) : V S k n h sz pc lv (.int (zI x) :: .int (zI j) :: .ref (ad f) :: rest) :=
  z_zast hc hd (hO.2.1 f true N hk) hN h0 h1 hx (KK _ (hO.ast hk (by rcases hx with rfl | rfl <;> exact ⟨by omega, by omega⟩)) (r_frame1 hfr (Or.inr ⟨f, _, hk, rfl⟩)))
theorem r_ilen (hc : s_cc S = cc) (hd : decode cc pc = .ok (.arraylength, 1)) (hO : r_O K ci o ad i a h) {N : Nat} (f : Nat) (hk : K[f]? = some (some (false, N))) (KK : V S k n h sz (pc + 1) lv (.int (zI N) :: rest)) : V S k n h sz pc lv (.ref (ad f) :: rest) :=
  z_ilen hc hd (hO.2.1 f false N hk) KK
end RR
/-- ends: an answer alone; an answer and a new state of the object -/
def p_ro (v : Option Value) (h : b_H) (sz : Nat) : Option Value → b_H → Nat → Prop := fun r h' sz' => r = v ∧ h' = h ∧ sz' = sz
def p_wr (K : r_K) (ci o : Nat) (ad : Nat → Nat) (hB : b_H) (sz : Nat) (P : Option Value → (Nat → Int) → (Nat → Nat → Int) → Prop) : Option Value → b_H → Nat → Prop := fun r h' sz' => sz' = sz ∧ ∃ (i : Nat → Int) (a : Nat → Nat → Int), P r i a ∧ r_O K ci o ad i a h' ∧ ∀ b, ¬ r_own K o ad b → h' b = hB b
theorem Con.ofK {l : Launch} {G : b_G} {y : MethodName} {cc : ByteArray} {nL : Nat} {ret : Option FieldType} {fr lo mc ms : Nat} {av : List Value} {h : b_H} {sz : Nat} {post : Option Value → b_H → Nat → Prop} (hy : plainFor y = true) (hl : Nat.ble av.length nL = true) (hcat : av.all (fun v => v.category == 1) = true)
    (body : ∀ S : b_S, b_M S l G y.cls cc nL ret y.name fr lo mc ms h sz post → V S 0 0 h sz 0 (b_ent av nL) []) : Con l G y cc nL ret fr lo mc ms av h sz post :=
  Con.of hy (Nat.le_of_ble_eq_true hl) (fun v hv => by simpa using List.all_eq_true.mp hcat v hv) body
/-! shifts and bits of small numbers -/
theorem zb_and31 {y : Int} (h0 : 0 ≤ y) (h1 : y < 32) : ((zI y &&& 31).toBitVec.smod 32).toNat = y.toNat := by
  obtain ⟨m, rfl⟩ : ∃ m : Nat, y = m := ⟨y.toNat, by omega⟩
  have hm : m < 32 := by omega
  have key : ∀ m : Fin 32, ((Int32.ofInt ((m.val : Nat) : Int) &&& 31).toBitVec.smod 32).toNat = m.val := by decide +kernel
  exact key ⟨m, hm⟩
theorem zI_shr {x y : Int} (hx : 0 ≤ x) (hx2 : x < 2147483648) (h0 : 0 ≤ y) (h1 : y < 32) : zI x >>> (zI y &&& 31) = zI (x / 2 ^ y.toNat) := by
  obtain ⟨m, rfl⟩ : ∃ m : Nat, x = m := ⟨x.toNat, by omega⟩
  have e := pk_shrN (n := m) (by omega) (zI y &&& 31) y.toNat (zb_and31 h0 h1)
  rw [← zI_nat, e, zI_nat]
  congr 1
theorem zI_and1 {x : Int} (hx : 0 ≤ x) (hx2 : x < 2147483648) : zI x &&& zI 1 = zI (x % 2) := by
  obtain ⟨m, rfl⟩ : ∃ m : Nat, x = m := ⟨x.toNat, by omega⟩
  have e := pk_andN (n := m) (by omega) (m := zI 1) 1 (by decide)
  rw [← zI_nat, e, zI_nat]
  congr 1
theorem zI_shl {x y : Int} (hx : 0 ≤ x) (h0 : 0 ≤ y) (h1 : y < 32) (h2 : x * 2 ^ y.toNat < 4294967296) : zI x <<< (zI y &&& 31) = zI (x * 2 ^ y.toNat) := by
  obtain ⟨m, rfl⟩ : ∃ m : Nat, x = m := ⟨x.toNat, by omega⟩
  have e := pk_shlN (n := m) (zI y &&& 31) y.toNat (zb_and31 h0 h1) (by have h3 : ((m * 2 ^ y.toNat : Nat) : Int) < 4294967296 := by { rw [Int.natCast_mul, Int.natCast_pow]; exact h2 }; omega)
  rw [← zI_nat, e, zI_nat]
  congr 1
