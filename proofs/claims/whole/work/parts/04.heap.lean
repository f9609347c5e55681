/-! rows of V that touch the heap, calls, ends -/
def b_CF (ci : Nat) (C : String) (T : u_T) (N : Nat) (ty : Nat → FieldType) : Prop := b_C[ci]? = some (C, T, N) ∧ (∀ w ∈ u_ws C T N, w ∈ b_T) ∧ (∀ k, k < N → parseFieldDescriptor (T k).2.2.1 = some (ty k)) ∧ (∀ a, a < N → ∀ b, b < N → a ≠ b → (T a).2.1 ≠ (T b).2.1)
def b_FL (own : String) (idx ci k : Nat) (t : FieldType) (fin : Bool) (dc : String) : Prop := ∃ (C : String) (T : u_T) (N : Nat) (ty : Nat → FieldType) (ref : String), b_CF ci C T N ty ∧ k < N ∧ Cond.fieldLink own idx ref (T k).2.1 (T k).2.2.1 ∈ b_T ∧ ((T k).1 = ref ∨ Cond.sameField ref (T k).1 (T k).2.1 (T k).2.2.1 ∈ b_T) ∧ ty k = t ∧ (T k).2.2.2 = fin ∧ (T k).1 = dc
theorem b_P1 {G : b_G} {h : b_H} {H : Heap} {a : Nat} {x : b_X} (hR : b_R G h H) (ha : h a = some x) : va_P G.1 b_C [(a, b_e G x)] H := by
  intro k q hk
  cases k with
  | zero => cases hk; exact hR a x ha
  | succ k => simp at hk
theorem b_some {h : b_H} {a : Nat} {x : b_X} (ha : h a = some x) : h a ≠ none := by rw [ha]; exact fun e => by cases e
theorem b_V1.put {S : b_S} {h : b_H} {sz : Nat} {lv : List (Option Value)} {s : State} {H H1 : Heap} {ls : Array Slot} {locs : List Loc} {a j : Nat} {x : b_X} (B : b_V1 S h sz lv s H ls locs) (ha : h a ≠ none) (z : H1.size = H.size) (he : va_at (s_G S).1 b_C (a, b_e (s_G S) x) H1) (oq : ∀ q : Nat, q ≠ a → H1[q]? = H[q]?) : b_V1 S (b_set h a x) sz lv s H1 ls (locs ++ [⟨a, j⟩]) := by
  obtain ⟨h1, h2, h3, h4, h5, h6⟩ := B
  refine ⟨z.trans h1, h2.set he oq, fun b hb => ?_, h4.put z oq (h3 a ha), h5, h6⟩
  by_cases e : b = a
  · rw [e]; exact h3 a ha
  · rw [b_set_ne _ _ e] at hb; exact h3 b hb
theorem b_V1.new {S : b_S} {h : b_H} {sz : Nat} {lv : List (Option Value)} {s : State} {H H1 : Heap} {ls : Array Slot} {locs : List Loc} {x : b_X} (B : b_V1 S h sz lv s H ls locs) (hs : s.heap.size = s_sz S) (z : H1.size = H.size + 1) (he : va_at (s_G S).1 b_C (H.size, b_e (s_G S) x) H1) (oq : ∀ q : Nat, q < H.size → H1[q]? = H[q]?) : b_V1 S (b_set h sz x) (sz + 1) lv s H1 ls locs := by
  obtain ⟨h1, h2, h3, h4, h5, h6⟩ := B
  subst h1
  refine ⟨z, fun b y hb => ?_, fun b hb => ?_, ⟨Nat.le_trans h4.1 (by omega), fun q q1 q2 => (oq q (Nat.lt_of_lt_of_le q1 h4.1)).trans (h4.2.1 q q1 q2), h4.2.2⟩, h5, h6⟩
  · by_cases e : b = H.size
    · subst e; rw [b_set_eq] at hb; cases hb; exact he
    · rw [b_set_ne _ _ e] at hb
      exact (h2 b y hb).kept (oq b (h2 b y hb).lt)
  · by_cases e : b = H.size
    · rw [e]; exact Or.inr (by rw [← hs]; exact h4.1)
    · rw [b_set_ne _ _ e] at hb; exact h3 b hb
section BH
variable {S : b_S} {k n : Nat} {h : b_H} {sz pc : Nat} {lv : List (Option Value)} {rest : List Value} {cc : ByteArray}
theorem v_get (hc : s_cc S = cc) {own : String} (ho : s_own S = own) {idx ci f : Nat} {t : FieldType} {fin : Bool} {dc : String} (hd : decode cc pc = .ok (.getfield idx, 3)) (F : b_FL own idx ci f t fin dc) {a : Nat} {fs : List Value} {v : Value} (ha : h a = some (b_ob ci fs)) (hv : fs[f]? = some v) (K : V S k n h sz (pc + 3) lv (v :: rest)) : V S k n h sz pc lv (.ref a :: rest) := by
  intro p e s m args below meth c H ls locs C B
  obtain ⟨Cn, T, N, ty, ref, ⟨c1, c2, c3, c4⟩, hk, hl, hs, -⟩ := F
  obtain ⟨hx, hb, hml, hr, hlk, hnm, hown, hts, hE, hX, hs0, hZ⟩ := id C
  exact va_get (q0 := 0) hx (hb.trans hc) hts c2 (ho ▸ hown) hE.1 (b_P1 B.2.1 ha) rfl c1 f hk (hts _ hl) (fun x q => hs.elim (fun e => by rw [← e]; exact q) (fun w => u_same (hts _ w) x q)) hv hd (K p e s m args below meth c H ls locs C B)
theorem v_put (hc : s_cc S = cc) {own : String} (ho : s_own S = own) {idx ci f : Nat} {t : FieldType} {dc : String} (hd : decode cc pc = .ok (.putfield idx, 3)) (F : b_FL own idx ci f t false dc) {a : Nat} {fs : List Value} {v : Value} (ha : h a = some (b_ob ci fs)) (hl : f < fs.length) (hn : narrow t v = v ∧ fits t v = true) (K : V S k n (b_set h a (b_ob ci (fs.set f v))) sz (pc + 3) lv rest) : V S k n h sz pc lv (v :: .ref a :: rest) := by
  intro p e s m args below meth c H ls locs C B
  obtain ⟨Cn, T, N, ty, ref, ⟨c1, c2, c3, c4⟩, hk, hlk, hs, ht, hfin, -⟩ := F
  obtain ⟨hx, hb, hml, hr, hlk2, hnm, hown, hts, hE, hX, hs0, hZ⟩ := id C
  have hap := va_apart (own := own) hts c2 ty c3 c4 hE.1 c1
  obtain ⟨r, h1, cell, q1, q2, q3, q4⟩ := B.2.1 a _ ha
  have hr : r = (Cn, T, N) := Option.some.inj (h1.symm.trans c1)
  subst hr
  obtain ⟨hS, hfc, kC, hkC, hkind⟩ := hE.1.1 ci _ c1
  obtain ⟨cf, kf, fi, fd, hi, hsl⟩ := hS f hk
  have hlay := hts _ (c2 _ (u_in_lay hk))
  unfold u_lay at hlay
  rw [if_neg (by rw [hfin]; decide)] at hlay
  have hst := (u_facts hfc hkC (u_lays hts c2 hk) hi).1
  have h6 := u_store hfc hkC hkind hlay hi (by rw [c3 f hk, ht]) hn.1 hn.2
  refine W.putK hx (hb.trans hc) (f := fd) ⟨ho ▸ hown, hts _ hlk, ⟨_, _, _, hs.elim (fun e => by rw [← e]; exact hi) (fun w => u_same (hts _ w) _ hi)⟩, hst⟩ (by rw [q2]; exact h6) q1 q3 (by rw [hsl]; exact k2_hasslot (q4 f hk)) rfl rfl hd fun H' e1 e2 e3 => ?_
  rw [hsl] at e1 ⊢
  exact K p e s m args below meth c H' ls _ C (B.put (b_some ha) e2 ⟨_, c1, t_OB.to (V := updV (vp_V fs) f v) ⟨_, e1, q2, q3, t_set q4 hap hk v⟩ (fun j _ => vp_updV_set hl v j)⟩ e3)
theorem v_putF (hc : s_cc S = cc) {own : String} (ho : s_own S = own) (hi2 : s_nm S = "<init>") {idx ci f : Nat} {t : FieldType} (hd : decode cc pc = .ok (.putfield idx, 3)) (F : b_FL own idx ci f t true own) {a : Nat} {fs : List Value} {v : Value} (ha : h a = some (b_ob ci fs)) (hl : f < fs.length) (hn : narrow t v = v ∧ fits t v = true) (K : V S k n (b_set h a (b_ob ci (fs.set f v))) sz (pc + 3) lv rest) : V S k n h sz pc lv (v :: .ref a :: rest) := by
  intro p e s m args below meth c H ls locs C B
  obtain ⟨Cn, T, N, ty, ref, ⟨c1, c2, c3, c4⟩, hk, hlk, hs, ht, hfin, hdecl⟩ := F
  obtain ⟨hx, hb, hml, hr, hlk2, hnm, hown, hts, hE, hX, hs0, hZ⟩ := id C
  have hown : s.vm.findClass own = some m.cls := ho ▸ hown
  have hap := va_apart (own := own) hts c2 ty c3 c4 hE.1 c1
  obtain ⟨r, h1, cell, q1, q2, q3, q4⟩ := B.2.1 a _ ha
  have hr : r = (Cn, T, N) := Option.some.inj (h1.symm.trans c1)
  subst hr
  obtain ⟨hS, hfc, kC, hkC, hkind⟩ := hE.1.1 ci _ c1
  obtain ⟨cf, kf, fi, fd, hi, hsl⟩ := hS f hk
  have hlay := hts _ (c2 _ (u_in_lay hk))
  unfold u_lay at hlay
  rw [if_pos hfin] at hlay
  have hst := (u_facts hfc hkC (u_lays hts c2 hk) hi).1
  have hcf : m.cls = cf := by
    obtain ⟨_, _, c', _, _, _, -, -, hf', -, -, -, hown2, -⟩ := Cond.laysFinal_spec hlay
    have e1 : c' = cf := by have := hi.symm.trans hf'; simp at this; exact this.1.symm
    rw [hdecl] at hown2
    rw [← e1]; exact Option.some.inj (hown.symm.trans hown2)
  have h6 := u_fits hfc hkC hkind (Or.inr hlay) hi (by rw [c3 f hk, ht]) hn.1 hn.2
  refine W.putFinK hx (hb.trans hc) hown (hts _ hlk) (hs.elim (fun e => by rw [← e]; exact hi) (fun w => u_same (hts _ w) _ hi)) hst hcf (hnm.trans hi2) (by rw [q2]; exact h6) q1 q3 (by rw [hsl]; exact k2_hasslot (q4 f hk)) rfl rfl hd fun H' e1 e2 e3 => ?_
  rw [hsl] at e1 ⊢
  exact K p e s m args below meth c H' ls _ C (B.put (b_some ha) e2 ⟨_, c1, t_OB.to (V := updV (vp_V fs) f v) ⟨_, e1, q2, q3, t_set q4 hap hk v⟩ (fun j _ => vp_updV_set hl v j)⟩ e3)
theorem z_iald (hc : s_cc S = cc) (hd : decode cc pc = .ok (.iaload, 1)) {a N : Nat} {f : Nat → Int} {i : Int} (ha : h a = some (b_iA N f)) (hN : N < 2147483648) (h0 : 0 ≤ i) (h1 : i < N) (K : V S k n h sz (pc + 1) lv (.int (zI (f i.toNat)) :: rest)) : V S k n h sz pc lv (.int (zI i) :: .ref a :: rest) := by
  intro p e s m args below meth c H ls locs C B
  have K2 := K p e s m args below meth c H ls locs C B
  refine va_iald (q0 := 0) (t0 := 0) C.1 (C.2.1.trans hc) C.2.2.2.2.2.2.2.2.1.1 (b_P1 B.2.1 ha) rfl rfl (zI_in h0 h1 hN) hd ?_
  rw [zI_clamp ⟨by omega, by omega⟩]
  exact K2
theorem z_zald (hc : s_cc S = cc) (hd : decode cc pc = .ok (.baload, 1)) {a N : Nat} {f : Nat → Int} {i : Int} (ha : h a = some (b_zA N f)) (hN : N < 2147483648) (h0 : 0 ≤ i) (h1 : i < N) (K : V S k n h sz (pc + 1) lv (.int (zI (f i.toNat)) :: rest)) : V S k n h sz pc lv (.int (zI i) :: .ref a :: rest) := by
  intro p e s m args below meth c H ls locs C B
  have K2 := K p e s m args below meth c H ls locs C B
  refine va_zald (q0 := 0) (t0 := 1) C.1 (C.2.1.trans hc) C.2.2.2.2.2.2.2.2.1.1 (b_P1 B.2.1 ha) rfl rfl (zI_in h0 h1 hN) hd ?_
  rw [zI_clamp ⟨by omega, by omega⟩]
  exact K2
theorem v_aald (hc : s_cc S = cc) (hd : decode cc pc = .ok (.aaload, 1)) {a N : Nat} {f : Nat → Option Nat} {i : Int} (ha : h a = some (b_qA N f)) (hN : N < 2147483648) (h0 : 0 ≤ i) (h1 : i < N) (K : V S k n h sz (pc + 1) lv (va_rf (f i.toNat) :: rest)) : V S k n h sz pc lv (.int (zI i) :: .ref a :: rest) := by
  intro p e s m args below meth c H ls locs C B
  have K2 := K p e s m args below meth c H ls locs C B
  refine va_aldq (q0 := 0) (t0 := 2) (C := "java/lang/Object") C.1 (C.2.1.trans hc) C.2.2.2.2.2.2.2.2.1.1 (b_P1 B.2.1 ha) rfl rfl (zI_in h0 h1 hN) hd ?_
  rw [zI_clamp ⟨by omega, by omega⟩]
  exact K2
def b_up {α : Type} (f : Nat → α) (i : Nat) (x : α) : Nat → α := fun j => if j = i then x else f j
theorem b_up_eq {α : Type} (f : Nat → α) (i : Nat) (x : α) : b_up f i x i = x := if_pos rfl
theorem b_up_ne {α : Type} (f : Nat → α) {i j : Nat} (x : α) (e : j ≠ i) : b_up f i x j = f j := if_neg e
theorem z_iast (hc : s_cc S = cc) (hd : decode cc pc = .ok (.iastore, 1)) {a N : Nat} {f : Nat → Int} {i x : Int} (ha : h a = some (b_iA N f)) (hN : N < 2147483648) (h0 : 0 ≤ i) (h1 : i < N) (K : V S k n (b_set h a (b_iA N (b_up f i.toNat x))) sz (pc + 1) lv rest) : V S k n h sz pc lv (.int (zI x) :: .int (zI i) :: .ref a :: rest) := by
  intro p e s m args below meth c H ls locs C B
  have hK := C.2.2.2.2.2.2.2.2.1.1
  refine W.iast C.1 (C.2.1.trans hc) (B.2.1 a _ ha) ((hK.2 0 _ rfl).1 N (fun j => .int (zI (f j)))) (fun q => by cases q) (by show ¬ (zI i < 0 ∨ (arrV _ _ _).slots.size ≤ _); rw [arrV_size]; exact zI_in h0 h1 hN) rfl rfl hd fun H1 e1 z oq => ?_
  refine K p e s m args below meth c H1 ls _ C (B.put (b_some ha) z ?_ oq)
  show H1[a]? = some (vp_cell _ _)
  rw [e1, zI_clamp ⟨by omega, by omega⟩]
  rw [vp_cell_i, arrV_store]
  show some (arrV ((s_G S).2.1 0) N (updV (fun j => Value.int (zI (f j))) i.toNat (.int (zI x)))) = some (arrV ((s_G S).2.1 0) N (fun j => .int (zI (b_up f i.toNat x j))))
  congr 2
  funext q
  by_cases hq : q = i.toNat
  · subst hq; simp [updV, b_up]
  · simp [updV, b_up, hq]
theorem z_zast (hc : s_cc S = cc) (hd : decode cc pc = .ok (.bastore, 1)) {a N : Nat} {f : Nat → Int} {i x : Int} (ha : h a = some (b_zA N f)) (hN : N < 2147483648) (h0 : 0 ≤ i) (h1 : i < N) (hx : x = 0 ∨ x = 1) (K : V S k n (b_set h a (b_zA N (b_up f i.toNat x))) sz (pc + 1) lv rest) : V S k n h sz pc lv (.int (zI x) :: .int (zI i) :: .ref a :: rest) := by
  intro p e s m args below meth c H ls locs C B
  have hK := C.2.2.2.2.2.2.2.2.1.1
  refine W.zast C.1 (C.2.1.trans hc) (B.2.1 a _ ha) ((hK.2 1 _ rfl).1 N (fun j => .int (zI (f j)))) (fun q => by cases q) (by show ¬ (zI i < 0 ∨ (arrV _ _ _).slots.size ≤ _); rw [arrV_size]; exact zI_in h0 h1 hN) rfl rfl hd fun H1 e1 z oq => ?_
  refine K p e s m args below meth c H1 ls _ C (B.put (b_some ha) z ?_ oq)
  have hnr : narrow .boolean (.int (zI x)) = .int (zI x) := by rcases hx with rfl | rfl <;> decide
  show H1[a]? = some (vp_cell _ _)
  rw [e1, zI_clamp ⟨by omega, by omega⟩, hnr]
  rw [vp_cell_i, arrV_store]
  show some (arrV ((s_G S).2.1 1) N (updV (fun j => Value.int (zI (f j))) i.toNat (.int (zI x)))) = some (arrV ((s_G S).2.1 1) N (fun j => .int (zI (b_up f i.toNat x j))))
  congr 2
  funext q
  by_cases hq : q = i.toNat
  · subst hq; simp [updV, b_up]
  · simp [updV, b_up, hq]
theorem v_aast (hc : s_cc S = cc) (hd : decode cc pc = .ok (.aastore, 1)) {a N : Nat} {f : Nat → Option Nat} {i : Int} {v ci : Nat} {vs : List Value} {r : vw_C} (ha : h a = some (b_qA N f)) (hN : N < 2147483648) (h0 : 0 ≤ i) (h1 : i < N) (hv : h v = some (b_ob ci vs)) (hr : b_C[ci]? = some r) (hca : Cond.castable r.1 "java/lang/Object" ∈ b_Ca) (K : V S k n (b_set h a (b_qA N (b_up f i.toNat (some v)))) sz (pc + 1) lv rest) : V S k n h sz pc lv (.ref v :: .int (zI i) :: .ref a :: rest) := by
  intro p e s m args below meth c H ls locs C B
  have hE := C.2.2.2.2.2.2.2.2.1
  have hK := hE.1
  have hin := zI_in h0 h1 hN
  have hlt : (zI i).toNatClampNeg < N := Nat.not_le.mp fun q => hin (Or.inr q)
  have hz0 : ¬ zI i < 0 := fun q => hin (Or.inl q)
  obtain ⟨r', hr', cellV, g1, g2, g3, -⟩ := B.2.1 v _ hv
  have hcls := (hK.1 ci r hr).2
  obtain ⟨kA, comp, k1, k2, k3, -⟩ := (hK.2 2 _ rfl).2
  obtain ⟨kE, hkE, -⟩ := Vm.findClass_spec k3
  obtain ⟨c0, t1, f1, f2, f3⟩ := Cond.castable_spec (va_Nw.use (A := args) rfl (hE.2.2.1 _ hca))
  cases hcls.1.symm.trans f1
  cases k3.symm.trans f2
  obtain ⟨kC, hkC, -⟩ := hcls.2
  refine W.aast C.1 (C.2.1.trans hc) (B.2.1 a _ ha) (fun q h => by cases h) (fun h => by cases h) k1 k2 rfl hkE ⟨hz0, by show _ < (arrV _ _ _).slots.size; rw [arrV_size]; exact hlt⟩ g1 (fun q h => by rw [g3] at h; cases h) (by rw [g2]; exact hkC) (by rw [g2]; exact f3) rfl rfl hd fun H1 e1 z oq => ?_
  refine K p e s m args below meth c H1 ls _ C (B.put (b_some ha) z ?_ oq)
  show H1[a]? = some (vp_cell _ _)
  rw [e1, zI_clamp ⟨by omega, by omega⟩]
  rw [vp_cell_q, arrV_store]
  show some (arrV ((s_G S).2.1 2) N (updV (fun j => va_rf (f j)) i.toNat (.ref v))) = some (arrV ((s_G S).2.1 2) N (fun j => va_rf (b_up f i.toNat (some v) j)))
  congr 2
  funext q
  by_cases hq : q = i.toNat
  · subst hq; simp [updV, b_up, va_rf]
  · simp [updV, b_up, hq]
theorem z_ilen (hc : s_cc S = cc) (hd : decode cc pc = .ok (.arraylength, 1)) {a N : Nat} {f : Nat → Int} (ha : h a = some (b_iA N f)) (K : V S k n h sz (pc + 1) lv (.int (zI N) :: rest)) : V S k n h sz pc lv (.ref a :: rest) := by
  intro p e s m args below meth c H ls locs C B
  exact va_alen (q0 := 0) (t0 := 0) C.1 (C.2.1.trans hc) C.2.2.2.2.2.2.2.2.1.1 (b_P1 B.2.1 ha) rfl rfl rfl hd (K p e s m args below meth c H ls locs C B)
theorem z_qlen (hc : s_cc S = cc) (hd : decode cc pc = .ok (.arraylength, 1)) {a N : Nat} {f : Nat → Option Nat} (ha : h a = some (b_qA N f)) (K : V S k n h sz (pc + 1) lv (.int (zI N) :: rest)) : V S k n h sz pc lv (.ref a :: rest) := by
  intro p e s m args below meth c H ls locs C B
  exact va_alen (q0 := 0) (t0 := 2) C.1 (C.2.1.trans hc) C.2.2.2.2.2.2.2.2.1.1 (b_P1 B.2.1 ha) rfl rfl rfl hd (K p e s m args below meth c H ls locs C B)
theorem z_tlen (hc : s_cc S = cc) (hd : decode cc pc = .ok (.arraylength, 1)) {a : Nat} (ha : a = (s_G S).2.2.1) (K : V S k n h sz (pc + 1) lv (.int (zI 0) :: rest)) : V S k n h sz pc lv (.ref a :: rest) := by
  intro p e s m args below meth c H ls locs C B
  subst ha
  obtain ⟨cell, g1, g2, g3, g4, g5, g6, g7⟩ := C.2.2.2.2.2.2.2.2.2.2.2.2
  exact W.alen (n := zI 0) C.1 (C.2.1.trans hc) (by rw [B.2.2.2.1.2.1 _ (Array.getElem?_eq_some_iff.mp g1).1 g7]; exact g1) g2 g5 rfl rfl hd (K p e s m args below meth c H ls locs C B)
theorem v_gets (hc : s_cc S = cc) {own : String} (ho : s_own S = own) {idx : Nat} (hd : decode cc pc = .ok (.getstatic idx, 3)) (hl : Cond.fieldLink own idx "java/util/ArrayList" "DEFAULTCAPACITY_EMPTY_ELEMENTDATA" "[Ljava/lang/Object;" ∈ b_T) (K : V S k n h sz (pc + 3) lv (.ref (s_G S).2.2.1 :: rest)) : V S k n h sz pc lv rest := by
  intro p e s m args below meth c H ls locs C B
  obtain ⟨hx, hb, hml, hr, hlk, hnm, hown, hts, hE, hX, hs0, hZ⟩ := id C
  exact va_gets hx (hb.trans hc) hZ.1 B.2.2.2.1 (ho ▸ hown) (hts _ hl) (fun _ q => q) hd (K p e s m args below meth c H ls locs C B)
def b_NW (own : String) (idx ci N : Nat) (fs : List Value) : Prop := ∃ (C : String) (T : u_T) (ty : Nat → FieldType), b_CF ci C T N ty ∧ Cond.classLink own idx C ∈ b_T ∧ Cond.instantiable C N ∈ b_T ∧ Cond.initialized C ∈ b_T ∧ ∀ j, j < N → defaultValue (ty j) = vp_V fs j
theorem v_new (hc : s_cc S = cc) {own : String} (ho : s_own S = own) {idx ci N : Nat} {fs : List Value} (hd : decode cc pc = .ok (.new idx, 3)) (F : b_NW own idx ci N fs) (hk : k + 1 ≤ (s_R S).cells) (hn : n + N ≤ (s_R S).slots) (K : V S (k + 1) (n + N) (b_set h sz (b_ob ci fs)) (sz + 1) (pc + 3) lv (.ref sz :: rest)) : V S k n h sz pc lv rest := by
  intro p e s m args below meth c H ls locs C B
  obtain ⟨Cn, T, ty, ⟨c1, c2, c3, c4⟩, hl, hi, hni, hfs⟩ := F
  obtain ⟨hx, hb, hml, hr, hlk, hnm, hown, hts, hE, hX, hs0, hZ⟩ := id C
  have hKn := hE.1.1 ci _ c1
  have hsz := B.1
  refine W.newcK hx (hb.trans hc) (ho ▸ hown) (hts _ hl) (hts _ hi) (hts _ hni) rfl hd hk hn hKn.2.1 hsz fun H1 kC hkC e1 z1 o1 => ?_
  refine K p e s m args below meth c H1 ls locs C (B.new hs0 (by rw [z1, hsz]) ?_ (by rw [hsz]; exact o1))
  rw [hsz]
  exact ⟨_, c1, (u_born ty hts c2 hKn hkC e1 c3).to hfs⟩
theorem z_newI (hc : s_cc S = cc) (hd : decode cc pc = .ok (.newarray .int, 2)) (hw : Cond.arrayClass .int ∈ b_T) {N : Nat} {z : Int} (hz : z = N) (hN : N ≤ 134217728) (hk : k + 1 ≤ (s_R S).cells) (hn : n + N ≤ (s_R S).slots) (K : V S (k + 1) (n + N) (b_set h sz (b_iA N (fun _ => 0))) (sz + 1) (pc + 2) lv (.ref sz :: rest)) : V S k n h sz pc lv (.int (zI z) :: rest) := by
  intro p e s m args below meth c H ls locs C B
  obtain ⟨hx, hb, hml, hr, hlk, hnm, hown, hts, hE, hX, hs0, hZ⟩ := id C
  have hsz := B.1
  have hzb : zb z := ⟨by omega, by omega⟩
  refine va_newaK (atype := .int) hx (hb.trans hc) (hts _ hw) rfl hd rfl (fun q => by have := (zI_lt hzb (b := 0) ⟨by omega, by omega⟩).mp q; omega) (N := N) (by rw [zI_clamp hzb]; omega) (by show N * 4 ≤ _; omega) hk hn hsz fun H1 cA e1 z1 o1 _ hNm => ?_
  have hcA : cA = (s_G S).2.1 0 := Option.some.inj (hNm.symm.trans (hE.1.2 0 _ rfl).2)
  subst hcA
  refine K p e s m args below meth c H1 ls locs C (B.new hs0 (by rw [z1, hsz]) ?_ (by rw [hsz]; exact o1))
  rw [hsz]
  exact e1
theorem z_newZ (hc : s_cc S = cc) (hd : decode cc pc = .ok (.newarray .boolean, 2)) (hw : Cond.arrayClass .boolean ∈ b_T) {N : Nat} {z : Int} (hz : z = N) (hN : N ≤ 134217728) (hk : k + 1 ≤ (s_R S).cells) (hn : n + N ≤ (s_R S).slots) (K : V S (k + 1) (n + N) (b_set h sz (b_zA N (fun _ => 0))) (sz + 1) (pc + 2) lv (.ref sz :: rest)) : V S k n h sz pc lv (.int (zI z) :: rest) := by
  intro p e s m args below meth c H ls locs C B
  obtain ⟨hx, hb, hml, hr, hlk, hnm, hown, hts, hE, hX, hs0, hZ⟩ := id C
  have hsz := B.1
  have hzb : zb z := ⟨by omega, by omega⟩
  refine va_newaK (atype := .boolean) hx (hb.trans hc) (hts _ hw) rfl hd rfl (fun q => by have := (zI_lt hzb (b := 0) ⟨by omega, by omega⟩).mp q; omega) (N := N) (by rw [zI_clamp hzb]; omega) (by show N * 1 ≤ _; omega) hk hn hsz fun H1 cA e1 z1 o1 _ hNm => ?_
  have hcA : cA = (s_G S).2.1 1 := Option.some.inj (hNm.symm.trans (hE.1.2 1 _ rfl).2)
  subst hcA
  refine K p e s m args below meth c H1 ls locs C (B.new hs0 (by rw [z1, hsz]) ?_ (by rw [hsz]; exact o1))
  rw [hsz]
  exact e1
theorem v_newq (hc : s_cc S = cc) {own : String} (ho : s_own S = own) {idx : Nat} (hd : decode cc pc = .ok (.anewarray idx, 3)) (hw : Cond.classLink own idx "java/lang/Object" ∈ b_T) {N : Nat} {z : Int} (hz : z = N) (hN : N ≤ 134217728) (hk : k + 1 ≤ (s_R S).cells) (hn : n + N ≤ (s_R S).slots) (K : V S (k + 1) (n + N) (b_set h sz (b_qA N (fun _ => none))) (sz + 1) (pc + 3) lv (.ref sz :: rest)) : V S k n h sz pc lv (.int (zI z) :: rest) := by
  intro p e s m args below meth c H ls locs C B
  obtain ⟨hx, hb, hml, hr, hlk, hnm, hown, hts, hE, hX, hs0, hZ⟩ := id C
  have hsz := B.1
  have hzb : zb z := ⟨by omega, by omega⟩
  have hcl : (zI z).toNatClampNeg = N := by rw [zI_clamp hzb]; omega
  refine W.anew hx (hb.trans hc) (ho ▸ hown) (hts _ hw) (va_AO.use hE.2.2.2.1) rfl hd rfl (fun q => by have := (zI_lt hzb (b := 0) ⟨by omega, by omega⟩).mp q; omega) (by rw [hcl]; omega) hk (by rw [hcl]; exact hn) fun cA kA comp f1 f2 f3 f4 => ?_
  rw [hcl]
  generalize hH1 : H.push ({ cls := cA, slots := Array.replicate N .null, vm := .none } : Cell) = H1
  have z1 : H1.size = H.size + 1 := by rw [← hH1, Array.size_push]
  have e1 : H1[H.size]? = some (arrV cA N (fun _ => .null)) := by rw [← hH1, Array.getElem?_push_size, ← arrV_new]
  have o1 : ∀ q : Nat, q < H.size → H1[q]? = H[q]? := fun q hq => by rw [← hH1, Array.getElem?_push, if_neg (Nat.ne_of_lt hq)]
  obtain ⟨_, _, _, _, _, g4⟩ := (hE.1.2 2 _ rfl).2
  have hcA : cA = (s_G S).2.1 2 := Option.some.inj (f1.symm.trans g4)
  subst hcA
  have K2 := K p e s m args below meth c H1 ls locs C (B.new hs0 z1 (by show H1[H.size]? = some (vp_cell _ _); rw [vp_cell_q]; exact e1) o1)
  rw [← hsz] at K2
  exact K2
theorem v_cast (hc : s_cc S = cc) {own : String} (ho : s_own S = own) {idx ci : Nat} {r : vw_C} {fs : List Value} {a : Nat} (hd : decode cc pc = .ok (.checkcast idx, 3)) (hr : b_C[ci]? = some r) (hl : Cond.classLink own idx r.1 ∈ b_T) (ha : h a = some (b_ob ci fs)) (K : V S k n h sz (pc + 3) lv (.ref a :: rest)) : V S k n h sz pc lv (.ref a :: rest) := by
  intro p e s m args below meth c H ls locs C B
  obtain ⟨hx, hb, hml, hret, hlk, hnm, hown, hts, hE, hX, hs0, hZ⟩ := id C
  exact va_castS hx (hb.trans hc) (ho ▸ hown) (hts _ hl) (hE.1.1 ci r hr).2 (va_recv hE.1 (b_P1 B.2.1 ha) hr (q0 := 0) rfl) hd (K p e s m args below meth c H ls locs C B)
theorem z_ldc (hc : s_cc S = cc) {own : String} (ho : s_own S = own) {idx : Nat} {v : Int} (hd : decode cc pc = .ok (.ldc idx, 2)) (hl : Cond.constant own idx (zI v) ∈ b_T) (K : V S k n h sz (pc + 2) lv (.int (zI v) :: rest)) : V S k n h sz pc lv rest := by
  intro p e s m args below meth c H ls locs C B
  obtain ⟨hx, hb, hml, hret, hlk, hnm, hown, hts, hE, hX, hs0, hZ⟩ := id C
  exact W.ldc hx (hb.trans hc) (ho ▸ hown) (hts _ hl) rfl hd (K p e s m args below meth c H ls locs C B)
theorem z_ldcw (hc : s_cc S = cc) {own : String} (ho : s_own S = own) {idx : Nat} {v : Int} (hd : decode cc pc = .ok (.ldc_w idx, 3)) (hl : Cond.constant own idx (zI v) ∈ b_T) (K : V S k n h sz (pc + 3) lv (.int (zI v) :: rest)) : V S k n h sz pc lv rest := by
  intro p e s m args below meth c H ls locs C B
  obtain ⟨hx, hb, hml, hret, hlk, hnm, hown, hts, hE, hX, hs0, hZ⟩ := id C
  exact lv_ldcw hx (hb.trans hc) (ho ▸ hown) (hts _ hl) hd (K p e s m args below meth c H ls locs C B)
end BH
