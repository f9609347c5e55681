/-! the class's world: who owns which cell (labels), the objects of own arrays, the parts, the night -/
def x_K (L : Nat) : Nat → r_K
  | 0 => K0
  | 1 => K1
  | 5 => K5 L
  | _ => K4
def x_C : Nat → Nat
  | 0 => 0
  | 1 => 1
  | 5 => 5
  | _ => 4
def x_is (n t : Nat) : Prop := t = 0 ∨ t = 1 ∨ t = 5 ∨ (20 ≤ t ∧ t < 20 + n)
theorem x_K_p (L p : Nat) : x_K L (p + 20) = K4 := rfl
theorem x_C_p (p : Nat) : x_C (p + 20) = 4 := rfl
def x_W (lb : Nat → Nat) (L n : Nat) (O : Nat → Nat) (D : Nat → Nat → Nat) (I : Nat → Nat → Int) (A : Nat → Nat → Nat → Int) (h : b_H) : Prop := ∀ t, x_is n t → r_O (x_K L t) (x_C t) (O t) (D t) (I t) (A t) h ∧ ∀ b, r_own (x_K L t) (O t) (D t) b → lb b = t
section XW
variable {lb : Nat → Nat} {L n : Nat} {O : Nat → Nat} {D : Nat → Nat → Nat} {I : Nat → Nat → Int} {A : Nat → Nat → Nat → Int} {h h1 : b_H}
theorem x_W.kept (hW : x_W lb L n O D I A h) (hq : ∀ b, x_is n (lb b) → h1 b = h b) : x_W lb L n O D I A h1 := fun t ht => by
  obtain ⟨g1, g2⟩ := hW t ht
  exact ⟨g1.kept (fun b hb => hq b (by rw [g2 b hb]; exact ht)), g2⟩
theorem x_W.put (hW : x_W lb L n O D I A h) {t : Nat} {i2 : Nat → Int} {a2 : Nat → Nat → Int} (ht : x_is n t) (hO : r_O (x_K L t) (x_C t) (O t) (D t) i2 a2 h1) (hq : ∀ b, ¬ r_own (x_K L t) (O t) (D t) b → h1 b = h b) : x_W lb L n O D (b_up I t i2) (b_up A t a2) h1 := fun u hu => by
  obtain ⟨g1, g2⟩ := hW u hu
  by_cases e : u = t
  · subst e
    rw [b_up_eq, b_up_eq]
    exact ⟨hO, g2⟩
  · rw [b_up_ne _ _ e, b_up_ne _ _ e]
    refine ⟨g1.kept (fun b hb => hq b (fun q => e ?_)), g2⟩
    rw [← g2 b hb, (hW t ht).2 b q]
theorem x_W.lab (hW : x_W lb L n O D I A h) {t : Nat} (ht : x_is n t) {b : Nat} (hb : lb b ≠ t) : ¬ r_own (x_K L t) (O t) (D t) b := fun q => hb ((hW t ht).2 b q)
theorem x_W.pc (hW : x_W lb L n O D I A h) {p : Nat} (hp : p < n) : r_O K4 4 (O (p + 20)) (D (p + 20)) (I (p + 20)) (A (p + 20)) h := (hW (p + 20) (Or.inr (Or.inr (Or.inr ⟨by omega, by omega⟩)))).1
theorem x_is_p {p : Nat} (hp : p < n) : x_is n (p + 20) := Or.inr (Or.inr (Or.inr ⟨by omega, by omega⟩))
end XW
theorem x_is_no {n t : Nat} (h : t = 2 ∨ t = 6 ∨ t = 7 ∨ t = 9 ∨ t = 10) : ¬ x_is n t := by
  unfold x_is
  omega
/-- the parts of a programme: nobody writes them any more (label 9) -/
def f_W (G : b_G) (lb : Nat → Nat) (n : Nat) (O : Nat → Nat) (fo fa nf : Nat) (pt RA RB LN : Nat → Nat) (PI PR PB : Nat → Nat → Int) (h : b_H) : Prop :=
  j_L G fo fa nf pt h ∧ nf ≤ 8 ∧ lb fo = 9 ∧ (nf = 0 → fa = G.2.2.1) ∧ (nf ≠ 0 → lb fa = 9) ∧ ∀ s, s < nf → t_O (pt s) (O ((PI s 1).toNat + 20)) (RA s) (RB s) (LN s) (PI s) (PR s) (PB s) h ∧ t_I (LN s) (PI s) (PR s) (PB s) ∧ (PI s 1).toNat < n ∧ lb (pt s) = 9 ∧ lb (RA s) = 9 ∧ lb (RB s) = 9
theorem f_W.kept {G : b_G} {lb : Nat → Nat} {n : Nat} {O : Nat → Nat} {fo fa nf : Nat} {pt RA RB LN : Nat → Nat} {PI PR PB : Nat → Nat → Int} {h h1 : b_H} (hF : f_W G lb n O fo fa nf pt RA RB LN PI PR PB h) (hq : ∀ b, lb b = 9 → h1 b = h b) : f_W G lb n O fo fa nf pt RA RB LN PI PR PB h1 := by
  obtain ⟨g1, g2, g3, g4, g5, g6⟩ := hF
  refine ⟨?_, g2, g3, g4, g5, fun s hs => ?_⟩
  · by_cases e : nf = 0
    · obtain ⟨mc, q1, q2, q3⟩ := g1
      exact ⟨mc, (hq fo g3).trans q1, q2, Or.inl ⟨e, g4 e⟩⟩
    · exact g1.kept (hq fo g3) (fun _ => hq fa (g5 e))
  · obtain ⟨q1, q2, q3, q4, q5, q6⟩ := g6 s hs
    exact ⟨q1.kept (hq _ q4) (hq _ q5) (hq _ q6), q2, q3, q4, q5, q6⟩
/-- the night's object -/
def n_fs (pr sa : Nat) (pv : Value) (i : Nat → Int) : List Value := [.ref pr, .ref sa, pv, .int (zI (i 3)), .int (zI (i 4)), .int (zI (i 5)), .int (zI (i 6)), .int (zI (i 7)), .int (zI (i 8)), .int (zI (i 9)), .int (zI (i 10)), .int (zI (i 11)), .int (zI (i 12))]
theorem n_set {pr sa : Nat} {pv : Value} {i : Nat → Int} {f : Nat} {v : Int} (h0 : 3 ≤ f) (h1 : f ≤ 12) : (n_fs pr sa pv i).set f (.int (zI v)) = n_fs pr sa pv (b_up i f v) := by
  rcases (by omega : f = 3 ∨ f = 4 ∨ f = 5 ∨ f = 6 ∨ f = 7 ∨ f = 8 ∨ f = 9 ∨ f = 10 ∨ f = 11 ∨ f = 12) with rfl | rfl | rfl | rfl | rfl | rfl | rfl | rfl | rfl | rfl <;> rfl
def n_W (lb : Nat → Nat) (o sa pr : Nat) (pv : Value) (i s : Nat → Int) (h : b_H) : Prop := h o = some (b_ob 2 (n_fs pr sa pv i)) ∧ h sa = some (b_iA 8 s) ∧ o ≠ sa ∧ lb o = 2 ∧ lb sa = 2
/-- all of it -/
def n_A (G : b_G) (lb : Nat → Nat) (L n : Nat) (O : Nat → Nat) (D : Nat → Nat → Nat) (I : Nat → Nat → Int) (A : Nat → Nat → Nat → Int) (fo fa nf : Nat) (pt RA RB LN : Nat → Nat) (PI PR PB : Nat → Nat → Int) (o sa : Nat) (pv : Value) (i s : Nat → Int) (h : b_H) : Prop :=
  x_W lb L n O D I A h ∧ f_W G lb n O fo fa nf pt RA RB LN PI PR PB h ∧ n_W lb o sa fo pv i s h
def n_fr (lb : Nat → Nat) (n : Nat) (h1 h : b_H) : Prop := ∀ b, lb b ≠ 2 → ¬ (20 ≤ lb b ∧ lb b < 20 + n) → h1 b = h b
section NA
variable {S : b_S} {k m : Nat} {hB : b_H} {sz pc : Nat} {lv : List (Option Value)} {rest : List Value} {cc : ByteArray} {own : String} {idx f : Nat} {t : FieldType} {dc : String}
variable {G : b_G} {lb : Nat → Nat} {L n : Nat} {O : Nat → Nat} {D : Nat → Nat → Nat} {I : Nat → Nat → Int} {A : Nat → Nat → Nat → Int} {fo fa nf : Nat} {pt RA RB LN : Nat → Nat} {PI PR PB : Nat → Nat → Int} {o sa : Nat} {pv : Value} {i s : Nat → Int} {h : b_H}
theorem n_A.on (hA : n_A G lb L n O D I A fo fa nf pt RA RB LN PI PR PB o sa pv i s h) {h1 : b_H} {pv2 : Value} {i2 : Nat → Int} (e1 : h1 o = some (b_ob 2 (n_fs fo sa pv2 i2))) (e2 : ∀ b, b ≠ o → h1 b = h b) : n_A G lb L n O D I A fo fa nf pt RA RB LN PI PR PB o sa pv2 i2 s h1 := by
  obtain ⟨hW, hF, h1, h2, h3, h4, h5⟩ := hA
  refine ⟨hW.kept (fun b hb => e2 b (fun q => ?_)), hF.kept (fun b hb => e2 b (fun q => ?_)), e1, (e2 sa (Ne.symm h3)).trans h2, h3, h4, h5⟩
  · rw [q, h4] at hb; exact x_is_no (Or.inl rfl) hb
  · rw [q, h4] at hb; omega
theorem n_putf (hc : s_cc S = cc) (ho : s_own S = own) (hd : decode cc pc = .ok (.putfield idx, 3)) (F : b_FL own idx 2 f t false dc) (hA : n_A G lb L n O D I A fo fa nf pt RA RB LN PI PR PB o sa pv i s h) (hfr : n_fr lb n h hB) (h0 : 3 ≤ f) (h1 : f ≤ 12) {v : Int} (hn : narrow t (.int (zI v)) = .int (zI v) ∧ fits t (.int (zI v)) = true) (K : ∀ (h1 : b_H) (i2 : Nat → Int), i2 f = v → (∀ q, q ≠ f → i2 q = i q) → n_A G lb L n O D I A fo fa nf pt RA RB LN PI PR PB o sa pv i2 s h1 → n_fr lb n h1 hB → V S k m h1 sz (pc + 3) lv rest) : V S k m h sz pc lv (.int (zI v) :: .ref o :: rest) := by
  refine x_put hc ho hd F hA.2.2.1 ?_ hn (fun h1 e1 e2 => ?_)
  · show Nat.ble (f + 1) 13 = true
    exact Nat.ble_eq.mpr (by omega)
  · rw [n_set h0 (by omega)] at e1
    exact K h1 _ (b_up_eq _ _ _) (fun q hq => b_up_ne _ _ hq) (hA.on e1 e2) (fun b q1 q2 => (e2 b (fun q => q1 (by rw [q]; exact hA.2.2.2.2.2.1))).trans (hfr b q1 q2))
end NA

