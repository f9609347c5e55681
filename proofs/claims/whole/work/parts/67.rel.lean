/-! class and reference side by side -/
def y_Ff (I : Nat → Nat → Int) (A : Nat → Nat → Nat → Int) (j : Nat → Int) (a : Nat → Nat → Int) : Prop := (A 1 0 = a 2 ∧ A 1 1 = a 3 ∧ A 1 2 = a 4 ∧ I 1 3 = j 1) ∧ f_I (I 1) (A 1) ∧ m_F j a
def y_Dd (I : Nat → Nat → Int) (A : Nat → Nat → Nat → Int) (j : Nat → Int) (a : Nat → Nat → Int) : Prop := (A 0 0 = a 54 ∧ A 0 1 = a 55 ∧ A 0 2 = a 56 ∧ I 0 3 = j 53 ∧ I 0 4 = j 57) ∧ d_I (I 0) (A 0) ∧ m_E j a
def y_Kk (c : Int) (L : Nat) (I : Nat → Nat → Int) (A : Nat → Nat → Nat → Int) (j : Nat → Int) (a : Nat → Nat → Int) : Prop := (I 5 0 = j 19 ∧ I 5 1 = j 20) ∧ m_R j a ∧ c_T L (I 5) (A 5) ∧ I 5 11 ≤ c ∧ L ≤ 786432 ∧ ∀ q, 0 ≤ a 22 q ∧ a 22 q ≤ 100000
def y_Pp (n : Nat) (I : Nat → Nat → Int) (A : Nat → Nat → Nat → Int) (j : Nat → Int) (a : Nat → Nat → Int) : Prop := (n : Int) = j 5 ∧ n ≤ 12 ∧ m_P j a ∧ (∀ p, p < n → y_p (I (p + 20)) (A (p + 20)) a p ∧ q_J (I (p + 20)) (A (p + 20))) ∧ ∀ p, n ≤ p → I (p + 20) 5 = 0 ∧ a 12 p = 0 ∧ a 50 p = 0
def y_Gg (nf : Nat) (LN : Nat → Nat) (PI PR PB : Nat → Nat → Int) (j : Nat → Int) (a : Nat → Nat → Int) : Prop := (nf : Int) = j 25 ∧ nf ≤ 8 ∧ y_S nf LN PI PR PB a (a 26) (a 27) (fun s => max 1 (q_hd (a 8 (a 26 s).toNat) (a 9 (a 26 s).toNat) (a 27 s) (a 29 s))) (a 30) (a 31) ∧ m_G j a ∧ ∀ s, s < nf → PI s 3 = a 28 s ∧ PI s 4 = (if s + 1 = nf then 0 else p_st (a 6 (a 26 s).toNat) (a 6 (a 26 (s + 1)).toNat))
def y_Nn (c : Int) (hn : Bool) (mf : Nat) (SN : Nat → Nat) (SI SR SB : Nat → Nat → Int) (i s j : Nat → Int) (a : Nat → Nat → Int) : Prop := (hn = true ↔ ¬ j 32 = 0) ∧ (0 ≤ j 48 ∧ j 48 ≤ 7) ∧ (-8 ≤ j 35 ∧ j 35 ≤ 8) ∧ (0 ≤ j 34 ∧ j 34 ≤ 1) ∧ (0 ≤ j 33 ∧ j 33 ≤ 1) ∧ (hn = true → n_I mf SN SI i s ∧ y_S mf SN SI SR SB a (a 36) (a 37) (a 38) (a 39) (a 40) ∧ y_N mf SN i s j a ∧ m_Q j a ∧ m_N j a ∧ i 7 ≤ 600 * c)
def y_Cc (c : Int) (n : Nat) (I : Nat → Nat → Int) (j : Nat → Int) (a : Nat → Nat → Int) : Prop := m_C (601 * c) j a ∧ j 51 = f_sm (fun p => I (p + 20) 5 * I (p + 20) 3) n ∧ j 52 = f_sm (fun p => I (p + 20) 5) n
def y_R (c : Int) (L n : Nat) (I : Nat → Nat → Int) (A : Nat → Nat → Nat → Int) (nf : Nat) (LN : Nat → Nat) (PI PR PB : Nat → Nat → Int) (hn : Bool) (mf : Nat) (SN : Nat → Nat) (SI SR SB : Nat → Nat → Int) (i s j : Nat → Int) (a : Nat → Nat → Int) : Prop :=
  0 ≤ c ∧ y_Ff I A j a ∧ y_Dd I A j a ∧ y_Kk c L I A j a ∧ y_Pp n I A j a ∧ y_Gg nf LN PI PR PB j a ∧ y_Nn c hn mf SN SI SR SB i s j a ∧ y_Cc c n I j a
section YR
variable {c : Int} {L n : Nat} {I : Nat → Nat → Int} {A : Nat → Nat → Nat → Int} {nf : Nat} {LN : Nat → Nat} {PI PR PB : Nat → Nat → Int} {hn : Bool} {mf : Nat} {SN : Nat → Nat} {SI SR SB : Nat → Nat → Int} {i s j : Nat → Int} {a : Nat → Nat → Int}
theorem m_C_mono {c d : Int} (h : m_C c j a) (hd : c ≤ d) : m_C d j a := by
  obtain ⟨h1, h2, h3⟩ := h
  exact ⟨fun q => ⟨(h1 q).1, by have := (h1 q).2; omega⟩, ⟨h2.1, by omega⟩, ⟨h3.1, by omega⟩⟩
theorem y_R.mono (h : y_R c L n I A nf LN PI PR PB hn mf SN SI SR SB i s j a) : y_R (c + 1) L n I A nf LN PI PR PB hn mf SN SI SR SB i s j a := by
  obtain ⟨h0, hF, hD, ⟨k1, k2, k3, k4, k5⟩, hP, hG, ⟨n1, n2, n3, n4, n5, n6⟩, ⟨c1, c2⟩⟩ := h
  refine ⟨by omega, hF, hD, ⟨k1, k2, k3, by omega, k5⟩, hP, hG, ⟨n1, n2, n3, n4, n5, fun q => ?_⟩, m_C_mono c1 (by omega), c2⟩
  obtain ⟨g1, g2, g3, g4, g5, g6⟩ := n6 q
  exact ⟨g1, g2, g3, g4, g5, by omega⟩
theorem e_stretches (h : y_Ff I A j a) : f_ct (A 1 2) (I 1 3).toNat = f_ct (a 4) (j 1).toNat := by
  rw [h.1.2.2.1, h.1.2.2.2]
theorem e_stretch (h : y_Ff I A j a) (x y : Int) : f_St (A 1 0) (A 1 1) (A 1 2) (I 1 3).toNat x y = f_St (a 2) (a 3) (a 4) (j 1).toNat x y := by
  rw [h.1.1, h.1.2.1, h.1.2.2.1, h.1.2.2.2]
theorem e_tenths (h : y_Ff I A j a) (x y : Int) : f_Te (A 1 0) (A 1 2) (I 1 3).toNat x y = f_Te (a 2) (a 4) (j 1).toNat x y := by
  rw [h.1.1, h.1.2.2.1, h.1.2.2.2]
theorem e_free (h : y_Dd I A j a) (x : Int) : (if 0 ≤ x ∧ x ≤ 99999 then d_Fr (A 0 0) (A 0 1) (A 0 2) (I 0 4) x 0 (I 0 3).toNat else -99) = (if 0 ≤ x ∧ x ≤ 99999 then d_Fr (a 54) (a 55) (a 56) (j 57) x 0 (j 53).toNat else -99) := by
  rw [h.1.1, h.1.2.1, h.1.2.2.1, h.1.2.2.2.1, h.1.2.2.2.2]
theorem e_clash (h : y_Dd I A j a) : d_cl (A 0 0) (fun t => d_Fr (A 0 0) (A 0 1) (A 0 2) (I 0 4) t 0 (I 0 3).toNat) (I 0 3).toNat = d_cl (a 54) (fun t => d_Fr (a 54) (a 55) (a 56) (j 57) t 0 (j 53).toNat) (j 53).toNat := by
  rw [h.1.1, h.1.2.1, h.1.2.2.1, h.1.2.2.2.1, h.1.2.2.2.2]
theorem e_left (h : y_Dd I A j a) : (if 12 < I 0 3 then -4 else d_ll (fun u => d_eb (A 0 0) (fun t => d_Fr (A 0 0) (A 0 1) (A 0 2) (I 0 4) t u (I 0 3).toNat) u (I 0 3).toNat) ((2 : Int) ^ (I 0 3).toNat - 1) ((2 : Int) ^ (I 0 3).toNat - 1).toNat) = (if 12 < j 53 then -4 else m_ll (fun u => m_gb (a 54) (fun t => d_Fr (a 54) (a 55) (a 56) (j 57) t u (j 53).toNat) (j 53).toNat) ((2 : Int) ^ (j 53).toNat).toNat) := by
  obtain ⟨⟨e1, e2, e3, e4, e5⟩, -, ⟨m1, m2, m3, m4⟩⟩ := h
  rw [e1, e2, e3, e4, e5]
  by_cases q : 12 < j 53
  · rw [if_pos q, if_pos q]
  · rw [if_neg q, if_neg q]
    exact y_left (fun q => (m4 q).1) m2.1 (by omega)
theorem e_played (h : y_Pp n I A j a) (x : Int) : (if 0 ≤ x ∧ x < n then I (x.toNat + 20) 5 else -1) = (if 0 ≤ x ∧ x ≤ j 5 - 1 then a 50 x.toNat else -1) := by
  obtain ⟨h1, h2, h3, h4, h5⟩ := h
  by_cases q : 0 ≤ x ∧ x < n
  · rw [if_pos q, if_pos ⟨by omega, by omega⟩]
    exact (h4 x.toNat (by omega)).1.2.2.2.2.2.1
  · rw [if_neg q, if_neg (by omega)]
theorem e_misfit (h : y_Pp n I A j a) (x y z : Int) : (if ((0 ≤ x ∧ x < n) ∧ (1 ≤ y ∧ y ≤ 400) ∧ (0 ≤ z ∧ z ≤ 100000)) then q_ms (I (x.toNat + 20) 6) (I (x.toNat + 20) 7) y z else -1) = (if ((0 ≤ x ∧ x ≤ j 5 - 1) ∧ (1 ≤ y ∧ y ≤ 400) ∧ (0 ≤ z ∧ z ≤ 100000)) then p_mf (600 * y / a 9 x.toNat) (600 * y / a 8 x.toNat) z else -1) := by
  obtain ⟨h1, h2, h3, h4, h5⟩ := h
  by_cases q : (0 ≤ x ∧ x < n) ∧ (1 ≤ y ∧ y ≤ 400) ∧ (0 ≤ z ∧ z ≤ 100000)
  · rw [if_pos q, if_pos ⟨⟨by omega, by omega⟩, q.2⟩]
    obtain ⟨p0, p1, p2, p3, p4, p5, p6, p7, p8⟩ := (h4 x.toNat (by omega)).1
    have hb := h3.2.2.1 x.toNat (by omega)
    rw [p6, p7, p_mf_ms (by omega) (by omega) (by omega)]
  · rw [if_neg q, if_neg (by omega)]
theorem y_smc {f g : Nat → Int} : ∀ {n : Nat}, (∀ k, k < n → f k = g k) → f_sm f n = f_sm g n
  | 0, _ => rfl
  | n + 1, h => by rw [f_sm, f_sm, y_smc (fun k hk => h k (by omega)), h n (by omega)]
theorem e_count (hF : y_Ff I A j a) (hD : y_Dd I A j a) (hP : y_Pp n I A j a) (hC : y_Cc c n I j a) (x : Int) : (if x = 0 then I 1 3 else if x = 1 then f_sm (A 1 0) (I 1 3).toNat else if x = 2 then (n : Int) else if x = 3 then f_sm (fun p => I (p + 20) 4) n else if x = 4 then I 0 3 else if x = 5 then f_sm (fun p => I (p + 20) 5) n else -1) = m_Ct j a x := by
  unfold m_Ct
  have e1 : f_sm (fun p => I (p + 20) 4) n = f_sm (a 12) (j 5).toNat := by
    rw [show (j 5).toNat = n by have := hP.1; omega]
    exact y_smc (fun k hk => (hP.2.2.2.1 k hk).1.2.2.2.2.1)
  rw [hF.1.1, hF.1.2.2.2, hD.1.2.2.2.1, hP.1, hC.2.2, e1]
theorem e_given (h : y_Gg nf LN PI PR PB j a) (x y : Int) : x_gv nf PI x y = m_Gv j a x y := by
  obtain ⟨h1, h2, h3, h4, h5⟩ := h
  unfold x_gv m_Gv
  by_cases q : 0 ≤ x ∧ x < nf
  · rw [if_neg (c := ¬ (0 ≤ x ∧ x < nf)) (fun z => z q), if_neg (c := ¬ (0 ≤ x ∧ x ≤ j 25 - 1)) (fun z => z ⟨by omega, by omega⟩)]
    obtain ⟨k, rfl⟩ : ∃ k : Nat, x = k := ⟨x.toNat, by omega⟩
    rw [Int.toNat_natCast]
    obtain ⟨s1, s2, -⟩ := h3 k (by omega)
    obtain ⟨g1, g2⟩ := h5 k (by omega)
    rw [s1, s2, g1, g2]
    have e1 : ((k : Int) + 1).toNat = k + 1 := by omega
    rw [e1]
    by_cases z : k + 1 = nf
    · rw [if_pos z, if_pos (c := (k : Int) = j 25 - 1) (by omega)]
    · rw [if_neg z, if_neg (c := (k : Int) = j 25 - 1) (by omega)]
  · rw [if_pos q, if_pos (fun z => q ⟨by omega, by omega⟩)]
theorem e_now (h : y_Nn c hn mf SN SI SR SB i s j a) (x : Int) : (if hn = true then n_tl SN SI SR i x else -1) = m_Nw j a x := by
  obtain ⟨n1, n2, n3, n4, n5, n6⟩ := h
  unfold m_Nw
  by_cases q : hn = true
  · rw [if_pos q, if_neg (n1.mp q)]
    obtain ⟨g1, g2, g3, g4, g5, g6⟩ := n6 q
    obtain ⟨m35, m3, m7, m4, m5, m44, m6, m8, m9, m10, m11, m12, h3, h10, hsq⟩ := g3
    unfold n_tl n_dn
    obtain ⟨k, hk⟩ : ∃ k : Nat, i 3 = k := ⟨(i 3).toNat, by omega⟩
    have hkn : (i 3).toNat = k := by omega
    have hk42 : j 42 = k := by omega
    have hkn2 : (j 42).toNat = k := by omega
    obtain ⟨s1, s2, s5, s39, sl1, sl2, sP, sR⟩ := g2 k (by omega)
    rw [hkn] at m5
    obtain ⟨t, ht5⟩ : ∃ t : Nat, i 5 = t := ⟨(i 5).toNat, by omega⟩
    have htn : (i 5).toNat = t := by omega
    obtain ⟨r1, r2, r3, r4, r5⟩ := sR t (by omega)
    rw [hkn, htn, hkn2, r3, s1, s2, s5, m8, m9, m7, m11, m10, ← s39, ← m5, ht5, hk42, hk, ← m7, m4]
    have e1 : (16 * (k : Int) + (t : Int)).toNat = 16 * k + t := by omega
    rw [e1]
  · rw [if_neg q, if_pos (Decidable.byContradiction (fun z => q (n1.mpr z)))]
end YR
section YX
variable {G : b_G} {o6 : Nat} {P7 : Nat → Prop} {L n : Nat} {I : Nat → Nat → Int} {A : Nat → Nat → Nat → Int} {nf : Nat} {LN : Nat → Nat} {PI PR PB : Nat → Nat → Int} {hn : Bool} {mf : Nat} {SN : Nat → Nat} {SI SR SB : Nat → Nat → Int} {i s : Nat → Int} {h h1 : b_H} {sz : Nat}
theorem x_X.kept7 (hX : x_X G o6 P7 L n I A nf LN PI PR PB hn mf SN SI SR SB i s h sz) (hq : ∀ b, ¬ P7 b → h1 b = h b) : x_X G o6 P7 L n I A nf LN PI PR PB hn mf SN SI SR SB i s h1 sz := by
  obtain ⟨lb, O, D, ol, al, fo, fa, pt, RA, RB, nv, hW, hL, hF, h6, hl6, h7, hN⟩ := hX
  have hl : ∀ b, lb b ≠ 7 → h1 b = h b := fun b hb => hq b (fun z => hb (h7 b z).1)
  refine ⟨lb, O, D, ol, al, fo, fa, pt, RA, RB, nv, hW.kept (fun b hb => hl b (fun e => by rw [e] at hb; exact x_is_no (by omega) hb)), hL.kept (fun b hb => hl b (by omega)), hF.kept (fun b hb => hl b (by omega)), (hl o6 (by omega)).trans h6, hl6, h7, ?_⟩
  rcases hN with q | ⟨q, o2, sa, pr, pa, qt, QA, QB, g1, g2, g3⟩
  · exact Or.inl q
  · exact Or.inr ⟨q, o2, sa, pr, pa, qt, QA, QB, g1, g2.kept (fun b hb => hl b (by omega)), g3.kept (fun b hb => hl b (by omega))⟩
theorem x_X.obj (hX : x_X G o6 P7 L n I A nf LN PI PR PB hn mf SN SI SR SB i s h sz) : ∃ fs, h o6 = some (b_ob 6 fs) := by
  obtain ⟨lb, O, D, ol, al, fo, fa, pt, RA, RB, nv, hW, hL, hF, h6, -⟩ := hX
  exact ⟨_, h6⟩
end YX
theorem v_icmp_same {S : b_S} {k n : Nat} {h : b_H} {sz pc : Nat} {lv : List (Option Value)} {rest : List Value} {cc : ByteArray} (hc : s_cc S = cc) {u : Int32} {off : Int} {tgt : Nat} (hd : decode cc pc = .ok (.if_icmp .eq off, 3)) (ht : (pc : Int) + off = (tgt : Int)) (K : V S k n h sz tgt lv rest) : V S k n h sz pc lv (.int u :: .int u :: rest) := by
  intro p e s m args below meth c H ls locs C B
  exact lv_icmp_eq C.1 (C.2.1.trans hc) hd ht (fun _ => K p e s m args below meth c H ls locs C B) (fun q => absurd rfl q)
def lw_ctx (S : b_S) (b Ls : Nat) (xs : Nat → Int32) : Prop := s_X S = (fun s => va_X b Ls xs s s.heap ∧ b < s.heap.size) ∧ s_h S = (fun _ => none) ∧ s_cc S = cL_law ∧ s_own S = RL ∧ (s_R S).frames = 2048 ∧ (s_R S).locals = 84000 ∧ (s_R S).cells = 600000 ∧ (s_R S).slots = 7302250 ∧ Ls ≤ 2560
/-- what holds at the loop's head behind c calls -/
def lw_I (G : b_G) (o6 o7 : Nat) (c : Int) (k m : Nat) (h : b_H) (sz : Nat) : Prop := ∃ (ad : Nat → Nat) (L n : Nat) (I : Nat → Nat → Int) (A : Nat → Nat → Nat → Int) (nf : Nat) (LN : Nat → Nat) (PI PR PB : Nat → Nat → Int) (hn : Bool) (mf : Nat) (SN : Nat → Nat) (SI SR SB : Nat → Nat → Int) (i s j : Nat → Int) (a : Nat → Nat → Int), x_X G o6 (r_own K7 o7 ad) L n I A nf LN PI PR PB hn mf SN SI SR SB i s h sz ∧ r_O K7 7 o7 ad j a h ∧ y_R c L n I A nf LN PI PR PB hn mf SN SI SR SB i s j a ∧ (k : Int) ≤ 100 + 50 * c ∧ (m : Int) ≤ 60000 + 8600 * c + 2 * L
