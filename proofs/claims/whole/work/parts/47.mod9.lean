/-! the reference: the night goes on -/
def m_dn (i : Nat → Int) (a : Nat → Nat → Int) : Int := i 43 * a 37 (i 42).toNat / a 38 (i 42).toNat
def m_bk (i : Nat → Int) (a : Nat → Nat → Int) : Int := a 40 (16 * i 42 + min (i 44) (a 39 (i 42).toNat - 1)).toNat
/-- piece s of the night begins -/
def m_bp (i : Nat → Int) (a : Nat → Nat → Int) (s : Int) (i2 : Nat → Int) (a2 : Nat → Nat → Int) : Prop := i2 42 = s ∧ i2 43 = 0 ∧ i2 44 = 0 ∧ i2 45 = a 13 (8 * a 36 s.toNat + a 40 (16 * s).toNat).toNat ∧ i2 51 = i 51 + a 11 (a 36 s.toNat).toNat ∧ i2 52 = i 52 + 1 ∧ n_ck i i2 [42, 43, 44, 45, 51, 52] ∧ a2 50 = b_up (a 50) (a 36 s.toNat).toNat (a 50 (a 36 s.toNat).toNat + 1) ∧ ∀ k, k ≠ 50 → a2 k = a k
def m_eb (i : Nat → Int) (a : Nat → Nat → Int) (i2 : Nat → Int) (a2 : Nat → Nat → Int) : Prop :=
  (i 42 = i 35 - 1 ∧ a 39 (i 42).toNat - 1 ≤ i 44 ∧ i2 33 = 1 ∧ n_ck i i2 [33] ∧ a2 = a) ∨
  ((¬ i 42 = i 35 - 1 ∧ i 42 < i 48 ∧ a 14 (8 * a 36 (i 42).toNat + m_bk i a).toNat % 2 = 1) ∧ ∃ i1 : Nat → Int, i1 47 = i 47 + (i 41 - a 49 (i 42 + 1).toNat) ∧ n_ck i i1 [47] ∧ m_bp i1 a (i 42 + 1) i2 a2) ∨
  (¬ (i 42 = i 35 - 1 ∧ a 39 (i 42).toNat - 1 ≤ i 44) ∧ ¬ (¬ i 42 = i 35 - 1 ∧ i 42 < i 48 ∧ a 14 (8 * a 36 (i 42).toNat + m_bk i a).toNat % 2 = 1) ∧ i2 44 = i 44 + 1 ∧ i2 46 = i 46 + (if a 39 (i 42).toNat - 1 ≤ i 44 then 1 else 0) ∧ i2 45 = i 45 + a 13 (8 * a 36 (i 42).toNat + a 40 (16 * i 42 + min (i 44 + 1) (a 39 (i 42).toNat - 1)).toNat).toNat ∧ n_ck i i2 [44, 45, 46] ∧ a2 = a)
def m_tk (i : Nat → Int) (a : Nat → Nat → Int) (i2 : Nat → Int) (a2 : Nat → Nat → Int) : Prop := ∃ i1 : Nat → Int, i1 41 = i 41 + 1 ∧ i1 43 = i 43 + 1 ∧ n_ck i i1 [41, 43] ∧ ((m_dn i1 a < i1 45 ∧ i2 = i1 ∧ a2 = a) ∨ (i1 45 ≤ m_dn i1 a ∧ m_eb i1 a i2 a2))
def m_rn : Nat → (Nat → Int) → (Nat → Nat → Int) → (Nat → Int) → (Nat → Nat → Int) → Prop
  | 0, i, a, i2, a2 => i2 = i ∧ a2 = a
  | d + 1, i, a, i2, a2 => (¬ i 33 = 0 ∧ i2 = i ∧ a2 = a) ∨ (i 33 = 0 ∧ ∃ i1 a1, m_tk i a i1 a1 ∧ m_rn d i1 a1 i2 a2)
/-- what holds of the parts of the night -/
def m_Q (i : Nat → Int) (a : Nat → Nat → Int) : Prop := ∀ s : Nat, (s : Int) < i 35 → (0 ≤ a 36 s ∧ a 36 s < i 5) ∧ (1 ≤ a 37 s ∧ a 37 s ≤ 400) ∧ (a 37 s ≤ a 38 s ∧ a 38 s ≤ 240000) ∧ (1 ≤ a 39 s ∧ a 39 s ≤ 16) ∧ ∀ k : Nat, (k : Int) < a 39 s → 0 ≤ a 40 (16 * s + k) ∧ a 40 (16 * s + k) < a 12 (a 36 s).toNat
/-- what holds of the night; J: but for the block that is played -/
def m_J (i : Nat → Int) (a : Nat → Nat → Int) : Prop := (1 ≤ i 35 ∧ i 35 ≤ 8) ∧ (0 ≤ i 42 ∧ i 42 < i 35) ∧ (0 ≤ i 43 ∧ i 43 ≤ i 41 ∧ i 41 ≤ 400000) ∧ (0 ≤ i 44 ∧ i 44 ≤ i 43) ∧ (1 ≤ i 45 ∧ i 45 ≤ i 43 + 64) ∧ (0 ≤ i 46 ∧ i 46 ≤ i 41) ∧ (0 ≤ i 47 ∧ i 47 ≤ i 42 * 400000) ∧ (0 ≤ i 48 ∧ i 48 < i 35) ∧ (i 33 = 0 ∨ i 33 = 1) ∧ (i 34 = 0 ∨ i 34 = 1) ∧ (∀ j : Nat, 1 ≤ j → (j : Int) ≤ i 48 → 0 ≤ a 49 j ∧ a 49 j ≤ i 41)
def m_N (i : Nat → Int) (a : Nat → Nat → Int) : Prop := m_J i a ∧ (i 33 = 0 → m_dn i a < i 45)
def m_C (c : Int) (i : Nat → Int) (a : Nat → Nat → Int) : Prop := (∀ j, 0 ≤ a 50 j ∧ a 50 j ≤ c) ∧ (0 ≤ i 51 ∧ i 51 ≤ 999 * c) ∧ (0 ≤ i 52 ∧ i 52 ≤ c)

set_option maxHeartbeats 4000000 in
theorem c_X7_beginPiece (l : Launch) (G : b_G) {o : Nat} {ad : Nat → Nat} {i : Nat → Int} {a : Nat → Nat → Int} {h : b_H} {sz : Nat} (hO : r_O K7 7 o ad i a h) {s : Int} (hs : 0 ≤ s ∧ s < i 35 ∧ i 35 ≤ 8) (hP : m_P i a) (hQ : m_Q i a) {c : Int} (hC : m_C c i a) (hcc : c ≤ 2000000) : Con l G yX7_beginPiece cX7_beginPiece 2 none 0 0 0 0 [.ref o, .int (zI s)] h sz (p_wr K7 7 o ad h sz (fun r i2 a2 => r = none ∧ m_bp i a s i2 a2)) := by
  refine Con.ofK (by decide +kernel) rfl rfl ?_
  intro S M
  have hc := M.2.2.2.1
  have ho : s_own S = RX7 := M.2.2.1
  have hFr : (s_R S).frames = 0 := by rw [M.2.2.2.2.2.2.2.1]
  have hLo : (s_R S).locals = 0 := by rw [M.2.2.2.2.2.2.2.1]
  have hCe : (s_R S).cells = 0 := by rw [M.2.2.2.2.2.2.2.1]
  have hSl : (s_R S).slots = 0 := by rw [M.2.2.2.2.2.2.2.1]
  have hi := hO.2.2.2.1
  have ha := hO.2.2.2.2
  obtain ⟨hI5, hIbk, hIsf, hIky, hImd, hIth, hIfe, hIbt, hIb1, hIhw, hInx, hIen⟩ := id hP
  have hfr : ∀ b, ¬ r_own K7 o ad b → h b = h b := fun _ _ => rfl
  refine v_aload_n hc dX7_beginPiece_0 rfl ?_
  refine v_iload_n hc dX7_beginPiece_1 rfl ?_
  refine r_putIf hc ho dX7_beginPiece_2 F_X7_212 hO hfr rfl (by first | assumption | exact hi _ | exact ha _ _ | (unfold zb; omega)) (fun h i_1 g_1 k_1 hO hfr => ?_)
  have hi := hO.2.2.2.1
  have e_1_5 := k_1 5 (by decide)
  have e_1_33 := k_1 33 (by decide)
  have e_1_34 := k_1 34 (by decide)
  have e_1_35 := k_1 35 (by decide)
  have e_1_41 := k_1 41 (by decide)
  have e_1_43 := k_1 43 (by decide)
  have e_1_44 := k_1 44 (by decide)
  have e_1_45 := k_1 45 (by decide)
  have e_1_46 := k_1 46 (by decide)
  have e_1_47 := k_1 47 (by decide)
  have e_1_48 := k_1 48 (by decide)
  have e_1_51 := k_1 51 (by decide)
  have e_1_52 := k_1 52 (by decide)
  refine v_aload_n hc dX7_beginPiece_5 rfl ?_
  refine z_iconst hc dX7_beginPiece_6 ?_
  refine r_putIf hc ho dX7_beginPiece_7 F_X7_215 hO hfr rfl (by first | assumption | exact hi _ | exact ha _ _ | (unfold zb; omega)) (fun h i_2 g_2 k_2 hO hfr => ?_)
  have hi := hO.2.2.2.1
  have e_2_5 := k_2 5 (by decide)
  have e_2_33 := k_2 33 (by decide)
  have e_2_34 := k_2 34 (by decide)
  have e_2_35 := k_2 35 (by decide)
  have e_2_41 := k_2 41 (by decide)
  have e_2_42 := k_2 42 (by decide)
  have e_2_44 := k_2 44 (by decide)
  have e_2_45 := k_2 45 (by decide)
  have e_2_46 := k_2 46 (by decide)
  have e_2_47 := k_2 47 (by decide)
  have e_2_48 := k_2 48 (by decide)
  have e_2_51 := k_2 51 (by decide)
  have e_2_52 := k_2 52 (by decide)
  refine v_aload_n hc dX7_beginPiece_10 rfl ?_
  refine z_iconst hc dX7_beginPiece_11 ?_
  refine r_putIf hc ho dX7_beginPiece_12 F_X7_218 hO hfr rfl (by first | assumption | exact hi _ | exact ha _ _ | (unfold zb; omega)) (fun h i_3 g_3 k_3 hO hfr => ?_)
  have hi := hO.2.2.2.1
  have e_3_5 := k_3 5 (by decide)
  have e_3_33 := k_3 33 (by decide)
  have e_3_34 := k_3 34 (by decide)
  have e_3_35 := k_3 35 (by decide)
  have e_3_41 := k_3 41 (by decide)
  have e_3_42 := k_3 42 (by decide)
  have e_3_43 := k_3 43 (by decide)
  have e_3_45 := k_3 45 (by decide)
  have e_3_46 := k_3 46 (by decide)
  have e_3_47 := k_3 47 (by decide)
  have e_3_48 := k_3 48 (by decide)
  have e_3_51 := k_3 51 (by decide)
  have e_3_52 := k_3 52 (by decide)
  obtain ⟨hs1, hs2, hs3, hs4, hs5⟩ := hQ s.toNat (by omega)
  have hs50 := hs5 0 (by omega)
  rw [show 16 * s.toNat + 0 = (16 * s).toNat by omega] at hs50
  have hbkp := hIbk (a 36 s.toNat).toNat
  have hbtp := hIbt (8 * a 36 s.toNat + a 40 (16 * s).toNat).toNat
  refine v_aload_n hc dX7_beginPiece_15 rfl ?_
  refine v_aload_n hc dX7_beginPiece_16 rfl ?_
  refine r_getA hc ho dX7_beginPiece_17 F_X7_41 hO rfl ?_
  refine z_bipush hc dX7_beginPiece_20 (by decide) ?_
  refine v_aload_n hc dX7_beginPiece_22 rfl ?_
  refine r_getA hc ho dX7_beginPiece_23 F_X7_94 hO rfl ?_
  refine v_iload_n hc dX7_beginPiece_26 rfl ?_
  refine r_iald hc dX7_beginPiece_27 hO 36 rfl (by decide) (by omega) (by omega) ?_
  refine z_imul hc dX7_beginPiece_28 ?_
  refine v_aload_n hc dX7_beginPiece_29 rfl ?_
  refine r_getA hc ho dX7_beginPiece_30 F_X7_106 hO rfl ?_
  refine z_bipush hc dX7_beginPiece_33 (by decide) ?_
  refine v_iload_n hc dX7_beginPiece_35 rfl ?_
  refine z_imul hc dX7_beginPiece_36 ?_
  refine r_iald hc dX7_beginPiece_37 hO 40 rfl (by decide) (by omega) (by omega) ?_
  refine z_iadd hc dX7_beginPiece_38 ?_
  refine r_iald hc dX7_beginPiece_39 hO 13 rfl (by decide) (by omega) (by omega) ?_
  refine r_putIf hc ho dX7_beginPiece_40 F_X7_221 hO hfr rfl (by first | assumption | exact hi _ | exact ha _ _ | (unfold zb; omega)) (fun h i_4 g_4 k_4 hO hfr => ?_)
  have hi := hO.2.2.2.1
  have e_4_5 := k_4 5 (by decide)
  have e_4_33 := k_4 33 (by decide)
  have e_4_34 := k_4 34 (by decide)
  have e_4_35 := k_4 35 (by decide)
  have e_4_41 := k_4 41 (by decide)
  have e_4_42 := k_4 42 (by decide)
  have e_4_43 := k_4 43 (by decide)
  have e_4_44 := k_4 44 (by decide)
  have e_4_46 := k_4 46 (by decide)
  have e_4_47 := k_4 47 (by decide)
  have e_4_48 := k_4 48 (by decide)
  have e_4_51 := k_4 51 (by decide)
  have e_4_52 := k_4 52 (by decide)
  obtain ⟨hc1, hc2, hc3⟩ := id hC
  have hcp := hc1 (a 36 s.toNat).toNat
  refine v_aload_n hc dX7_beginPiece_43 rfl ?_
  refine r_getA hc ho dX7_beginPiece_44 F_X7_112 hO rfl ?_
  refine v_aload_n hc dX7_beginPiece_47 rfl ?_
  refine r_getA hc ho dX7_beginPiece_48 F_X7_94 hO rfl ?_
  refine v_iload_n hc dX7_beginPiece_51 rfl ?_
  refine r_iald hc dX7_beginPiece_52 hO 36 rfl (by decide) (by omega) (by omega) ?_
  refine v_dup2 hc dX7_beginPiece_53 rfl rfl ?_
  refine r_iald hc dX7_beginPiece_54 hO 50 rfl (by decide) (by omega) (by omega) ?_
  refine z_iconst hc dX7_beginPiece_55 ?_
  refine z_iadd hc dX7_beginPiece_56 ?_
  refine r_iastf hc dX7_beginPiece_57 hO hfr 50 rfl (by decide) (by omega) (by omega) (by first | assumption | exact hi _ | exact ha _ _ | (unfold zb; omega)) (fun h a_5 g_5 k_5 hO hfr => ?_)
  have ha := hO.2.2.2.2
  have hfe := hIfe (a 36 s.toNat).toNat
  have ha36 : a_5 36 = a 36 := k_5 36 (by decide)
  have ha11 : a_5 11 = a 11 := k_5 11 (by decide)
  have hfe2 : 0 ≤ a_5 11 (a_5 36 s.toNat).toNat ∧ a_5 11 (a_5 36 s.toNat).toNat ≤ 999 := by rw [ha36, ha11]; exact hfe
  have hs12 : 0 ≤ a_5 36 s.toNat ∧ a_5 36 s.toNat ≤ 11 := by rw [ha36]; omega
  refine v_aload_n hc dX7_beginPiece_58 rfl ?_
  refine v_dup hc dX7_beginPiece_59 rfl ?_
  refine r_get hc ho dX7_beginPiece_60 F_X7_224 hO rfl ?_
  refine v_aload_n hc dX7_beginPiece_63 rfl ?_
  refine r_getA hc ho dX7_beginPiece_64 F_X7_35 hO rfl ?_
  refine v_aload_n hc dX7_beginPiece_67 rfl ?_
  refine r_getA hc ho dX7_beginPiece_68 F_X7_94 hO rfl ?_
  refine v_iload_n hc dX7_beginPiece_71 rfl ?_
  refine r_iald hc dX7_beginPiece_72 hO 36 rfl (by decide) (by omega) (by omega) ?_
  refine r_iald hc dX7_beginPiece_73 hO 11 rfl (by decide) (by omega) (by omega) ?_
  refine z_iadd hc dX7_beginPiece_74 ?_
  refine r_putIf hc ho dX7_beginPiece_75 F_X7_224 hO hfr rfl (by first | assumption | exact hi _ | exact ha _ _ | (unfold zb; omega)) (fun h i_6 g_6 k_6 hO hfr => ?_)
  have hi := hO.2.2.2.1
  have e_6_5 := k_6 5 (by decide)
  have e_6_33 := k_6 33 (by decide)
  have e_6_34 := k_6 34 (by decide)
  have e_6_35 := k_6 35 (by decide)
  have e_6_41 := k_6 41 (by decide)
  have e_6_42 := k_6 42 (by decide)
  have e_6_43 := k_6 43 (by decide)
  have e_6_44 := k_6 44 (by decide)
  have e_6_45 := k_6 45 (by decide)
  have e_6_46 := k_6 46 (by decide)
  have e_6_47 := k_6 47 (by decide)
  have e_6_48 := k_6 48 (by decide)
  have e_6_52 := k_6 52 (by decide)
  refine v_aload_n hc dX7_beginPiece_78 rfl ?_
  refine v_dup hc dX7_beginPiece_79 rfl ?_
  refine r_get hc ho dX7_beginPiece_80 F_X7_227 hO rfl ?_
  refine z_iconst hc dX7_beginPiece_83 ?_
  refine z_iadd hc dX7_beginPiece_84 ?_
  refine r_putIf hc ho dX7_beginPiece_85 F_X7_227 hO hfr rfl (by first | assumption | exact hi _ | exact ha _ _ | (unfold zb; omega)) (fun h i_7 g_7 k_7 hO hfr => ?_)
  have hi := hO.2.2.2.1
  have e_7_5 := k_7 5 (by decide)
  have e_7_33 := k_7 33 (by decide)
  have e_7_34 := k_7 34 (by decide)
  have e_7_35 := k_7 35 (by decide)
  have e_7_41 := k_7 41 (by decide)
  have e_7_42 := k_7 42 (by decide)
  have e_7_43 := k_7 43 (by decide)
  have e_7_44 := k_7 44 (by decide)
  have e_7_45 := k_7 45 (by decide)
  have e_7_46 := k_7 46 (by decide)
  have e_7_47 := k_7 47 (by decide)
  have e_7_48 := k_7 48 (by decide)
  have e_7_51 := k_7 51 (by decide)
  refine v_vret M dX7_beginPiece_88 (by omega) (by omega) ?_
  exact ⟨rfl, i_7, a_5, ⟨rfl, by omega, by omega, by omega, by omega, by rw [e_7_51, g_6, k_5 36 (by decide), k_5 11 (by decide)]; omega, by omega, fun u hu => by simp only [List.mem_cons, List.not_mem_nil, or_false, not_or] at hu; rw [k_7 u (by omega), k_6 u (by omega), k_4 u (by omega), k_3 u (by omega), k_2 u (by omega), k_1 u (by omega)], g_5, k_5⟩, hO, hfr⟩
set_option maxHeartbeats 4000000 in
theorem c_X7_endBlock (l : Launch) (G : b_G) {o : Nat} {ad : Nat → Nat} {i : Nat → Int} {a : Nat → Nat → Int} {h : b_H} {sz : Nat} (hO : r_O K7 7 o ad i a h) (hP : m_P i a) (hQ : m_Q i a) (hJ : m_J i a) {c : Int} (hC : m_C c i a) (hcc : c ≤ 2000000) : Con l G yX7_endBlock cX7_endBlock 4 none 1 21 0 0 [.ref o] h sz (p_wr K7 7 o ad h sz (fun r i2 a2 => r = none ∧ m_eb i a i2 a2)) := by
  refine Con.ofK (by decide +kernel) rfl rfl ?_
  intro S M
  have hc := M.2.2.2.1
  have ho : s_own S = RX7 := M.2.2.1
  have hFr : (s_R S).frames = 1 := by rw [M.2.2.2.2.2.2.2.1]
  have hLo : (s_R S).locals = 21 := by rw [M.2.2.2.2.2.2.2.1]
  have hCe : (s_R S).cells = 0 := by rw [M.2.2.2.2.2.2.2.1]
  have hSl : (s_R S).slots = 0 := by rw [M.2.2.2.2.2.2.2.1]
  have hi := hO.2.2.2.1
  have ha := hO.2.2.2.2
  obtain ⟨hI5, hIbk, hIsf, hIky, hImd, hIth, hIfe, hIbt, hIb1, hIhw, hInx, hIen⟩ := id hP
  obtain ⟨hn1, hn2, hn3, hn4, hn5, hn6, hn7, hn8, hn9, hn10, hn11⟩ := id hJ
  have hfr : ∀ b, ¬ r_own K7 o ad b → h b = h b := fun _ _ => rfl
  refine v_aload_n hc dX7_endBlock_0 rfl ?_
  refine r_get hc ho dX7_endBlock_1 F_X7_212 hO rfl ?_
  refine v_istore_n hc dX7_endBlock_4 (Nat.le_of_ble_eq_true rfl) ?_
  obtain ⟨hs1, hs2, hs3, hs4, hs5⟩ := hQ (i 42).toNat (by omega)
  have hbkp := hIbk (a 36 (i 42).toNat).toNat
  have hmn := hs5 (min (i 44) (a 39 (i 42).toNat - 1)).toNat (by omega)
  rw [show 16 * (i 42).toNat + (min (i 44) (a 39 (i 42).toNat - 1)).toNat = (16 * i 42 + min (i 44) (a 39 (i 42).toNat - 1)).toNat by omega] at hmn
  have hmn2 := hs5 (min (i 44 + 1) (a 39 (i 42).toNat - 1)).toNat (by omega)
  rw [show 16 * (i 42).toNat + (min (i 44 + 1) (a 39 (i 42).toNat - 1)).toNat = (16 * i 42 + min (i 44 + 1) (a 39 (i 42).toNat - 1)).toNat by omega] at hmn2
  obtain ⟨bk, hbk⟩ : ∃ v, m_bk i a = v := ⟨_, rfl⟩
  have hbk2 : (a 40 (16 * i 42 + min (i 44) (a 39 (i 42).toNat - 1)).toNat) = bk := hbk
  rw [hbk2] at hmn
  have hhow := hIhw (8 * a 36 (i 42).toNat + bk).toNat
  have hsn := hn11 (i 42 + 1).toNat (by omega)
  have hbt2 := hIbt (8 * a 36 (i 42).toNat + a 40 (16 * i 42 + min (i 44 + 1) (a 39 (i 42).toNat - 1)).toNat).toNat
  have hc2 := hC.2.1
  have hc3 := hC.2.2
  refine z_bipush hc dX7_endBlock_5 (by decide) ?_
  refine v_aload_n hc dX7_endBlock_7 rfl ?_
  refine r_getA hc ho dX7_endBlock_8 F_X7_94 hO rfl ?_
  refine v_iload_n hc dX7_endBlock_11 rfl ?_
  refine r_iald hc dX7_endBlock_12 hO 36 rfl (by decide) (by omega) (by omega) ?_
  refine z_imul hc dX7_endBlock_13 ?_
  refine v_aload_n hc dX7_endBlock_14 rfl ?_
  refine v_callV (As := []) hc ho dX7_endBlock_15 KV_X7_264 KB_X7_blockNow hO.1 rfl rfl (c_X7_blockNow _ _ hO (by omega) (by omega) (by omega)) rfl (Nat.le_of_ble_eq_true rfl) ⟨by omega, by omega⟩ ⟨by omega, by omega⟩ (fun r_ h_ sz_ q_ z_ => ?_)
  obtain ⟨rfl, eh_, es_⟩ := q_
  have eh_ := eh_.symm
  subst eh_
  have es_ := es_.symm
  subst es_
  rw [hbk2]
  refine z_iadd hc dX7_endBlock_18 ?_
  refine v_istore_n hc dX7_endBlock_19 (Nat.le_of_ble_eq_true rfl) ?_
  refine v_aload_n hc dX7_endBlock_20 rfl ?_
  refine r_get hc ho dX7_endBlock_21 F_X7_218 hO rfl ?_
  refine v_aload_n hc dX7_endBlock_24 rfl ?_
  refine r_getA hc ho dX7_endBlock_25 F_X7_103 hO rfl ?_
  refine v_iload_n hc dX7_endBlock_28 rfl ?_
  refine r_iald hc dX7_endBlock_29 hO 39 rfl (by decide) (by omega) (by omega) ?_
  refine z_iconst hc dX7_endBlock_30 ?_
  refine z_isub hc dX7_endBlock_31 ?_
  refine z_icmp_lt (tgt := 39) hc dX7_endBlock_32 (by decide) (by first | assumption | exact hi _ | exact ha _ _ | (unfold zb; omega)) (by first | assumption | exact hi _ | exact ha _ _ | (unfold zb; omega)) (fun c_1 => ?_) (fun c_1 => ?_)
  · refine z_iconst hc dX7_endBlock_39 ?_
    refine v_istore_n hc dX7_endBlock_40 (Nat.le_of_ble_eq_true rfl) ?_
    refine v_iload_n hc dX7_endBlock_41 rfl ?_
    refine v_aload_n hc dX7_endBlock_42 rfl ?_
    refine r_get hc ho dX7_endBlock_43 F_X7_240 hO rfl ?_
    refine z_iconst hc dX7_endBlock_46 ?_
    refine z_isub hc dX7_endBlock_47 ?_
    refine z_icmp_ne (tgt := 61) hc dX7_endBlock_48 (by decide) (by first | assumption | exact hi _ | exact ha _ _ | (unfold zb; omega)) (by first | assumption | exact hi _ | exact ha _ _ | (unfold zb; omega)) (fun c_2 => ?_) (fun c_2 => ?_)
    · refine v_aload_n hc dX7_endBlock_61 rfl ?_
      refine r_get hc ho dX7_endBlock_62 F_X7_252 hO rfl ?_
      refine v_iload_n hc dX7_endBlock_65 rfl ?_
      refine z_icmp_le (tgt := 111) hc dX7_endBlock_66 (by decide) (by first | assumption | exact hi _ | exact ha _ _ | (unfold zb; omega)) (by first | assumption | exact hi _ | exact ha _ _ | (unfold zb; omega)) (fun c_3 => ?_) (fun c_3 => ?_)
      · refine v_aload_n hc dX7_endBlock_111 rfl ?_
        refine v_dup hc dX7_endBlock_112 rfl ?_
        refine r_get hc ho dX7_endBlock_113 F_X7_218 hO rfl ?_
        refine z_iconst hc dX7_endBlock_116 ?_
        refine z_iadd hc dX7_endBlock_117 ?_
        refine r_putIf hc ho dX7_endBlock_118 F_X7_218 hO hfr rfl (by first | assumption | exact hi _ | exact ha _ _ | (unfold zb; omega)) (fun h i_4 g_4 k_4 hO hfr => ?_)
        have hi := hO.2.2.2.1
        have e_4_5 := k_4 5 (by decide)
        have e_4_33 := k_4 33 (by decide)
        have e_4_34 := k_4 34 (by decide)
        have e_4_35 := k_4 35 (by decide)
        have e_4_41 := k_4 41 (by decide)
        have e_4_42 := k_4 42 (by decide)
        have e_4_43 := k_4 43 (by decide)
        have e_4_45 := k_4 45 (by decide)
        have e_4_46 := k_4 46 (by decide)
        have e_4_47 := k_4 47 (by decide)
        have e_4_48 := k_4 48 (by decide)
        have e_4_51 := k_4 51 (by decide)
        have e_4_52 := k_4 52 (by decide)
        refine v_iload_n hc dX7_endBlock_121 rfl ?_
        refine z_if_eq (tgt := 135) hc dX7_endBlock_122 (by decide) (by first | assumption | exact hi _ | exact ha _ _ | (unfold zb; omega)) (fun c_5 => ?_) (fun c_5 => absurd c_5 (by decide))
        refine v_aload_n hc dX7_endBlock_135 rfl ?_
        refine v_dup hc dX7_endBlock_136 rfl ?_
        refine r_get hc ho dX7_endBlock_137 F_X7_221 hO rfl ?_
        refine v_aload_n hc dX7_endBlock_140 rfl ?_
        refine r_getA hc ho dX7_endBlock_141 F_X7_41 hO rfl ?_
        refine z_bipush hc dX7_endBlock_144 (by decide) ?_
        refine v_aload_n hc dX7_endBlock_146 rfl ?_
        refine r_getA hc ho dX7_endBlock_147 F_X7_94 hO rfl ?_
        refine v_iload_n hc dX7_endBlock_150 rfl ?_
        refine r_iald hc dX7_endBlock_151 hO 36 rfl (by decide) (by omega) (by omega) ?_
        refine z_imul hc dX7_endBlock_152 ?_
        refine v_aload_n hc dX7_endBlock_153 rfl ?_
        refine v_callV (As := []) hc ho dX7_endBlock_154 KV_X7_264 KB_X7_blockNow hO.1 rfl rfl (c_X7_blockNow _ _ hO (by omega) (by omega) (by rw [show i_4 42 = i 42 by omega]; omega)) rfl (Nat.le_of_ble_eq_true rfl) ⟨by omega, by omega⟩ ⟨by omega, by omega⟩ (fun r_ h_ sz_ q_ z_ => ?_)
        obtain ⟨rfl, eh_, es_⟩ := q_
        have eh_ := eh_.symm
        subst eh_
        have es_ := es_.symm
        subst es_
        rw [show i_4 42 = i 42 by omega, show i_4 44 = i 44 + 1 by omega]
        refine z_iadd hc dX7_endBlock_157 ?_
        refine r_iald hc dX7_endBlock_158 hO 13 rfl (by decide) (by omega) (by omega) ?_
        refine z_iadd hc dX7_endBlock_159 ?_
        refine r_putIf hc ho dX7_endBlock_160 F_X7_221 hO hfr rfl (by first | assumption | exact hi _ | exact ha _ _ | (unfold zb; omega)) (fun h i_6 g_6 k_6 hO hfr => ?_)
        have hi := hO.2.2.2.1
        have e_6_5 := k_6 5 (by decide)
        have e_6_33 := k_6 33 (by decide)
        have e_6_34 := k_6 34 (by decide)
        have e_6_35 := k_6 35 (by decide)
        have e_6_41 := k_6 41 (by decide)
        have e_6_42 := k_6 42 (by decide)
        have e_6_43 := k_6 43 (by decide)
        have e_6_44 := k_6 44 (by decide)
        have e_6_46 := k_6 46 (by decide)
        have e_6_47 := k_6 47 (by decide)
        have e_6_48 := k_6 48 (by decide)
        have e_6_51 := k_6 51 (by decide)
        have e_6_52 := k_6 52 (by decide)
        refine v_vret M dX7_endBlock_163 (by omega) (by omega) ?_
        refine ⟨rfl, i_6, a, ⟨rfl, Or.inr (Or.inr ⟨by omega, ?_, by omega, by rw [if_neg (by omega)]; omega, ?_, fun u hu => by simp only [List.mem_cons, List.not_mem_nil, or_false, not_or] at hu; rw [k_6 u (by omega), k_4 u (by omega)], rfl⟩)⟩, hO, hfr⟩
        · rw [hbk]; omega
        · rw [g_6]; omega
      · refine v_aload_n hc dX7_endBlock_69 rfl ?_
        refine r_getA hc ho dX7_endBlock_70 F_X7_44 hO rfl ?_
        refine v_iload_n hc dX7_endBlock_73 rfl ?_
        refine r_iald hc dX7_endBlock_74 hO 14 rfl (by decide) (by omega) (by omega) ?_
        refine z_iconst hc dX7_endBlock_75 ?_
        refine v_iand hc dX7_endBlock_76 (zI_and1 (by omega) (by omega)) ?_
        refine z_iconst hc dX7_endBlock_77 ?_
        refine z_icmp_ne (tgt := 111) hc dX7_endBlock_78 (by decide) (by first | assumption | exact hi _ | exact ha _ _ | (unfold zb; omega)) (by first | assumption | exact hi _ | exact ha _ _ | (unfold zb; omega)) (fun c_7 => ?_) (fun c_7 => ?_)
        · refine v_aload_n hc dX7_endBlock_111 rfl ?_
          refine v_dup hc dX7_endBlock_112 rfl ?_
          refine r_get hc ho dX7_endBlock_113 F_X7_218 hO rfl ?_
          refine z_iconst hc dX7_endBlock_116 ?_
          refine z_iadd hc dX7_endBlock_117 ?_
          refine r_putIf hc ho dX7_endBlock_118 F_X7_218 hO hfr rfl (by first | assumption | exact hi _ | exact ha _ _ | (unfold zb; omega)) (fun h i_8 g_8 k_8 hO hfr => ?_)
          have hi := hO.2.2.2.1
          have e_8_5 := k_8 5 (by decide)
          have e_8_33 := k_8 33 (by decide)
          have e_8_34 := k_8 34 (by decide)
          have e_8_35 := k_8 35 (by decide)
          have e_8_41 := k_8 41 (by decide)
          have e_8_42 := k_8 42 (by decide)
          have e_8_43 := k_8 43 (by decide)
          have e_8_45 := k_8 45 (by decide)
          have e_8_46 := k_8 46 (by decide)
          have e_8_47 := k_8 47 (by decide)
          have e_8_48 := k_8 48 (by decide)
          have e_8_51 := k_8 51 (by decide)
          have e_8_52 := k_8 52 (by decide)
          refine v_iload_n hc dX7_endBlock_121 rfl ?_
          refine z_if_eq (tgt := 135) hc dX7_endBlock_122 (by decide) (by first | assumption | exact hi _ | exact ha _ _ | (unfold zb; omega)) (fun c_9 => ?_) (fun c_9 => absurd c_9 (by decide))
          refine v_aload_n hc dX7_endBlock_135 rfl ?_
          refine v_dup hc dX7_endBlock_136 rfl ?_
          refine r_get hc ho dX7_endBlock_137 F_X7_221 hO rfl ?_
          refine v_aload_n hc dX7_endBlock_140 rfl ?_
          refine r_getA hc ho dX7_endBlock_141 F_X7_41 hO rfl ?_
          refine z_bipush hc dX7_endBlock_144 (by decide) ?_
          refine v_aload_n hc dX7_endBlock_146 rfl ?_
          refine r_getA hc ho dX7_endBlock_147 F_X7_94 hO rfl ?_
          refine v_iload_n hc dX7_endBlock_150 rfl ?_
          refine r_iald hc dX7_endBlock_151 hO 36 rfl (by decide) (by omega) (by omega) ?_
          refine z_imul hc dX7_endBlock_152 ?_
          refine v_aload_n hc dX7_endBlock_153 rfl ?_
          refine v_callV (As := []) hc ho dX7_endBlock_154 KV_X7_264 KB_X7_blockNow hO.1 rfl rfl (c_X7_blockNow _ _ hO (by omega) (by omega) (by rw [show i_8 42 = i 42 by omega]; omega)) rfl (Nat.le_of_ble_eq_true rfl) ⟨by omega, by omega⟩ ⟨by omega, by omega⟩ (fun r_ h_ sz_ q_ z_ => ?_)
          obtain ⟨rfl, eh_, es_⟩ := q_
          have eh_ := eh_.symm
          subst eh_
          have es_ := es_.symm
          subst es_
          rw [show i_8 42 = i 42 by omega, show i_8 44 = i 44 + 1 by omega]
          refine z_iadd hc dX7_endBlock_157 ?_
          refine r_iald hc dX7_endBlock_158 hO 13 rfl (by decide) (by omega) (by omega) ?_
          refine z_iadd hc dX7_endBlock_159 ?_
          refine r_putIf hc ho dX7_endBlock_160 F_X7_221 hO hfr rfl (by first | assumption | exact hi _ | exact ha _ _ | (unfold zb; omega)) (fun h i_10 g_10 k_10 hO hfr => ?_)
          have hi := hO.2.2.2.1
          have e_10_5 := k_10 5 (by decide)
          have e_10_33 := k_10 33 (by decide)
          have e_10_34 := k_10 34 (by decide)
          have e_10_35 := k_10 35 (by decide)
          have e_10_41 := k_10 41 (by decide)
          have e_10_42 := k_10 42 (by decide)
          have e_10_43 := k_10 43 (by decide)
          have e_10_44 := k_10 44 (by decide)
          have e_10_46 := k_10 46 (by decide)
          have e_10_47 := k_10 47 (by decide)
          have e_10_48 := k_10 48 (by decide)
          have e_10_51 := k_10 51 (by decide)
          have e_10_52 := k_10 52 (by decide)
          refine v_vret M dX7_endBlock_163 (by omega) (by omega) ?_
          refine ⟨rfl, i_10, a, ⟨rfl, Or.inr (Or.inr ⟨by omega, ?_, by omega, by rw [if_neg (by omega)]; omega, ?_, fun u hu => by simp only [List.mem_cons, List.not_mem_nil, or_false, not_or] at hu; rw [k_10 u (by omega), k_8 u (by omega)], rfl⟩)⟩, hO, hfr⟩
          · rw [hbk]; omega
          · rw [g_10]; omega
        · refine v_aload_n hc dX7_endBlock_81 rfl ?_
          refine v_dup hc dX7_endBlock_82 rfl ?_
          refine r_get hc ho dX7_endBlock_83 F_X7_249 hO rfl ?_
          refine v_aload_n hc dX7_endBlock_86 rfl ?_
          refine r_get hc ho dX7_endBlock_87 F_X7_243 hO rfl ?_
          refine v_aload_n hc dX7_endBlock_90 rfl ?_
          refine r_getA hc ho dX7_endBlock_91 F_X7_109 hO rfl ?_
          refine v_iload_n hc dX7_endBlock_94 rfl ?_
          refine z_iconst hc dX7_endBlock_95 ?_
          refine z_iadd hc dX7_endBlock_96 ?_
          refine r_iald hc dX7_endBlock_97 hO 49 rfl (by decide) (by omega) (by omega) ?_
          refine z_isub hc dX7_endBlock_98 ?_
          refine z_iadd hc dX7_endBlock_99 ?_
          refine r_putIf hc ho dX7_endBlock_100 F_X7_249 hO hfr rfl (by first | assumption | exact hi _ | exact ha _ _ | (unfold zb; omega)) (fun h i_11 g_11 k_11 hO hfr => ?_)
          have hi := hO.2.2.2.1
          have e_11_5 := k_11 5 (by decide)
          have e_11_33 := k_11 33 (by decide)
          have e_11_34 := k_11 34 (by decide)
          have e_11_35 := k_11 35 (by decide)
          have e_11_41 := k_11 41 (by decide)
          have e_11_42 := k_11 42 (by decide)
          have e_11_43 := k_11 43 (by decide)
          have e_11_44 := k_11 44 (by decide)
          have e_11_45 := k_11 45 (by decide)
          have e_11_46 := k_11 46 (by decide)
          have e_11_48 := k_11 48 (by decide)
          have e_11_51 := k_11 51 (by decide)
          have e_11_52 := k_11 52 (by decide)
          refine v_aload_n hc dX7_endBlock_103 rfl ?_
          refine v_iload_n hc dX7_endBlock_104 rfl ?_
          refine z_iconst hc dX7_endBlock_105 ?_
          refine z_iadd hc dX7_endBlock_106 ?_
          refine v_callV (As := [.int (zI (i 42 + 1))]) hc ho dX7_endBlock_107 KV_X7_255 KB_X7_beginPiece hO.1 rfl rfl (c_X7_beginPiece _ _ hO (s := i 42 + 1) (by omega) (m_P_i hP (k_11 5 (by decide))) (fun s hs => by rw [k_11 5 (by decide)]; exact hQ s (by omega)) (c := c) ⟨hC.1, by omega, by omega⟩ hcc) rfl (Nat.le_of_ble_eq_true rfl) ⟨by omega, by omega⟩ ⟨by omega, by omega⟩ (fun r_ h_ sz_ q_ z_ => ?_)
          obtain ⟨e1_, i9, a9, ⟨rfl, hb9⟩, hO9, hfr9⟩ := q_
          have e1_ := e1_.symm
          subst e1_
          refine v_vret M dX7_endBlock_110 (by omega) (by omega) ?_
          exact ⟨rfl, i9, a9, ⟨rfl, Or.inr (Or.inl ⟨⟨by omega, by omega, by rw [hbk]; omega⟩, i_11, g_11, fun u hu => k_11 u (by simpa using hu), hb9⟩)⟩, hO9, fun b hb => (hfr9 b hb).trans (hfr b hb)⟩
    · refine v_iload_n hc dX7_endBlock_51 rfl ?_
      refine z_if_eq (tgt := 111) hc dX7_endBlock_52 (by decide) (by first | assumption | exact hi _ | exact ha _ _ | (unfold zb; omega)) (fun c_12 => ?_) (fun c_12 => absurd c_12 (by decide))
      refine v_aload_n hc dX7_endBlock_111 rfl ?_
      refine v_dup hc dX7_endBlock_112 rfl ?_
      refine r_get hc ho dX7_endBlock_113 F_X7_218 hO rfl ?_
      refine z_iconst hc dX7_endBlock_116 ?_
      refine z_iadd hc dX7_endBlock_117 ?_
      refine r_putIf hc ho dX7_endBlock_118 F_X7_218 hO hfr rfl (by first | assumption | exact hi _ | exact ha _ _ | (unfold zb; omega)) (fun h i_13 g_13 k_13 hO hfr => ?_)
      have hi := hO.2.2.2.1
      have e_13_5 := k_13 5 (by decide)
      have e_13_33 := k_13 33 (by decide)
      have e_13_34 := k_13 34 (by decide)
      have e_13_35 := k_13 35 (by decide)
      have e_13_41 := k_13 41 (by decide)
      have e_13_42 := k_13 42 (by decide)
      have e_13_43 := k_13 43 (by decide)
      have e_13_45 := k_13 45 (by decide)
      have e_13_46 := k_13 46 (by decide)
      have e_13_47 := k_13 47 (by decide)
      have e_13_48 := k_13 48 (by decide)
      have e_13_51 := k_13 51 (by decide)
      have e_13_52 := k_13 52 (by decide)
      refine v_iload_n hc dX7_endBlock_121 rfl ?_
      refine z_if_eq (tgt := 135) hc dX7_endBlock_122 (by decide) (by first | assumption | exact hi _ | exact ha _ _ | (unfold zb; omega)) (fun c_14 => ?_) (fun c_14 => absurd c_14 (by decide))
      refine v_aload_n hc dX7_endBlock_135 rfl ?_
      refine v_dup hc dX7_endBlock_136 rfl ?_
      refine r_get hc ho dX7_endBlock_137 F_X7_221 hO rfl ?_
      refine v_aload_n hc dX7_endBlock_140 rfl ?_
      refine r_getA hc ho dX7_endBlock_141 F_X7_41 hO rfl ?_
      refine z_bipush hc dX7_endBlock_144 (by decide) ?_
      refine v_aload_n hc dX7_endBlock_146 rfl ?_
      refine r_getA hc ho dX7_endBlock_147 F_X7_94 hO rfl ?_
      refine v_iload_n hc dX7_endBlock_150 rfl ?_
      refine r_iald hc dX7_endBlock_151 hO 36 rfl (by decide) (by omega) (by omega) ?_
      refine z_imul hc dX7_endBlock_152 ?_
      refine v_aload_n hc dX7_endBlock_153 rfl ?_
      refine v_callV (As := []) hc ho dX7_endBlock_154 KV_X7_264 KB_X7_blockNow hO.1 rfl rfl (c_X7_blockNow _ _ hO (by omega) (by omega) (by rw [show i_13 42 = i 42 by omega]; omega)) rfl (Nat.le_of_ble_eq_true rfl) ⟨by omega, by omega⟩ ⟨by omega, by omega⟩ (fun r_ h_ sz_ q_ z_ => ?_)
      obtain ⟨rfl, eh_, es_⟩ := q_
      have eh_ := eh_.symm
      subst eh_
      have es_ := es_.symm
      subst es_
      rw [show i_13 42 = i 42 by omega, show i_13 44 = i 44 + 1 by omega]
      refine z_iadd hc dX7_endBlock_157 ?_
      refine r_iald hc dX7_endBlock_158 hO 13 rfl (by decide) (by omega) (by omega) ?_
      refine z_iadd hc dX7_endBlock_159 ?_
      refine r_putIf hc ho dX7_endBlock_160 F_X7_221 hO hfr rfl (by first | assumption | exact hi _ | exact ha _ _ | (unfold zb; omega)) (fun h i_15 g_15 k_15 hO hfr => ?_)
      have hi := hO.2.2.2.1
      have e_15_5 := k_15 5 (by decide)
      have e_15_33 := k_15 33 (by decide)
      have e_15_34 := k_15 34 (by decide)
      have e_15_35 := k_15 35 (by decide)
      have e_15_41 := k_15 41 (by decide)
      have e_15_42 := k_15 42 (by decide)
      have e_15_43 := k_15 43 (by decide)
      have e_15_44 := k_15 44 (by decide)
      have e_15_46 := k_15 46 (by decide)
      have e_15_47 := k_15 47 (by decide)
      have e_15_48 := k_15 48 (by decide)
      have e_15_51 := k_15 51 (by decide)
      have e_15_52 := k_15 52 (by decide)
      refine v_vret M dX7_endBlock_163 (by omega) (by omega) ?_
      refine ⟨rfl, i_15, a, ⟨rfl, Or.inr (Or.inr ⟨by omega, ?_, by omega, by rw [if_neg (by omega)]; omega, ?_, fun u hu => by simp only [List.mem_cons, List.not_mem_nil, or_false, not_or] at hu; rw [k_15 u (by omega), k_13 u (by omega)], rfl⟩)⟩, hO, hfr⟩
      · rw [hbk]; omega
      · rw [g_15]; omega
  · refine z_iconst hc dX7_endBlock_35 ?_
    refine v_goto (tgt := 40) hc dX7_endBlock_36 (by decide) ?_
    refine v_istore_n hc dX7_endBlock_40 (Nat.le_of_ble_eq_true rfl) ?_
    refine v_iload_n hc dX7_endBlock_41 rfl ?_
    refine v_aload_n hc dX7_endBlock_42 rfl ?_
    refine r_get hc ho dX7_endBlock_43 F_X7_240 hO rfl ?_
    refine z_iconst hc dX7_endBlock_46 ?_
    refine z_isub hc dX7_endBlock_47 ?_
    refine z_icmp_ne (tgt := 61) hc dX7_endBlock_48 (by decide) (by first | assumption | exact hi _ | exact ha _ _ | (unfold zb; omega)) (by first | assumption | exact hi _ | exact ha _ _ | (unfold zb; omega)) (fun c_16 => ?_) (fun c_16 => ?_)
    · refine v_aload_n hc dX7_endBlock_61 rfl ?_
      refine r_get hc ho dX7_endBlock_62 F_X7_252 hO rfl ?_
      refine v_iload_n hc dX7_endBlock_65 rfl ?_
      refine z_icmp_le (tgt := 111) hc dX7_endBlock_66 (by decide) (by first | assumption | exact hi _ | exact ha _ _ | (unfold zb; omega)) (by first | assumption | exact hi _ | exact ha _ _ | (unfold zb; omega)) (fun c_17 => ?_) (fun c_17 => ?_)
      · refine v_aload_n hc dX7_endBlock_111 rfl ?_
        refine v_dup hc dX7_endBlock_112 rfl ?_
        refine r_get hc ho dX7_endBlock_113 F_X7_218 hO rfl ?_
        refine z_iconst hc dX7_endBlock_116 ?_
        refine z_iadd hc dX7_endBlock_117 ?_
        refine r_putIf hc ho dX7_endBlock_118 F_X7_218 hO hfr rfl (by first | assumption | exact hi _ | exact ha _ _ | (unfold zb; omega)) (fun h i_18 g_18 k_18 hO hfr => ?_)
        have hi := hO.2.2.2.1
        have e_18_5 := k_18 5 (by decide)
        have e_18_33 := k_18 33 (by decide)
        have e_18_34 := k_18 34 (by decide)
        have e_18_35 := k_18 35 (by decide)
        have e_18_41 := k_18 41 (by decide)
        have e_18_42 := k_18 42 (by decide)
        have e_18_43 := k_18 43 (by decide)
        have e_18_45 := k_18 45 (by decide)
        have e_18_46 := k_18 46 (by decide)
        have e_18_47 := k_18 47 (by decide)
        have e_18_48 := k_18 48 (by decide)
        have e_18_51 := k_18 51 (by decide)
        have e_18_52 := k_18 52 (by decide)
        refine v_iload_n hc dX7_endBlock_121 rfl ?_
        refine z_if_eq (tgt := 135) hc dX7_endBlock_122 (by decide) (by first | assumption | exact hi _ | exact ha _ _ | (unfold zb; omega)) (fun c_19 => absurd c_19 (by decide)) (fun c_19 => ?_)
        refine v_aload_n hc dX7_endBlock_125 rfl ?_
        refine v_dup hc dX7_endBlock_126 rfl ?_
        refine r_get hc ho dX7_endBlock_127 F_X7_246 hO rfl ?_
        refine z_iconst hc dX7_endBlock_130 ?_
        refine z_iadd hc dX7_endBlock_131 ?_
        refine r_putIf hc ho dX7_endBlock_132 F_X7_246 hO hfr rfl (by first | assumption | exact hi _ | exact ha _ _ | (unfold zb; omega)) (fun h i_20 g_20 k_20 hO hfr => ?_)
        have hi := hO.2.2.2.1
        have e_20_5 := k_20 5 (by decide)
        have e_20_33 := k_20 33 (by decide)
        have e_20_34 := k_20 34 (by decide)
        have e_20_35 := k_20 35 (by decide)
        have e_20_41 := k_20 41 (by decide)
        have e_20_42 := k_20 42 (by decide)
        have e_20_43 := k_20 43 (by decide)
        have e_20_44 := k_20 44 (by decide)
        have e_20_45 := k_20 45 (by decide)
        have e_20_47 := k_20 47 (by decide)
        have e_20_48 := k_20 48 (by decide)
        have e_20_51 := k_20 51 (by decide)
        have e_20_52 := k_20 52 (by decide)
        refine v_aload_n hc dX7_endBlock_135 rfl ?_
        refine v_dup hc dX7_endBlock_136 rfl ?_
        refine r_get hc ho dX7_endBlock_137 F_X7_221 hO rfl ?_
        refine v_aload_n hc dX7_endBlock_140 rfl ?_
        refine r_getA hc ho dX7_endBlock_141 F_X7_41 hO rfl ?_
        refine z_bipush hc dX7_endBlock_144 (by decide) ?_
        refine v_aload_n hc dX7_endBlock_146 rfl ?_
        refine r_getA hc ho dX7_endBlock_147 F_X7_94 hO rfl ?_
        refine v_iload_n hc dX7_endBlock_150 rfl ?_
        refine r_iald hc dX7_endBlock_151 hO 36 rfl (by decide) (by omega) (by omega) ?_
        refine z_imul hc dX7_endBlock_152 ?_
        refine v_aload_n hc dX7_endBlock_153 rfl ?_
        refine v_callV (As := []) hc ho dX7_endBlock_154 KV_X7_264 KB_X7_blockNow hO.1 rfl rfl (c_X7_blockNow _ _ hO (by omega) (by omega) (by rw [show i_20 42 = i 42 by omega]; omega)) rfl (Nat.le_of_ble_eq_true rfl) ⟨by omega, by omega⟩ ⟨by omega, by omega⟩ (fun r_ h_ sz_ q_ z_ => ?_)
        obtain ⟨rfl, eh_, es_⟩ := q_
        have eh_ := eh_.symm
        subst eh_
        have es_ := es_.symm
        subst es_
        rw [show i_20 42 = i 42 by omega, show i_20 44 = i 44 + 1 by omega]
        refine z_iadd hc dX7_endBlock_157 ?_
        refine r_iald hc dX7_endBlock_158 hO 13 rfl (by decide) (by omega) (by omega) ?_
        refine z_iadd hc dX7_endBlock_159 ?_
        refine r_putIf hc ho dX7_endBlock_160 F_X7_221 hO hfr rfl (by first | assumption | exact hi _ | exact ha _ _ | (unfold zb; omega)) (fun h i_21 g_21 k_21 hO hfr => ?_)
        have hi := hO.2.2.2.1
        have e_21_5 := k_21 5 (by decide)
        have e_21_33 := k_21 33 (by decide)
        have e_21_34 := k_21 34 (by decide)
        have e_21_35 := k_21 35 (by decide)
        have e_21_41 := k_21 41 (by decide)
        have e_21_42 := k_21 42 (by decide)
        have e_21_43 := k_21 43 (by decide)
        have e_21_44 := k_21 44 (by decide)
        have e_21_46 := k_21 46 (by decide)
        have e_21_47 := k_21 47 (by decide)
        have e_21_48 := k_21 48 (by decide)
        have e_21_51 := k_21 51 (by decide)
        have e_21_52 := k_21 52 (by decide)
        refine v_vret M dX7_endBlock_163 (by omega) (by omega) ?_
        refine ⟨rfl, i_21, a, ⟨rfl, Or.inr (Or.inr ⟨by omega, ?_, by omega, by rw [if_pos (by omega)]; omega, ?_, fun u hu => by simp only [List.mem_cons, List.not_mem_nil, or_false, not_or] at hu; rw [k_21 u (by omega), k_20 u (by omega), k_18 u (by omega)], rfl⟩)⟩, hO, hfr⟩
        · rw [hbk]; omega
        · rw [g_21]; omega
      · refine v_aload_n hc dX7_endBlock_69 rfl ?_
        refine r_getA hc ho dX7_endBlock_70 F_X7_44 hO rfl ?_
        refine v_iload_n hc dX7_endBlock_73 rfl ?_
        refine r_iald hc dX7_endBlock_74 hO 14 rfl (by decide) (by omega) (by omega) ?_
        refine z_iconst hc dX7_endBlock_75 ?_
        refine v_iand hc dX7_endBlock_76 (zI_and1 (by omega) (by omega)) ?_
        refine z_iconst hc dX7_endBlock_77 ?_
        refine z_icmp_ne (tgt := 111) hc dX7_endBlock_78 (by decide) (by first | assumption | exact hi _ | exact ha _ _ | (unfold zb; omega)) (by first | assumption | exact hi _ | exact ha _ _ | (unfold zb; omega)) (fun c_22 => ?_) (fun c_22 => ?_)
        · refine v_aload_n hc dX7_endBlock_111 rfl ?_
          refine v_dup hc dX7_endBlock_112 rfl ?_
          refine r_get hc ho dX7_endBlock_113 F_X7_218 hO rfl ?_
          refine z_iconst hc dX7_endBlock_116 ?_
          refine z_iadd hc dX7_endBlock_117 ?_
          refine r_putIf hc ho dX7_endBlock_118 F_X7_218 hO hfr rfl (by first | assumption | exact hi _ | exact ha _ _ | (unfold zb; omega)) (fun h i_23 g_23 k_23 hO hfr => ?_)
          have hi := hO.2.2.2.1
          have e_23_5 := k_23 5 (by decide)
          have e_23_33 := k_23 33 (by decide)
          have e_23_34 := k_23 34 (by decide)
          have e_23_35 := k_23 35 (by decide)
          have e_23_41 := k_23 41 (by decide)
          have e_23_42 := k_23 42 (by decide)
          have e_23_43 := k_23 43 (by decide)
          have e_23_45 := k_23 45 (by decide)
          have e_23_46 := k_23 46 (by decide)
          have e_23_47 := k_23 47 (by decide)
          have e_23_48 := k_23 48 (by decide)
          have e_23_51 := k_23 51 (by decide)
          have e_23_52 := k_23 52 (by decide)
          refine v_iload_n hc dX7_endBlock_121 rfl ?_
          refine z_if_eq (tgt := 135) hc dX7_endBlock_122 (by decide) (by first | assumption | exact hi _ | exact ha _ _ | (unfold zb; omega)) (fun c_24 => absurd c_24 (by decide)) (fun c_24 => ?_)
          refine v_aload_n hc dX7_endBlock_125 rfl ?_
          refine v_dup hc dX7_endBlock_126 rfl ?_
          refine r_get hc ho dX7_endBlock_127 F_X7_246 hO rfl ?_
          refine z_iconst hc dX7_endBlock_130 ?_
          refine z_iadd hc dX7_endBlock_131 ?_
          refine r_putIf hc ho dX7_endBlock_132 F_X7_246 hO hfr rfl (by first | assumption | exact hi _ | exact ha _ _ | (unfold zb; omega)) (fun h i_25 g_25 k_25 hO hfr => ?_)
          have hi := hO.2.2.2.1
          have e_25_5 := k_25 5 (by decide)
          have e_25_33 := k_25 33 (by decide)
          have e_25_34 := k_25 34 (by decide)
          have e_25_35 := k_25 35 (by decide)
          have e_25_41 := k_25 41 (by decide)
          have e_25_42 := k_25 42 (by decide)
          have e_25_43 := k_25 43 (by decide)
          have e_25_44 := k_25 44 (by decide)
          have e_25_45 := k_25 45 (by decide)
          have e_25_47 := k_25 47 (by decide)
          have e_25_48 := k_25 48 (by decide)
          have e_25_51 := k_25 51 (by decide)
          have e_25_52 := k_25 52 (by decide)
          refine v_aload_n hc dX7_endBlock_135 rfl ?_
          refine v_dup hc dX7_endBlock_136 rfl ?_
          refine r_get hc ho dX7_endBlock_137 F_X7_221 hO rfl ?_
          refine v_aload_n hc dX7_endBlock_140 rfl ?_
          refine r_getA hc ho dX7_endBlock_141 F_X7_41 hO rfl ?_
          refine z_bipush hc dX7_endBlock_144 (by decide) ?_
          refine v_aload_n hc dX7_endBlock_146 rfl ?_
          refine r_getA hc ho dX7_endBlock_147 F_X7_94 hO rfl ?_
          refine v_iload_n hc dX7_endBlock_150 rfl ?_
          refine r_iald hc dX7_endBlock_151 hO 36 rfl (by decide) (by omega) (by omega) ?_
          refine z_imul hc dX7_endBlock_152 ?_
          refine v_aload_n hc dX7_endBlock_153 rfl ?_
          refine v_callV (As := []) hc ho dX7_endBlock_154 KV_X7_264 KB_X7_blockNow hO.1 rfl rfl (c_X7_blockNow _ _ hO (by omega) (by omega) (by rw [show i_25 42 = i 42 by omega]; omega)) rfl (Nat.le_of_ble_eq_true rfl) ⟨by omega, by omega⟩ ⟨by omega, by omega⟩ (fun r_ h_ sz_ q_ z_ => ?_)
          obtain ⟨rfl, eh_, es_⟩ := q_
          have eh_ := eh_.symm
          subst eh_
          have es_ := es_.symm
          subst es_
          rw [show i_25 42 = i 42 by omega, show i_25 44 = i 44 + 1 by omega]
          refine z_iadd hc dX7_endBlock_157 ?_
          refine r_iald hc dX7_endBlock_158 hO 13 rfl (by decide) (by omega) (by omega) ?_
          refine z_iadd hc dX7_endBlock_159 ?_
          refine r_putIf hc ho dX7_endBlock_160 F_X7_221 hO hfr rfl (by first | assumption | exact hi _ | exact ha _ _ | (unfold zb; omega)) (fun h i_26 g_26 k_26 hO hfr => ?_)
          have hi := hO.2.2.2.1
          have e_26_5 := k_26 5 (by decide)
          have e_26_33 := k_26 33 (by decide)
          have e_26_34 := k_26 34 (by decide)
          have e_26_35 := k_26 35 (by decide)
          have e_26_41 := k_26 41 (by decide)
          have e_26_42 := k_26 42 (by decide)
          have e_26_43 := k_26 43 (by decide)
          have e_26_44 := k_26 44 (by decide)
          have e_26_46 := k_26 46 (by decide)
          have e_26_47 := k_26 47 (by decide)
          have e_26_48 := k_26 48 (by decide)
          have e_26_51 := k_26 51 (by decide)
          have e_26_52 := k_26 52 (by decide)
          refine v_vret M dX7_endBlock_163 (by omega) (by omega) ?_
          refine ⟨rfl, i_26, a, ⟨rfl, Or.inr (Or.inr ⟨by omega, ?_, by omega, by rw [if_pos (by omega)]; omega, ?_, fun u hu => by simp only [List.mem_cons, List.not_mem_nil, or_false, not_or] at hu; rw [k_26 u (by omega), k_25 u (by omega), k_23 u (by omega)], rfl⟩)⟩, hO, hfr⟩
          · rw [hbk]; omega
          · rw [g_26]; omega
        · refine v_aload_n hc dX7_endBlock_81 rfl ?_
          refine v_dup hc dX7_endBlock_82 rfl ?_
          refine r_get hc ho dX7_endBlock_83 F_X7_249 hO rfl ?_
          refine v_aload_n hc dX7_endBlock_86 rfl ?_
          refine r_get hc ho dX7_endBlock_87 F_X7_243 hO rfl ?_
          refine v_aload_n hc dX7_endBlock_90 rfl ?_
          refine r_getA hc ho dX7_endBlock_91 F_X7_109 hO rfl ?_
          refine v_iload_n hc dX7_endBlock_94 rfl ?_
          refine z_iconst hc dX7_endBlock_95 ?_
          refine z_iadd hc dX7_endBlock_96 ?_
          refine r_iald hc dX7_endBlock_97 hO 49 rfl (by decide) (by omega) (by omega) ?_
          refine z_isub hc dX7_endBlock_98 ?_
          refine z_iadd hc dX7_endBlock_99 ?_
          refine r_putIf hc ho dX7_endBlock_100 F_X7_249 hO hfr rfl (by first | assumption | exact hi _ | exact ha _ _ | (unfold zb; omega)) (fun h i_27 g_27 k_27 hO hfr => ?_)
          have hi := hO.2.2.2.1
          have e_27_5 := k_27 5 (by decide)
          have e_27_33 := k_27 33 (by decide)
          have e_27_34 := k_27 34 (by decide)
          have e_27_35 := k_27 35 (by decide)
          have e_27_41 := k_27 41 (by decide)
          have e_27_42 := k_27 42 (by decide)
          have e_27_43 := k_27 43 (by decide)
          have e_27_44 := k_27 44 (by decide)
          have e_27_45 := k_27 45 (by decide)
          have e_27_46 := k_27 46 (by decide)
          have e_27_48 := k_27 48 (by decide)
          have e_27_51 := k_27 51 (by decide)
          have e_27_52 := k_27 52 (by decide)
          refine v_aload_n hc dX7_endBlock_103 rfl ?_
          refine v_iload_n hc dX7_endBlock_104 rfl ?_
          refine z_iconst hc dX7_endBlock_105 ?_
          refine z_iadd hc dX7_endBlock_106 ?_
          refine v_callV (As := [.int (zI (i 42 + 1))]) hc ho dX7_endBlock_107 KV_X7_255 KB_X7_beginPiece hO.1 rfl rfl (c_X7_beginPiece _ _ hO (s := i 42 + 1) (by omega) (m_P_i hP (k_27 5 (by decide))) (fun s hs => by rw [k_27 5 (by decide)]; exact hQ s (by omega)) (c := c) ⟨hC.1, by omega, by omega⟩ hcc) rfl (Nat.le_of_ble_eq_true rfl) ⟨by omega, by omega⟩ ⟨by omega, by omega⟩ (fun r_ h_ sz_ q_ z_ => ?_)
          obtain ⟨e1_, i9, a9, ⟨rfl, hb9⟩, hO9, hfr9⟩ := q_
          have e1_ := e1_.symm
          subst e1_
          refine v_vret M dX7_endBlock_110 (by omega) (by omega) ?_
          exact ⟨rfl, i9, a9, ⟨rfl, Or.inr (Or.inl ⟨⟨by omega, by omega, by rw [hbk]; omega⟩, i_27, g_27, fun u hu => k_27 u (by simpa using hu), hb9⟩)⟩, hO9, fun b hb => (hfr9 b hb).trans (hfr b hb)⟩
    · refine v_iload_n hc dX7_endBlock_51 rfl ?_
      refine z_if_eq (tgt := 111) hc dX7_endBlock_52 (by decide) (by first | assumption | exact hi _ | exact ha _ _ | (unfold zb; omega)) (fun c_28 => absurd c_28 (by decide)) (fun c_28 => ?_)
      refine v_aload_n hc dX7_endBlock_55 rfl ?_
      refine z_iconst hc dX7_endBlock_56 ?_
      refine r_putZf hc ho dX7_endBlock_57 F_X7_234 hO hfr rfl (by omega) (fun h i_29 g_29 k_29 hO hfr => ?_)
      have hi := hO.2.2.2.1
      have e_29_5 := k_29 5 (by decide)
      have e_29_34 := k_29 34 (by decide)
      have e_29_35 := k_29 35 (by decide)
      have e_29_41 := k_29 41 (by decide)
      have e_29_42 := k_29 42 (by decide)
      have e_29_43 := k_29 43 (by decide)
      have e_29_44 := k_29 44 (by decide)
      have e_29_45 := k_29 45 (by decide)
      have e_29_46 := k_29 46 (by decide)
      have e_29_47 := k_29 47 (by decide)
      have e_29_48 := k_29 48 (by decide)
      have e_29_51 := k_29 51 (by decide)
      have e_29_52 := k_29 52 (by decide)
      refine v_vret M dX7_endBlock_60 (by omega) (by omega) ?_
      exact ⟨rfl, i_29, a, ⟨rfl, Or.inl ⟨by omega, by omega, g_29, fun u hu => k_29 u (by simpa using hu), rfl⟩⟩, hO, hfr⟩
