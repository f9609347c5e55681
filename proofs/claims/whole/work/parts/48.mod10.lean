/-! the reference: tenth, go -/
theorem m_P_50 {i i2 : Nat → Int} {a a2 : Nat → Nat → Int} (h : m_P i a) (h5 : i2 5 = i 5) (hE : ∀ k, k ≠ 50 → a2 k = a k) : m_P i2 a2 := by
  unfold m_P at h ⊢
  rw [hE 12 (by decide), hE 8 (by decide), hE 9 (by decide), hE 6 (by decide), hE 7 (by decide), hE 10 (by decide), hE 11 (by decide), hE 13 (by decide), hE 14 (by decide), hE 15 (by decide), hE 16 (by decide), h5]
  exact h
theorem m_Q_50 {i i2 : Nat → Int} {a a2 : Nat → Nat → Int} (h : m_Q i a) (h5 : i2 5 = i 5) (h35 : i2 35 = i 35) (hE : ∀ k, k ≠ 50 → a2 k = a k) : m_Q i2 a2 := by
  unfold m_Q at h ⊢
  rw [hE 36 (by decide), hE 37 (by decide), hE 38 (by decide), hE 39 (by decide), hE 40 (by decide), hE 12 (by decide), h5, h35]
  exact h
/-- all that holds of the reference's night -/
def m_A (c : Int) (i : Nat → Int) (a : Nat → Nat → Int) : Prop := m_P i a ∧ m_Q i a ∧ m_N i a ∧ m_C c i a
theorem m_tn_ok {i i1 : Nat → Int} {a : Nat → Nat → Int} {i2 : Nat → Int} {a2 : Nat → Nat → Int} {c : Int} (hA : m_A c i a) (h33 : i 33 = 0) (h41 : i1 41 = i 41 + 1) (h43 : i1 43 = i 43 + 1) (hck : n_ck i i1 [41, 43]) (h41b : i 41 < 400000) (hc0 : 0 ≤ c) : (m_J i1 a ∧ m_P i1 a ∧ m_Q i1 a ∧ m_C c i1 a) ∧ (m_dn i1 a < i1 45 → m_A (c + 1) i1 a) ∧ (i1 45 ≤ m_dn i1 a → m_eb i1 a i2 a2 → m_A (c + 1) i2 a2 ∧ (i2 33 = 0 → m_dn i2 a2 < i2 45)) := by
  obtain ⟨hP, hQ, ⟨⟨hn1, hn2, hn3, hn4, hn5, hn6, hn7, hn8, hn9, hn10, hn11⟩, hn12⟩, ⟨hc1, hc2, hc3⟩⟩ := id hA
  have e5 := hck 5 (by decide)
  have e33 := hck 33 (by decide)
  have e34 := hck 34 (by decide)
  have e35 := hck 35 (by decide)
  have e42 := hck 42 (by decide)
  have e44 := hck 44 (by decide)
  have e45 := hck 45 (by decide)
  have e46 := hck 46 (by decide)
  have e47 := hck 47 (by decide)
  have e48 := hck 48 (by decide)
  have e51 := hck 51 (by decide)
  have e52 := hck 52 (by decide)
  have hP1 : m_P i1 a := m_P_i hP e5
  have hQ1 : m_Q i1 a := m_Q_50 hQ e5 e35 (fun _ _ => rfl)
  have hJ1 : m_J i1 a := ⟨by omega, by omega, by omega, by omega, by omega, by omega, by rw [e47, e42]; exact hn7, by omega, by omega, by omega, fun j j1 j2 => by have := hn11 j j1 (by omega); omega⟩
  have hC1 : m_C c i1 a := ⟨hc1, by omega, by omega⟩
  have hCw : ∀ {u : Nat → Int}, u 51 = i 51 → u 52 = i 52 → m_C (c + 1) u a := fun q1 q2 => ⟨fun j => by have := hc1 j; omega, by omega, by omega⟩
  obtain ⟨s1, s2, s3, s4, s5⟩ := hQ (i 42).toNat (by omega)
  have hd := n_dn_bd (b := a 37 (i 42).toNat) (T := a 38 (i 42).toNat) (x := i 43) (by omega) (by omega) (by omega)
  have hdd := n_dn_bd (b := a 37 (i 42).toNat) (T := a 38 (i 42).toNat) (x := i 43 + 1) (by omega) (by omega) (by omega)
  have hd1 : m_dn i1 a = (i 43 + 1) * a 37 (i 42).toNat / a 38 (i 42).toNat := by rw [m_dn, e42, h43]
  have hd0 : m_dn i a = i 43 * a 37 (i 42).toNat / a 38 (i 42).toNat := rfl
  have hlt := hn12 h33
  rw [← hd1] at hd hdd
  rw [← hd0] at hd
  refine ⟨⟨hJ1, hP1, hQ1, hC1⟩, fun q => ⟨hP1, hQ1, ⟨hJ1, fun _ => q⟩, hCw e51 e52⟩, fun q hq => ?_⟩
  have hq6 : m_dn i1 a = i 45 := by omega
  have hbk : ∀ k : Nat, (k : Int) < a 39 (i 42).toNat → 1 ≤ a 13 (8 * a 36 (i 42).toNat + a 40 (16 * (i 42).toNat + k)).toNat ∧ a 13 (8 * a 36 (i 42).toNat + a 40 (16 * (i 42).toNat + k)).toNat ≤ 64 := fun k hk => by
    have h1 := s5 k hk
    have h2 := hP.2.2.2.2.2.2.2.2.1 (a 36 (i 42).toNat).toNat (a 40 (16 * (i 42).toNat + k)).toNat (by have := hP.1; omega) (by omega)
    have h3 := hP.2.2.2.2.2.2.2.1 (8 * a 36 (i 42).toNat + a 40 (16 * (i 42).toNat + k)).toNat
    rw [show 8 * (a 36 (i 42).toNat).toNat + (a 40 (16 * (i 42).toNat + k)).toNat = (8 * a 36 (i 42).toNat + a 40 (16 * (i 42).toNat + k)).toNat by omega] at h2
    omega
  rcases hq with ⟨g0, g1, g33, gck, rfl⟩ | ⟨⟨g0, g1, -⟩, i3, g47, gck3, b42, b43, b44, b45, b51, b52, bck, b50, bE⟩ | ⟨g0, -, g44, g46, g45, gck, rfl⟩
  · have f5 := gck 5 (by decide)
    have f35 := gck 35 (by decide)
    have f41 := gck 41 (by decide)
    have f42 := gck 42 (by decide)
    have f43 := gck 43 (by decide)
    have f44 := gck 44 (by decide)
    have f45 := gck 45 (by decide)
    have f46 := gck 46 (by decide)
    have f47 := gck 47 (by decide)
    have f48 := gck 48 (by decide)
    have f34 := gck 34 (by decide)
    have f51 := gck 51 (by decide)
    have f52 := gck 52 (by decide)
    refine ⟨⟨m_P_i hP1 f5, m_Q_50 hQ1 f5 f35 (fun _ _ => rfl), ⟨⟨by omega, by omega, by omega, by omega, by omega, by omega, by rw [f47, f42, e47, e42]; exact hn7, by omega, by omega, by omega, fun j j1 j2 => by have := hn11 j j1 (by omega); omega⟩, fun u => by omega⟩, hCw (f51.trans e51) (f52.trans e52)⟩, fun u => by omega⟩
  · obtain ⟨t1, t2, t3, t4, t5⟩ := hQ (i1 42 + 1).toNat (by omega)
    have t50 := t5 0 (by omega)
    have hb1 := hP.2.2.2.2.2.2.2.2.1 (a 36 (i1 42 + 1).toNat).toNat (a 40 (16 * (i1 42 + 1).toNat + 0)).toNat (by have := hP.1; omega) (by omega)
    have hb2 := hP.2.2.2.2.2.2.2.1 (8 * (a 36 (i1 42 + 1).toNat).toNat + (a 40 (16 * (i1 42 + 1).toNat + 0)).toNat)
    rw [show 8 * (a 36 (i1 42 + 1).toNat).toNat + (a 40 (16 * (i1 42 + 1).toNat + 0)).toNat = (8 * a 36 (i1 42 + 1).toNat + a 40 (16 * (i1 42 + 1)).toNat).toNat by rw [show 16 * (i1 42 + 1).toNat + 0 = (16 * (i1 42 + 1)).toNat by omega] at t50 ⊢; omega, ← b45] at hb1 hb2
    have hfe := hP.2.2.2.2.2.2.1 (a 36 (i1 42 + 1).toNat).toNat
    have hsj := hn11 (i1 42 + 1).toNat (by omega) (by omega)
    have c41 := (bck 41 (by decide)).trans (gck3 41 (by decide))
    have c35 := (bck 35 (by decide)).trans (gck3 35 (by decide))
    have c5 := (bck 5 (by decide)).trans (gck3 5 (by decide))
    have c33 := (bck 33 (by decide)).trans (gck3 33 (by decide))
    have c34 := (bck 34 (by decide)).trans (gck3 34 (by decide))
    have c46 := (bck 46 (by decide)).trans (gck3 46 (by decide))
    have c48 := (bck 48 (by decide)).trans (gck3 48 (by decide))
    have c47 := bck 47 (by decide)
    have c51 := gck3 51 (by decide)
    have c52 := gck3 52 (by decide)
    have hz : m_dn i2 a2 = 0 := by rw [m_dn, b43, Int.zero_mul, Int.zero_ediv]
    have h49 : a2 49 = a 49 := bE 49 (by decide)
    refine ⟨⟨m_P_50 hP1 c5 bE, m_Q_50 hQ1 c5 c35 bE, ⟨⟨by omega, by omega, by omega, by omega, by omega, by omega, by rw [b42]; omega, by omega, by omega, by omega, fun j j1 j2 => by rw [h49]; have := hn11 j j1 (by omega); omega⟩, fun _ => by omega⟩, ⟨fun j => ?_, by omega, by omega⟩⟩, fun _ => by omega⟩
    rw [b50]
    by_cases e : j = (a 36 (i1 42 + 1).toNat).toNat
    · have := hc1 j
      rw [e, b_up_eq]; rw [e] at this; omega
    · rw [b_up_ne _ _ e]; have := hc1 j; omega
  · have f5 := gck 5 (by decide)
    have f33 := gck 33 (by decide)
    have f35 := gck 35 (by decide)
    have f41 := gck 41 (by decide)
    have f42 := gck 42 (by decide)
    have f43 := gck 43 (by decide)
    have f47 := gck 47 (by decide)
    have f48 := gck 48 (by decide)
    have f34 := gck 34 (by decide)
    have f51 := gck 51 (by decide)
    have f52 := gck 52 (by decide)
    have hsame : m_dn i2 a2 = m_dn i1 a2 := by rw [m_dn, m_dn, f42, f43]
    rw [e42, e44] at g45
    have hb := hbk (min (i 44 + 1) (a2 39 (i 42).toNat - 1)).toNat (by omega)
    rw [show 16 * (i 42).toNat + (min (i 44 + 1) (a2 39 (i 42).toNat - 1)).toNat = (16 * i 42 + min (i 44 + 1) (a2 39 (i 42).toNat - 1)).toNat by omega] at hb
    have h46 : i2 46 ≤ i 46 + 1 ∧ i 46 ≤ i2 46 := by rw [g46]; split <;> omega
    refine ⟨⟨m_P_i hP1 f5, m_Q_50 hQ1 f5 f35 (fun _ _ => rfl), ⟨⟨by omega, by omega, by omega, by omega, by omega, by omega, by rw [f47, f42, e47, e42]; exact hn7, by omega, by omega, by omega, fun j j1 j2 => by have := hn11 j j1 (by omega); omega⟩, fun u => by omega⟩, hCw (f51.trans e51) (f52.trans e52)⟩, fun u => by omega⟩
theorem m_tk_41 {i : Nat → Int} {a : Nat → Nat → Int} {i2 : Nat → Int} {a2 : Nat → Nat → Int} (hk : m_tk i a i2 a2) : i2 41 = i 41 + 1 := by
  obtain ⟨i1, h41, h43, hck, ⟨-, rfl, rfl⟩ | ⟨-, hq⟩⟩ := hk
  · exact h41
  · rcases hq with ⟨g0, g1, g33, gck, rfl⟩ | ⟨⟨g0, g1, -⟩, i3, g47, gck3, b42, b43, b44, b45, b51, b52, bck, b50, bE⟩ | ⟨g0, -, g44, g46, g45, gck, rfl⟩
    · rw [gck 41 (by decide)]; exact h41
    · rw [bck 41 (by decide), gck3 41 (by decide)]; exact h41
    · rw [gck 41 (by decide)]; exact h41

set_option maxHeartbeats 4000000 in
theorem c_X7_tenth (l : Launch) (G : b_G) {o : Nat} {ad : Nat → Nat} {i : Nat → Int} {a : Nat → Nat → Int} {h : b_H} {sz : Nat} (hO : r_O K7 7 o ad i a h) {c : Int} (hA : m_A c i a) (h33 : i 33 = 0) (h41b : i 41 < 400000) (hc0 : 0 ≤ c) (hcc : c ≤ 2000000) : Con l G yX7_tenth cX7_tenth 1 none 2 44 0 0 [.ref o] h sz (p_wr K7 7 o ad h sz (fun r i2 a2 => r = none ∧ m_tk i a i2 a2 ∧ m_A (c + 1) i2 a2)) := by
  refine Con.ofK (by decide +kernel) rfl rfl ?_
  intro S M
  have hc := M.2.2.2.1
  have ho : s_own S = RX7 := M.2.2.1
  have hFr : (s_R S).frames = 2 := by rw [M.2.2.2.2.2.2.2.1]
  have hLo : (s_R S).locals = 44 := by rw [M.2.2.2.2.2.2.2.1]
  have hCe : (s_R S).cells = 0 := by rw [M.2.2.2.2.2.2.2.1]
  have hSl : (s_R S).slots = 0 := by rw [M.2.2.2.2.2.2.2.1]
  have hi := hO.2.2.2.1
  have ha := hO.2.2.2.2
  obtain ⟨hP, hQ, ⟨⟨hn1, hn2, hn3, hn4, hn5, hn6, hn7, hn8, hn9, hn10, hn11⟩, hn12⟩, hC⟩ := id hA
  have hfr : ∀ b, ¬ r_own K7 o ad b → h b = h b := fun _ _ => rfl
  refine v_aload_n hc dX7_tenth_0 rfl ?_
  refine v_dup hc dX7_tenth_1 rfl ?_
  refine r_get hc ho dX7_tenth_2 F_X7_243 hO rfl ?_
  refine z_iconst hc dX7_tenth_5 ?_
  refine z_iadd hc dX7_tenth_6 ?_
  refine r_putIf hc ho dX7_tenth_7 F_X7_243 hO hfr rfl (by first | assumption | exact hi _ | exact ha _ _ | (unfold zb; omega)) (fun h i_1 g_1 k_1 hO hfr => ?_)
  have hi := hO.2.2.2.1
  have e_1_5 := k_1 5 (by decide)
  have e_1_33 := k_1 33 (by decide)
  have e_1_34 := k_1 34 (by decide)
  have e_1_35 := k_1 35 (by decide)
  have e_1_42 := k_1 42 (by decide)
  have e_1_43 := k_1 43 (by decide)
  have e_1_44 := k_1 44 (by decide)
  have e_1_45 := k_1 45 (by decide)
  have e_1_46 := k_1 46 (by decide)
  have e_1_47 := k_1 47 (by decide)
  have e_1_48 := k_1 48 (by decide)
  have e_1_51 := k_1 51 (by decide)
  have e_1_52 := k_1 52 (by decide)
  refine v_aload_n hc dX7_tenth_10 rfl ?_
  refine v_dup hc dX7_tenth_11 rfl ?_
  refine r_get hc ho dX7_tenth_12 F_X7_215 hO rfl ?_
  refine z_iconst hc dX7_tenth_15 ?_
  refine z_iadd hc dX7_tenth_16 ?_
  refine r_putIf hc ho dX7_tenth_17 F_X7_215 hO hfr rfl (by first | assumption | exact hi _ | exact ha _ _ | (unfold zb; omega)) (fun h i_2 g_2 k_2 hO hfr => ?_)
  have hi := hO.2.2.2.1
  have e_2_5 := k_2 5 (by decide)
  have e_2_33 := k_2 33 (by decide)
  have e_2_34 := k_2 34 (by decide)
  have e_2_35 := k_2 35 (by decide)
  have e_2_41 := k_2 41 (by decide)
  have e_2_42 := k_2 42 (by decide)
  have e_2_44 := k_2 44 (by decide)
  have e_2_45 := k_2 45 (by decide)
  have e_2_46 := k_2 46 (by decide)
  have e_2_47 := k_2 47 (by decide)
  have e_2_48 := k_2 48 (by decide)
  have e_2_51 := k_2 51 (by decide)
  have e_2_52 := k_2 52 (by decide)
  have hck1 : n_ck i i_2 [41, 43] := fun u hu => by simp only [List.mem_cons, List.not_mem_nil, or_false, not_or] at hu; rw [k_2 u (by omega), k_1 u (by omega)]
  have h411 : i_2 41 = i 41 + 1 := by omega
  have h431 : i_2 43 = i 43 + 1 := by omega
  have hok2 := fun i2 a2 => m_tn_ok (i2 := i2) (a2 := a2) hA h33 h411 h431 hck1 h41b hc0
  have hok := hok2 i a
  obtain ⟨u1, u2, u3, u4, u5⟩ := hQ (i_2 42).toNat (by omega)
  have hd1 := n_dn_bd (b := a 37 (i_2 42).toNat) (T := a 38 (i_2 42).toNat) (x := i_2 43) (by omega) (by omega) (by omega)
  change 0 ≤ m_dn i_2 a ∧ m_dn i_2 a ≤ _ ∧ _ at hd1
  refine v_aload_n hc dX7_tenth_20 rfl ?_
  refine r_get hc ho dX7_tenth_21 F_X7_234 hO rfl ?_
  refine z_if_ne (tgt := 45) hc dX7_tenth_24 (by decide) (by first | assumption | exact hi _ | exact ha _ _ | (unfold zb; omega)) (fun c_3 => absurd c_3 (by omega)) (fun c_3 => ?_)
  refine v_aload_n hc dX7_tenth_27 rfl ?_
  refine v_callV (As := []) hc ho dX7_tenth_28 KV_X7_258 KB_X7_doneBeats hO.1 rfl rfl (c_X7_doneBeats _ _ hO (by omega) (by omega) (by omega) (by omega)) rfl (Nat.le_of_ble_eq_true rfl) ⟨by omega, by omega⟩ ⟨by omega, by omega⟩ (fun r_ h_ sz_ q_ z_ => ?_)
  obtain ⟨rfl, eh_, es_⟩ := q_
  have eh_ := eh_.symm
  subst eh_
  have es_ := es_.symm
  subst es_
  change V _ _ _ _ _ _ _ (.int (zI (m_dn i_2 a)) :: _)
  refine v_aload_n hc dX7_tenth_31 rfl ?_
  refine r_get hc ho dX7_tenth_32 F_X7_221 hO rfl ?_
  refine z_icmp_lt (tgt := 45) hc dX7_tenth_35 (by decide) (by first | assumption | exact hi _ | exact ha _ _ | (unfold zb; omega)) (by first | assumption | exact hi _ | exact ha _ _ | (unfold zb; omega)) (fun c_4 => ?_) (fun c_4 => ?_)
  · refine v_vret M dX7_tenth_45 (by omega) (by omega) ?_
    exact ⟨rfl, i_2, a, ⟨rfl, ⟨i_2, h411, h431, hck1, Or.inl ⟨by omega, rfl, rfl⟩⟩, hok.2.1 (by omega)⟩, hO, hfr⟩
  · refine v_aload_n hc dX7_tenth_38 rfl ?_
    refine v_callV (As := []) hc ho dX7_tenth_39 KV_X7_261 KB_X7_endBlock hO.1 rfl rfl (c_X7_endBlock _ _ hO hok.1.2.1 hok.1.2.2.1 hok.1.1 hok.1.2.2.2 hcc) rfl (Nat.le_of_ble_eq_true rfl) ⟨by omega, by omega⟩ ⟨by omega, by omega⟩ (fun r_ h_ sz_ q_ z_ => ?_)
    obtain ⟨e1_, i9, a9, ⟨rfl, heb9⟩, hO9, hfr9⟩ := q_
    have e1_ := e1_.symm
    subst e1_
    obtain ⟨hA9, hdn9⟩ := (hok2 i9 a9).2.2 (by omega) heb9
    obtain ⟨vP, vQ, ⟨⟨vn1, vn2, vn3, vn4, vn5, vn6, vn7, vn8, vn9, vn10, vn11⟩, vn12⟩, vC⟩ := id hA9
    obtain ⟨u1, u2, u3, u4, u5⟩ := vQ (i9 42).toNat (by omega)
    have hi := hO9.2.2.2.1
    have hd9 := n_dn_bd (b := a9 37 (i9 42).toNat) (T := a9 38 (i9 42).toNat) (x := i9 43) (by omega) (by omega) (by omega)
    change 0 ≤ m_dn i9 a9 ∧ m_dn i9 a9 ≤ _ ∧ _ at hd9
    refine v_goto (tgt := 20) hc dX7_tenth_42 (by decide) ?_
    skip
    refine v_aload_n hc dX7_tenth_20 rfl ?_
    refine r_get hc ho dX7_tenth_21 F_X7_234 hO9 rfl ?_
    refine z_if_ne (tgt := 45) hc dX7_tenth_24 (by decide) (by first | assumption | exact hi _ | exact ha _ _ | (unfold zb; omega)) (fun c_5 => ?_) (fun c_5 => ?_)
    · refine v_vret M dX7_tenth_45 (by omega) (by omega) ?_
      exact ⟨rfl, i9, a9, ⟨rfl, ⟨i_2, h411, h431, hck1, Or.inr ⟨by omega, heb9⟩⟩, hA9⟩, hO9, fun b hb => (hfr9 b hb).trans (hfr b hb)⟩
    · refine v_aload_n hc dX7_tenth_27 rfl ?_
      refine v_callV (As := []) hc ho dX7_tenth_28 KV_X7_258 KB_X7_doneBeats hO9.1 rfl rfl (c_X7_doneBeats _ _ hO9 (by omega) (by omega) (by omega) (by omega)) rfl (Nat.le_of_ble_eq_true rfl) ⟨by omega, by omega⟩ ⟨by omega, by omega⟩ (fun r_ h_ sz_ q_ z_ => ?_)
      obtain ⟨rfl, eh_, es_⟩ := q_
      have eh_ := eh_.symm
      subst eh_
      have es_ := es_.symm
      subst es_
      change V _ _ _ _ _ _ _ (.int (zI (m_dn i9 a9)) :: _)
      refine v_aload_n hc dX7_tenth_31 rfl ?_
      refine r_get hc ho dX7_tenth_32 F_X7_221 hO9 rfl ?_
      refine z_icmp_lt (tgt := 45) hc dX7_tenth_35 (by decide) (by first | assumption | exact hi _ | exact ha _ _ | (unfold zb; omega)) (by first | assumption | exact hi _ | exact ha _ _ | (unfold zb; omega)) (fun c_6 => ?_) (fun c_6 => absurd c_6 (by omega))
      refine v_vret M dX7_tenth_45 (by omega) (by omega) ?_
      exact ⟨rfl, i9, a9, ⟨rfl, ⟨i_2, h411, h431, hck1, Or.inr ⟨by omega, heb9⟩⟩, hA9⟩, hO9, fun b hb => (hfr9 b hb).trans (hfr b hb)⟩
set_option maxHeartbeats 4000000 in
theorem l_X7_go {S : b_S} {l : Launch} {G : b_G} {o : Nat} {ad : Nat → Nat} {hB : b_H} {sz : Nat} {post : Option Value → b_H → Nat → Prop} (M : b_M S l G RX7 cX7_go 3 (some .int) "go" 3 64 0 0 hB sz post) {nn : Int} (hnn : nn ≤ 600) : ∀ (d : Nat) (h : b_H) (i : Nat → Int) (a : Nat → Nat → Int) (c x : Int), ((nn - x).toNat = d) → (0 ≤ x) → (x ≤ nn) → (r_O K7 7 o ad i a h) → (∀ b, ¬ r_own K7 o ad b → h b = hB b) → (m_A c i a) → (i 41 + (nn - x) ≤ 400000) → (0 ≤ c) → (c + (nn - x) ≤ 2000000) → (∀ (i2 : Nat → Int) (a2 : Nat → Nat → Int) (c2 : Int) (h2 : b_H), m_rn d i a i2 a2 → r_O K7 7 o ad i2 a2 h2 → (∀ b, ¬ r_own K7 o ad b → h2 b = hB b) → c2 ≤ c + (nn - x) → m_A c2 i2 a2 → post (some (.int (zI (i2 41)))) h2 sz) → V S 0 0 h sz 32 [some (.ref o), some (.int (zI nn)), some (.int (zI x))] [] := by
  have hc := M.2.2.2.1
  have ho : s_own S = RX7 := M.2.2.1
  have hFr : (s_R S).frames = 3 := by rw [M.2.2.2.2.2.2.2.1]
  have hLo : (s_R S).locals = 64 := by rw [M.2.2.2.2.2.2.2.1]
  have hCe : (s_R S).cells = 0 := by rw [M.2.2.2.2.2.2.2.1]
  have hSl : (s_R S).slots = 0 := by rw [M.2.2.2.2.2.2.2.1]
  intro d
  induction d using Nat.strongRecOn with
  | ind d ih =>
    intro h i a c x hd h0 h1 hO hfr hA h41 hc0 hcc P
    have hi := hO.2.2.2.1
    obtain ⟨hP, hQ, ⟨⟨hn1, hn2, hn3, hn4, hn5, hn6, hn7, hn8, hn9, hn10, hn11⟩, hn12⟩, hC⟩ := id hA
    refine v_iload_n hc dX7_go_32 rfl ?_
    refine v_iload_n hc dX7_go_33 rfl ?_
    refine z_icmp_ge (tgt := 54) hc dX7_go_34 (by decide) (by first | assumption | exact hi _ | exact ha _ _ | (unfold zb; omega)) (by first | assumption | exact hi _ | exact ha _ _ | (unfold zb; omega)) (fun c_1 => ?_) (fun c_1 => ?_)
    · refine v_aload_n hc dX7_go_54 rfl ?_
      refine r_get hc ho dX7_go_55 F_X7_243 hO rfl ?_
      refine z_iret M dX7_go_58 (by omega) (by omega) ?_
      exact P i a c h (by rw [show d = 0 by omega]; exact ⟨rfl, rfl⟩) hO hfr (by omega) hA
    · obtain ⟨d1, hd1⟩ : ∃ d1, d = d1 + 1 := ⟨d - 1, by omega⟩
      refine v_aload_n hc dX7_go_37 rfl ?_
      refine r_get hc ho dX7_go_38 F_X7_234 hO rfl ?_
      refine z_if_ne (tgt := 54) hc dX7_go_41 (by decide) (by first | assumption | exact hi _ | exact ha _ _ | (unfold zb; omega)) (fun c_2 => ?_) (fun c_2 => ?_)
      · refine v_aload_n hc dX7_go_54 rfl ?_
        refine r_get hc ho dX7_go_55 F_X7_243 hO rfl ?_
        refine z_iret M dX7_go_58 (by omega) (by omega) ?_
        exact P i a c h (by rw [hd1]; exact Or.inl ⟨by omega, rfl, rfl⟩) hO hfr (by omega) hA
      · refine v_aload_n hc dX7_go_44 rfl ?_
        refine v_callV (As := []) hc ho dX7_go_45 KV_X7_267 KB_X7_tenth hO.1 rfl rfl (c_X7_tenth _ _ hO hA (by omega) (by omega) (by omega) (by omega)) rfl (Nat.le_of_ble_eq_true rfl) ⟨by omega, by omega⟩ ⟨by omega, by omega⟩ (fun r_ h_ sz_ q_ z_ => ?_)
        obtain ⟨e1_, i9, a9, ⟨rfl, htk9, hA9⟩, hO9, hfr9⟩ := q_
        have e1_ := e1_.symm
        subst e1_
        have h419 := m_tk_41 htk9
        refine z_iinc hc dX7_go_48 rfl ?_
        refine v_goto (tgt := 32) hc dX7_go_51 (by decide) ?_
        exact ih d1 (by omega) h_ i9 a9 (c + 1) (x + 1) (by omega) (by omega) (by omega) hO9 (fun b hb => (hfr9 b hb).trans (hfr b hb)) hA9 (by omega) (by omega) (by omega) (fun i3 a3 c3 h3 q1 q2 q3 q4 q5 => P i3 a3 c3 h3 (by rw [hd1]; exact Or.inr ⟨by omega, i9, a9, htk9, q1⟩) q2 q3 (by omega) q5)
set_option maxHeartbeats 4000000 in
theorem c_X7_go (l : Launch) (G : b_G) {o : Nat} {ad : Nat → Nat} {i : Nat → Int} {a : Nat → Nat → Int} {h : b_H} {sz : Nat} (hO : r_O K7 7 o ad i a h) {x : Int} (hx : zb x) {c : Int} (hA : ¬ i 32 = 0 → m_A c i a) (h41 : ¬ i 32 = 0 → i 41 ≤ 399000) (hc0 : 0 ≤ c) (hcc : c ≤ 1900000) : Con l G yX7_go cX7_go 3 (some .int) 3 64 0 0 [.ref o, .int (zI x)] h sz (p_wr K7 7 o ad h sz (fun r i2 a2 => (¬ (1 ≤ x ∧ x ≤ 600) ∧ r = some (.int (zI (-1))) ∧ i2 = i ∧ a2 = a) ∨ ((1 ≤ x ∧ x ≤ 600) ∧ ¬ (¬ i 32 = 0 ∧ i 33 = 0) ∧ r = some (.int (zI (-2))) ∧ i2 = i ∧ a2 = a) ∨ ((1 ≤ x ∧ x ≤ 600) ∧ (¬ i 32 = 0 ∧ i 33 = 0) ∧ m_rn x.toNat i a i2 a2 ∧ r = some (.int (zI (i2 41))) ∧ ∃ c2, c2 ≤ c + 600 ∧ m_A c2 i2 a2))) := by
  refine Con.ofK (by decide +kernel) rfl rfl ?_
  intro S M
  have hc := M.2.2.2.1
  have ho : s_own S = RX7 := M.2.2.1
  have hFr : (s_R S).frames = 3 := by rw [M.2.2.2.2.2.2.2.1]
  have hLo : (s_R S).locals = 64 := by rw [M.2.2.2.2.2.2.2.1]
  have hCe : (s_R S).cells = 0 := by rw [M.2.2.2.2.2.2.2.1]
  have hSl : (s_R S).slots = 0 := by rw [M.2.2.2.2.2.2.2.1]
  have hi := hO.2.2.2.1
  have ha := hO.2.2.2.2
  have hfr : ∀ b, ¬ r_own K7 o ad b → h b = h b := fun _ _ => rfl
  refine v_iload_n hc dX7_go_0 rfl ?_
  refine z_iconst hc dX7_go_1 ?_
  refine z_sipush hc dX7_go_2 (by decide) ?_
  refine v_callS (As := [.int (zI (x)), .int (zI (1)), .int (zI (600))]) hc ho dX7_go_5 KS_X7_130 KB_X7_in (c_X7_in _ _ (x := x) (y := 1) (z := 600) (by first | assumption | exact hi _ | exact ha _ _ | (unfold zb; omega)) (by first | assumption | exact hi _ | exact ha _ _ | (unfold zb; omega)) (by first | assumption | exact hi _ | exact ha _ _ | (unfold zb; omega))) rfl (Nat.le_of_ble_eq_true rfl) ⟨by omega, by omega⟩ ⟨by omega, by omega⟩ (fun r_ h_ sz_ q_ z_ => ?_)
  obtain ⟨rfl, eh_, es_⟩ := q_
  have eh_ := eh_.symm
  subst eh_
  have es_ := es_.symm
  subst es_
  have hx0 := @bI_0 (1 ≤ x ∧ x ≤ 600) _
  have hx1 := @bI_1 (1 ≤ x ∧ x ≤ 600) _
  have hxb := bI_bd (1 ≤ x ∧ x ≤ 600)
  refine z_if_ne (tgt := 13) hc dX7_go_8 (by decide) (by first | assumption | exact hi _ | exact ha _ _ | (unfold zb; omega)) (fun c_1 => ?_) (fun c_1 => ?_)
  · refine v_aload_n hc dX7_go_13 rfl ?_
    refine r_get hc ho dX7_go_14 F_X7_230 hO rfl ?_
    refine z_if_eq (tgt := 27) hc dX7_go_17 (by decide) (by first | assumption | exact hi _ | exact ha _ _ | (unfold zb; omega)) (fun c_2 => ?_) (fun c_2 => ?_)
    · refine z_bipush hc dX7_go_27 (by decide) ?_
      refine z_iret M dX7_go_29 (by omega) (by omega) ?_
      exact ⟨rfl, i, a, Or.inr (Or.inl ⟨by omega, by omega, rfl, rfl, rfl⟩), hO, hfr⟩
    · refine v_aload_n hc dX7_go_20 rfl ?_
      refine r_get hc ho dX7_go_21 F_X7_234 hO rfl ?_
      refine z_if_eq (tgt := 30) hc dX7_go_24 (by decide) (by first | assumption | exact hi _ | exact ha _ _ | (unfold zb; omega)) (fun c_3 => ?_) (fun c_3 => ?_)
      · refine z_iconst hc dX7_go_30 ?_
        refine v_istore_n hc dX7_go_31 (Nat.le_of_ble_eq_true rfl) ?_
        exact l_X7_go M (by omega) _ h i a c 0 rfl (by omega) (by omega) hO hfr (hA (by omega)) (by have := h41 (by omega); omega) hc0 (by omega) (fun i2 a2 c2 h2 q1 q2 q3 q4 q5 => ⟨rfl, i2, a2, Or.inr (Or.inr ⟨by omega, by omega, by rw [Int.sub_zero] at q1; exact q1, rfl, c2, by omega, q5⟩), q2, q3⟩)
      · refine z_bipush hc dX7_go_27 (by decide) ?_
        refine z_iret M dX7_go_29 (by omega) (by omega) ?_
        exact ⟨rfl, i, a, Or.inr (Or.inl ⟨by omega, by omega, rfl, rfl, rfl⟩), hO, hfr⟩
  · refine z_iconst hc dX7_go_11 ?_
    refine z_iret M dX7_go_12 (by omega) (by omega) ?_
    exact ⟨rfl, i, a, Or.inl ⟨by omega, rfl, rfl, rfl⟩, hO, hfr⟩
