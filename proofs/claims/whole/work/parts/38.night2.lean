/-! the night: tick, run, what it tells, a new one -/
theorem n_pl_bd {I : Nat → Nat → Int} {q : Int} {c : Int} (h : ∀ p, 0 ≤ I (p + 20) 5 ∧ I (p + 20) 5 ≤ c) : ∀ p, 0 ≤ n_pl I q (p + 20) 5 ∧ n_pl I q (p + 20) 5 ≤ c + 1 := fun p => by
  have h1 := h p
  unfold n_pl
  by_cases e : p + 20 = q.toNat + 20
  · have h2 := h q.toNat
    rw [e, b_up_eq, b_up_eq]; omega
  · rw [b_up_ne _ _ e]; omega
theorem n_tk_bd {nf : Nat} {LN : Nat → Nat} {PI PB : Nat → Nat → Int} {s : Nat → Int} {I : Nat → Nat → Int} {i : Nat → Int} {I2 : Nat → Nat → Int} {i2 : Nat → Int} {c : Int} (hk : n_tk nf LN PI PB s I i I2 i2) (h : ∀ p, 0 ≤ I (p + 20) 5 ∧ I (p + 20) 5 ≤ c) : (∀ p, 0 ≤ I2 (p + 20) 5 ∧ I2 (p + 20) 5 ≤ c + 1) ∧ i2 7 = i 7 + 1 := by
  obtain ⟨i1, h7, hck, ⟨-, rfl, rfl⟩ | ⟨-, hq⟩⟩ := hk
  · exact ⟨fun p => by have := h p; omega, h7⟩
  · rcases hq with ⟨-, g3, g9, g4, g5, g6, gck, rfl⟩ | ⟨-, rfl, ⟨g0, g5, g6, gck⟩ | ⟨g0, g1, g11, gck⟩ | ⟨g0, g1, g8, g6, gck⟩⟩
    · exact ⟨n_pl_bd h, by rw [gck 7 (by decide)]; exact h7⟩
    all_goals exact ⟨fun p => by have := h p; omega, by rw [gck 7 (by decide)]; exact h7⟩
theorem n_A.sn {G : b_G} {lb : Nat → Nat} {L n : Nat} {O : Nat → Nat} {D : Nat → Nat → Nat} {I : Nat → Nat → Int} {A : Nat → Nat → Nat → Int} {fo fa nf : Nat} {pt RA RB LN : Nat → Nat} {PI PR PB : Nat → Nat → Int} {o sa : Nat} {pv : Value} {i s : Nat → Int} {h h1 : b_H} (hA : n_A G lb L n O D I A fo fa nf pt RA RB LN PI PR PB o sa pv i s h) {s2 : Nat → Int} (e1 : h1 sa = some (b_iA 8 s2)) (e2 : ∀ b, b ≠ sa → h1 b = h b) : n_A G lb L n O D I A fo fa nf pt RA RB LN PI PR PB o sa pv i s2 h1 := by
  obtain ⟨hW, hF, g1, g2, g3, g4, g5⟩ := hA
  refine ⟨hW.kept (fun b hb => e2 b (fun q => ?_)), hF.kept (fun b hb => e2 b (fun q => ?_)), (e2 o g3).trans g1, e1, g3, g4, g5⟩
  · rw [q, g5] at hb; exact x_is_no (Or.inl rfl) hb
  · rw [q, g5] at hb; omega

set_option maxHeartbeats 4000000 in
theorem c_X2_tick (l : Launch) (G : b_G) {h : b_H} {sz : Nat} {lb : Nat → Nat} {L n : Nat} {O : Nat → Nat} {D : Nat → Nat → Nat} {I : Nat → Nat → Int} {A : Nat → Nat → Nat → Int} {fo fa nf : Nat} {pt RA RB LN : Nat → Nat} {PI PR PB : Nat → Nat → Int} {o sa : Nat} {i s : Nat → Int} {k : Nat} (hA : n_A G lb L n O D I A fo fa nf pt RA RB LN PI PR PB o sa (.ref (pt k)) i s h) (hk : k < nf) (hk3 : i 3 = (k : Int)) (hN : n_I nf LN PI i s) (h11 : i 11 = 0) (h7b : i 7 < 400000) (hpb : ∀ p, 0 ≤ I (p + 20) 5 ∧ I (p + 20) 5 ≤ 2000000000)  : Con l G yX2_tick cX2_tick 2 none 5 105 0 0 [.ref o] h sz (fun r h2 s2 => r = none ∧ s2 = sz ∧ ∃ I2 i2, n_A G lb L n O D I2 A fo fa nf pt RA RB LN PI PR PB o sa (.ref (pt (i2 3).toNat)) i2 s h2 ∧ n_tk nf LN PI PB s I i I2 i2 ∧ n_I nf LN PI i2 s ∧ n_fr lb n h2 h) := by
  refine Con.ofK (by decide +kernel) rfl rfl ?_
  intro S M
  have hc := M.2.2.2.1
  have ho : s_own S = RX2 := M.2.2.1
  have hFr : (s_R S).frames = 5 := by rw [M.2.2.2.2.2.2.2.1]
  have hLo : (s_R S).locals = 105 := by rw [M.2.2.2.2.2.2.2.1]
  have hCe : (s_R S).cells = 0 := by rw [M.2.2.2.2.2.2.2.1]
  have hSl : (s_R S).slots = 0 := by rw [M.2.2.2.2.2.2.2.1]
  have hG : s_G S = G := M.2.1
  subst hG
  have hfr : n_fr lb n h h := fun _ _ _ => rfl
  obtain ⟨hti0, hti2, hti5, hti8, htiB, htiR, htix, hti1, hti3, hti4⟩ := id (hA.2.1.2.2.2.2.2 _ hk).2.1
  obtain ⟨hn1, hn2, hn3, hn4, hn5, hn6, hn7, hn8, hn9, hn10, hn11, hn12⟩ := id hN
  have hTT := n_I.T hA
  refine v_aload_n hc dX2_tick_0 rfl ?_
  refine v_dup hc dX2_tick_1 rfl ?_
  refine v_get hc ho dX2_tick_2 F_X2_39 hA.2.2.1 rfl ?_
  refine z_iconst hc dX2_tick_5 ?_
  refine z_iadd hc dX2_tick_6 ?_
  refine n_putf hc ho dX2_tick_7 F_X2_39 hA hfr (by decide) (by decide) ⟨rfl, rfl⟩ (fun h i_1 g_1 k_1 hA hfr => ?_)
  have hk_1 := fun u (hu : u ≠ 7) => k_1 u hu
  have k_1_3 := k_1 3 (by decide)
  have k_1_4 := k_1 4 (by decide)
  have k_1_5 := k_1 5 (by decide)
  have k_1_6 := k_1 6 (by decide)
  have k_1_8 := k_1 8 (by decide)
  have k_1_9 := k_1 9 (by decide)
  have k_1_10 := k_1 10 (by decide)
  have k_1_11 := k_1 11 (by decide)
  have k_1_12 := k_1 12 (by decide)
  have hk31 : i_1 3 = (k : Int) := by omega
  have hok := fun I2 i2 => n_tn_ok (I := I) (I2 := I2) (i2 := i2) (PB := PB) hTT hN h11 g_1 (fun u hu => k_1 u (by simpa using hu)) h7b
  have hJ1 : n_J nf LN PI i_1 s := ⟨hn1, by omega, by omega, by rw [k_1_3, k_1_5]; exact hn4, by omega, by omega, by rw [k_1_3, k_1_9]; exact hn8, by omega, by omega, by omega, fun j => ⟨(hn12 j).1, by have := (hn12 j).2; omega⟩⟩
  obtain ⟨t0, t2, t5, tB⟩ := hTT (i_1 3).toNat (by omega)
  have hd1 := n_dn_bd (b := PI (i_1 3).toNat 2) (T := PI (i_1 3).toNat 5) (x := i_1 7 - i_1 4) (by omega) (by omega) (by omega)
  change 0 ≤ n_dn PI i_1 ∧ n_dn PI i_1 ≤ _ ∧ _ at hd1
  refine z_iconst hc dX2_tick_10 ?_
  refine v_istore_n hc dX2_tick_11 (Nat.le_of_ble_eq_true rfl) ?_
  refine v_iload_n hc dX2_tick_12 rfl ?_
  refine z_bipush hc dX2_tick_13 (by decide) ?_
  refine z_icmp_ge (tgt := 46) hc dX2_tick_15 (by decide) (by first | assumption | exact hi _ | exact ha _ _ | (unfold zb; omega)) (by first | assumption | exact hi _ | exact ha _ _ | (unfold zb; omega)) (fun c_2 => absurd c_2 (by decide)) (fun c_2 => ?_)
  refine v_aload_n hc dX2_tick_18 rfl ?_
  refine v_get hc ho dX2_tick_19 F_X2_55 hA.2.2.1 rfl ?_
  refine z_if_ne (tgt := 46) hc dX2_tick_22 (by decide) (by first | assumption | exact hi _ | exact ha _ _ | (unfold zb; omega)) (fun c_3 => absurd c_3 (by omega)) (fun c_3 => ?_)
  refine v_aload_n hc dX2_tick_25 rfl ?_
  refine v_callV (As := []) hc ho dX2_tick_26 KV_X2_62 KB_X2_beatsDone hA.2.2.1 rfl rfl (c_X2_beatsDone _ _ hA hk (k := k) hk31 (by omega)) rfl (Nat.le_of_ble_eq_true rfl) ⟨by omega, by omega⟩ ⟨by omega, by omega⟩ (fun r_ h_ sz_ q_ z_ => ?_)
  obtain ⟨rfl, eh_, es_⟩ := q_
  have eh_ := eh_.symm
  subst eh_
  have es_ := es_.symm
  subst es_
  refine v_aload_n hc dX2_tick_29 rfl ?_
  refine v_get hc ho dX2_tick_30 F_X2_52 hA.2.2.1 rfl ?_
  refine z_icmp_lt (tgt := 46) hc dX2_tick_33 (by decide) (by first | assumption | exact hi _ | exact ha _ _ | (unfold zb; omega)) (by first | assumption | exact hi _ | exact ha _ _ | (unfold zb; omega)) (fun c_4 => ?_) (fun c_4 => ?_)
  · refine v_vret M dX2_tick_46 (by omega) (by omega) ?_
    exact ⟨rfl, rfl, I, i_1, by rw [show (i_1 3).toNat = k by omega]; exact hA, ⟨i_1, g_1, fun u hu => k_1 u (by simpa using hu), Or.inl ⟨by omega, rfl, rfl⟩⟩, (hok I i).1 (by omega), hfr⟩
  · refine v_aload_n hc dX2_tick_36 rfl ?_
    refine v_callV (As := []) hc ho dX2_tick_37 KV_X2_66 KB_X2_turn hA.2.2.1 rfl rfl (c_X2_turn _ _ hA hk hk31 hJ1 hpb) rfl (Nat.le_of_ble_eq_true rfl) ⟨by omega, by omega⟩ ⟨by omega, by omega⟩ (fun r_ h_ sz_ q_ z_ => ?_)
    obtain ⟨rfl, es_, I2, i2, hA2, hT2, hfr2⟩ := q_
    have es_ := es_.symm
    subst es_
    obtain ⟨hN2, hdn2⟩ := (hok I2 i2).2 (by omega) hT2
    obtain ⟨vn1, vn2, vn3, vn4, vn5, vn6, vn7, vn8, vn9, vn10, vn11, vn12⟩ := id hN2
    have hk2 : (i2 3).toNat < nf := by omega
    have hk32 : i2 3 = (((i2 3).toNat : Nat) : Int) := by omega
    obtain ⟨u0, u2, u5, uB⟩ := hTT (i2 3).toNat hk2
    have hd2 := n_dn_bd (b := PI (i2 3).toNat 2) (T := PI (i2 3).toNat 5) (x := i2 7 - i2 4) (by omega) (by omega) (by omega)
    change 0 ≤ n_dn PI i2 ∧ n_dn PI i2 ≤ _ ∧ _ at hd2
    refine z_iinc hc dX2_tick_40 rfl ?_
    refine v_goto (tgt := 12) hc dX2_tick_43 (by decide) ?_
    refine v_iload_n hc dX2_tick_12 rfl ?_
    refine z_bipush hc dX2_tick_13 (by decide) ?_
    refine z_icmp_ge (tgt := 46) hc dX2_tick_15 (by decide) (by first | assumption | exact hi _ | exact ha _ _ | (unfold zb; omega)) (by first | assumption | exact hi _ | exact ha _ _ | (unfold zb; omega)) (fun c_5 => absurd c_5 (by omega)) (fun c_5 => ?_)
    refine v_aload_n hc dX2_tick_18 rfl ?_
    refine v_get hc ho dX2_tick_19 F_X2_55 hA2.2.2.1 rfl ?_
    refine z_if_ne (tgt := 46) hc dX2_tick_22 (by decide) (by first | assumption | exact hi _ | exact ha _ _ | (unfold zb; omega)) (fun c_6 => ?_) (fun c_6 => ?_)
    · refine v_vret M dX2_tick_46 (by omega) (by omega) ?_
      exact ⟨rfl, rfl, I2, i2, hA2, ⟨i_1, g_1, fun u hu => k_1 u (by simpa using hu), Or.inr ⟨by omega, hT2⟩⟩, hN2, fun b q1 q2 => (hfr2 b q1 q2).trans (hfr b q1 q2)⟩
    · refine v_aload_n hc dX2_tick_25 rfl ?_
      refine v_callV (As := []) hc ho dX2_tick_26 KV_X2_62 KB_X2_beatsDone hA2.2.2.1 rfl rfl (c_X2_beatsDone _ _ hA2 hk2 hk32 (by omega)) rfl (Nat.le_of_ble_eq_true rfl) ⟨by omega, by omega⟩ ⟨by omega, by omega⟩ (fun r_ h_ sz_ q_ z_ => ?_)
      obtain ⟨rfl, eh_, es_⟩ := q_
      have eh_ := eh_.symm
      subst eh_
      have es_ := es_.symm
      subst es_
      refine v_aload_n hc dX2_tick_29 rfl ?_
      refine v_get hc ho dX2_tick_30 F_X2_52 hA2.2.2.1 rfl ?_
      refine z_icmp_lt (tgt := 46) hc dX2_tick_33 (by decide) (by first | assumption | exact hi _ | exact ha _ _ | (unfold zb; omega)) (by first | assumption | exact hi _ | exact ha _ _ | (unfold zb; omega)) (fun c_7 => ?_) (fun c_7 => absurd c_7 (by omega))
      refine v_vret M dX2_tick_46 (by omega) (by omega) ?_
      exact ⟨rfl, rfl, I2, i2, hA2, ⟨i_1, g_1, fun u hu => k_1 u (by simpa using hu), Or.inr ⟨by omega, hT2⟩⟩, hN2, fun b q1 q2 => (hfr2 b q1 q2).trans (hfr b q1 q2)⟩
set_option maxHeartbeats 4000000 in
theorem l_X2_run {S : b_S} {l : Launch} {G : b_G} {lb : Nat → Nat} {L n : Nat} {O : Nat → Nat} {D : Nat → Nat → Nat} {A : Nat → Nat → Nat → Int} {fo fa nf : Nat} {pt RA RB LN : Nat → Nat} {PI PR PB : Nat → Nat → Int} {o sa : Nat} {s : Nat → Int} {hB : b_H} {sz : Nat} {post : Option Value → b_H → Nat → Prop} (M : b_M S l G RX2 cX2_run 3 (some .int) "run" 6 126 0 0 hB sz post) {nn : Int} (hnn : nn ≤ 600) : ∀ (d : Nat) (h : b_H) (I : Nat → Nat → Int) (i : Nat → Int) (x : Int), ((nn - x).toNat = d) → (0 ≤ x) → (x ≤ nn) → (n_A G lb L n O D I A fo fa nf pt RA RB LN PI PR PB o sa (.ref (pt (i 3).toNat)) i s h) → (n_I nf LN PI i s) → (i 7 + (nn - x) ≤ 400000) → (∀ p, 0 ≤ I (p + 20) 5 ∧ I (p + 20) 5 ≤ 1999999999 - (nn - x)) → (n_fr lb n h hB) → (∀ I2 i2 h2, n_rn nf LN PI PB s d I i I2 i2 → n_A G lb L n O D I2 A fo fa nf pt RA RB LN PI PR PB o sa (.ref (pt (i2 3).toNat)) i2 s h2 → n_I nf LN PI i2 s → n_fr lb n h2 hB → post (some (.int (zI (i2 7)))) h2 sz) → V S 0 0 h sz 2 [some (.ref o), some (.int (zI nn)), some (.int (zI x))] [] := by
  have hc := M.2.2.2.1
  have ho : s_own S = RX2 := M.2.2.1
  have hFr : (s_R S).frames = 6 := by rw [M.2.2.2.2.2.2.2.1]
  have hLo : (s_R S).locals = 126 := by rw [M.2.2.2.2.2.2.2.1]
  have hCe : (s_R S).cells = 0 := by rw [M.2.2.2.2.2.2.2.1]
  have hSl : (s_R S).slots = 0 := by rw [M.2.2.2.2.2.2.2.1]
  intro d
  induction d using Nat.strongRecOn with
  | ind d ih =>
    intro h I i x hd h0 h1 hA hN h7 hpb hfr P
    have hG : s_G S = G := M.2.1
    subst hG
    obtain ⟨hn1, hn2, hn3, hn4, hn5, hn6, hn7, hn8, hn9, hn10, hn11, hn12⟩ := id hN
    have hk : (i 3).toNat < nf := by omega
    have hk3 : i 3 = (((i 3).toNat : Nat) : Int) := by omega
    refine v_iload_n hc dX2_run_2 rfl ?_
    refine v_iload_n hc dX2_run_3 rfl ?_
    refine z_icmp_ge (tgt := 24) hc dX2_run_4 (by decide) (by first | assumption | exact hi _ | exact ha _ _ | (unfold zb; omega)) (by first | assumption | exact hi _ | exact ha _ _ | (unfold zb; omega)) (fun c_1 => ?_) (fun c_1 => ?_)
    · refine v_aload_n hc dX2_run_24 rfl ?_
      refine v_get hc ho dX2_run_25 F_X2_39 hA.2.2.1 rfl ?_
      refine z_iret M dX2_run_28 (by omega) (by omega) ?_
      exact P I i h (by rw [show d = 0 by omega]; exact ⟨rfl, rfl⟩) hA hN hfr
    · obtain ⟨d1, hd1⟩ : ∃ d1, d = d1 + 1 := ⟨d - 1, by omega⟩
      refine v_aload_n hc dX2_run_7 rfl ?_
      refine v_get hc ho dX2_run_8 F_X2_55 hA.2.2.1 rfl ?_
      refine z_if_ne (tgt := 24) hc dX2_run_11 (by decide) (by first | assumption | exact hi _ | exact ha _ _ | (unfold zb; omega)) (fun c_2 => ?_) (fun c_2 => ?_)
      · refine v_aload_n hc dX2_run_24 rfl ?_
        refine v_get hc ho dX2_run_25 F_X2_39 hA.2.2.1 rfl ?_
        refine z_iret M dX2_run_28 (by omega) (by omega) ?_
        exact P I i h (by rw [hd1]; exact Or.inl ⟨by omega, rfl, rfl⟩) hA hN hfr
      · refine v_aload_n hc dX2_run_14 rfl ?_
        refine v_callV (As := []) hc ho dX2_run_15 KV_X2_59 KB_X2_tick hA.2.2.1 rfl rfl (c_X2_tick _ _ hA hk hk3 hN (by omega) (by omega) (fun p => by have := hpb p; omega)) rfl (Nat.le_of_ble_eq_true rfl) ⟨by omega, by omega⟩ ⟨by omega, by omega⟩ (fun r_ h_ sz_ q_ z_ => ?_)
        obtain ⟨rfl, es_, I2, i2, hA2, hT2, hN2, hfr2⟩ := q_
        have es_ := es_.symm
        subst es_
        obtain ⟨hp2, h72⟩ := n_tk_bd hT2 hpb
        refine z_iinc hc dX2_run_18 rfl ?_
        refine v_goto (tgt := 2) hc dX2_run_21 (by decide) ?_
        exact ih d1 (by omega) h_ I2 i2 (x + 1) (by omega) (by omega) (by omega) hA2 hN2 (by omega) (fun p => by have := hp2 p; omega) (fun b q1 q2 => (hfr2 b q1 q2).trans (hfr b q1 q2)) (fun I3 i3 h3 q1 q2 q3 q4 => P I3 i3 h3 (by rw [hd1]; exact Or.inr ⟨by omega, I2, i2, hT2, q1⟩) q2 q3 q4)
set_option maxHeartbeats 4000000 in
theorem c_X2_run (l : Launch) (G : b_G) {h : b_H} {sz : Nat} {lb : Nat → Nat} {L n : Nat} {O : Nat → Nat} {D : Nat → Nat → Nat} {I : Nat → Nat → Int} {A : Nat → Nat → Nat → Int} {fo fa nf : Nat} {pt RA RB LN : Nat → Nat} {PI PR PB : Nat → Nat → Int} {o sa : Nat} {i s : Nat → Int} {k : Nat} (hA : n_A G lb L n O D I A fo fa nf pt RA RB LN PI PR PB o sa (.ref (pt k)) i s h) (hk : k < nf) (hk3 : i 3 = (k : Int)) {nn : Int} (hnn : 1 ≤ nn ∧ nn ≤ 600) (hN : n_I nf LN PI i s) (h7b : i 7 + nn ≤ 400000) (hpb : ∀ p, 0 ≤ I (p + 20) 5 ∧ I (p + 20) 5 ≤ 1999999000) : Con l G yX2_run cX2_run 3 (some .int) 6 126 0 0 [.ref o, .int (zI nn)] h sz (fun r h2 s2 => ∃ i2, r = some (.int (zI (i2 7))) ∧ s2 = sz ∧ ∃ I2, n_A G lb L n O D I2 A fo fa nf pt RA RB LN PI PR PB o sa (.ref (pt (i2 3).toNat)) i2 s h2 ∧ n_rn nf LN PI PB s nn.toNat I i I2 i2 ∧ n_I nf LN PI i2 s ∧ n_fr lb n h2 h) := by
  refine Con.ofK (by decide +kernel) rfl rfl ?_
  intro S M
  have hc := M.2.2.2.1
  have ho : s_own S = RX2 := M.2.2.1
  have hFr : (s_R S).frames = 6 := by rw [M.2.2.2.2.2.2.2.1]
  have hLo : (s_R S).locals = 126 := by rw [M.2.2.2.2.2.2.2.1]
  have hCe : (s_R S).cells = 0 := by rw [M.2.2.2.2.2.2.2.1]
  have hSl : (s_R S).slots = 0 := by rw [M.2.2.2.2.2.2.2.1]
  have hG : s_G S = G := M.2.1
  subst hG
  have hfr : n_fr lb n h h := fun _ _ _ => rfl
  obtain ⟨hti0, hti2, hti5, hti8, htiB, htiR, htix, hti1, hti3, hti4⟩ := id (hA.2.1.2.2.2.2.2 _ hk).2.1
  refine z_iconst hc dX2_run_0 ?_
  refine v_istore_n hc dX2_run_1 (Nat.le_of_ble_eq_true rfl) ?_
  exact l_X2_run M hnn.2 _ h I i 0 rfl (by omega) (by omega) (by rw [hk3, Int.toNat_natCast]; exact hA) hN (by omega) (fun p => by have := hpb p; omega) hfr (fun I2 i2 h2 q1 q2 q3 q4 => ⟨i2, rfl, rfl, I2, q2, by rw [Int.sub_zero] at q1; exact q1, q3, q4⟩)
set_option maxHeartbeats 4000000 in
theorem c_X2_seeCue (l : Launch) (G : b_G) {h : b_H} {sz : Nat} {lb : Nat → Nat} {L n : Nat} {O : Nat → Nat} {D : Nat → Nat → Nat} {I : Nat → Nat → Int} {A : Nat → Nat → Nat → Int} {fo fa nf : Nat} {pt RA RB LN : Nat → Nat} {PI PR PB : Nat → Nat → Int} {o sa : Nat} {i s : Nat → Int} {k : Nat} (hA : n_A G lb L n O D I A fo fa nf pt RA RB LN PI PR PB o sa (.ref (pt k)) i s h) (hk : k < nf) (hk3 : i 3 = (k : Int)) (hN : n_I nf LN PI i s) : Con l G yX2_seeCue cX2_seeCue 2 (some .int) 1 20 0 0 [.ref o] h sz (fun r h2 s3 => s3 = sz ∧ ∃ s2 i2, ((¬ (i 11 = 0 ∧ i 12 = 0 ∧ i 10 + 1 < nf) ∧ r = some (.int (zI (-2))) ∧ s2 = s ∧ i2 = i) ∨ ((i 11 = 0 ∧ i 12 = 0 ∧ i 10 + 1 < nf) ∧ r = some (.int (zI (i 10 + 1))) ∧ i2 10 = i 10 + 1 ∧ n_ck i i2 [10] ∧ s2 = b_up s (i 10 + 1).toNat (i 7))) ∧ n_A G lb L n O D I A fo fa nf pt RA RB LN PI PR PB o sa (.ref (pt (i2 3).toNat)) i2 s2 h2 ∧ n_I nf LN PI i2 s2 ∧ n_fr lb n h2 h) := by
  refine Con.ofK (by decide +kernel) rfl rfl ?_
  intro S M
  have hc := M.2.2.2.1
  have ho : s_own S = RX2 := M.2.2.1
  have hFr : (s_R S).frames = 1 := by rw [M.2.2.2.2.2.2.2.1]
  have hLo : (s_R S).locals = 20 := by rw [M.2.2.2.2.2.2.2.1]
  have hCe : (s_R S).cells = 0 := by rw [M.2.2.2.2.2.2.2.1]
  have hSl : (s_R S).slots = 0 := by rw [M.2.2.2.2.2.2.2.1]
  have hG : s_G S = G := M.2.1
  subst hG
  have hfr : n_fr lb n h h := fun _ _ _ => rfl
  obtain ⟨hti0, hti2, hti5, hti8, htiB, htiR, htix, hti1, hti3, hti4⟩ := id (hA.2.1.2.2.2.2.2 _ hk).2.1
  obtain ⟨mc, hjo, -⟩ := id hA.2.1.1
  obtain ⟨hn1, hn2, hn3, hn4, hn5, hn6, hn7, hn8, hn9, hn10, hn11, hn12⟩ := id hN
  have hTT := n_I.T hA
  refine v_aload_n hc dX2_seeCue_0 rfl ?_
  refine v_get hc ho dX2_seeCue_1 F_X2_72 hA.2.2.1 rfl ?_
  refine z_iconst hc dX2_seeCue_4 ?_
  refine z_iadd hc dX2_seeCue_5 ?_
  refine v_istore_n hc dX2_seeCue_6 (Nat.le_of_ble_eq_true rfl) ?_
  refine v_aload_n hc dX2_seeCue_7 rfl ?_
  refine v_get hc ho dX2_seeCue_8 F_X2_55 hA.2.2.1 rfl ?_
  refine z_if_ne (tgt := 41) hc dX2_seeCue_11 (by decide) (by first | assumption | exact hi _ | exact ha _ _ | (unfold zb; omega)) (fun c_1 => ?_) (fun c_1 => ?_)
  · refine z_bipush hc dX2_seeCue_41 (by decide) ?_
    refine z_iret M dX2_seeCue_43 (by omega) (by omega) ?_
    exact ⟨rfl, s, i, Or.inl ⟨by omega, rfl, rfl, rfl⟩, by rw [hk3, Int.toNat_natCast]; exact hA, hN, hfr⟩
  · refine v_aload_n hc dX2_seeCue_14 rfl ?_
    refine v_get hc ho dX2_seeCue_15 F_X2_103 hA.2.2.1 rfl ?_
    refine z_if_ne (tgt := 41) hc dX2_seeCue_18 (by decide) (by first | assumption | exact hi _ | exact ha _ _ | (unfold zb; omega)) (fun c_2 => ?_) (fun c_2 => ?_)
    · refine z_bipush hc dX2_seeCue_41 (by decide) ?_
      refine z_iret M dX2_seeCue_43 (by omega) (by omega) ?_
      exact ⟨rfl, s, i, Or.inl ⟨by omega, rfl, rfl, rfl⟩, by rw [hk3, Int.toNat_natCast]; exact hA, hN, hfr⟩
    · refine v_iload_n hc dX2_seeCue_21 rfl ?_
      refine v_aload_n hc dX2_seeCue_22 rfl ?_
      refine v_get hc ho dX2_seeCue_23 F_X2_15 hA.2.2.1 rfl ?_
      refine v_callV (As := []) hc ho dX2_seeCue_26 KV_X2_88 KB_Jx4a65c_size_8abf5 hjo rfl rfl (c_Jx4a65c_size_8abf5 _ _ hA.2.1.1) rfl (Nat.le_of_ble_eq_true rfl) ⟨by omega, by omega⟩ ⟨by omega, by omega⟩ (fun r_ h_ sz_ q_ z_ => ?_)
      obtain ⟨rfl, eh_, es_⟩ := q_
      have eh_ := eh_.symm
      subst eh_
      have es_ := es_.symm
      subst es_
      refine z_icmp_ge (tgt := 41) hc dX2_seeCue_29 (by decide) (by first | assumption | exact hi _ | exact ha _ _ | (unfold zb; omega)) (by first | assumption | exact hi _ | exact ha _ _ | (unfold zb; omega)) (fun c_3 => ?_) (fun c_3 => ?_)
      · refine z_bipush hc dX2_seeCue_41 (by decide) ?_
        refine z_iret M dX2_seeCue_43 (by omega) (by omega) ?_
        exact ⟨rfl, s, i, Or.inl ⟨by omega, rfl, rfl, rfl⟩, by rw [hk3, Int.toNat_natCast]; exact hA, hN, hfr⟩
      · refine v_iload_n hc dX2_seeCue_32 rfl ?_
        refine v_aload_n hc dX2_seeCue_33 rfl ?_
        refine v_get hc ho dX2_seeCue_34 F_X2_9 hA.2.2.1 rfl ?_
        refine z_ilen hc dX2_seeCue_37 hA.2.2.2.1 ?_
        refine z_icmp_lt (tgt := 44) hc dX2_seeCue_38 (by decide) (by first | assumption | exact hi _ | exact ha _ _ | (unfold zb; omega)) (by first | assumption | exact hi _ | exact ha _ _ | (unfold zb; omega)) (fun c_4 => ?_) (fun c_4 => absurd c_4 (by omega))
        refine v_aload_n hc dX2_seeCue_44 rfl ?_
        refine v_get hc ho dX2_seeCue_45 F_X2_9 hA.2.2.1 rfl ?_
        refine v_iload_n hc dX2_seeCue_48 rfl ?_
        refine v_aload_n hc dX2_seeCue_49 rfl ?_
        refine v_get hc ho dX2_seeCue_50 F_X2_39 hA.2.2.1 rfl ?_
        refine x_iast hc dX2_seeCue_53 hA.2.2.2.1 (by omega) (by omega) (by omega) (fun h1 e1 e2 => ?_)
        replace hfr : n_fr lb n h1 h := fun b q1 q2 => (e2 b (fun q => q1 (by rw [q]; exact hA.2.2.2.2.2.2))).trans (hfr b q1 q2)
        replace hA := hA.sn e1 e2
        refine v_aload_n hc dX2_seeCue_54 rfl ?_
        refine v_iload_n hc dX2_seeCue_55 rfl ?_
        refine n_putf hc ho dX2_seeCue_56 F_X2_72 hA hfr (by decide) (by decide) ⟨rfl, rfl⟩ (fun h i_5 g_5 k_5 hA hfr => ?_)
        have hk_5 := fun u (hu : u ≠ 10) => k_5 u hu
        have k_5_3 := k_5 3 (by decide)
        have k_5_4 := k_5 4 (by decide)
        have k_5_5 := k_5 5 (by decide)
        have k_5_6 := k_5 6 (by decide)
        have k_5_7 := k_5 7 (by decide)
        have k_5_8 := k_5 8 (by decide)
        have k_5_9 := k_5 9 (by decide)
        have k_5_11 := k_5 11 (by decide)
        have k_5_12 := k_5 12 (by decide)
        refine v_iload_n hc dX2_seeCue_59 rfl ?_
        refine z_iret M dX2_seeCue_60 (by omega) (by omega) ?_
        refine ⟨rfl, _, i_5, Or.inr ⟨by omega, rfl, g_5, fun u hu => k_5 u (by simpa using hu), rfl⟩, by rw [show i_5 3 = i 3 by omega, hk3, Int.toNat_natCast] at *; exact hA, ?_, hfr⟩
        refine ⟨hn1, by omega, by omega, by rw [k_5_3, k_5_5]; exact hn4, fun q => by rw [n_dn, k_5_3, k_5_4, k_5_6, k_5_7]; exact hn5 (by omega), by omega, by omega, by rw [k_5_3, k_5_9]; exact hn8, by omega, by omega, by omega, fun j => ?_⟩
        by_cases e : j = (i 10 + 1).toNat
        · rw [e, b_up_eq]; omega
        · rw [b_up_ne _ _ e]; have := hn12 j; omega
set_option maxHeartbeats 4000000 in
theorem c_X2_breakReel (l : Launch) (G : b_G) {h : b_H} {sz : Nat} {lb : Nat → Nat} {L n : Nat} {O : Nat → Nat} {D : Nat → Nat → Nat} {I : Nat → Nat → Int} {A : Nat → Nat → Nat → Int} {fo fa nf : Nat} {pt RA RB LN : Nat → Nat} {PI PR PB : Nat → Nat → Int} {o sa : Nat} {i s : Nat → Int} {k : Nat} (hA : n_A G lb L n O D I A fo fa nf pt RA RB LN PI PR PB o sa (.ref (pt k)) i s h) (hk : k < nf) (hk3 : i 3 = (k : Int)) (hN : n_I nf LN PI i s) {x : Int} (hx : zb x) : Con l G yX2_breakReel cX2_breakReel 3 (some .int) 0 0 0 0 [.ref o, .int (zI x)] h sz (fun r h2 s2 => r = some (.int (zI (i 12))) ∧ s2 = sz ∧ ∃ i2, i2 12 = bI (x = 1) ∧ n_ck i i2 [12] ∧ n_A G lb L n O D I A fo fa nf pt RA RB LN PI PR PB o sa (.ref (pt (i2 3).toNat)) i2 s h2 ∧ n_I nf LN PI i2 s ∧ n_fr lb n h2 h) := by
  refine Con.ofK (by decide +kernel) rfl rfl ?_
  intro S M
  have hc := M.2.2.2.1
  have ho : s_own S = RX2 := M.2.2.1
  have hFr : (s_R S).frames = 0 := by rw [M.2.2.2.2.2.2.2.1]
  have hLo : (s_R S).locals = 0 := by rw [M.2.2.2.2.2.2.2.1]
  have hCe : (s_R S).cells = 0 := by rw [M.2.2.2.2.2.2.2.1]
  have hSl : (s_R S).slots = 0 := by rw [M.2.2.2.2.2.2.2.1]
  have hG : s_G S = G := M.2.1
  subst hG
  have hfr : n_fr lb n h h := fun _ _ _ => rfl
  obtain ⟨hti0, hti2, hti5, hti8, htiB, htiR, htix, hti1, hti3, hti4⟩ := id (hA.2.1.2.2.2.2.2 _ hk).2.1
  obtain ⟨hn1, hn2, hn3, hn4, hn5, hn6, hn7, hn8, hn9, hn10, hn11, hn12⟩ := id hN
  have hTT := n_I.T hA
  refine v_aload_n hc dX2_breakReel_0 rfl ?_
  refine v_get hc ho dX2_breakReel_1 F_X2_103 hA.2.2.1 rfl ?_
  refine z_if_eq (tgt := 11) hc dX2_breakReel_4 (by decide) (by first | assumption | exact hi _ | exact ha _ _ | (unfold zb; omega)) (fun c_1 => ?_) (fun c_1 => ?_)
  · refine z_iconst hc dX2_breakReel_11 ?_
    refine v_istore_n hc dX2_breakReel_12 (Nat.le_of_ble_eq_true rfl) ?_
    refine v_aload_n hc dX2_breakReel_13 rfl ?_
    refine v_iload_n hc dX2_breakReel_14 rfl ?_
    refine z_iconst hc dX2_breakReel_15 ?_
    refine z_icmp_ne (tgt := 23) hc dX2_breakReel_16 (by decide) (by first | assumption | exact hi _ | exact ha _ _ | (unfold zb; omega)) (by first | assumption | exact hi _ | exact ha _ _ | (unfold zb; omega)) (fun c_2 => ?_) (fun c_2 => ?_)
    · refine z_iconst hc dX2_breakReel_23 ?_
      refine n_putf hc ho dX2_breakReel_24 F_X2_103 hA hfr (by decide) (by decide) ⟨rfl, rfl⟩ (fun h i_3 g_3 k_3 hA hfr => ?_)
      have hk_3 := fun u (hu : u ≠ 12) => k_3 u hu
      have k_3_3 := k_3 3 (by decide)
      have k_3_4 := k_3 4 (by decide)
      have k_3_5 := k_3 5 (by decide)
      have k_3_6 := k_3 6 (by decide)
      have k_3_7 := k_3 7 (by decide)
      have k_3_8 := k_3 8 (by decide)
      have k_3_9 := k_3 9 (by decide)
      have k_3_10 := k_3 10 (by decide)
      have k_3_11 := k_3 11 (by decide)
      refine v_iload_n hc dX2_breakReel_27 rfl ?_
      refine z_iret M dX2_breakReel_28 (by omega) (by omega) ?_
      refine ⟨by first | rw [show i 12 = 1 by omega] | rw [show i 12 = 0 by omega], rfl, i_3, ?_, fun u hu => k_3 u (by simpa using hu), by rw [show (i_3 3).toNat = k by omega]; exact hA, ?_, hfr⟩
      · first | (rw [g_3, bI, if_pos (by omega)]; done) | (rw [g_3, bI, if_neg (by omega)]; done)
      · exact ⟨hn1, by omega, by omega, by rw [k_3_3, k_3_5]; exact hn4, fun u => by rw [n_dn, k_3_3, k_3_4, k_3_6, k_3_7]; exact hn5 (by omega), by omega, by omega, by rw [k_3_3, k_3_9]; exact hn8, by omega, by omega, by omega, fun j => by have := hn12 j; omega⟩
    · refine z_iconst hc dX2_breakReel_19 ?_
      refine v_goto (tgt := 24) hc dX2_breakReel_20 (by decide) ?_
      refine n_putf hc ho dX2_breakReel_24 F_X2_103 hA hfr (by decide) (by decide) ⟨rfl, rfl⟩ (fun h i_4 g_4 k_4 hA hfr => ?_)
      have hk_4 := fun u (hu : u ≠ 12) => k_4 u hu
      have k_4_3 := k_4 3 (by decide)
      have k_4_4 := k_4 4 (by decide)
      have k_4_5 := k_4 5 (by decide)
      have k_4_6 := k_4 6 (by decide)
      have k_4_7 := k_4 7 (by decide)
      have k_4_8 := k_4 8 (by decide)
      have k_4_9 := k_4 9 (by decide)
      have k_4_10 := k_4 10 (by decide)
      have k_4_11 := k_4 11 (by decide)
      refine v_iload_n hc dX2_breakReel_27 rfl ?_
      refine z_iret M dX2_breakReel_28 (by omega) (by omega) ?_
      refine ⟨by first | rw [show i 12 = 1 by omega] | rw [show i 12 = 0 by omega], rfl, i_4, ?_, fun u hu => k_4 u (by simpa using hu), by rw [show (i_4 3).toNat = k by omega]; exact hA, ?_, hfr⟩
      · first | (rw [g_4, bI, if_pos (by omega)]; done) | (rw [g_4, bI, if_neg (by omega)]; done)
      · exact ⟨hn1, by omega, by omega, by rw [k_4_3, k_4_5]; exact hn4, fun u => by rw [n_dn, k_4_3, k_4_4, k_4_6, k_4_7]; exact hn5 (by omega), by omega, by omega, by rw [k_4_3, k_4_9]; exact hn8, by omega, by omega, by omega, fun j => by have := hn12 j; omega⟩
  · refine z_iconst hc dX2_breakReel_7 ?_
    refine v_goto (tgt := 12) hc dX2_breakReel_8 (by decide) ?_
    refine v_istore_n hc dX2_breakReel_12 (Nat.le_of_ble_eq_true rfl) ?_
    refine v_aload_n hc dX2_breakReel_13 rfl ?_
    refine v_iload_n hc dX2_breakReel_14 rfl ?_
    refine z_iconst hc dX2_breakReel_15 ?_
    refine z_icmp_ne (tgt := 23) hc dX2_breakReel_16 (by decide) (by first | assumption | exact hi _ | exact ha _ _ | (unfold zb; omega)) (by first | assumption | exact hi _ | exact ha _ _ | (unfold zb; omega)) (fun c_5 => ?_) (fun c_5 => ?_)
    · refine z_iconst hc dX2_breakReel_23 ?_
      refine n_putf hc ho dX2_breakReel_24 F_X2_103 hA hfr (by decide) (by decide) ⟨rfl, rfl⟩ (fun h i_6 g_6 k_6 hA hfr => ?_)
      have hk_6 := fun u (hu : u ≠ 12) => k_6 u hu
      have k_6_3 := k_6 3 (by decide)
      have k_6_4 := k_6 4 (by decide)
      have k_6_5 := k_6 5 (by decide)
      have k_6_6 := k_6 6 (by decide)
      have k_6_7 := k_6 7 (by decide)
      have k_6_8 := k_6 8 (by decide)
      have k_6_9 := k_6 9 (by decide)
      have k_6_10 := k_6 10 (by decide)
      have k_6_11 := k_6 11 (by decide)
      refine v_iload_n hc dX2_breakReel_27 rfl ?_
      refine z_iret M dX2_breakReel_28 (by omega) (by omega) ?_
      refine ⟨by first | rw [show i 12 = 1 by omega] | rw [show i 12 = 0 by omega], rfl, i_6, ?_, fun u hu => k_6 u (by simpa using hu), by rw [show (i_6 3).toNat = k by omega]; exact hA, ?_, hfr⟩
      · first | (rw [g_6, bI, if_pos (by omega)]; done) | (rw [g_6, bI, if_neg (by omega)]; done)
      · exact ⟨hn1, by omega, by omega, by rw [k_6_3, k_6_5]; exact hn4, fun u => by rw [n_dn, k_6_3, k_6_4, k_6_6, k_6_7]; exact hn5 (by omega), by omega, by omega, by rw [k_6_3, k_6_9]; exact hn8, by omega, by omega, by omega, fun j => by have := hn12 j; omega⟩
    · refine z_iconst hc dX2_breakReel_19 ?_
      refine v_goto (tgt := 24) hc dX2_breakReel_20 (by decide) ?_
      refine n_putf hc ho dX2_breakReel_24 F_X2_103 hA hfr (by decide) (by decide) ⟨rfl, rfl⟩ (fun h i_7 g_7 k_7 hA hfr => ?_)
      have hk_7 := fun u (hu : u ≠ 12) => k_7 u hu
      have k_7_3 := k_7 3 (by decide)
      have k_7_4 := k_7 4 (by decide)
      have k_7_5 := k_7 5 (by decide)
      have k_7_6 := k_7 6 (by decide)
      have k_7_7 := k_7 7 (by decide)
      have k_7_8 := k_7 8 (by decide)
      have k_7_9 := k_7 9 (by decide)
      have k_7_10 := k_7 10 (by decide)
      have k_7_11 := k_7 11 (by decide)
      refine v_iload_n hc dX2_breakReel_27 rfl ?_
      refine z_iret M dX2_breakReel_28 (by omega) (by omega) ?_
      refine ⟨by first | rw [show i 12 = 1 by omega] | rw [show i 12 = 0 by omega], rfl, i_7, ?_, fun u hu => k_7 u (by simpa using hu), by rw [show (i_7 3).toNat = k by omega]; exact hA, ?_, hfr⟩
      · first | (rw [g_7, bI, if_pos (by omega)]; done) | (rw [g_7, bI, if_neg (by omega)]; done)
      · exact ⟨hn1, by omega, by omega, by rw [k_7_3, k_7_5]; exact hn4, fun u => by rw [n_dn, k_7_3, k_7_4, k_7_6, k_7_7]; exact hn5 (by omega), by omega, by omega, by rw [k_7_3, k_7_9]; exact hn8, by omega, by omega, by omega, fun j => by have := hn12 j; omega⟩
def n_tl (LN : Nat → Nat) (PI PR : Nat → Nat → Int) (i : Nat → Int) (w : Int) : Int := if w = 0 then i 3 else if w = 1 then PR (i 3).toNat (i 5).toNat else if w = 2 then PI (i 3).toNat 1 else if w = 3 then i 8 else if w = 4 then i 9 else if w = 5 then i 7 else if w = 6 then i 11 else if w = 7 then i 10 else if w = 8 then n_dn PI i else -1
set_option maxHeartbeats 4000000 in
theorem c_X2_tell (l : Launch) (G : b_G) {h : b_H} {sz : Nat} {lb : Nat → Nat} {L n : Nat} {O : Nat → Nat} {D : Nat → Nat → Nat} {I : Nat → Nat → Int} {A : Nat → Nat → Nat → Int} {fo fa nf : Nat} {pt RA RB LN : Nat → Nat} {PI PR PB : Nat → Nat → Int} {o sa : Nat} {i s : Nat → Int} {k : Nat} (hA : n_A G lb L n O D I A fo fa nf pt RA RB LN PI PR PB o sa (.ref (pt k)) i s h) (hk : k < nf) (hk3 : i 3 = (k : Int)) (hN : n_I nf LN PI i s) {x : Int} (hx : zb x) : Con l G yX2_tell cX2_tell 2 (some .int) 2 42 0 0 [.ref o, .int (zI x)] h sz (p_ro (some (.int (zI (n_tl LN PI PR i x)))) h sz) := by
  refine Con.ofK (by decide +kernel) rfl rfl ?_
  intro S M
  have hc := M.2.2.2.1
  have ho : s_own S = RX2 := M.2.2.1
  have hFr : (s_R S).frames = 2 := by rw [M.2.2.2.2.2.2.2.1]
  have hLo : (s_R S).locals = 42 := by rw [M.2.2.2.2.2.2.2.1]
  have hCe : (s_R S).cells = 0 := by rw [M.2.2.2.2.2.2.2.1]
  have hSl : (s_R S).slots = 0 := by rw [M.2.2.2.2.2.2.2.1]
  have hG : s_G S = G := M.2.1
  subst hG
  have hfr : n_fr lb n h h := fun _ _ _ => rfl
  obtain ⟨hti0, hti2, hti5, hti8, htiB, htiR, htix, hti1, hti3, hti4⟩ := id (hA.2.1.2.2.2.2.2 _ hk).2.1
  obtain ⟨hn1, hn2, hn3, hn4, hn5, hn6, hn7, hn8, hn9, hn10, hn11, hn12⟩ := id hN
  have hTT := n_I.T hA
  rw [show (i 3).toNat = k by omega] at hn4
  refine v_iload_n hc dX2_tell_0 rfl ?_
  by_cases w_1 : x = 0
  · refine z_tableIn (off := 51) (tgt := 52) hc dX2_tell_1 (by first | assumption | exact hi _ | exact ha _ _ | (unfold zb; omega)) (by omega) (by omega) (by rw [w_1]; rfl) (by decide) ?_
    refine v_aload_n hc dX2_tell_52 rfl ?_
    refine v_get hc ho dX2_tell_53 F_X2_75 hA.2.2.1 rfl ?_
    refine z_iret M dX2_tell_56 (by omega) (by omega) ?_
    exact ⟨by rw [n_tl, if_pos (by omega)], rfl, rfl⟩
  by_cases w_2 : x = 1
  · refine z_tableIn (off := 56) (tgt := 57) hc dX2_tell_1 (by first | assumption | exact hi _ | exact ha _ _ | (unfold zb; omega)) (by omega) (by omega) (by rw [w_2]; rfl) (by decide) ?_
    refine v_aload_n hc dX2_tell_57 rfl ?_
    refine v_get hc ho dX2_tell_58 F_X2_23 hA.2.2.1 rfl ?_
    refine v_aload_n hc dX2_tell_61 rfl ?_
    refine v_get hc ho dX2_tell_62 F_X2_45 hA.2.2.1 rfl ?_
    refine v_callV (As := [.int (zI (i 5))]) hc ho dX2_tell_65 KV_X2_106 KB_X3_blockAt (hA.2.1.2.2.2.2.2 _ hk).1.1 rfl rfl (c_X3_blockAt _ _ (hA.2.1.2.2.2.2.2 _ hk).1 (hA.2.1.2.2.2.2.2 _ hk).2.1 (x := i 5) (by unfold zb; omega)) rfl (Nat.le_of_ble_eq_true rfl) ⟨by omega, by omega⟩ ⟨by omega, by omega⟩ (fun r_ h_ sz_ q_ z_ => ?_)
    obtain ⟨rfl, eh_, es_⟩ := q_
    have eh_ := eh_.symm
    subst eh_
    have es_ := es_.symm
    subst es_
    rw [if_pos (show 0 ≤ i 5 ∧ i 5 < (LN k : Int) by omega)]
    refine z_iret M dX2_tell_68 (by omega) (by omega) ?_
    exact ⟨by rw [n_tl, if_neg (by omega), if_pos (by omega), show (i 3).toNat = k by omega], rfl, rfl⟩
  by_cases w_3 : x = 2
  · refine z_tableIn (off := 68) (tgt := 69) hc dX2_tell_1 (by first | assumption | exact hi _ | exact ha _ _ | (unfold zb; omega)) (by omega) (by omega) (by rw [w_3]; rfl) (by decide) ?_
    refine v_aload_n hc dX2_tell_69 rfl ?_
    refine v_get hc ho dX2_tell_70 F_X2_23 hA.2.2.1 rfl ?_
    refine v_get hc ho dX2_tell_73 F_X2_109 (hA.2.1.2.2.2.2.2 _ hk).1.1 rfl ?_
    refine z_iret M dX2_tell_76 (by omega) (by omega) ?_
    exact ⟨by rw [n_tl, if_neg (by omega), if_neg (by omega), if_pos (by omega), show (i 3).toNat = k by omega], rfl, rfl⟩
  by_cases w_4 : x = 3
  · refine z_tableIn (off := 76) (tgt := 77) hc dX2_tell_1 (by first | assumption | exact hi _ | exact ha _ _ | (unfold zb; omega)) (by omega) (by omega) (by rw [w_4]; rfl) (by decide) ?_
    refine v_aload_n hc dX2_tell_77 rfl ?_
    refine v_get hc ho dX2_tell_78 F_X2_93 hA.2.2.1 rfl ?_
    refine z_iret M dX2_tell_81 (by omega) (by omega) ?_
    exact ⟨by rw [n_tl, if_neg (by omega), if_neg (by omega), if_neg (by omega), if_pos (by omega)], rfl, rfl⟩
  by_cases w_5 : x = 4
  · refine z_tableIn (off := 81) (tgt := 82) hc dX2_tell_1 (by first | assumption | exact hi _ | exact ha _ _ | (unfold zb; omega)) (by omega) (by omega) (by rw [w_5]; rfl) (by decide) ?_
    refine v_aload_n hc dX2_tell_82 rfl ?_
    refine v_get hc ho dX2_tell_83 F_X2_96 hA.2.2.1 rfl ?_
    refine z_iret M dX2_tell_86 (by omega) (by omega) ?_
    exact ⟨by rw [n_tl, if_neg (by omega), if_neg (by omega), if_neg (by omega), if_neg (by omega), if_pos (by omega)], rfl, rfl⟩
  by_cases w_6 : x = 5
  · refine z_tableIn (off := 86) (tgt := 87) hc dX2_tell_1 (by first | assumption | exact hi _ | exact ha _ _ | (unfold zb; omega)) (by omega) (by omega) (by rw [w_6]; rfl) (by decide) ?_
    refine v_aload_n hc dX2_tell_87 rfl ?_
    refine v_get hc ho dX2_tell_88 F_X2_39 hA.2.2.1 rfl ?_
    refine z_iret M dX2_tell_91 (by omega) (by omega) ?_
    exact ⟨by rw [n_tl, if_neg (by omega), if_neg (by omega), if_neg (by omega), if_neg (by omega), if_neg (by omega), if_pos (by omega)], rfl, rfl⟩
  by_cases w_7 : x = 6
  · refine z_tableIn (off := 91) (tgt := 92) hc dX2_tell_1 (by first | assumption | exact hi _ | exact ha _ _ | (unfold zb; omega)) (by omega) (by omega) (by rw [w_7]; rfl) (by decide) ?_
    refine v_aload_n hc dX2_tell_92 rfl ?_
    refine v_get hc ho dX2_tell_93 F_X2_55 hA.2.2.1 rfl ?_
    refine z_if_eq (tgt := 103) hc dX2_tell_96 (by decide) (by first | assumption | exact hi _ | exact ha _ _ | (unfold zb; omega)) (fun c_8 => ?_) (fun c_8 => ?_)
    · refine z_iconst hc dX2_tell_103 ?_
      refine z_iret M dX2_tell_104 (by omega) (by omega) ?_
      first | exact ⟨by rw [n_tl, if_neg (by omega), if_neg (by omega), if_neg (by omega), if_neg (by omega), if_neg (by omega), if_neg (by omega), if_pos (by omega), show i 11 = 1 by omega], rfl, rfl⟩ | exact ⟨by rw [n_tl, if_neg (by omega), if_neg (by omega), if_neg (by omega), if_neg (by omega), if_neg (by omega), if_neg (by omega), if_pos (by omega), show i 11 = 0 by omega], rfl, rfl⟩
    · refine z_iconst hc dX2_tell_99 ?_
      refine v_goto (tgt := 104) hc dX2_tell_100 (by decide) ?_
      refine z_iret M dX2_tell_104 (by omega) (by omega) ?_
      first | exact ⟨by rw [n_tl, if_neg (by omega), if_neg (by omega), if_neg (by omega), if_neg (by omega), if_neg (by omega), if_neg (by omega), if_pos (by omega), show i 11 = 1 by omega], rfl, rfl⟩ | exact ⟨by rw [n_tl, if_neg (by omega), if_neg (by omega), if_neg (by omega), if_neg (by omega), if_neg (by omega), if_neg (by omega), if_pos (by omega), show i 11 = 0 by omega], rfl, rfl⟩
  by_cases w_9 : x = 7
  · refine z_tableIn (off := 104) (tgt := 105) hc dX2_tell_1 (by first | assumption | exact hi _ | exact ha _ _ | (unfold zb; omega)) (by omega) (by omega) (by rw [w_9]; rfl) (by decide) ?_
    refine v_aload_n hc dX2_tell_105 rfl ?_
    refine v_get hc ho dX2_tell_106 F_X2_72 hA.2.2.1 rfl ?_
    refine z_iret M dX2_tell_109 (by omega) (by omega) ?_
    exact ⟨by rw [n_tl, if_neg (by omega), if_neg (by omega), if_neg (by omega), if_neg (by omega), if_neg (by omega), if_neg (by omega), if_neg (by omega), if_pos (by omega)], rfl, rfl⟩
  by_cases w_10 : x = 8
  · refine z_tableIn (off := 109) (tgt := 110) hc dX2_tell_1 (by first | assumption | exact hi _ | exact ha _ _ | (unfold zb; omega)) (by omega) (by omega) (by rw [w_10]; rfl) (by decide) ?_
    refine v_aload_n hc dX2_tell_110 rfl ?_
    refine v_callV (As := []) hc ho dX2_tell_111 KV_X2_62 KB_X2_beatsDone hA.2.2.1 rfl rfl (c_X2_beatsDone _ _ hA hk hk3 (by omega)) rfl (Nat.le_of_ble_eq_true rfl) ⟨by omega, by omega⟩ ⟨by omega, by omega⟩ (fun r_ h_ sz_ q_ z_ => ?_)
    obtain ⟨rfl, eh_, es_⟩ := q_
    have eh_ := eh_.symm
    subst eh_
    have es_ := es_.symm
    subst es_
    refine z_iret M dX2_tell_114 (by omega) (by omega) ?_
    exact ⟨by rw [n_tl, if_neg (by omega), if_neg (by omega), if_neg (by omega), if_neg (by omega), if_neg (by omega), if_neg (by omega), if_neg (by omega), if_neg (by omega), if_pos (by omega)], rfl, rfl⟩
  refine z_tableOut (tgt := 115) hc dX2_tell_1 (by first | assumption | exact hi _ | exact ha _ _ | (unfold zb; omega)) (by omega) (by decide) ?_
  refine z_iconst hc dX2_tell_115 ?_
  refine z_iret M dX2_tell_116 (by omega) (by omega) ?_
  exact ⟨by rw [n_tl, if_neg (by omega), if_neg (by omega), if_neg (by omega), if_neg (by omega), if_neg (by omega), if_neg (by omega), if_neg (by omega), if_neg (by omega), if_neg (by omega)], rfl, rfl⟩
set_option maxHeartbeats 4000000 in
theorem c_X2_init (l : Launch) (G : b_G) {h : b_H} {sz : Nat} {lb : Nat → Nat} {L n : Nat} {O : Nat → Nat} {D : Nat → Nat → Nat} {I : Nat → Nat → Int} {A : Nat → Nat → Nat → Int} {fo fa nf : Nat} {pt RA RB LN : Nat → Nat} {PI PR PB : Nat → Nat → Int} {o sa : Nat} {i s : Nat → Int} (hW : x_W lb L n O D I A h) (hF : f_W G lb n O fo fa nf pt RA RB LN PI PR PB h) (hL : h o = some (b_ob 2 [.null, .null, .null, .int 0, .int 0, .int 0, .int 0, .int 0, .int 0, .int 0, .int 0, .int 0, .int 0])) (ho2 : o < sz) (hlo : lb o = 2) (hls : lb sz = 2) (hk : 0 < nf) (hpb : 0 ≤ I ((PI 0 1).toNat + 20) 5 ∧ I ((PI 0 1).toNat + 20) 5 ≤ 2000000000) : Con l G yX2_init cX2_init 3 none 3 63 1 8 [.ref o, .ref fo, .ref (pt 0)] h sz (fun r h2 s2 => r = none ∧ s2 = sz + 1 ∧ ∃ i2, n_A G lb L n O D (n_pl I (PI 0 1)) A fo fa nf pt RA RB LN PI PR PB o sz (.ref (pt 0)) i2 (fun _ => 0) h2 ∧ i2 4 = 0 ∧ i2 5 = 0 ∧ i2 6 = PB 0 0 ∧ n_ck (fun _ => 0) i2 [4, 5, 6] ∧ ∀ b, b < sz → lb b ≠ 2 → ¬ (20 ≤ lb b ∧ lb b < 20 + n) → h2 b = h b) := by
  refine Con.ofK (by decide +kernel) rfl rfl ?_
  intro S M
  have hc := M.2.2.2.1
  have ho : s_own S = RX2 := M.2.2.1
  have hFr : (s_R S).frames = 3 := by rw [M.2.2.2.2.2.2.2.1]
  have hLo : (s_R S).locals = 63 := by rw [M.2.2.2.2.2.2.2.1]
  have hCe : (s_R S).cells = 1 := by rw [M.2.2.2.2.2.2.2.1]
  have hSl : (s_R S).slots = 8 := by rw [M.2.2.2.2.2.2.2.1]
  have hG : s_G S = G := M.2.1
  subst hG
  have hnm : s_nm S = "<init>" := M.2.2.2.2.2.2.1
  refine v_aload_n hc dX2_init_0 rfl ?_
  refine v_obj hc ho dX2_init_1 OI_X2_3 (by omega) (by rw [hLo]; exact Nat.le_of_ble_eq_true rfl) ?_
  refine v_aload_n hc dX2_init_4 rfl ?_
  refine z_bipush hc dX2_init_5 (by decide) ?_
  refine x_newI hc dX2_init_7 (N := 8) rfl (by omega) (by omega) (by omega) (fun h1 e1 e2 => ?_)
  have hoz : o ≠ sz := by omega
  have hL := (e2 o hoz).trans hL
  refine x_putF hc ho hnm dX2_init_9 F_X2_9 hL rfl ⟨rfl, rfl⟩ (fun h2 e3 e4 => ?_)
  refine v_aload_n hc dX2_init_12 rfl ?_
  refine v_aload_n hc dX2_init_13 rfl ?_
  refine x_putF hc ho hnm dX2_init_14 F_X2_15 e3 rfl ⟨rfl, rfl⟩ (fun h3 e5 e6 => ?_)
  have hsame : ∀ b, b ≠ o → b ≠ sz → h3 b = h b := fun b q1 q2 => ((e6 b q1).trans (e4 b q1)).trans (e2 b q2)
  have hA : n_A (s_G S) lb L n O D I A fo fa nf pt RA RB LN PI PR PB o sz .null (fun _ => 0) (fun _ => 0) h3 := ⟨hW.kept (fun b hb => hsame b (fun q => by rw [q, hlo] at hb; exact x_is_no (Or.inl rfl) hb) (fun q => by rw [q, hls] at hb; exact x_is_no (Or.inl rfl) hb)), hF.kept (fun b hb => hsame b (fun q => by rw [q, hlo] at hb; omega) (fun q => by rw [q, hls] at hb; omega)), e5, (e6 _ (Ne.symm hoz)).trans ((e4 _ (Ne.symm hoz)).trans e1), hoz, hlo, hls⟩
  refine v_aload_n hc dX2_init_17 rfl ?_
  refine v_aload_n hc dX2_init_18 rfl ?_
  refine v_callV (As := [.ref (pt 0)]) hc ho dX2_init_19 KV_X2_19 KB_X2_enter hA.2.2.1 rfl rfl (c_X2_enter _ _ hA hk hpb (by unfold zb; omega)) rfl (Nat.le_of_ble_eq_true rfl) ⟨by omega, by omega⟩ ⟨by omega, by omega⟩ (fun r_ h_ sz_ q_ z_ => ?_)
  obtain ⟨rfl, rfl, i9, hA9, g4, g5, g6, gck, hfr9⟩ := q_
  refine v_vret M dX2_init_22 (by omega) (by omega) ?_
  exact ⟨rfl, rfl, i9, hA9, g4, g5, g6, gck, fun b hb q1 q2 => (hfr9 b q1 q2).trans (hsame b (fun q => q1 (by rw [q]; exact hlo)) (by omega))⟩
