/-! the class: its world, and the calls on film, planner, drummer -/
def x_Y (G : b_G) (o6 : Nat) (P7 : Nat → Prop) (L n : Nat) (I : Nat → Nat → Int) (A : Nat → Nat → Nat → Int) (nf : Nat) (LN : Nat → Nat) (PI PR PB : Nat → Nat → Int) (hn : Bool) (mf : Nat) (SN : Nat → Nat) (SI SR SB : Nat → Nat → Int) (i s : Nat → Int) (lb O : Nat → Nat) (D : Nat → Nat → Nat) (ol al fo fa : Nat) (pt RA RB : Nat → Nat) (nv : Value) (h : b_H) (sz : Nat) : Prop :=
  x_W lb L n O D I A h ∧ p_L G lb n O ol al h ∧ f_W G lb n O fo fa nf pt RA RB LN PI PR PB h ∧ h o6 = some (b_ob 6 [.ref (O 1), .ref ol, .ref (O 5), .ref (O 0), .ref fo, nv]) ∧ lb o6 = 6 ∧ (∀ b, P7 b → lb b = 7 ∧ b < sz) ∧ ((hn = false ∧ nv = .null) ∨ (hn = true ∧ ∃ (o2 sa pr pa : Nat) (qt QA QB : Nat → Nat), nv = .ref o2 ∧ f_W G lb n O pr pa mf qt QA QB SN SI SR SB h ∧ n_W lb o2 sa pr (.ref (qt (i 3).toNat)) i s h))
def x_X (G : b_G) (o6 : Nat) (P7 : Nat → Prop) (L n : Nat) (I : Nat → Nat → Int) (A : Nat → Nat → Nat → Int) (nf : Nat) (LN : Nat → Nat) (PI PR PB : Nat → Nat → Int) (hn : Bool) (mf : Nat) (SN : Nat → Nat) (SI SR SB : Nat → Nat → Int) (i s : Nat → Int) (h : b_H) (sz : Nat) : Prop :=
  ∃ (lb O : Nat → Nat) (D : Nat → Nat → Nat) (ol al fo fa : Nat) (pt RA RB : Nat → Nat) (nv : Value), x_Y G o6 P7 L n I A nf LN PI PR PB hn mf SN SI SR SB i s lb O D ol al fo fa pt RA RB nv h sz
theorem n_W.kept {lb : Nat → Nat} {o sa pr : Nat} {pv : Value} {i s : Nat → Int} {h h1 : b_H} (hN : n_W lb o sa pr pv i s h) (hq : ∀ b, lb b = 2 → h1 b = h b) : n_W lb o sa pr pv i s h1 := ⟨(hq o hN.2.2.2.1).trans hN.1, (hq sa hN.2.2.2.2).trans hN.2.1, hN.2.2⟩
theorem x_Y.put {G : b_G} {o6 : Nat} {P7 : Nat → Prop} {L n : Nat} {I : Nat → Nat → Int} {A : Nat → Nat → Nat → Int} {nf : Nat} {LN : Nat → Nat} {PI PR PB : Nat → Nat → Int} {hn : Bool} {mf : Nat} {SN : Nat → Nat} {SI SR SB : Nat → Nat → Int} {i s : Nat → Int} {lb : Nat → Nat} {O : Nat → Nat} {D : Nat → Nat → Nat} {ol al fo fa : Nat} {pt RA RB : Nat → Nat} {nv : Value} {h h1 : b_H} {sz : Nat} (hY : x_Y G o6 P7 L n I A nf LN PI PR PB hn mf SN SI SR SB i s lb O D ol al fo fa pt RA RB nv h sz) {t : Nat} {i2 : Nat → Int} {a2 : Nat → Nat → Int} (ht : x_is n t) (hO : r_O (x_K L t) (x_C t) (O t) (D t) i2 a2 h1) (hq : ∀ b, ¬ r_own (x_K L t) (O t) (D t) b → h1 b = h b) : x_Y G o6 P7 L n (b_up I t i2) (b_up A t a2) nf LN PI PR PB hn mf SN SI SR SB i s lb O D ol al fo fa pt RA RB nv h1 sz ∧ ∀ b, P7 b → h1 b = h b := by
  obtain ⟨hW, hL, hF, h6, hl6, h7, hN⟩ := hY
  have hl : ∀ b, lb b ≠ t → h1 b = h b := fun b hb => hq b (hW.lab ht hb)
  have hne : ∀ u, (u = 2 ∨ u = 6 ∨ u = 7 ∨ u = 9 ∨ u = 10) → u ≠ t := fun u hu e => x_is_no hu (e ▸ ht)
  refine ⟨⟨hW.put ht hO hq, hL.kept (fun b hb => hl b (by rw [hb]; exact hne 10 (by omega))), hF.kept (fun b hb => hl b (by rw [hb]; exact hne 9 (by omega))), (hl o6 (by rw [hl6]; exact hne 6 (by omega))).trans h6, hl6, h7, ?_⟩, fun b hb => hl b (by rw [(h7 b hb).1]; exact hne 7 (by omega))⟩
  rcases hN with q | ⟨q, o2, sa, pr, pa, qt, QA, QB, g1, g2, g3⟩
  · exact Or.inl q
  · exact Or.inr ⟨q, o2, sa, pr, pa, qt, QA, QB, g1, g2.kept (fun b hb => hl b (by rw [hb]; exact hne 9 (by omega))), g3.kept (fun b hb => hl b (by rw [hb]; exact hne 2 (by omega)))⟩
theorem f_F_neg {c : Nat → Int} {n : Nat} {s : Int} (hs : s < 0) : f_F c n s = n := by
  refine f_fi_eq (fun k hk => ?_) (fun h => absurd h (by omega)) (Nat.le_refl n)
  rw [decide_eq_false_iff_not]
  have := f_ct_bd c k
  omega

set_option maxHeartbeats 4000000 in
theorem c_X6_shot (l : Launch) (G : b_G) {h : b_H} {sz : Nat} {o6 : Nat} {P7 : Nat → Prop} {L n : Nat} {I : Nat → Nat → Int} {A : Nat → Nat → Nat → Int} {nf : Nat} {LN : Nat → Nat} {PI PR PB : Nat → Nat → Int} {hn : Bool} {mf : Nat} {SN : Nat → Nat} {SI SR SB : Nat → Nat → Int} {i s : Nat → Int} (hX : x_X G o6 P7 L n I A nf LN PI PR PB hn mf SN SI SR SB i s h sz) (hf : f_I (I 1) (A 1)) {x y : Int} (hx : zb x) (hy : zb y) : Con l G yX6_shot cX6_shot 3 (some .int) 1 22 0 0 [.ref o6, .int (zI x), .int (zI y)] h sz (fun r h2 s2 => s2 = sz ∧ (∀ b, P7 b → h2 b = h b) ∧ ∃ i2 a2, ((¬ ((1 ≤ x ∧ x ≤ 2000) ∧ 0 ≤ y ∧ y ≤ 5) ∧ r = some (.int (zI (-1))) ∧ i2 = I 1 ∧ a2 = A 1) ∨ (((1 ≤ x ∧ x ≤ 2000) ∧ 0 ≤ y ∧ y ≤ 5) ∧ ((I 1 3 = 60 ∧ r = some (.int (zI (-3))) ∧ i2 = I 1 ∧ a2 = A 1) ∨ (I 1 3 < 60 ∧ r = some (.int (zI (I 1 3))) ∧ i2 = b_up (I 1) 3 (I 1 3 + 1) ∧ a2 = r_up (r_up (r_up (A 1) 0 (I 1 3).toNat x) 1 (I 1 3).toNat y) 2 (I 1 3).toNat (bI (I 1 3 = 0)))))) ∧ x_X G o6 P7 L n (b_up I 1 i2) (b_up A 1 a2) nf LN PI PR PB hn mf SN SI SR SB i s h2 sz) := by
  refine Con.ofK (by decide +kernel) rfl rfl ?_
  intro S M
  have hc := M.2.2.2.1
  have ho : s_own S = RX6 := M.2.2.1
  have hFr : (s_R S).frames = 1 := by rw [M.2.2.2.2.2.2.2.1]
  have hLo : (s_R S).locals = 22 := by rw [M.2.2.2.2.2.2.2.1]
  have hCe : (s_R S).cells = 0 := by rw [M.2.2.2.2.2.2.2.1]
  have hSl : (s_R S).slots = 0 := by rw [M.2.2.2.2.2.2.2.1]
  have hG : s_G S = G := M.2.1
  subst hG
  obtain ⟨lb, O, D, ol, al, fo, fa, pt, RA, RB, nv, hY⟩ := hX
  obtain ⟨hW, hL, hF, h6, hl6, h7, hN⟩ := id hY
  have hOf : r_O K1 1 (O 1) (D 1) (I 1) (A 1) h := (hW 1 x_is_1).1
  have hOd : r_O K0 0 (O 0) (D 0) (I 0) (A 0) h := (hW 0 x_is_0).1
  have hOp : r_O (K5 L) 5 (O 5) (D 5) (I 5) (A 5) h := (hW 5 x_is_5).1
  obtain ⟨mcl, hjo, -⟩ := id hL.1
  obtain ⟨mcf, hfo, -⟩ := id hF.1
  refine v_iload_n hc dX6_shot_0 rfl ?_
  refine z_iconst hc dX6_shot_1 ?_
  refine z_sipush hc dX6_shot_2 (by decide) ?_
  refine v_callS (As := [.int (zI (x)), .int (zI (1)), .int (zI (2000))]) hc ho dX6_shot_5 KS_X6_44 KB_X6_within (c_X6_within _ _ (x := x) (y := 1) (z := 2000) (by first | assumption | (unfold zb; omega)) (by first | assumption | (unfold zb; omega)) (by first | assumption | (unfold zb; omega))) rfl (Nat.le_of_ble_eq_true rfl) ⟨by omega, by omega⟩ ⟨by omega, by omega⟩ (fun r_ h_ sz_ q_ z_ => ?_)
  obtain ⟨rfl, eh_, es_⟩ := q_
  have eh_ := eh_.symm
  subst eh_
  have es_ := es_.symm
  subst es_
  have hx01 := bI_or (1 ≤ x ∧ x ≤ 2000)
  generalize bI (1 ≤ x ∧ x ≤ 2000) = bpx at hx01 ⊢
  refine z_if_eq (tgt := 20) hc dX6_shot_8 (by decide) (by first | assumption | exact hi _ | exact ha _ _ | (unfold zb; omega)) (fun c_1 => ?_) (fun c_1 => ?_)
  · refine z_iconst hc dX6_shot_20 ?_
    refine z_iret M dX6_shot_21 (by omega) (by omega) ?_
    exact ⟨rfl, fun _ _ => rfl, I 1, A 1, Or.inl ⟨by omega, rfl, rfl, rfl⟩, by rw [b_up_self, b_up_self]; exact ⟨_, _, _, _, _, _, _, _, _, _, _, hY⟩⟩
  · refine v_iload_n hc dX6_shot_11 rfl ?_
    refine z_iconst hc dX6_shot_12 ?_
    refine z_iconst hc dX6_shot_13 ?_
    refine v_callS (As := [.int (zI (y)), .int (zI (0)), .int (zI (5))]) hc ho dX6_shot_14 KS_X6_44 KB_X6_within (c_X6_within _ _ (x := y) (y := 0) (z := 5) (by first | assumption | (unfold zb; omega)) (by first | assumption | (unfold zb; omega)) (by first | assumption | (unfold zb; omega))) rfl (Nat.le_of_ble_eq_true rfl) ⟨by omega, by omega⟩ ⟨by omega, by omega⟩ (fun r_ h_ sz_ q_ z_ => ?_)
    obtain ⟨rfl, eh_, es_⟩ := q_
    have eh_ := eh_.symm
    subst eh_
    have es_ := es_.symm
    subst es_
    have hy01 := bI_or (0 ≤ y ∧ y ≤ 5)
    generalize bI (0 ≤ y ∧ y ≤ 5) = bpy at hy01 ⊢
    refine z_if_ne (tgt := 22) hc dX6_shot_17 (by decide) (by first | assumption | exact hi _ | exact ha _ _ | (unfold zb; omega)) (fun c_2 => ?_) (fun c_2 => ?_)
    · refine v_aload_n hc dX6_shot_22 rfl ?_
      refine v_get hc ho dX6_shot_23 F_X6_12 h6 rfl ?_
      refine v_iload_n hc dX6_shot_26 rfl ?_
      refine v_iload_n hc dX6_shot_27 rfl ?_
      refine v_callV (As := [.int (zI x), .int (zI y)]) hc ho dX6_shot_28 KV_X6_48 KB_X1_add hOf.1 rfl rfl (c_X1_add _ _ hOf hf hx hy) rfl (Nat.le_of_ble_eq_true rfl) ⟨by omega, by omega⟩ ⟨by omega, by omega⟩ (fun r_ h_ sz_ q_ z_ => ?_)
      obtain ⟨e1_, i2, a2, hq2, hO2, hfr2⟩ := q_
      have e1_ := e1_.symm
      subst e1_
      obtain ⟨rv, hrv⟩ : ∃ v, r_ = some (.int v) := by
        rcases hq2 with q | q
        · exact ⟨_, q.2.1⟩
        · exact ⟨_, q.2.1⟩
      subst hrv
      refine z_iret M dX6_shot_31 (by omega) (by omega) ?_
      obtain ⟨hY2, h72⟩ := hY.put (t := 1) x_is_1 hO2 hfr2
      exact ⟨rfl, h72, i2, a2, Or.inr ⟨by omega, hq2⟩, ⟨_, _, _, _, _, _, _, _, _, _, _, hY2⟩⟩
    · refine z_iconst hc dX6_shot_20 ?_
      refine z_iret M dX6_shot_21 (by omega) (by omega) ?_
      exact ⟨rfl, fun _ _ => rfl, I 1, A 1, Or.inl ⟨by omega, rfl, rfl, rfl⟩, by rw [b_up_self, b_up_self]; exact ⟨_, _, _, _, _, _, _, _, _, _, _, hY⟩⟩
set_option maxHeartbeats 4000000 in
theorem c_X6_cue (l : Launch) (G : b_G) {h : b_H} {sz : Nat} {o6 : Nat} {P7 : Nat → Prop} {L n : Nat} {I : Nat → Nat → Int} {A : Nat → Nat → Nat → Int} {nf : Nat} {LN : Nat → Nat} {PI PR PB : Nat → Nat → Int} {hn : Bool} {mf : Nat} {SN : Nat → Nat} {SI SR SB : Nat → Nat → Int} {i s : Nat → Int} (hX : x_X G o6 P7 L n I A nf LN PI PR PB hn mf SN SI SR SB i s h sz) (hf : f_I (I 1) (A 1)) {x y : Int} (hx : zb x) (hy : zb y) : Con l G yX6_cue cX6_cue 3 (some .int) 2 45 0 0 [.ref o6, .int (zI x), .int (zI y)] h sz (fun r h2 s2 => s2 = sz ∧ (∀ b, P7 b → h2 b = h b) ∧ ∃ i2 a2, ((¬ ((1 ≤ x ∧ x ≤ I 1 3 - 1) ∧ 0 ≤ y ∧ y ≤ 1) ∧ r = some (.int (zI (-1))) ∧ i2 = I 1 ∧ a2 = A 1) ∨ (((1 ≤ x ∧ x ≤ I 1 3 - 1) ∧ 0 ≤ y ∧ y ≤ 1) ∧ r = some (.int (zI (A 1 2 x.toNat))) ∧ i2 = I 1 ∧ a2 = r_up (A 1) 2 x.toNat (bI (y = 1)))) ∧ x_X G o6 P7 L n (b_up I 1 i2) (b_up A 1 a2) nf LN PI PR PB hn mf SN SI SR SB i s h2 sz) := by
  refine Con.ofK (by decide +kernel) rfl rfl ?_
  intro S M
  have hc := M.2.2.2.1
  have ho : s_own S = RX6 := M.2.2.1
  have hFr : (s_R S).frames = 2 := by rw [M.2.2.2.2.2.2.2.1]
  have hLo : (s_R S).locals = 45 := by rw [M.2.2.2.2.2.2.2.1]
  have hCe : (s_R S).cells = 0 := by rw [M.2.2.2.2.2.2.2.1]
  have hSl : (s_R S).slots = 0 := by rw [M.2.2.2.2.2.2.2.1]
  have hG : s_G S = G := M.2.1
  subst hG
  obtain ⟨lb, O, D, ol, al, fo, fa, pt, RA, RB, nv, hY⟩ := hX
  obtain ⟨hW, hL, hF, h6, hl6, h7, hN⟩ := id hY
  have hOf : r_O K1 1 (O 1) (D 1) (I 1) (A 1) h := (hW 1 x_is_1).1
  have hOd : r_O K0 0 (O 0) (D 0) (I 0) (A 0) h := (hW 0 x_is_0).1
  have hOp : r_O (K5 L) 5 (O 5) (D 5) (I 5) (A 5) h := (hW 5 x_is_5).1
  obtain ⟨mcl, hjo, -⟩ := id hL.1
  obtain ⟨mcf, hfo, -⟩ := id hF.1
  have hf1 := hf.1
  refine v_iload_n hc dX6_cue_0 rfl ?_
  refine z_iconst hc dX6_cue_1 ?_
  refine v_aload_n hc dX6_cue_2 rfl ?_
  refine v_get hc ho dX6_cue_3 F_X6_12 h6 rfl ?_
  refine v_callV (As := []) hc ho dX6_cue_6 KV_X6_52 KB_X1_shotCount hOf.1 rfl rfl (c_X1_shotCount _ _ hOf hf) rfl (Nat.le_of_ble_eq_true rfl) ⟨by omega, by omega⟩ ⟨by omega, by omega⟩ (fun r_ h_ sz_ q_ z_ => ?_)
  obtain ⟨rfl, eh_, es_⟩ := q_
  have eh_ := eh_.symm
  subst eh_
  have es_ := es_.symm
  subst es_
  refine z_iconst hc dX6_cue_9 ?_
  refine z_isub hc dX6_cue_10 ?_
  refine v_callS (As := [.int (zI (x)), .int (zI (1)), .int (zI (I 1 3 - 1))]) hc ho dX6_cue_11 KS_X6_44 KB_X6_within (c_X6_within _ _ (x := x) (y := 1) (z := I 1 3 - 1) (by first | assumption | (unfold zb; omega)) (by first | assumption | (unfold zb; omega)) (by first | assumption | (unfold zb; omega))) rfl (Nat.le_of_ble_eq_true rfl) ⟨by omega, by omega⟩ ⟨by omega, by omega⟩ (fun r_ h_ sz_ q_ z_ => ?_)
  obtain ⟨rfl, eh_, es_⟩ := q_
  have eh_ := eh_.symm
  subst eh_
  have es_ := es_.symm
  subst es_
  have hx01 := bI_or (1 ≤ x ∧ x ≤ I 1 3 - 1)
  generalize bI (1 ≤ x ∧ x ≤ I 1 3 - 1) = bpx at hx01 ⊢
  refine z_if_eq (tgt := 26) hc dX6_cue_14 (by decide) (by first | assumption | exact hi _ | exact ha _ _ | (unfold zb; omega)) (fun c_1 => ?_) (fun c_1 => ?_)
  · refine z_iconst hc dX6_cue_26 ?_
    refine z_iret M dX6_cue_27 (by omega) (by omega) ?_
    exact ⟨rfl, fun _ _ => rfl, I 1, A 1, Or.inl ⟨by omega, rfl, rfl, rfl⟩, by rw [b_up_self, b_up_self]; exact ⟨_, _, _, _, _, _, _, _, _, _, _, hY⟩⟩
  · refine v_iload_n hc dX6_cue_17 rfl ?_
    refine z_iconst hc dX6_cue_18 ?_
    refine z_iconst hc dX6_cue_19 ?_
    refine v_callS (As := [.int (zI (y)), .int (zI (0)), .int (zI (1))]) hc ho dX6_cue_20 KS_X6_44 KB_X6_within (c_X6_within _ _ (x := y) (y := 0) (z := 1) (by first | assumption | (unfold zb; omega)) (by first | assumption | (unfold zb; omega)) (by first | assumption | (unfold zb; omega))) rfl (Nat.le_of_ble_eq_true rfl) ⟨by omega, by omega⟩ ⟨by omega, by omega⟩ (fun r_ h_ sz_ q_ z_ => ?_)
    obtain ⟨rfl, eh_, es_⟩ := q_
    have eh_ := eh_.symm
    subst eh_
    have es_ := es_.symm
    subst es_
    have hy01 := bI_or (0 ≤ y ∧ y ≤ 1)
    generalize bI (0 ≤ y ∧ y ≤ 1) = bpy at hy01 ⊢
    refine z_if_ne (tgt := 28) hc dX6_cue_23 (by decide) (by first | assumption | exact hi _ | exact ha _ _ | (unfold zb; omega)) (fun c_2 => ?_) (fun c_2 => ?_)
    · refine v_aload_n hc dX6_cue_28 rfl ?_
      refine v_get hc ho dX6_cue_29 F_X6_12 h6 rfl ?_
      refine v_iload_n hc dX6_cue_32 rfl ?_
      refine v_iload_n hc dX6_cue_33 rfl ?_
      refine v_callV (As := [.int (zI x), .int (zI y)]) hc ho dX6_cue_34 KV_X6_56 KB_X1_mark hOf.1 rfl rfl (c_X1_mark _ _ hOf hf hx hy) rfl (Nat.le_of_ble_eq_true rfl) ⟨by omega, by omega⟩ ⟨by omega, by omega⟩ (fun r_ h_ sz_ q_ z_ => ?_)
      obtain ⟨e1_, i2, a2, hq2, hO2, hfr2⟩ := q_
      have e1_ := e1_.symm
      subst e1_
      obtain ⟨rv, hrv⟩ : ∃ v, r_ = some (.int v) := by
        rcases hq2 with q | q
        · exact ⟨_, q.2.1⟩
        · exact ⟨_, q.2.1⟩
      subst hrv
      refine z_iret M dX6_cue_37 (by omega) (by omega) ?_
      have hq3 : some (Value.int rv) = some (Value.int (zI (A 1 2 x.toNat))) ∧ i2 = I 1 ∧ a2 = r_up (A 1) 2 x.toNat (bI (y = 1)) := by
        rcases hq2 with q | q
        · omega
        · exact q.2
      obtain ⟨hY2, h72⟩ := hY.put (t := 1) x_is_1 hO2 hfr2
      exact ⟨rfl, h72, i2, a2, Or.inr ⟨by omega, hq3⟩, ⟨_, _, _, _, _, _, _, _, _, _, _, hY2⟩⟩
    · refine z_iconst hc dX6_cue_26 ?_
      refine z_iret M dX6_cue_27 (by omega) (by omega) ?_
      exact ⟨rfl, fun _ _ => rfl, I 1, A 1, Or.inl ⟨by omega, rfl, rfl, rfl⟩, by rw [b_up_self, b_up_self]; exact ⟨_, _, _, _, _, _, _, _, _, _, _, hY⟩⟩
set_option maxHeartbeats 4000000 in
theorem c_X6_stretches (l : Launch) (G : b_G) {h : b_H} {sz : Nat} {o6 : Nat} {P7 : Nat → Prop} {L n : Nat} {I : Nat → Nat → Int} {A : Nat → Nat → Nat → Int} {nf : Nat} {LN : Nat → Nat} {PI PR PB : Nat → Nat → Int} {hn : Bool} {mf : Nat} {SN : Nat → Nat} {SI SR SB : Nat → Nat → Int} {i s : Nat → Int} (hX : x_X G o6 P7 L n I A nf LN PI PR PB hn mf SN SI SR SB i s h sz) (hf : f_I (I 1) (A 1)) : Con l G yX6_stretches cX6_stretches 1 (some .int) 1 22 0 0 [.ref o6] h sz (p_ro (some (.int (zI (f_ct (A 1 2) (I 1 3).toNat)))) h sz) := by
  refine Con.ofK (by decide +kernel) rfl rfl ?_
  intro S M
  have hc := M.2.2.2.1
  have ho : s_own S = RX6 := M.2.2.1
  have hFr : (s_R S).frames = 1 := by rw [M.2.2.2.2.2.2.2.1]
  have hLo : (s_R S).locals = 22 := by rw [M.2.2.2.2.2.2.2.1]
  have hCe : (s_R S).cells = 0 := by rw [M.2.2.2.2.2.2.2.1]
  have hSl : (s_R S).slots = 0 := by rw [M.2.2.2.2.2.2.2.1]
  have hG : s_G S = G := M.2.1
  subst hG
  obtain ⟨lb, O, D, ol, al, fo, fa, pt, RA, RB, nv, hY⟩ := hX
  obtain ⟨hW, hL, hF, h6, hl6, h7, hN⟩ := id hY
  have hOf : r_O K1 1 (O 1) (D 1) (I 1) (A 1) h := (hW 1 x_is_1).1
  have hOd : r_O K0 0 (O 0) (D 0) (I 0) (A 0) h := (hW 0 x_is_0).1
  have hOp : r_O (K5 L) 5 (O 5) (D 5) (I 5) (A 5) h := (hW 5 x_is_5).1
  obtain ⟨mcl, hjo, -⟩ := id hL.1
  obtain ⟨mcf, hfo, -⟩ := id hF.1
  refine v_aload_n hc dX6_stretches_0 rfl ?_
  refine v_get hc ho dX6_stretches_1 F_X6_12 h6 rfl ?_
  refine v_callV (As := []) hc ho dX6_stretches_4 KV_X6_59 KB_X1_stretchCount hOf.1 rfl rfl (c_X1_stretchCount _ _ hOf hf) rfl (Nat.le_of_ble_eq_true rfl) ⟨by omega, by omega⟩ ⟨by omega, by omega⟩ (fun r_ h_ sz_ q_ z_ => ?_)
  obtain ⟨rfl, eh_, es_⟩ := q_
  have eh_ := eh_.symm
  subst eh_
  have es_ := es_.symm
  subst es_
  refine z_iret M dX6_stretches_7 (by omega) (by omega) ?_
  exact ⟨rfl, rfl, rfl⟩
set_option maxHeartbeats 4000000 in
theorem c_X6_stretch (l : Launch) (G : b_G) {h : b_H} {sz : Nat} {o6 : Nat} {P7 : Nat → Prop} {L n : Nat} {I : Nat → Nat → Int} {A : Nat → Nat → Nat → Int} {nf : Nat} {LN : Nat → Nat} {PI PR PB : Nat → Nat → Int} {hn : Bool} {mf : Nat} {SN : Nat → Nat} {SI SR SB : Nat → Nat → Int} {i s : Nat → Int} (hX : x_X G o6 P7 L n I A nf LN PI PR PB hn mf SN SI SR SB i s h sz) (hf : f_I (I 1) (A 1)) {x y : Int} (hx : zb x) (hy : zb y) : Con l G yX6_stretch cX6_stretch 5 (some .int) 2 45 0 0 [.ref o6, .int (zI x), .int (zI y)] h sz (p_ro (some (.int (zI (f_St (A 1 0) (A 1 1) (A 1 2) (I 1 3).toNat x y)))) h sz) := by
  refine Con.ofK (by decide +kernel) rfl rfl ?_
  intro S M
  have hc := M.2.2.2.1
  have ho : s_own S = RX6 := M.2.2.1
  have hFr : (s_R S).frames = 2 := by rw [M.2.2.2.2.2.2.2.1]
  have hLo : (s_R S).locals = 45 := by rw [M.2.2.2.2.2.2.2.1]
  have hCe : (s_R S).cells = 0 := by rw [M.2.2.2.2.2.2.2.1]
  have hSl : (s_R S).slots = 0 := by rw [M.2.2.2.2.2.2.2.1]
  have hG : s_G S = G := M.2.1
  subst hG
  obtain ⟨lb, O, D, ol, al, fo, fa, pt, RA, RB, nv, hY⟩ := hX
  obtain ⟨hW, hL, hF, h6, hl6, h7, hN⟩ := id hY
  have hOf : r_O K1 1 (O 1) (D 1) (I 1) (A 1) h := (hW 1 x_is_1).1
  have hOd : r_O K0 0 (O 0) (D 0) (I 0) (A 0) h := (hW 0 x_is_0).1
  have hOp : r_O (K5 L) 5 (O 5) (D 5) (I 5) (A 5) h := (hW 5 x_is_5).1
  obtain ⟨mcl, hjo, -⟩ := id hL.1
  obtain ⟨mcf, hfo, -⟩ := id hF.1
  have hf1 := hf.1
  have hFb := f_F_bd (A 1 2) (I 1 3).toNat x
  have hFc := fun q => f_F_ct (A 1 2) (I 1 3).toNat (s := x) q
  have hFg := @f_F_neg (A 1 2) (I 1 3).toNat x
  have hFx : (f_F (A 1 2) (I 1 3).toNat x) < (I 1 3).toNat ↔ (0 ≤ x ∧ x ≤ f_ct (A 1 2) (I 1 3).toNat - 1) := by
    by_cases q : 0 ≤ x
    · have := hFc q; omega
    · have := hFg (by omega); omega
  refine v_aload_n hc dX6_stretch_0 rfl ?_
  refine v_get hc ho dX6_stretch_1 F_X6_12 h6 rfl ?_
  refine v_iload_n hc dX6_stretch_4 rfl ?_
  refine v_callV (As := [.int (zI x)]) hc ho dX6_stretch_5 KV_X6_62 KB_X1_firstShot hOf.1 rfl rfl (c_X1_firstShot _ _ hOf hf (s := x) hx) rfl (Nat.le_of_ble_eq_true rfl) ⟨by omega, by omega⟩ ⟨by omega, by omega⟩ (fun r_ h_ sz_ q_ z_ => ?_)
  obtain ⟨rfl, eh_, es_⟩ := q_
  have eh_ := eh_.symm
  subst eh_
  have es_ := es_.symm
  subst es_
  refine v_istore_n hc dX6_stretch_8 (Nat.le_of_ble_eq_true rfl) ?_
  refine v_iload_n hc dX6_stretch_9 rfl ?_
  obtain ⟨fv, hfv⟩ : ∃ v, (if (f_F (A 1 2) (I 1 3).toNat x) < (I 1 3).toNat then ((f_F (A 1 2) (I 1 3).toNat x) : Int) else -1) = v := ⟨_, rfl⟩
  have hfv2 : (fv = -1 ∧ ¬ (f_F (A 1 2) (I 1 3).toNat x) < (I 1 3).toNat) ∨ (fv = ((f_F (A 1 2) (I 1 3).toNat x) : Int) ∧ (f_F (A 1 2) (I 1 3).toNat x) < (I 1 3).toNat) := by
    by_cases q : (f_F (A 1 2) (I 1 3).toNat x) < (I 1 3).toNat
    · rw [if_pos q] at hfv; right; omega
    · rw [if_neg q] at hfv; left; omega
  rw [hfv]
  refine z_if_ge (tgt := 15) hc dX6_stretch_10 (by decide) (by first | assumption | exact hi _ | exact ha _ _ | (unfold zb; omega)) (fun c_1 => ?_) (fun c_1 => ?_)
  · have hFl : (f_F (A 1 2) (I 1 3).toNat x) < (I 1 3).toNat := by omega
    rw [show fv = ((f_F (A 1 2) (I 1 3).toNat x) : Int) by omega]
    refine v_aload_n hc dX6_stretch_15 rfl ?_
    refine v_get hc ho dX6_stretch_16 F_X6_12 h6 rfl ?_
    refine v_iload_n hc dX6_stretch_19 rfl ?_
    refine v_callV (As := [.int (zI ((f_F (A 1 2) (I 1 3).toNat x) : Int))]) hc ho dX6_stretch_20 KV_X6_66 KB_X1_lastShot hOf.1 rfl rfl (c_X1_lastShot _ _ hOf hf (s := ((f_F (A 1 2) (I 1 3).toNat x) : Int)) (by omega)) rfl (Nat.le_of_ble_eq_true rfl) ⟨by omega, by omega⟩ ⟨by omega, by omega⟩ (fun r_ h_ sz_ q_ z_ => ?_)
    obtain ⟨rfl, eh_, es_⟩ := q_
    have eh_ := eh_.symm
    subst eh_
    have es_ := es_.symm
    subst es_
    rw [Int.toNat_natCast, f_F_nx hFl]
    have hFm := f_F_mono (A 1 2) (I 1 3).toNat (s := x) (by omega)
    have hFb2 := f_F_bd (A 1 2) (I 1 3).toNat (x + 1)
    have hFp := f_F_nx hFl
    have hLb := f_L_bd (c := A 1 2) (n := (I 1 3).toNat) (x := (f_F (A 1 2) (I 1 3).toNat x) + 1) (by omega)
    refine v_istore hc dX6_stretch_23 (Nat.le_of_ble_eq_true rfl) ?_
    refine v_iload_n hc dX6_stretch_25 rfl ?_
    by_cases w_2 : y = 0
    · refine z_tableIn (off := 30) (tgt := 56) hc dX6_stretch_26 (by first | assumption | exact hi _ | exact ha _ _ | (unfold zb; omega)) (by omega) (by omega) (by rw [w_2]; rfl) (by decide) ?_
      refine v_iload_n hc dX6_stretch_56 rfl ?_
      refine z_iret M dX6_stretch_57 (by omega) (by omega) ?_
      exact ⟨by rw [f_St, if_neg (by omega), if_pos (by omega)], rfl, rfl⟩
    by_cases w_3 : y = 1
    · refine z_tableIn (off := 32) (tgt := 58) hc dX6_stretch_26 (by first | assumption | exact hi _ | exact ha _ _ | (unfold zb; omega)) (by omega) (by omega) (by rw [w_3]; rfl) (by decide) ?_
      refine v_iload hc dX6_stretch_58 rfl ?_
      refine z_iret M dX6_stretch_60 (by omega) (by omega) ?_
      exact ⟨by rw [f_St, if_neg (by omega), if_neg (by omega), if_pos (by omega)], rfl, rfl⟩
    by_cases w_4 : y = 2
    · refine z_tableIn (off := 35) (tgt := 61) hc dX6_stretch_26 (by first | assumption | exact hi _ | exact ha _ _ | (unfold zb; omega)) (by omega) (by omega) (by rw [w_4]; rfl) (by decide) ?_
      refine v_aload_n hc dX6_stretch_61 rfl ?_
      refine v_get hc ho dX6_stretch_62 F_X6_12 h6 rfl ?_
      refine v_iload_n hc dX6_stretch_65 rfl ?_
      refine v_iload hc dX6_stretch_66 rfl ?_
      refine v_callV (As := [.int (zI ((f_F (A 1 2) (I 1 3).toNat x) : Int)), .int (zI ((f_F (A 1 2) (I 1 3).toNat (x + 1) : Int) - 1))]) hc ho dX6_stretch_68 KV_X6_69 KB_X1_framesFrom hOf.1 rfl rfl (c_X1_framesFrom _ _ hOf hf (s := ((f_F (A 1 2) (I 1 3).toNat x) : Int)) (t := (f_F (A 1 2) (I 1 3).toNat (x + 1) : Int) - 1) (by omega)) rfl (Nat.le_of_ble_eq_true rfl) ⟨by omega, by omega⟩ ⟨by omega, by omega⟩ (fun r_ h_ sz_ q_ z_ => ?_)
      obtain ⟨rfl, eh_, es_⟩ := q_
      have eh_ := eh_.symm
      subst eh_
      have es_ := es_.symm
      subst es_
      refine z_iret M dX6_stretch_71 (by omega) (by omega) ?_
      exact ⟨by rw [f_St, if_neg (by omega), if_neg (by omega), if_neg (by omega), if_pos (by omega), Int.toNat_natCast, show ((f_F (A 1 2) (I 1 3).toNat (x + 1) : Int) - 1 + 1).toNat = f_F (A 1 2) (I 1 3).toNat (x + 1) by omega], rfl, rfl⟩
    by_cases w_5 : y = 3
    · refine z_tableIn (off := 46) (tgt := 72) hc dX6_stretch_26 (by first | assumption | exact hi _ | exact ha _ _ | (unfold zb; omega)) (by omega) (by omega) (by rw [w_5]; rfl) (by decide) ?_
      refine v_aload_n hc dX6_stretch_72 rfl ?_
      refine v_get hc ho dX6_stretch_73 F_X6_12 h6 rfl ?_
      refine v_iload_n hc dX6_stretch_76 rfl ?_
      refine v_callV (As := [.int (zI ((f_F (A 1 2) (I 1 3).toNat x) : Int))]) hc ho dX6_stretch_77 KV_X6_72 KB_X1_moodOf hOf.1 rfl rfl (c_X1_moodOf _ _ hOf hf (s := ((f_F (A 1 2) (I 1 3).toNat x) : Int)) (by unfold zb; omega)) rfl (Nat.le_of_ble_eq_true rfl) ⟨by omega, by omega⟩ ⟨by omega, by omega⟩ (fun r_ h_ sz_ q_ z_ => ?_)
      obtain ⟨rfl, eh_, es_⟩ := q_
      have eh_ := eh_.symm
      subst eh_
      have es_ := es_.symm
      subst es_
      refine z_iret M dX6_stretch_80 (by omega) (by omega) ?_
      exact ⟨by rw [if_pos (show 0 ≤ ((f_F (A 1 2) (I 1 3).toNat x) : Int) ∧ ((f_F (A 1 2) (I 1 3).toNat x) : Int) ≤ I 1 3 - 1 by omega), f_St, if_neg (by omega), if_neg (by omega), if_neg (by omega), if_neg (by omega), if_pos (by omega), Int.toNat_natCast], rfl, rfl⟩
    refine z_tableOut (tgt := 81) hc dX6_stretch_26 (by first | assumption | exact hi _ | exact ha _ _ | (unfold zb; omega)) (by omega) (by decide) ?_
    refine z_iconst hc dX6_stretch_81 ?_
    refine z_iret M dX6_stretch_82 (by omega) (by omega) ?_
    exact ⟨by rw [f_St, if_neg (by omega), if_neg (by omega), if_neg (by omega), if_neg (by omega), if_neg (by omega)], rfl, rfl⟩
  · refine z_iconst hc dX6_stretch_13 ?_
    refine z_iret M dX6_stretch_14 (by omega) (by omega) ?_
    exact ⟨by rw [f_St, if_pos (by omega)], rfl, rfl⟩
set_option maxHeartbeats 4000000 in
theorem c_X6_tenths (l : Launch) (G : b_G) {h : b_H} {sz : Nat} {o6 : Nat} {P7 : Nat → Prop} {L n : Nat} {I : Nat → Nat → Int} {A : Nat → Nat → Nat → Int} {nf : Nat} {LN : Nat → Nat} {PI PR PB : Nat → Nat → Int} {hn : Bool} {mf : Nat} {SN : Nat → Nat} {SI SR SB : Nat → Nat → Int} {i s : Nat → Int} (hX : x_X G o6 P7 L n I A nf LN PI PR PB hn mf SN SI SR SB i s h sz) (hf : f_I (I 1) (A 1)) {x y : Int} (hx : zb x) (hy : zb y) : Con l G yX6_tenths cX6_tenths 4 (some .int) 3 68 0 0 [.ref o6, .int (zI x), .int (zI y)] h sz (p_ro (some (.int (zI (f_Te (A 1 0) (A 1 2) (I 1 3).toNat x y)))) h sz) := by
  refine Con.ofK (by decide +kernel) rfl rfl ?_
  intro S M
  have hc := M.2.2.2.1
  have ho : s_own S = RX6 := M.2.2.1
  have hFr : (s_R S).frames = 3 := by rw [M.2.2.2.2.2.2.2.1]
  have hLo : (s_R S).locals = 68 := by rw [M.2.2.2.2.2.2.2.1]
  have hCe : (s_R S).cells = 0 := by rw [M.2.2.2.2.2.2.2.1]
  have hSl : (s_R S).slots = 0 := by rw [M.2.2.2.2.2.2.2.1]
  have hG : s_G S = G := M.2.1
  subst hG
  obtain ⟨lb, O, D, ol, al, fo, fa, pt, RA, RB, nv, hY⟩ := hX
  obtain ⟨hW, hL, hF, h6, hl6, h7, hN⟩ := id hY
  have hOf : r_O K1 1 (O 1) (D 1) (I 1) (A 1) h := (hW 1 x_is_1).1
  have hOd : r_O K0 0 (O 0) (D 0) (I 0) (A 0) h := (hW 0 x_is_0).1
  have hOp : r_O (K5 L) 5 (O 5) (D 5) (I 5) (A 5) h := (hW 5 x_is_5).1
  obtain ⟨mcl, hjo, -⟩ := id hL.1
  obtain ⟨mcf, hfo, -⟩ := id hF.1
  have hf1 := hf.1
  have hFb := f_F_bd (A 1 2) (I 1 3).toNat x
  have hFc := fun q => f_F_ct (A 1 2) (I 1 3).toNat (s := x) q
  have hFg := @f_F_neg (A 1 2) (I 1 3).toNat x
  have hFx : (f_F (A 1 2) (I 1 3).toNat x) < (I 1 3).toNat ↔ (0 ≤ x ∧ x ≤ f_ct (A 1 2) (I 1 3).toNat - 1) := by
    by_cases q : 0 ≤ x
    · have := hFc q; omega
    · have := hFg (by omega); omega
  have hctb := f_ct_bd (A 1 2) (I 1 3).toNat
  refine v_iload_n hc dX6_tenths_0 rfl ?_
  refine z_bipush hc dX6_tenths_1 (by decide) ?_
  refine z_bipush hc dX6_tenths_3 (by decide) ?_
  refine v_callS (As := [.int (zI (y)), .int (zI (12)), .int (zI (30))]) hc ho dX6_tenths_5 KS_X6_44 KB_X6_within (c_X6_within _ _ (x := y) (y := 12) (z := 30) (by first | assumption | (unfold zb; omega)) (by first | assumption | (unfold zb; omega)) (by first | assumption | (unfold zb; omega))) rfl (Nat.le_of_ble_eq_true rfl) ⟨by omega, by omega⟩ ⟨by omega, by omega⟩ (fun r_ h_ sz_ q_ z_ => ?_)
  obtain ⟨rfl, eh_, es_⟩ := q_
  have eh_ := eh_.symm
  subst eh_
  have es_ := es_.symm
  subst es_
  have hy01 := bI_or (12 ≤ y ∧ y ≤ 30)
  generalize bI (12 ≤ y ∧ y ≤ 30) = bpy at hy01 ⊢
  refine z_if_ne (tgt := 13) hc dX6_tenths_8 (by decide) (by first | assumption | exact hi _ | exact ha _ _ | (unfold zb; omega)) (fun c_1 => ?_) (fun c_1 => ?_)
  · refine v_iload_n hc dX6_tenths_13 rfl ?_
    refine z_iconst hc dX6_tenths_14 ?_
    refine z_icmp_ne (tgt := 37) hc dX6_tenths_15 (by decide) (by first | assumption | exact hi _ | exact ha _ _ | (unfold zb; omega)) (by first | assumption | exact hi _ | exact ha _ _ | (unfold zb; omega)) (fun c_2 => ?_) (fun c_2 => ?_)
    · refine v_aload_n hc dX6_tenths_37 rfl ?_
      refine v_get hc ho dX6_tenths_38 F_X6_12 h6 rfl ?_
      refine v_iload_n hc dX6_tenths_41 rfl ?_
      refine v_callV (As := [.int (zI x)]) hc ho dX6_tenths_42 KV_X6_62 KB_X1_firstShot hOf.1 rfl rfl (c_X1_firstShot _ _ hOf hf (s := x) hx) rfl (Nat.le_of_ble_eq_true rfl) ⟨by omega, by omega⟩ ⟨by omega, by omega⟩ (fun r_ h_ sz_ q_ z_ => ?_)
      obtain ⟨rfl, eh_, es_⟩ := q_
      have eh_ := eh_.symm
      subst eh_
      have es_ := es_.symm
      subst es_
      refine v_istore_n hc dX6_tenths_45 (Nat.le_of_ble_eq_true rfl) ?_
      refine v_iload_n hc dX6_tenths_46 rfl ?_
      obtain ⟨fv, hfv⟩ : ∃ v, (if (f_F (A 1 2) (I 1 3).toNat x) < (I 1 3).toNat then ((f_F (A 1 2) (I 1 3).toNat x) : Int) else -1) = v := ⟨_, rfl⟩
      have hfv2 : (fv = -1 ∧ ¬ (f_F (A 1 2) (I 1 3).toNat x) < (I 1 3).toNat) ∨ (fv = ((f_F (A 1 2) (I 1 3).toNat x) : Int) ∧ (f_F (A 1 2) (I 1 3).toNat x) < (I 1 3).toNat) := by
        by_cases q : (f_F (A 1 2) (I 1 3).toNat x) < (I 1 3).toNat
        · rw [if_pos q] at hfv; right; omega
        · rw [if_neg q] at hfv; left; omega
      rw [hfv]
      refine z_if_ge (tgt := 54) hc dX6_tenths_47 (by decide) (by first | assumption | exact hi _ | exact ha _ _ | (unfold zb; omega)) (fun c_3 => ?_) (fun c_3 => ?_)
      · have hFl : (f_F (A 1 2) (I 1 3).toNat x) < (I 1 3).toNat := by omega
        rw [show fv = ((f_F (A 1 2) (I 1 3).toNat x) : Int) by omega]
        refine v_aload_n hc dX6_tenths_54 rfl ?_
        refine v_get hc ho dX6_tenths_55 F_X6_12 h6 rfl ?_
        refine v_iload_n hc dX6_tenths_58 rfl ?_
        refine v_aload_n hc dX6_tenths_59 rfl ?_
        refine v_get hc ho dX6_tenths_60 F_X6_12 h6 rfl ?_
        refine v_iload_n hc dX6_tenths_63 rfl ?_
        refine v_callV (As := [.int (zI ((f_F (A 1 2) (I 1 3).toNat x) : Int))]) hc ho dX6_tenths_64 KV_X6_66 KB_X1_lastShot hOf.1 rfl rfl (c_X1_lastShot _ _ hOf hf (s := ((f_F (A 1 2) (I 1 3).toNat x) : Int)) (by omega)) rfl (Nat.le_of_ble_eq_true rfl) ⟨by omega, by omega⟩ ⟨by omega, by omega⟩ (fun r_ h_ sz_ q_ z_ => ?_)
        obtain ⟨rfl, eh_, es_⟩ := q_
        have eh_ := eh_.symm
        subst eh_
        have es_ := es_.symm
        subst es_
        rw [Int.toNat_natCast, f_F_nx hFl]
        have hFm := f_F_mono (A 1 2) (I 1 3).toNat (s := x) (by omega)
        have hFb2 := f_F_bd (A 1 2) (I 1 3).toNat (x + 1)
        have hFp := f_F_nx hFl
        have hLb := f_L_bd (c := A 1 2) (n := (I 1 3).toNat) (x := (f_F (A 1 2) (I 1 3).toNat x) + 1) (by omega)
        refine v_iload_n hc dX6_tenths_67 rfl ?_
        refine v_callV (As := [.int (zI ((f_F (A 1 2) (I 1 3).toNat x) : Int)), .int (zI ((f_F (A 1 2) (I 1 3).toNat (x + 1) : Int) - 1)), .int (zI y)]) hc ho dX6_tenths_68 KV_X6_75 KB_X1_tenthsFrom hOf.1 rfl rfl (c_X1_tenthsFrom _ _ hOf hf (s := ((f_F (A 1 2) (I 1 3).toNat x) : Int)) (t := (f_F (A 1 2) (I 1 3).toNat (x + 1) : Int) - 1) (v := y) (by omega) (by omega)) rfl (Nat.le_of_ble_eq_true rfl) ⟨by omega, by omega⟩ ⟨by omega, by omega⟩ (fun r_ h_ sz_ q_ z_ => ?_)
        obtain ⟨rfl, eh_, es_⟩ := q_
        have eh_ := eh_.symm
        subst eh_
        have es_ := es_.symm
        subst es_
        refine z_iret M dX6_tenths_71 (by omega) (by omega) ?_
        first | exact ⟨by rw [f_Te, if_pos (by omega)], rfl, rfl⟩ | exact ⟨by rw [f_Te, if_neg (by omega), if_neg (by omega), Int.toNat_natCast, show ((f_F (A 1 2) (I 1 3).toNat (x + 1) : Int) - 1 + 1).toNat = f_F (A 1 2) (I 1 3).toNat (x + 1) by omega], rfl, rfl⟩
      · refine z_iconst hc dX6_tenths_50 ?_
        refine v_goto (tgt := 71) hc dX6_tenths_51 (by decide) ?_
        refine z_iret M dX6_tenths_71 (by omega) (by omega) ?_
        first | exact ⟨by rw [f_Te, if_pos (by omega)], rfl, rfl⟩ | exact ⟨by rw [f_Te, if_neg (by omega), if_neg (by omega), Int.toNat_natCast, show ((f_F (A 1 2) (I 1 3).toNat (x + 1) : Int) - 1 + 1).toNat = f_F (A 1 2) (I 1 3).toNat (x + 1) by omega], rfl, rfl⟩
    · refine v_aload_n hc dX6_tenths_18 rfl ?_
      refine v_get hc ho dX6_tenths_19 F_X6_12 h6 rfl ?_
      refine z_iconst hc dX6_tenths_22 ?_
      refine v_aload_n hc dX6_tenths_23 rfl ?_
      refine v_get hc ho dX6_tenths_24 F_X6_12 h6 rfl ?_
      refine v_callV (As := []) hc ho dX6_tenths_27 KV_X6_52 KB_X1_shotCount hOf.1 rfl rfl (c_X1_shotCount _ _ hOf hf) rfl (Nat.le_of_ble_eq_true rfl) ⟨by omega, by omega⟩ ⟨by omega, by omega⟩ (fun r_ h_ sz_ q_ z_ => ?_)
      obtain ⟨rfl, eh_, es_⟩ := q_
      have eh_ := eh_.symm
      subst eh_
      have es_ := es_.symm
      subst es_
      refine z_iconst hc dX6_tenths_30 ?_
      refine z_isub hc dX6_tenths_31 ?_
      refine v_iload_n hc dX6_tenths_32 rfl ?_
      refine v_callV (As := [.int (zI 0), .int (zI (I 1 3 - 1)), .int (zI y)]) hc ho dX6_tenths_33 KV_X6_75 KB_X1_tenthsFrom hOf.1 rfl rfl (c_X1_tenthsFrom _ _ hOf hf (s := 0) (t := I 1 3 - 1) (v := y) (by omega) (by omega)) rfl (Nat.le_of_ble_eq_true rfl) ⟨by omega, by omega⟩ ⟨by omega, by omega⟩ (fun r_ h_ sz_ q_ z_ => ?_)
      obtain ⟨rfl, eh_, es_⟩ := q_
      have eh_ := eh_.symm
      subst eh_
      have es_ := es_.symm
      subst es_
      refine z_iret M dX6_tenths_36 (by omega) (by omega) ?_
      exact ⟨by rw [f_Te, if_neg (by omega), if_pos (by omega), show (I 1 3 - 1 + 1).toNat = (I 1 3).toNat by omega, show f_sm (A 1 0) (0 : Int).toNat = 0 from rfl, Int.sub_zero], rfl, rfl⟩
  · refine z_iconst hc dX6_tenths_11 ?_
    refine z_iret M dX6_tenths_12 (by omega) (by omega) ?_
    exact ⟨by rw [f_Te, if_pos (by omega)], rfl, rfl⟩
set_option maxHeartbeats 4000000 in
theorem c_X6_step (l : Launch) (G : b_G) {h : b_H} {sz : Nat} {o6 : Nat} {P7 : Nat → Prop} {L n : Nat} {I : Nat → Nat → Int} {A : Nat → Nat → Nat → Int} {nf : Nat} {LN : Nat → Nat} {PI PR PB : Nat → Nat → Int} {hn : Bool} {mf : Nat} {SN : Nat → Nat} {SI SR SB : Nat → Nat → Int} {i s : Nat → Int} (hX : x_X G o6 P7 L n I A nf LN PI PR PB hn mf SN SI SR SB i s h sz) {x y : Int} (hx : zb x) (hy : zb y) : Con l G yX6_step cX6_step 3 (some .int) 2 44 0 0 [.ref o6, .int (zI x), .int (zI y)] h sz (p_ro (some (.int (zI (if (0 ≤ x ∧ x ≤ 11) ∧ 0 ≤ y ∧ y ≤ 11 then p_st x y else -1)))) h sz) := by
  refine Con.ofK (by decide +kernel) rfl rfl ?_
  intro S M
  have hc := M.2.2.2.1
  have ho : s_own S = RX6 := M.2.2.1
  have hFr : (s_R S).frames = 2 := by rw [M.2.2.2.2.2.2.2.1]
  have hLo : (s_R S).locals = 44 := by rw [M.2.2.2.2.2.2.2.1]
  have hCe : (s_R S).cells = 0 := by rw [M.2.2.2.2.2.2.2.1]
  have hSl : (s_R S).slots = 0 := by rw [M.2.2.2.2.2.2.2.1]
  have hG : s_G S = G := M.2.1
  subst hG
  obtain ⟨lb, O, D, ol, al, fo, fa, pt, RA, RB, nv, hY⟩ := hX
  obtain ⟨hW, hL, hF, h6, hl6, h7, hN⟩ := id hY
  have hOf : r_O K1 1 (O 1) (D 1) (I 1) (A 1) h := (hW 1 x_is_1).1
  have hOd : r_O K0 0 (O 0) (D 0) (I 0) (A 0) h := (hW 0 x_is_0).1
  have hOp : r_O (K5 L) 5 (O 5) (D 5) (I 5) (A 5) h := (hW 5 x_is_5).1
  obtain ⟨mcl, hjo, -⟩ := id hL.1
  obtain ⟨mcf, hfo, -⟩ := id hF.1
  refine v_iload_n hc dX6_step_0 rfl ?_
  refine z_iconst hc dX6_step_1 ?_
  refine z_bipush hc dX6_step_2 (by decide) ?_
  refine v_callS (As := [.int (zI (x)), .int (zI (0)), .int (zI (11))]) hc ho dX6_step_4 KS_X6_44 KB_X6_within (c_X6_within _ _ (x := x) (y := 0) (z := 11) (by first | assumption | (unfold zb; omega)) (by first | assumption | (unfold zb; omega)) (by first | assumption | (unfold zb; omega))) rfl (Nat.le_of_ble_eq_true rfl) ⟨by omega, by omega⟩ ⟨by omega, by omega⟩ (fun r_ h_ sz_ q_ z_ => ?_)
  obtain ⟨rfl, eh_, es_⟩ := q_
  have eh_ := eh_.symm
  subst eh_
  have es_ := es_.symm
  subst es_
  have hx01 := bI_or (0 ≤ x ∧ x ≤ 11)
  generalize bI (0 ≤ x ∧ x ≤ 11) = bpx at hx01 ⊢
  refine z_if_eq (tgt := 20) hc dX6_step_7 (by decide) (by first | assumption | exact hi _ | exact ha _ _ | (unfold zb; omega)) (fun c_1 => ?_) (fun c_1 => ?_)
  · refine z_iconst hc dX6_step_20 ?_
    refine z_iret M dX6_step_21 (by omega) (by omega) ?_
    exact ⟨by rw [if_neg (by omega)], rfl, rfl⟩
  · refine v_iload_n hc dX6_step_10 rfl ?_
    refine z_iconst hc dX6_step_11 ?_
    refine z_bipush hc dX6_step_12 (by decide) ?_
    refine v_callS (As := [.int (zI (y)), .int (zI (0)), .int (zI (11))]) hc ho dX6_step_14 KS_X6_44 KB_X6_within (c_X6_within _ _ (x := y) (y := 0) (z := 11) (by first | assumption | (unfold zb; omega)) (by first | assumption | (unfold zb; omega)) (by first | assumption | (unfold zb; omega))) rfl (Nat.le_of_ble_eq_true rfl) ⟨by omega, by omega⟩ ⟨by omega, by omega⟩ (fun r_ h_ sz_ q_ z_ => ?_)
    obtain ⟨rfl, eh_, es_⟩ := q_
    have eh_ := eh_.symm
    subst eh_
    have es_ := es_.symm
    subst es_
    have hy01 := bI_or (0 ≤ y ∧ y ≤ 11)
    generalize bI (0 ≤ y ∧ y ≤ 11) = bpy at hy01 ⊢
    refine z_if_ne (tgt := 22) hc dX6_step_17 (by decide) (by first | assumption | exact hi _ | exact ha _ _ | (unfold zb; omega)) (fun c_2 => ?_) (fun c_2 => ?_)
    · refine v_iload_n hc dX6_step_22 rfl ?_
      refine v_iload_n hc dX6_step_23 rfl ?_
      refine v_callS (As := [.int (zI x), .int (zI y)]) hc ho dX6_step_24 KS_X6_110 KB_X6_fifthsBetween (c_X6_fifthsBetween _ _ (x := x) (y := y) (by omega) (by omega)) rfl (Nat.le_of_ble_eq_true rfl) ⟨by omega, by omega⟩ ⟨by omega, by omega⟩ (fun r_ h_ sz_ q_ z_ => ?_)
      obtain ⟨rfl, eh_, es_⟩ := q_
      have eh_ := eh_.symm
      subst eh_
      have es_ := es_.symm
      subst es_
      refine z_iret M dX6_step_27 (by omega) (by omega) ?_
      exact ⟨by rw [if_pos (by omega)], rfl, rfl⟩
    · refine z_iconst hc dX6_step_20 ?_
      refine z_iret M dX6_step_21 (by omega) (by omega) ?_
      exact ⟨by rw [if_neg (by omega)], rfl, rfl⟩
set_option maxHeartbeats 4000000 in
theorem c_X6_rule (l : Launch) (G : b_G) {h : b_H} {sz : Nat} {o6 : Nat} {P7 : Nat → Prop} {L n : Nat} {I : Nat → Nat → Int} {A : Nat → Nat → Nat → Int} {nf : Nat} {LN : Nat → Nat} {PI PR PB : Nat → Nat → Int} {hn : Bool} {mf : Nat} {SN : Nat → Nat} {SI SR SB : Nat → Nat → Int} {i s : Nat → Int} (hX : x_X G o6 P7 L n I A nf LN PI PR PB hn mf SN SI SR SB i s h sz) {x y : Int} (hx : zb x) (hy : zb y) : Con l G yX6_rule cX6_rule 3 (some .int) 1 22 0 0 [.ref o6, .int (zI x), .int (zI y)] h sz (fun r h2 s2 => s2 = sz ∧ (∀ b, P7 b → h2 b = h b) ∧ ∃ i2 a2, ((¬ ((x = 0 ∧ 0 ≤ y ∧ y ≤ 99) ∨ (x = 1 ∧ 0 ≤ y ∧ y ≤ 6)) ∧ r = some (.int (zI (-1))) ∧ i2 = I 5 ∧ a2 = A 5) ∨ (x = 0 ∧ (0 ≤ y ∧ y ≤ 99) ∧ r = some (.int (zI (I 5 0))) ∧ i2 = b_up (I 5) 0 y ∧ a2 = A 5) ∨ (x = 1 ∧ (0 ≤ y ∧ y ≤ 6) ∧ r = some (.int (zI (I 5 1))) ∧ i2 = b_up (I 5) 1 y ∧ a2 = A 5)) ∧ x_X G o6 P7 L n (b_up I 5 i2) (b_up A 5 a2) nf LN PI PR PB hn mf SN SI SR SB i s h2 sz) := by
  refine Con.ofK (by decide +kernel) rfl rfl ?_
  intro S M
  have hc := M.2.2.2.1
  have ho : s_own S = RX6 := M.2.2.1
  have hFr : (s_R S).frames = 1 := by rw [M.2.2.2.2.2.2.2.1]
  have hLo : (s_R S).locals = 22 := by rw [M.2.2.2.2.2.2.2.1]
  have hCe : (s_R S).cells = 0 := by rw [M.2.2.2.2.2.2.2.1]
  have hSl : (s_R S).slots = 0 := by rw [M.2.2.2.2.2.2.2.1]
  have hG : s_G S = G := M.2.1
  subst hG
  obtain ⟨lb, O, D, ol, al, fo, fa, pt, RA, RB, nv, hY⟩ := hX
  obtain ⟨hW, hL, hF, h6, hl6, h7, hN⟩ := id hY
  have hOf : r_O K1 1 (O 1) (D 1) (I 1) (A 1) h := (hW 1 x_is_1).1
  have hOd : r_O K0 0 (O 0) (D 0) (I 0) (A 0) h := (hW 0 x_is_0).1
  have hOp : r_O (K5 L) 5 (O 5) (D 5) (I 5) (A 5) h := (hW 5 x_is_5).1
  obtain ⟨mcl, hjo, -⟩ := id hL.1
  obtain ⟨mcf, hfo, -⟩ := id hF.1
  refine v_iload_n hc dX6_rule_0 rfl ?_
  refine z_if_ne (tgt := 23) hc dX6_rule_1 (by decide) (by first | assumption | exact hi _ | exact ha _ _ | (unfold zb; omega)) (fun c_1 => ?_) (fun c_1 => ?_)
  · refine v_iload_n hc dX6_rule_23 rfl ?_
    refine z_iconst hc dX6_rule_24 ?_
    refine z_icmp_ne (tgt := 47) hc dX6_rule_25 (by decide) (by first | assumption | exact hi _ | exact ha _ _ | (unfold zb; omega)) (by first | assumption | exact hi _ | exact ha _ _ | (unfold zb; omega)) (fun c_2 => ?_) (fun c_2 => ?_)
    · refine z_iconst hc dX6_rule_47 ?_
      refine z_iret M dX6_rule_48 (by omega) (by omega) ?_
      exact ⟨rfl, fun _ _ => rfl, I 5, A 5, Or.inl ⟨by omega, rfl, rfl, rfl⟩, by rw [b_up_self, b_up_self]; exact ⟨_, _, _, _, _, _, _, _, _, _, _, hY⟩⟩
    · refine v_iload_n hc dX6_rule_28 rfl ?_
      refine z_iconst hc dX6_rule_29 ?_
      refine z_bipush hc dX6_rule_30 (by decide) ?_
      refine v_callS (As := [.int (zI (y)), .int (zI (0)), .int (zI (6))]) hc ho dX6_rule_32 KS_X6_44 KB_X6_within (c_X6_within _ _ (x := y) (y := 0) (z := 6) (by first | assumption | (unfold zb; omega)) (by first | assumption | (unfold zb; omega)) (by first | assumption | (unfold zb; omega))) rfl (Nat.le_of_ble_eq_true rfl) ⟨by omega, by omega⟩ ⟨by omega, by omega⟩ (fun r_ h_ sz_ q_ z_ => ?_)
      obtain ⟨rfl, eh_, es_⟩ := q_
      have eh_ := eh_.symm
      subst eh_
      have es_ := es_.symm
      subst es_
      have hz01 := bI_or (0 ≤ y ∧ y ≤ 6)
      generalize bI (0 ≤ y ∧ y ≤ 6) = bpz at hz01 ⊢
      refine z_if_eq (tgt := 47) hc dX6_rule_35 (by decide) (by first | assumption | exact hi _ | exact ha _ _ | (unfold zb; omega)) (fun c_3 => ?_) (fun c_3 => ?_)
      · refine z_iconst hc dX6_rule_47 ?_
        refine z_iret M dX6_rule_48 (by omega) (by omega) ?_
        exact ⟨rfl, fun _ _ => rfl, I 5, A 5, Or.inl ⟨by omega, rfl, rfl, rfl⟩, by rw [b_up_self, b_up_self]; exact ⟨_, _, _, _, _, _, _, _, _, _, _, hY⟩⟩
      · refine v_aload_n hc dX6_rule_38 rfl ?_
        refine v_get hc ho dX6_rule_39 F_X6_26 h6 rfl ?_
        refine v_iload_n hc dX6_rule_42 rfl ?_
        refine v_callV (As := [.int (zI y)]) hc ho dX6_rule_43 KV_X6_116 KB_X5_changeMost hOp.1 rfl rfl (c_X5_changeMost _ _ hOp hy) rfl (Nat.le_of_ble_eq_true rfl) ⟨by omega, by omega⟩ ⟨by omega, by omega⟩ (fun r_ h_ sz_ q_ z_ => ?_)
        obtain ⟨e1_, i2, a2, hq2, hO2, hfr2⟩ := q_
        have e1_ := e1_.symm
        subst e1_
        obtain ⟨rfl, q3, q4⟩ := hq2
        refine z_iret M dX6_rule_46 (by omega) (by omega) ?_
        obtain ⟨hY2, h72⟩ := hY.put (t := 5) x_is_5 hO2 hfr2
        exact ⟨rfl, h72, i2, a2, Or.inr (Or.inr ⟨by omega, by omega, rfl, q3, q4⟩), ⟨_, _, _, _, _, _, _, _, _, _, _, hY2⟩⟩
  · refine v_iload_n hc dX6_rule_4 rfl ?_
    refine z_iconst hc dX6_rule_5 ?_
    refine z_bipush hc dX6_rule_6 (by decide) ?_
    refine v_callS (As := [.int (zI (y)), .int (zI (0)), .int (zI (99))]) hc ho dX6_rule_8 KS_X6_44 KB_X6_within (c_X6_within _ _ (x := y) (y := 0) (z := 99) (by first | assumption | (unfold zb; omega)) (by first | assumption | (unfold zb; omega)) (by first | assumption | (unfold zb; omega))) rfl (Nat.le_of_ble_eq_true rfl) ⟨by omega, by omega⟩ ⟨by omega, by omega⟩ (fun r_ h_ sz_ q_ z_ => ?_)
    obtain ⟨rfl, eh_, es_⟩ := q_
    have eh_ := eh_.symm
    subst eh_
    have es_ := es_.symm
    subst es_
    have hy01 := bI_or (0 ≤ y ∧ y ≤ 99)
    generalize bI (0 ≤ y ∧ y ≤ 99) = bpy at hy01 ⊢
    refine z_if_eq (tgt := 23) hc dX6_rule_11 (by decide) (by first | assumption | exact hi _ | exact ha _ _ | (unfold zb; omega)) (fun c_4 => ?_) (fun c_4 => ?_)
    · refine v_iload_n hc dX6_rule_23 rfl ?_
      refine z_iconst hc dX6_rule_24 ?_
      refine z_icmp_ne (tgt := 47) hc dX6_rule_25 (by decide) (by first | assumption | exact hi _ | exact ha _ _ | (unfold zb; omega)) (by first | assumption | exact hi _ | exact ha _ _ | (unfold zb; omega)) (fun c_5 => ?_) (fun c_5 => ?_)
      · refine z_iconst hc dX6_rule_47 ?_
        refine z_iret M dX6_rule_48 (by omega) (by omega) ?_
        exact ⟨rfl, fun _ _ => rfl, I 5, A 5, Or.inl ⟨by omega, rfl, rfl, rfl⟩, by rw [b_up_self, b_up_self]; exact ⟨_, _, _, _, _, _, _, _, _, _, _, hY⟩⟩
      · refine v_iload_n hc dX6_rule_28 rfl ?_
        refine z_iconst hc dX6_rule_29 ?_
        refine z_bipush hc dX6_rule_30 (by decide) ?_
        refine v_callS (As := [.int (zI (y)), .int (zI (0)), .int (zI (6))]) hc ho dX6_rule_32 KS_X6_44 KB_X6_within (c_X6_within _ _ (x := y) (y := 0) (z := 6) (by first | assumption | (unfold zb; omega)) (by first | assumption | (unfold zb; omega)) (by first | assumption | (unfold zb; omega))) rfl (Nat.le_of_ble_eq_true rfl) ⟨by omega, by omega⟩ ⟨by omega, by omega⟩ (fun r_ h_ sz_ q_ z_ => ?_)
        obtain ⟨rfl, eh_, es_⟩ := q_
        have eh_ := eh_.symm
        subst eh_
        have es_ := es_.symm
        subst es_
        have hz01 := bI_or (0 ≤ y ∧ y ≤ 6)
        generalize bI (0 ≤ y ∧ y ≤ 6) = bpz at hz01 ⊢
        refine z_if_eq (tgt := 47) hc dX6_rule_35 (by decide) (by first | assumption | exact hi _ | exact ha _ _ | (unfold zb; omega)) (fun c_6 => ?_) (fun c_6 => ?_)
        · refine z_iconst hc dX6_rule_47 ?_
          refine z_iret M dX6_rule_48 (by omega) (by omega) ?_
          exact ⟨rfl, fun _ _ => rfl, I 5, A 5, Or.inl ⟨by omega, rfl, rfl, rfl⟩, by rw [b_up_self, b_up_self]; exact ⟨_, _, _, _, _, _, _, _, _, _, _, hY⟩⟩
        · refine v_aload_n hc dX6_rule_38 rfl ?_
          refine v_get hc ho dX6_rule_39 F_X6_26 h6 rfl ?_
          refine v_iload_n hc dX6_rule_42 rfl ?_
          refine v_callV (As := [.int (zI y)]) hc ho dX6_rule_43 KV_X6_116 KB_X5_changeMost hOp.1 rfl rfl (c_X5_changeMost _ _ hOp hy) rfl (Nat.le_of_ble_eq_true rfl) ⟨by omega, by omega⟩ ⟨by omega, by omega⟩ (fun r_ h_ sz_ q_ z_ => ?_)
          obtain ⟨e1_, i2, a2, hq2, hO2, hfr2⟩ := q_
          have e1_ := e1_.symm
          subst e1_
          obtain ⟨rfl, q3, q4⟩ := hq2
          refine z_iret M dX6_rule_46 (by omega) (by omega) ?_
          obtain ⟨hY2, h72⟩ := hY.put (t := 5) x_is_5 hO2 hfr2
          exact ⟨rfl, h72, i2, a2, Or.inr (Or.inr ⟨by omega, by omega, rfl, q3, q4⟩), ⟨_, _, _, _, _, _, _, _, _, _, _, hY2⟩⟩
    · refine v_aload_n hc dX6_rule_14 rfl ?_
      refine v_get hc ho dX6_rule_15 F_X6_26 h6 rfl ?_
      refine v_iload_n hc dX6_rule_18 rfl ?_
      refine v_callV (As := [.int (zI y)]) hc ho dX6_rule_19 KV_X6_113 KB_X5_changeWeight hOp.1 rfl rfl (c_X5_changeWeight _ _ hOp hy) rfl (Nat.le_of_ble_eq_true rfl) ⟨by omega, by omega⟩ ⟨by omega, by omega⟩ (fun r_ h_ sz_ q_ z_ => ?_)
      obtain ⟨e1_, i2, a2, hq2, hO2, hfr2⟩ := q_
      have e1_ := e1_.symm
      subst e1_
      obtain ⟨rfl, q3, q4⟩ := hq2
      refine z_iret M dX6_rule_22 (by omega) (by omega) ?_
      obtain ⟨hY2, h72⟩ := hY.put (t := 5) x_is_5 hO2 hfr2
      exact ⟨rfl, h72, i2, a2, Or.inr (Or.inl ⟨by omega, by omega, rfl, q3, q4⟩), ⟨_, _, _, _, _, _, _, _, _, _, _, hY2⟩⟩
set_option maxHeartbeats 4000000 in
theorem c_X6_effect (l : Launch) (G : b_G) {h : b_H} {sz : Nat} {o6 : Nat} {P7 : Nat → Prop} {L n : Nat} {I : Nat → Nat → Int} {A : Nat → Nat → Nat → Int} {nf : Nat} {LN : Nat → Nat} {PI PR PB : Nat → Nat → Int} {hn : Bool} {mf : Nat} {SN : Nat → Nat} {SI SR SB : Nat → Nat → Int} {i s : Nat → Int} (hX : x_X G o6 P7 L n I A nf LN PI PR PB hn mf SN SI SR SB i s h sz) (hd : d_I (I 0) (A 0)) {x y z : Int} (hx : zb x) (hy : zb y) (hz : zb z) : Con l G yX6_effect cX6_effect 4 (some .int) 1 23 0 0 [.ref o6, .int (zI x), .int (zI y), .int (zI z)] h sz (fun r h2 s2 => s2 = sz ∧ (∀ b, P7 b → h2 b = h b) ∧ ∃ i2 a2, ((¬ ((0 ≤ x ∧ x ≤ 99999) ∧ (x + 1 ≤ y ∧ y ≤ 100000) ∧ 1 ≤ z ∧ z ≤ 4) ∧ r = some (.int (zI (-1))) ∧ i2 = I 0 ∧ a2 = A 0) ∨ (((0 ≤ x ∧ x ≤ 99999) ∧ (x + 1 ≤ y ∧ y ≤ 100000) ∧ 1 ≤ z ∧ z ≤ 4) ∧ ((I 0 3 = 30 ∧ r = some (.int (zI (-3))) ∧ i2 = I 0 ∧ a2 = A 0) ∨ (I 0 3 < 30 ∧ r = some (.int (zI (I 0 3))) ∧ i2 = b_up (I 0) 3 (I 0 3 + 1) ∧ a2 = r_up (r_up (r_up (A 0) 0 (I 0 3).toNat x) 1 (I 0 3).toNat y) 2 (I 0 3).toNat z)))) ∧ x_X G o6 P7 L n (b_up I 0 i2) (b_up A 0 a2) nf LN PI PR PB hn mf SN SI SR SB i s h2 sz) := by
  refine Con.ofK (by decide +kernel) rfl rfl ?_
  intro S M
  have hc := M.2.2.2.1
  have ho : s_own S = RX6 := M.2.2.1
  have hFr : (s_R S).frames = 1 := by rw [M.2.2.2.2.2.2.2.1]
  have hLo : (s_R S).locals = 23 := by rw [M.2.2.2.2.2.2.2.1]
  have hCe : (s_R S).cells = 0 := by rw [M.2.2.2.2.2.2.2.1]
  have hSl : (s_R S).slots = 0 := by rw [M.2.2.2.2.2.2.2.1]
  have hG : s_G S = G := M.2.1
  subst hG
  obtain ⟨lb, O, D, ol, al, fo, fa, pt, RA, RB, nv, hY⟩ := hX
  obtain ⟨hW, hL, hF, h6, hl6, h7, hN⟩ := id hY
  have hOf : r_O K1 1 (O 1) (D 1) (I 1) (A 1) h := (hW 1 x_is_1).1
  have hOd : r_O K0 0 (O 0) (D 0) (I 0) (A 0) h := (hW 0 x_is_0).1
  have hOp : r_O (K5 L) 5 (O 5) (D 5) (I 5) (A 5) h := (hW 5 x_is_5).1
  obtain ⟨mcl, hjo, -⟩ := id hL.1
  obtain ⟨mcf, hfo, -⟩ := id hF.1
  refine v_iload_n hc dX6_effect_0 rfl ?_
  refine z_if_lt (tgt := 24) hc dX6_effect_1 (by decide) (by first | assumption | exact hi _ | exact ha _ _ | (unfold zb; omega)) (fun c_1 => ?_) (fun c_1 => ?_)
  · refine z_iconst hc dX6_effect_24 ?_
    refine z_iret M dX6_effect_25 (by omega) (by omega) ?_
    exact ⟨rfl, fun _ _ => rfl, I 0, A 0, Or.inl ⟨by omega, rfl, rfl, rfl⟩, by rw [b_up_self, b_up_self]; exact ⟨_, _, _, _, _, _, _, _, _, _, _, hY⟩⟩
  · refine v_iload_n hc dX6_effect_4 rfl ?_
    refine v_iload_n hc dX6_effect_5 rfl ?_
    refine z_icmp_ge (tgt := 24) hc dX6_effect_6 (by decide) (by first | assumption | exact hi _ | exact ha _ _ | (unfold zb; omega)) (by first | assumption | exact hi _ | exact ha _ _ | (unfold zb; omega)) (fun c_2 => ?_) (fun c_2 => ?_)
    · refine z_iconst hc dX6_effect_24 ?_
      refine z_iret M dX6_effect_25 (by omega) (by omega) ?_
      exact ⟨rfl, fun _ _ => rfl, I 0, A 0, Or.inl ⟨by omega, rfl, rfl, rfl⟩, by rw [b_up_self, b_up_self]; exact ⟨_, _, _, _, _, _, _, _, _, _, _, hY⟩⟩
    · refine v_iload_n hc dX6_effect_9 rfl ?_
      refine z_ldc hc ho dX6_effect_10 K_X6_103 ?_
      refine z_icmp_gt (tgt := 24) hc dX6_effect_12 (by decide) (by first | assumption | exact hi _ | exact ha _ _ | (unfold zb; omega)) (by first | assumption | exact hi _ | exact ha _ _ | (unfold zb; omega)) (fun c_3 => ?_) (fun c_3 => ?_)
      · refine z_iconst hc dX6_effect_24 ?_
        refine z_iret M dX6_effect_25 (by omega) (by omega) ?_
        exact ⟨rfl, fun _ _ => rfl, I 0, A 0, Or.inl ⟨by omega, rfl, rfl, rfl⟩, by rw [b_up_self, b_up_self]; exact ⟨_, _, _, _, _, _, _, _, _, _, _, hY⟩⟩
      · refine v_iload_n hc dX6_effect_15 rfl ?_
        refine z_iconst hc dX6_effect_16 ?_
        refine z_iconst hc dX6_effect_17 ?_
        refine v_callS (As := [.int (zI (z)), .int (zI (1)), .int (zI (4))]) hc ho dX6_effect_18 KS_X6_44 KB_X6_within (c_X6_within _ _ (x := z) (y := 1) (z := 4) (by first | assumption | (unfold zb; omega)) (by first | assumption | (unfold zb; omega)) (by first | assumption | (unfold zb; omega))) rfl (Nat.le_of_ble_eq_true rfl) ⟨by omega, by omega⟩ ⟨by omega, by omega⟩ (fun r_ h_ sz_ q_ z_ => ?_)
        obtain ⟨rfl, eh_, es_⟩ := q_
        have eh_ := eh_.symm
        subst eh_
        have es_ := es_.symm
        subst es_
        have hz01 := bI_or (1 ≤ z ∧ z ≤ 4)
        generalize bI (1 ≤ z ∧ z ≤ 4) = bpz at hz01 ⊢
        refine z_if_ne (tgt := 26) hc dX6_effect_21 (by decide) (by first | assumption | exact hi _ | exact ha _ _ | (unfold zb; omega)) (fun c_4 => ?_) (fun c_4 => ?_)
        · refine v_aload_n hc dX6_effect_26 rfl ?_
          refine v_get hc ho dX6_effect_27 F_X6_33 h6 rfl ?_
          refine v_iload_n hc dX6_effect_30 rfl ?_
          refine v_iload_n hc dX6_effect_31 rfl ?_
          refine v_iload_n hc dX6_effect_32 rfl ?_
          refine v_callV (As := [.int (zI x), .int (zI y), .int (zI z)]) hc ho dX6_effect_33 KV_X6_184 KB_X0_add hOd.1 rfl rfl (c_X0_add _ _ hOd hd hx hy hz) rfl (Nat.le_of_ble_eq_true rfl) ⟨by omega, by omega⟩ ⟨by omega, by omega⟩ (fun r_ h_ sz_ q_ z_ => ?_)
          obtain ⟨e1_, i2, a2, hq2, hO2, hfr2⟩ := q_
          have e1_ := e1_.symm
          subst e1_
          obtain ⟨rv, hrv⟩ : ∃ v, r_ = some (.int v) := by
            rcases hq2 with q | q
            · exact ⟨_, q.2.1⟩
            · exact ⟨_, q.2.1⟩
          subst hrv
          refine z_iret M dX6_effect_36 (by omega) (by omega) ?_
          obtain ⟨hY2, h72⟩ := hY.put (t := 0) x_is_0 hO2 hfr2
          exact ⟨rfl, h72, i2, a2, Or.inr ⟨by omega, hq2⟩, ⟨_, _, _, _, _, _, _, _, _, _, _, hY2⟩⟩
        · refine z_iconst hc dX6_effect_24 ?_
          refine z_iret M dX6_effect_25 (by omega) (by omega) ?_
          exact ⟨rfl, fun _ _ => rfl, I 0, A 0, Or.inl ⟨by omega, rfl, rfl, rfl⟩, by rw [b_up_self, b_up_self]; exact ⟨_, _, _, _, _, _, _, _, _, _, _, hY⟩⟩
set_option maxHeartbeats 4000000 in
theorem c_X6_hands (l : Launch) (G : b_G) {h : b_H} {sz : Nat} {o6 : Nat} {P7 : Nat → Prop} {L n : Nat} {I : Nat → Nat → Int} {A : Nat → Nat → Nat → Int} {nf : Nat} {LN : Nat → Nat} {PI PR PB : Nat → Nat → Int} {hn : Bool} {mf : Nat} {SN : Nat → Nat} {SI SR SB : Nat → Nat → Int} {i s : Nat → Int} (hX : x_X G o6 P7 L n I A nf LN PI PR PB hn mf SN SI SR SB i s h sz) (hd : d_I (I 0) (A 0)) {x : Int} (hx : zb x) : Con l G yX6_hands cX6_hands 2 (some .int) 1 22 0 0 [.ref o6, .int (zI x)] h sz (fun r h2 s2 => s2 = sz ∧ (∀ b, P7 b → h2 b = h b) ∧ ∃ i2 a2, ((¬ (0 ≤ x ∧ x ≤ 4) ∧ r = some (.int (zI (-1))) ∧ i2 = I 0 ∧ a2 = A 0) ∨ ((0 ≤ x ∧ x ≤ 4) ∧ r = some (.int (zI (I 0 4))) ∧ i2 = b_up (I 0) 4 x ∧ a2 = A 0)) ∧ x_X G o6 P7 L n (b_up I 0 i2) (b_up A 0 a2) nf LN PI PR PB hn mf SN SI SR SB i s h2 sz) := by
  refine Con.ofK (by decide +kernel) rfl rfl ?_
  intro S M
  have hc := M.2.2.2.1
  have ho : s_own S = RX6 := M.2.2.1
  have hFr : (s_R S).frames = 1 := by rw [M.2.2.2.2.2.2.2.1]
  have hLo : (s_R S).locals = 22 := by rw [M.2.2.2.2.2.2.2.1]
  have hCe : (s_R S).cells = 0 := by rw [M.2.2.2.2.2.2.2.1]
  have hSl : (s_R S).slots = 0 := by rw [M.2.2.2.2.2.2.2.1]
  have hG : s_G S = G := M.2.1
  subst hG
  obtain ⟨lb, O, D, ol, al, fo, fa, pt, RA, RB, nv, hY⟩ := hX
  obtain ⟨hW, hL, hF, h6, hl6, h7, hN⟩ := id hY
  have hOf : r_O K1 1 (O 1) (D 1) (I 1) (A 1) h := (hW 1 x_is_1).1
  have hOd : r_O K0 0 (O 0) (D 0) (I 0) (A 0) h := (hW 0 x_is_0).1
  have hOp : r_O (K5 L) 5 (O 5) (D 5) (I 5) (A 5) h := (hW 5 x_is_5).1
  obtain ⟨mcl, hjo, -⟩ := id hL.1
  obtain ⟨mcf, hfo, -⟩ := id hF.1
  refine v_iload_n hc dX6_hands_0 rfl ?_
  refine z_iconst hc dX6_hands_1 ?_
  refine z_iconst hc dX6_hands_2 ?_
  refine v_callS (As := [.int (zI (x)), .int (zI (0)), .int (zI (4))]) hc ho dX6_hands_3 KS_X6_44 KB_X6_within (c_X6_within _ _ (x := x) (y := 0) (z := 4) (by first | assumption | (unfold zb; omega)) (by first | assumption | (unfold zb; omega)) (by first | assumption | (unfold zb; omega))) rfl (Nat.le_of_ble_eq_true rfl) ⟨by omega, by omega⟩ ⟨by omega, by omega⟩ (fun r_ h_ sz_ q_ z_ => ?_)
  obtain ⟨rfl, eh_, es_⟩ := q_
  have eh_ := eh_.symm
  subst eh_
  have es_ := es_.symm
  subst es_
  have hx01 := bI_or (0 ≤ x ∧ x ≤ 4)
  generalize bI (0 ≤ x ∧ x ≤ 4) = bpx at hx01 ⊢
  refine z_if_eq (tgt := 20) hc dX6_hands_6 (by decide) (by first | assumption | exact hi _ | exact ha _ _ | (unfold zb; omega)) (fun c_1 => ?_) (fun c_1 => ?_)
  · skip
    refine z_iconst hc dX6_hands_20 ?_
    refine z_iret M dX6_hands_21 (by omega) (by omega) ?_
    exact ⟨rfl, fun _ _ => rfl, I 0, A 0, Or.inl ⟨by omega, rfl, rfl, rfl⟩, by rw [b_up_self, b_up_self]; exact ⟨_, _, _, _, _, _, _, _, _, _, _, hY⟩⟩
  · refine v_aload_n hc dX6_hands_9 rfl ?_
    refine v_get hc ho dX6_hands_10 F_X6_33 h6 rfl ?_
    refine v_iload_n hc dX6_hands_13 rfl ?_
    refine v_callV (As := [.int (zI x)]) hc ho dX6_hands_14 KV_X6_185 KB_X0_changeHands hOd.1 rfl rfl (c_X0_changeHands _ _ hOd hd hx) rfl (Nat.le_of_ble_eq_true rfl) ⟨by omega, by omega⟩ ⟨by omega, by omega⟩ (fun r_ h_ sz_ q_ z_ => ?_)
    obtain ⟨e1_, i2, a2, hq2, hO2, hfr2⟩ := q_
    have e1_ := e1_.symm
    subst e1_
    obtain ⟨rfl, q3, q4⟩ := hq2
    skip
    refine v_goto (tgt := 21) hc dX6_hands_17 (by decide) ?_
    refine z_iret M dX6_hands_21 (by omega) (by omega) ?_
    obtain ⟨hY2, h72⟩ := hY.put (t := 0) x_is_0 hO2 hfr2
    exact ⟨rfl, h72, i2, a2, Or.inr ⟨by omega, rfl, q3, q4⟩, ⟨_, _, _, _, _, _, _, _, _, _, _, hY2⟩⟩
set_option maxHeartbeats 4000000 in
theorem c_X6_free (l : Launch) (G : b_G) {h : b_H} {sz : Nat} {o6 : Nat} {P7 : Nat → Prop} {L n : Nat} {I : Nat → Nat → Int} {A : Nat → Nat → Nat → Int} {nf : Nat} {LN : Nat → Nat} {PI PR PB : Nat → Nat → Int} {hn : Bool} {mf : Nat} {SN : Nat → Nat} {SI SR SB : Nat → Nat → Int} {i s : Nat → Int} (hX : x_X G o6 P7 L n I A nf LN PI PR PB hn mf SN SI SR SB i s h sz) (hd : d_I (I 0) (A 0)) {x : Int} (hx : zb x) : Con l G yX6_free cX6_free 2 (some .int) 1 25 0 0 [.ref o6, .int (zI x)] h sz (p_ro (some (.int (zI (if 0 ≤ x ∧ x ≤ 99999 then d_Fr (A 0 0) (A 0 1) (A 0 2) (I 0 4) x 0 (I 0 3).toNat else -99)))) h sz) := by
  refine Con.ofK (by decide +kernel) rfl rfl ?_
  intro S M
  have hc := M.2.2.2.1
  have ho : s_own S = RX6 := M.2.2.1
  have hFr : (s_R S).frames = 1 := by rw [M.2.2.2.2.2.2.2.1]
  have hLo : (s_R S).locals = 25 := by rw [M.2.2.2.2.2.2.2.1]
  have hCe : (s_R S).cells = 0 := by rw [M.2.2.2.2.2.2.2.1]
  have hSl : (s_R S).slots = 0 := by rw [M.2.2.2.2.2.2.2.1]
  have hG : s_G S = G := M.2.1
  subst hG
  obtain ⟨lb, O, D, ol, al, fo, fa, pt, RA, RB, nv, hY⟩ := hX
  obtain ⟨hW, hL, hF, h6, hl6, h7, hN⟩ := id hY
  have hOf : r_O K1 1 (O 1) (D 1) (I 1) (A 1) h := (hW 1 x_is_1).1
  have hOd : r_O K0 0 (O 0) (D 0) (I 0) (A 0) h := (hW 0 x_is_0).1
  have hOp : r_O (K5 L) 5 (O 5) (D 5) (I 5) (A 5) h := (hW 5 x_is_5).1
  obtain ⟨mcl, hjo, -⟩ := id hL.1
  obtain ⟨mcf, hfo, -⟩ := id hF.1
  refine v_iload_n hc dX6_free_0 rfl ?_
  refine z_iconst hc dX6_free_1 ?_
  refine z_ldc hc ho dX6_free_2 K_X6_188 ?_
  refine v_callS (As := [.int (zI (x)), .int (zI (0)), .int (zI (99999))]) hc ho dX6_free_4 KS_X6_44 KB_X6_within (c_X6_within _ _ (x := x) (y := 0) (z := 99999) (by first | assumption | (unfold zb; omega)) (by first | assumption | (unfold zb; omega)) (by first | assumption | (unfold zb; omega))) rfl (Nat.le_of_ble_eq_true rfl) ⟨by omega, by omega⟩ ⟨by omega, by omega⟩ (fun r_ h_ sz_ q_ z_ => ?_)
  obtain ⟨rfl, eh_, es_⟩ := q_
  have eh_ := eh_.symm
  subst eh_
  have es_ := es_.symm
  subst es_
  have hx01 := bI_or (0 ≤ x ∧ x ≤ 99999)
  generalize bI (0 ≤ x ∧ x ≤ 99999) = bpx at hx01 ⊢
  refine z_if_eq (tgt := 22) hc dX6_free_7 (by decide) (by first | assumption | exact hi _ | exact ha _ _ | (unfold zb; omega)) (fun c_1 => ?_) (fun c_1 => ?_)
  · refine z_bipush hc dX6_free_22 (by decide) ?_
    refine z_iret M dX6_free_24 (by omega) (by omega) ?_
    first | exact ⟨by rw [if_pos (by omega)], rfl, rfl⟩ | exact ⟨by rw [if_neg (by omega)], rfl, rfl⟩
  · refine v_aload_n hc dX6_free_10 rfl ?_
    refine v_get hc ho dX6_free_11 F_X6_33 h6 rfl ?_
    refine v_iload_n hc dX6_free_14 rfl ?_
    refine z_iconst hc dX6_free_15 ?_
    refine v_callV (As := [.int (zI x), .int (zI 0)]) hc ho dX6_free_16 KV_X6_189 KB_X0_freeHands hOd.1 rfl rfl (c_X0_freeHands _ _ hOd hd (t := x) (out := 0) hx (by omega)) rfl (Nat.le_of_ble_eq_true rfl) ⟨by omega, by omega⟩ ⟨by omega, by omega⟩ (fun r_ h_ sz_ q_ z_ => ?_)
    obtain ⟨rfl, eh_, es_⟩ := q_
    have eh_ := eh_.symm
    subst eh_
    have es_ := es_.symm
    subst es_
    refine v_goto (tgt := 24) hc dX6_free_19 (by decide) ?_
    refine z_iret M dX6_free_24 (by omega) (by omega) ?_
    first | exact ⟨by rw [if_pos (by omega)], rfl, rfl⟩ | exact ⟨by rw [if_neg (by omega)], rfl, rfl⟩
set_option maxHeartbeats 4000000 in
theorem c_X6_clash (l : Launch) (G : b_G) {h : b_H} {sz : Nat} {o6 : Nat} {P7 : Nat → Prop} {L n : Nat} {I : Nat → Nat → Int} {A : Nat → Nat → Nat → Int} {nf : Nat} {LN : Nat → Nat} {PI PR PB : Nat → Nat → Int} {hn : Bool} {mf : Nat} {SN : Nat → Nat} {SI SR SB : Nat → Nat → Int} {i s : Nat → Int} (hX : x_X G o6 P7 L n I A nf LN PI PR PB hn mf SN SI SR SB i s h sz) (hd : d_I (I 0) (A 0)) : Con l G yX6_clash cX6_clash 1 (some .int) 2 48 0 0 [.ref o6] h sz (p_ro (some (.int (zI (d_cl (A 0 0) (fun t => d_Fr (A 0 0) (A 0 1) (A 0 2) (I 0 4) t 0 (I 0 3).toNat) (I 0 3).toNat)))) h sz) := by
  refine Con.ofK (by decide +kernel) rfl rfl ?_
  intro S M
  have hc := M.2.2.2.1
  have ho : s_own S = RX6 := M.2.2.1
  have hFr : (s_R S).frames = 2 := by rw [M.2.2.2.2.2.2.2.1]
  have hLo : (s_R S).locals = 48 := by rw [M.2.2.2.2.2.2.2.1]
  have hCe : (s_R S).cells = 0 := by rw [M.2.2.2.2.2.2.2.1]
  have hSl : (s_R S).slots = 0 := by rw [M.2.2.2.2.2.2.2.1]
  have hG : s_G S = G := M.2.1
  subst hG
  obtain ⟨lb, O, D, ol, al, fo, fa, pt, RA, RB, nv, hY⟩ := hX
  obtain ⟨hW, hL, hF, h6, hl6, h7, hN⟩ := id hY
  have hOf : r_O K1 1 (O 1) (D 1) (I 1) (A 1) h := (hW 1 x_is_1).1
  have hOd : r_O K0 0 (O 0) (D 0) (I 0) (A 0) h := (hW 0 x_is_0).1
  have hOp : r_O (K5 L) 5 (O 5) (D 5) (I 5) (A 5) h := (hW 5 x_is_5).1
  obtain ⟨mcl, hjo, -⟩ := id hL.1
  obtain ⟨mcf, hfo, -⟩ := id hF.1
  refine v_aload_n hc dX6_clash_0 rfl ?_
  refine v_get hc ho dX6_clash_1 F_X6_33 h6 rfl ?_
  refine v_callV (As := []) hc ho dX6_clash_4 KV_X6_192 KB_X0_firstClash hOd.1 rfl rfl (c_X0_firstClash _ _ hOd hd) rfl (Nat.le_of_ble_eq_true rfl) ⟨by omega, by omega⟩ ⟨by omega, by omega⟩ (fun r_ h_ sz_ q_ z_ => ?_)
  obtain ⟨rfl, eh_, es_⟩ := q_
  have eh_ := eh_.symm
  subst eh_
  have es_ := es_.symm
  subst es_
  refine z_iret M dX6_clash_7 (by omega) (by omega) ?_
  exact ⟨rfl, rfl, rfl⟩
set_option maxHeartbeats 4000000 in
theorem c_X6_left (l : Launch) (G : b_G) {h : b_H} {sz : Nat} {o6 : Nat} {P7 : Nat → Prop} {L n : Nat} {I : Nat → Nat → Int} {A : Nat → Nat → Nat → Int} {nf : Nat} {LN : Nat → Nat} {PI PR PB : Nat → Nat → Int} {hn : Bool} {mf : Nat} {SN : Nat → Nat} {SI SR SB : Nat → Nat → Int} {i s : Nat → Int} (hX : x_X G o6 P7 L n I A nf LN PI PR PB hn mf SN SI SR SB i s h sz) (hd : d_I (I 0) (A 0)) : Con l G yX6_left cX6_left 1 (some .int) 3 71 0 0 [.ref o6] h sz (p_ro (some (.int (zI (if 12 < I 0 3 then -4 else d_ll (fun u => d_eb (A 0 0) (fun t => d_Fr (A 0 0) (A 0 1) (A 0 2) (I 0 4) t u (I 0 3).toNat) u (I 0 3).toNat) ((2 : Int) ^ (I 0 3).toNat - 1) ((2 : Int) ^ (I 0 3).toNat - 1).toNat)))) h sz) := by
  refine Con.ofK (by decide +kernel) rfl rfl ?_
  intro S M
  have hc := M.2.2.2.1
  have ho : s_own S = RX6 := M.2.2.1
  have hFr : (s_R S).frames = 3 := by rw [M.2.2.2.2.2.2.2.1]
  have hLo : (s_R S).locals = 71 := by rw [M.2.2.2.2.2.2.2.1]
  have hCe : (s_R S).cells = 0 := by rw [M.2.2.2.2.2.2.2.1]
  have hSl : (s_R S).slots = 0 := by rw [M.2.2.2.2.2.2.2.1]
  have hG : s_G S = G := M.2.1
  subst hG
  obtain ⟨lb, O, D, ol, al, fo, fa, pt, RA, RB, nv, hY⟩ := hX
  obtain ⟨hW, hL, hF, h6, hl6, h7, hN⟩ := id hY
  have hOf : r_O K1 1 (O 1) (D 1) (I 1) (A 1) h := (hW 1 x_is_1).1
  have hOd : r_O K0 0 (O 0) (D 0) (I 0) (A 0) h := (hW 0 x_is_0).1
  have hOp : r_O (K5 L) 5 (O 5) (D 5) (I 5) (A 5) h := (hW 5 x_is_5).1
  obtain ⟨mcl, hjo, -⟩ := id hL.1
  obtain ⟨mcf, hfo, -⟩ := id hF.1
  refine v_aload_n hc dX6_left_0 rfl ?_
  refine v_get hc ho dX6_left_1 F_X6_33 h6 rfl ?_
  refine v_callV (As := []) hc ho dX6_left_4 KV_X6_195 KB_X0_leastLeftOut hOd.1 rfl rfl (c_X0_leastLeftOut _ _ hOd hd) rfl (Nat.le_of_ble_eq_true rfl) ⟨by omega, by omega⟩ ⟨by omega, by omega⟩ (fun r_ h_ sz_ q_ z_ => ?_)
  obtain ⟨rfl, eh_, es_⟩ := q_
  have eh_ := eh_.symm
  subst eh_
  have es_ := es_.symm
  subst es_
  refine z_iret M dX6_left_7 (by omega) (by omega) ?_
  exact ⟨rfl, rfl, rfl⟩
