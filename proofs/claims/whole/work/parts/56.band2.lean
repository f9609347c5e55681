/-! the class: pieces -/
/-- what a piece answers for a way: how many blocks, or -2 -/
def x_wl (a : Nat → Nat → Int) (b : Int) : Int := if a 13 b.toNat = 17 then -2 else a 13 b.toNat

set_option maxHeartbeats 4000000 in
theorem c_X6_pieceAt (l : Launch) (G : b_G) {h : b_H} {sz : Nat} {o6 : Nat} {P7 : Nat → Prop} {L n : Nat} {I : Nat → Nat → Int} {A : Nat → Nat → Nat → Int} {nf : Nat} {LN : Nat → Nat} {PI PR PB : Nat → Nat → Int} {hn : Bool} {mf : Nat} {SN : Nat → Nat} {SI SR SB : Nat → Nat → Int} {i s : Nat → Int} {lb : Nat → Nat} {O : Nat → Nat} {D : Nat → Nat → Nat} {ol al fo fa : Nat} {pt RA RB : Nat → Nat} {nv : Value} (hY : x_Y G o6 P7 L n I A nf LN PI PR PB hn mf SN SI SR SB i s lb O D ol al fo fa pt RA RB nv h sz) {x : Int} (hx : zb x) (hn12 : n ≤ 12) : Con l G yX6_pieceAt cX6_pieceAt 2 (some (.object "ShadowBand$Piece")) 3 64 0 0 [.ref o6, .int (zI x)] h sz (fun r h2 s2 => h2 = h ∧ s2 = sz ∧ ((0 ≤ x ∧ x < n) ∧ r = some (.ref (O (x.toNat + 20))) ∨ ¬ (0 ≤ x ∧ x < n) ∧ r = some .null)) := by
  refine Con.ofK (by decide +kernel) rfl rfl ?_
  intro S M
  have hc := M.2.2.2.1
  have ho : s_own S = RX6 := M.2.2.1
  have hFr : (s_R S).frames = 3 := by rw [M.2.2.2.2.2.2.2.1]
  have hLo : (s_R S).locals = 64 := by rw [M.2.2.2.2.2.2.2.1]
  have hCe : (s_R S).cells = 0 := by rw [M.2.2.2.2.2.2.2.1]
  have hSl : (s_R S).slots = 0 := by rw [M.2.2.2.2.2.2.2.1]
  have hG : s_G S = G := M.2.1
  subst hG
  obtain ⟨hW, hL, hF, h6, hl6, h7, hN⟩ := id hY
  have hOf : r_O K1 1 (O 1) (D 1) (I 1) (A 1) h := (hW 1 x_is_1).1
  have hOd : r_O K0 0 (O 0) (D 0) (I 0) (A 0) h := (hW 0 x_is_0).1
  have hOp : r_O (K5 L) 5 (O 5) (D 5) (I 5) (A 5) h := (hW 5 x_is_5).1
  obtain ⟨mcl, hjo, -⟩ := id hL.1
  obtain ⟨mcf, hfo, -⟩ := id hF.1
  refine v_iload_n hc dX6_pieceAt_0 rfl ?_
  refine z_iconst hc dX6_pieceAt_1 ?_
  refine v_aload_n hc dX6_pieceAt_2 rfl ?_
  refine v_get hc ho dX6_pieceAt_3 F_X6_19 h6 rfl ?_
  refine v_callV (As := []) hc ho dX6_pieceAt_6 KV_X6_79 KB_Jx4a65c_size_8abf5 hjo rfl rfl (c_Jx4a65c_size_8abf5 _ _ hL.1) rfl (Nat.le_of_ble_eq_true rfl) ⟨by omega, by omega⟩ ⟨by omega, by omega⟩ (fun r_ h_ sz_ q_ z_ => ?_)
  obtain ⟨rfl, eh_, es_⟩ := q_
  have eh_ := eh_.symm
  subst eh_
  have es_ := es_.symm
  subst es_
  refine z_iconst hc dX6_pieceAt_9 ?_
  refine z_isub hc dX6_pieceAt_10 ?_
  refine v_callS (As := [.int (zI (x)), .int (zI (0)), .int (zI ((n : Int) - 1))]) hc ho dX6_pieceAt_11 KS_X6_44 KB_X6_within (c_X6_within _ _ (x := x) (y := 0) (z := (n : Int) - 1) (by first | assumption | (unfold zb; omega)) (by first | assumption | (unfold zb; omega)) (by first | assumption | (unfold zb; omega))) rfl (Nat.le_of_ble_eq_true rfl) ⟨by omega, by omega⟩ ⟨by omega, by omega⟩ (fun r_ h_ sz_ q_ z_ => ?_)
  obtain ⟨rfl, eh_, es_⟩ := q_
  have eh_ := eh_.symm
  subst eh_
  have es_ := es_.symm
  subst es_
  have hx01 := bI_or (0 ≤ x ∧ x ≤ (n : Int) - 1)
  generalize bI (0 ≤ x ∧ x ≤ (n : Int) - 1) = bpx at hx01 ⊢
  refine z_if_eq (tgt := 31) hc dX6_pieceAt_14 (by decide) (by first | assumption | exact hi _ | exact ha _ _ | (unfold zb; omega)) (fun c_1 => ?_) (fun c_1 => ?_)
  · refine v_null hc dX6_pieceAt_31 ?_
    refine v_aret M rfl (Or.inl ⟨_, rfl⟩) (Or.inl rfl) dX6_pieceAt_32 (by omega) (by omega) ?_
    exact ⟨rfl, rfl, Or.inr ⟨by omega, rfl⟩⟩
  · have hpc := hW.pc (p := x.toNat) (by omega)
    refine v_aload_n hc dX6_pieceAt_17 rfl ?_
    refine v_get hc ho dX6_pieceAt_18 F_X6_19 h6 rfl ?_
    refine v_iload_n hc dX6_pieceAt_21 rfl ?_
    refine v_callV (As := [.int (zI x)]) hc ho dX6_pieceAt_22 KV_X6_139 KB_Jx4a65c_get_915e3 hjo rfl rfl (c_Jx4a65c_get_915e3 _ _ hL.1 (x := x) (by omega)) rfl (Nat.le_of_ble_eq_true rfl) ⟨by omega, by omega⟩ ⟨by omega, by omega⟩ (fun r_ h_ sz_ q_ z_ => ?_)
    obtain ⟨rfl, eh_, es_⟩ := q_
    have eh_ := eh_.symm
    subst eh_
    have es_ := es_.symm
    subst es_
    refine v_cast hc ho dX6_pieceAt_25 rfl CLk_X6_82 hpc.1 ?_
    refine v_goto (tgt := 32) hc dX6_pieceAt_28 (by decide) ?_
    refine v_aret M rfl (Or.inl ⟨_, rfl⟩) (Or.inr ⟨_, rfl⟩) dX6_pieceAt_32 (by omega) (by omega) ?_
    exact ⟨rfl, rfl, Or.inl ⟨by omega, rfl⟩⟩
set_option maxHeartbeats 4000000 in
theorem c_X6_way (l : Launch) (G : b_G) {h : b_H} {sz : Nat} {o6 : Nat} {P7 : Nat → Prop} {L n : Nat} {I : Nat → Nat → Int} {A : Nat → Nat → Nat → Int} {nf : Nat} {LN : Nat → Nat} {PI PR PB : Nat → Nat → Int} {hn : Bool} {mf : Nat} {SN : Nat → Nat} {SI SR SB : Nat → Nat → Int} {i s : Nat → Int} (hX : x_X G o6 P7 L n I A nf LN PI PR PB hn mf SN SI SR SB i s h sz) (hn12 : n ≤ 12) (hq : ∀ p, p < n → q_J (I (p + 20)) (A (p + 20))) {x y : Int} (hx : zb x) (hy : zb y) : Con l G yX6_way cX6_way 5 (some .int) 4 85 0 0 [.ref o6, .int (zI x), .int (zI y)] h sz (p_ro (some (.int (zI (if ((0 ≤ x ∧ x < n) ∧ 1 ≤ y ∧ y ≤ 400) then x_wl (A (x.toNat + 20)) y else -1)))) h sz) := by
  refine Con.ofK (by decide +kernel) rfl rfl ?_
  intro S M
  have hc := M.2.2.2.1
  have ho : s_own S = RX6 := M.2.2.1
  have hFr : (s_R S).frames = 4 := by rw [M.2.2.2.2.2.2.2.1]
  have hLo : (s_R S).locals = 85 := by rw [M.2.2.2.2.2.2.2.1]
  have hCe : (s_R S).cells = 0 := by rw [M.2.2.2.2.2.2.2.1]
  have hSl : (s_R S).slots = 0 := by rw [M.2.2.2.2.2.2.2.1]
  have hG : s_G S = G := M.2.1
  subst hG
  obtain ⟨lb, O, D, ol, al, fo, fa, pt, RA, RB, nv, hY⟩ := hX
  obtain ⟨hW, hL, hF, h6, hl6, h7, hN⟩ := id hY
  have hOf : r_O K1 1 (O 1) (D 1) (I 1) (A 1) h := (hW 1 x_is_1).1
  have hOd : r_O K0 0 (O 0) (D 0) (I 0) (A 0) h := (hW 0 x_is_0).1
  have hOp : r_O (K5 L) 5 (O 5) (D 5) (I 5) (A 5) h := (hW 5 x_is_5).1
  obtain ⟨mcl, hjo, -⟩ := id hL.1
  obtain ⟨mcf, hfo, -⟩ := id hF.1
  refine v_aload_n hc dX6_way_0 rfl ?_
  refine v_iload_n hc dX6_way_1 rfl ?_
  refine v_callV (As := [.int (zI x)]) hc ho dX6_way_2 KV_X6_90 KB_X6_pieceAt h6 rfl rfl (c_X6_pieceAt _ _ hY (x := x) hx hn12) rfl (Nat.le_of_ble_eq_true rfl) ⟨by omega, by omega⟩ ⟨by omega, by omega⟩ (fun r_ h_ sz_ q_ z_ => ?_)
  obtain ⟨eh_, es_, hpq⟩ := q_
  have eh_ := eh_.symm
  subst eh_
  have es_ := es_.symm
  subst es_
  rcases hpq with ⟨hxn, rfl⟩ | ⟨hxn, rfl⟩
  · have hpc := hW.pc (p := x.toNat) (by omega)
    have hq4 := hq (x.toNat) (by omega)
    refine v_astore_n hc dX6_way_5 (Nat.le_of_ble_eq_true rfl) ?_
    refine v_aload_n hc dX6_way_6 rfl ?_
    refine v_ifnull hc dX6_way_7 ?_
    refine v_iload_n hc dX6_way_10 rfl ?_
    refine z_iconst hc dX6_way_11 ?_
    refine z_sipush hc dX6_way_12 (by decide) ?_
    refine v_callS (As := [.int (zI (y)), .int (zI (1)), .int (zI (400))]) hc ho dX6_way_15 KS_X6_44 KB_X6_within (c_X6_within _ _ (x := y) (y := 1) (z := 400) (by first | assumption | (unfold zb; omega)) (by first | assumption | (unfold zb; omega)) (by first | assumption | (unfold zb; omega))) rfl (Nat.le_of_ble_eq_true rfl) ⟨by omega, by omega⟩ ⟨by omega, by omega⟩ (fun r_ h_ sz_ q_ z_ => ?_)
    obtain ⟨rfl, eh_, es_⟩ := q_
    have eh_ := eh_.symm
    subst eh_
    have es_ := es_.symm
    subst es_
    have hy01 := bI_or (1 ≤ y ∧ y ≤ 400)
    generalize bI (1 ≤ y ∧ y ≤ 400) = bpy at hy01 ⊢
    refine z_if_ne (tgt := 23) hc dX6_way_18 (by decide) (by first | assumption | exact hi _ | exact ha _ _ | (unfold zb; omega)) (fun c_1 => ?_) (fun c_1 => ?_)
    · refine v_aload_n hc dX6_way_23 rfl ?_
      refine v_iload_n hc dX6_way_24 rfl ?_
      refine v_callV (As := [.int (zI y)]) hc ho dX6_way_25 KV_X6_96 KB_X4_wayLength hpc.1 rfl rfl (c_X4_wayLength _ _ hpc hq4.1 (x := y) hy) rfl (Nat.le_of_ble_eq_true rfl) ⟨by omega, by omega⟩ ⟨by omega, by omega⟩ (fun r_ h_ sz_ q_ z_ => ?_)
      obtain ⟨rfl, eh_, es_⟩ := q_
      have eh_ := eh_.symm
      subst eh_
      have es_ := es_.symm
      subst es_
      rw [if_pos (show 1 ≤ y ∧ y ≤ 400 by omega)]
      have hwb := hq4.1.2.2.2.2.2.2.2.2 y.toNat
      refine v_istore hc dX6_way_28 (Nat.le_of_ble_eq_true rfl) ?_
      refine v_iload hc dX6_way_30 rfl ?_
      refine z_bipush hc dX6_way_32 (by decide) ?_
      refine z_icmp_ne (tgt := 42) hc dX6_way_34 (by decide) (by first | assumption | exact hi _ | exact ha _ _ | (unfold zb; omega)) (by first | assumption | exact hi _ | exact ha _ _ | (unfold zb; omega)) (fun c_2 => ?_) (fun c_2 => ?_)
      · refine v_iload hc dX6_way_42 rfl ?_
        refine z_iret M dX6_way_44 (by omega) (by omega) ?_
        first | exact ⟨by rw [if_pos (by omega), x_wl, if_pos (by omega)], rfl, rfl⟩ | exact ⟨by rw [if_pos (by omega), x_wl, if_neg (by omega)], rfl, rfl⟩
      · refine z_bipush hc dX6_way_37 (by decide) ?_
        refine v_goto (tgt := 44) hc dX6_way_39 (by decide) ?_
        refine z_iret M dX6_way_44 (by omega) (by omega) ?_
        first | exact ⟨by rw [if_pos (by omega), x_wl, if_pos (by omega)], rfl, rfl⟩ | exact ⟨by rw [if_pos (by omega), x_wl, if_neg (by omega)], rfl, rfl⟩
    · refine z_iconst hc dX6_way_21 ?_
      refine z_iret M dX6_way_22 (by omega) (by omega) ?_
      exact ⟨by rw [if_neg (by omega)], rfl, rfl⟩
  · refine v_astore_nN hc dX6_way_5 (Nat.le_of_ble_eq_true rfl) ?_
    refine v_aload_nN hc dX6_way_6 rfl ?_
    refine v_ifnullN (tgt := 21) hc dX6_way_7 (by decide) ?_
    refine z_iconst hc dX6_way_21 ?_
    refine z_iret M dX6_way_22 (by omega) (by omega) ?_
    exact ⟨by rw [if_neg (by omega)], rfl, rfl⟩
set_option maxHeartbeats 4000000 in
theorem c_X6_misfit (l : Launch) (G : b_G) {h : b_H} {sz : Nat} {o6 : Nat} {P7 : Nat → Prop} {L n : Nat} {I : Nat → Nat → Int} {A : Nat → Nat → Nat → Int} {nf : Nat} {LN : Nat → Nat} {PI PR PB : Nat → Nat → Int} {hn : Bool} {mf : Nat} {SN : Nat → Nat} {SI SR SB : Nat → Nat → Int} {i s : Nat → Int} (hX : x_X G o6 P7 L n I A nf LN PI PR PB hn mf SN SI SR SB i s h sz) (hn12 : n ≤ 12) (hq : ∀ p, p < n → q_J (I (p + 20)) (A (p + 20))) {x y z : Int} (hx : zb x) (hy : zb y) (hz : zb z) : Con l G yX6_misfit cX6_misfit 5 (some .int) 4 85 0 0 [.ref o6, .int (zI x), .int (zI y), .int (zI z)] h sz (p_ro (some (.int (zI (if ((0 ≤ x ∧ x < n) ∧ (1 ≤ y ∧ y ≤ 400) ∧ (0 ≤ z ∧ z ≤ 100000)) then q_ms (I (x.toNat + 20) 6) (I (x.toNat + 20) 7) y z else -1)))) h sz) := by
  refine Con.ofK (by decide +kernel) rfl rfl ?_
  intro S M
  have hc := M.2.2.2.1
  have ho : s_own S = RX6 := M.2.2.1
  have hFr : (s_R S).frames = 4 := by rw [M.2.2.2.2.2.2.2.1]
  have hLo : (s_R S).locals = 85 := by rw [M.2.2.2.2.2.2.2.1]
  have hCe : (s_R S).cells = 0 := by rw [M.2.2.2.2.2.2.2.1]
  have hSl : (s_R S).slots = 0 := by rw [M.2.2.2.2.2.2.2.1]
  have hG : s_G S = G := M.2.1
  subst hG
  obtain ⟨lb, O, D, ol, al, fo, fa, pt, RA, RB, nv, hY⟩ := hX
  obtain ⟨hW, hL, hF, h6, hl6, h7, hN⟩ := id hY
  have hOf : r_O K1 1 (O 1) (D 1) (I 1) (A 1) h := (hW 1 x_is_1).1
  have hOd : r_O K0 0 (O 0) (D 0) (I 0) (A 0) h := (hW 0 x_is_0).1
  have hOp : r_O (K5 L) 5 (O 5) (D 5) (I 5) (A 5) h := (hW 5 x_is_5).1
  obtain ⟨mcl, hjo, -⟩ := id hL.1
  obtain ⟨mcf, hfo, -⟩ := id hF.1
  refine v_aload_n hc dX6_misfit_0 rfl ?_
  refine v_iload_n hc dX6_misfit_1 rfl ?_
  refine v_callV (As := [.int (zI x)]) hc ho dX6_misfit_2 KV_X6_90 KB_X6_pieceAt h6 rfl rfl (c_X6_pieceAt _ _ hY (x := x) hx hn12) rfl (Nat.le_of_ble_eq_true rfl) ⟨by omega, by omega⟩ ⟨by omega, by omega⟩ (fun r_ h_ sz_ q_ z_ => ?_)
  obtain ⟨eh_, es_, hpq⟩ := q_
  have eh_ := eh_.symm
  subst eh_
  have es_ := es_.symm
  subst es_
  rcases hpq with ⟨hxn, rfl⟩ | ⟨hxn, rfl⟩
  · have hpc := hW.pc (p := x.toNat) (by omega)
    have hq4 := hq (x.toNat) (by omega)
    refine v_astore hc dX6_misfit_5 (Nat.le_of_ble_eq_true rfl) ?_
    refine v_aload hc dX6_misfit_7 rfl ?_
    refine v_ifnull hc dX6_misfit_9 ?_
    refine v_iload_n hc dX6_misfit_12 rfl ?_
    refine z_iconst hc dX6_misfit_13 ?_
    refine z_sipush hc dX6_misfit_14 (by decide) ?_
    refine v_callS (As := [.int (zI (y)), .int (zI (1)), .int (zI (400))]) hc ho dX6_misfit_17 KS_X6_44 KB_X6_within (c_X6_within _ _ (x := y) (y := 1) (z := 400) (by first | assumption | (unfold zb; omega)) (by first | assumption | (unfold zb; omega)) (by first | assumption | (unfold zb; omega))) rfl (Nat.le_of_ble_eq_true rfl) ⟨by omega, by omega⟩ ⟨by omega, by omega⟩ (fun r_ h_ sz_ q_ z_ => ?_)
    obtain ⟨rfl, eh_, es_⟩ := q_
    have eh_ := eh_.symm
    subst eh_
    have es_ := es_.symm
    subst es_
    have hy01 := bI_or (1 ≤ y ∧ y ≤ 400)
    generalize bI (1 ≤ y ∧ y ≤ 400) = bpy at hy01 ⊢
    refine z_if_eq (tgt := 33) hc dX6_misfit_20 (by decide) (by first | assumption | exact hi _ | exact ha _ _ | (unfold zb; omega)) (fun c_1 => ?_) (fun c_1 => ?_)
    · refine z_iconst hc dX6_misfit_33 ?_
      refine z_iret M dX6_misfit_34 (by omega) (by omega) ?_
      exact ⟨by rw [if_neg (by omega)], rfl, rfl⟩
    · refine v_iload_n hc dX6_misfit_23 rfl ?_
      refine z_iconst hc dX6_misfit_24 ?_
      refine z_ldc hc ho dX6_misfit_25 K_X6_103 ?_
      refine v_callS (As := [.int (zI (z)), .int (zI (0)), .int (zI (100000))]) hc ho dX6_misfit_27 KS_X6_44 KB_X6_within (c_X6_within _ _ (x := z) (y := 0) (z := 100000) (by first | assumption | (unfold zb; omega)) (by first | assumption | (unfold zb; omega)) (by first | assumption | (unfold zb; omega))) rfl (Nat.le_of_ble_eq_true rfl) ⟨by omega, by omega⟩ ⟨by omega, by omega⟩ (fun r_ h_ sz_ q_ z_ => ?_)
      obtain ⟨rfl, eh_, es_⟩ := q_
      have eh_ := eh_.symm
      subst eh_
      have es_ := es_.symm
      subst es_
      have hz01 := bI_or (0 ≤ z ∧ z ≤ 100000)
      generalize bI (0 ≤ z ∧ z ≤ 100000) = bpz at hz01 ⊢
      refine z_if_ne (tgt := 35) hc dX6_misfit_30 (by decide) (by first | assumption | exact hi _ | exact ha _ _ | (unfold zb; omega)) (fun c_2 => ?_) (fun c_2 => ?_)
      · refine v_aload hc dX6_misfit_35 rfl ?_
        refine v_iload_n hc dX6_misfit_37 rfl ?_
        refine v_iload_n hc dX6_misfit_38 rfl ?_
        refine v_callV (As := [.int (zI y), .int (zI z)]) hc ho dX6_misfit_39 KV_X6_104 KB_X4_misses hpc.1 rfl rfl (c_X4_misses _ _ hpc hq4.1 (b := y) (t := z) (by omega) (by omega)) rfl (Nat.le_of_ble_eq_true rfl) ⟨by omega, by omega⟩ ⟨by omega, by omega⟩ (fun r_ h_ sz_ q_ z_ => ?_)
        obtain ⟨rfl, eh_, es_⟩ := q_
        have eh_ := eh_.symm
        subst eh_
        have es_ := es_.symm
        subst es_
        refine z_iret M dX6_misfit_42 (by omega) (by omega) ?_
        exact ⟨by rw [if_pos (by omega)], rfl, rfl⟩
      · refine z_iconst hc dX6_misfit_33 ?_
        refine z_iret M dX6_misfit_34 (by omega) (by omega) ?_
        exact ⟨by rw [if_neg (by omega)], rfl, rfl⟩
  · refine v_astoreN hc dX6_misfit_5 (Nat.le_of_ble_eq_true rfl) ?_
    refine v_aloadN hc dX6_misfit_7 rfl ?_
    refine v_ifnullN (tgt := 33) hc dX6_misfit_9 (by decide) ?_
    refine z_iconst hc dX6_misfit_33 ?_
    refine z_iret M dX6_misfit_34 (by omega) (by omega) ?_
    exact ⟨by rw [if_neg (by omega)], rfl, rfl⟩
set_option maxHeartbeats 4000000 in
theorem c_X6_best (l : Launch) (G : b_G) {h : b_H} {sz : Nat} {o6 : Nat} {P7 : Nat → Prop} {L n : Nat} {I : Nat → Nat → Int} {A : Nat → Nat → Nat → Int} {nf : Nat} {LN : Nat → Nat} {PI PR PB : Nat → Nat → Int} {hn : Bool} {mf : Nat} {SN : Nat → Nat} {SI SR SB : Nat → Nat → Int} {i s : Nat → Int} (hX : x_X G o6 P7 L n I A nf LN PI PR PB hn mf SN SI SR SB i s h sz) (hn12 : n ≤ 12) (hq : ∀ p, p < n → q_J (I (p + 20)) (A (p + 20))) {x y : Int} (hx : zb x) (hy : zb y) : Con l G yX6_best cX6_best 4 (some .int) 4 90 0 0 [.ref o6, .int (zI x), .int (zI y)] h sz (p_ro (some (.int (zI (if ((0 ≤ x ∧ x < n) ∧ 0 ≤ y ∧ y ≤ 100000) then q_bt (fun b => ¬ A (x.toNat + 20) 13 b = 17) (fun b => q_ms (I (x.toNat + 20) 6) (I (x.toNat + 20) 7) b y) 400 else -1)))) h sz) := by
  refine Con.ofK (by decide +kernel) rfl rfl ?_
  intro S M
  have hc := M.2.2.2.1
  have ho : s_own S = RX6 := M.2.2.1
  have hFr : (s_R S).frames = 4 := by rw [M.2.2.2.2.2.2.2.1]
  have hLo : (s_R S).locals = 90 := by rw [M.2.2.2.2.2.2.2.1]
  have hCe : (s_R S).cells = 0 := by rw [M.2.2.2.2.2.2.2.1]
  have hSl : (s_R S).slots = 0 := by rw [M.2.2.2.2.2.2.2.1]
  have hG : s_G S = G := M.2.1
  subst hG
  obtain ⟨lb, O, D, ol, al, fo, fa, pt, RA, RB, nv, hY⟩ := hX
  obtain ⟨hW, hL, hF, h6, hl6, h7, hN⟩ := id hY
  have hOf : r_O K1 1 (O 1) (D 1) (I 1) (A 1) h := (hW 1 x_is_1).1
  have hOd : r_O K0 0 (O 0) (D 0) (I 0) (A 0) h := (hW 0 x_is_0).1
  have hOp : r_O (K5 L) 5 (O 5) (D 5) (I 5) (A 5) h := (hW 5 x_is_5).1
  obtain ⟨mcl, hjo, -⟩ := id hL.1
  obtain ⟨mcf, hfo, -⟩ := id hF.1
  refine v_aload_n hc dX6_best_0 rfl ?_
  refine v_iload_n hc dX6_best_1 rfl ?_
  refine v_callV (As := [.int (zI x)]) hc ho dX6_best_2 KV_X6_90 KB_X6_pieceAt h6 rfl rfl (c_X6_pieceAt _ _ hY (x := x) hx hn12) rfl (Nat.le_of_ble_eq_true rfl) ⟨by omega, by omega⟩ ⟨by omega, by omega⟩ (fun r_ h_ sz_ q_ z_ => ?_)
  obtain ⟨eh_, es_, hpq⟩ := q_
  have eh_ := eh_.symm
  subst eh_
  have es_ := es_.symm
  subst es_
  rcases hpq with ⟨hxn, rfl⟩ | ⟨hxn, rfl⟩
  · have hpc := hW.pc (p := x.toNat) (by omega)
    have hq4 := hq (x.toNat) (by omega)
    refine v_astore_n hc dX6_best_5 (Nat.le_of_ble_eq_true rfl) ?_
    refine v_aload_n hc dX6_best_6 rfl ?_
    refine v_ifnull hc dX6_best_7 ?_
    refine v_iload_n hc dX6_best_10 rfl ?_
    refine z_iconst hc dX6_best_11 ?_
    refine z_ldc hc ho dX6_best_12 K_X6_103 ?_
    refine v_callS (As := [.int (zI (y)), .int (zI (0)), .int (zI (100000))]) hc ho dX6_best_14 KS_X6_44 KB_X6_within (c_X6_within _ _ (x := y) (y := 0) (z := 100000) (by first | assumption | (unfold zb; omega)) (by first | assumption | (unfold zb; omega)) (by first | assumption | (unfold zb; omega))) rfl (Nat.le_of_ble_eq_true rfl) ⟨by omega, by omega⟩ ⟨by omega, by omega⟩ (fun r_ h_ sz_ q_ z_ => ?_)
    obtain ⟨rfl, eh_, es_⟩ := q_
    have eh_ := eh_.symm
    subst eh_
    have es_ := es_.symm
    subst es_
    have hy01 := bI_or (0 ≤ y ∧ y ≤ 100000)
    generalize bI (0 ≤ y ∧ y ≤ 100000) = bpy at hy01 ⊢
    refine z_if_ne (tgt := 22) hc dX6_best_17 (by decide) (by first | assumption | exact hi _ | exact ha _ _ | (unfold zb; omega)) (fun c_1 => ?_) (fun c_1 => ?_)
    · refine v_aload_n hc dX6_best_22 rfl ?_
      refine v_iload_n hc dX6_best_23 rfl ?_
      refine v_callV (As := [.int (zI y)]) hc ho dX6_best_24 KV_X6_107 KB_X4_bestBeats hpc.1 rfl rfl (c_X4_bestBeats _ _ hpc hq4.1 (t := y) (by omega)) rfl (Nat.le_of_ble_eq_true rfl) ⟨by omega, by omega⟩ ⟨by omega, by omega⟩ (fun r_ h_ sz_ q_ z_ => ?_)
      obtain ⟨rfl, eh_, es_⟩ := q_
      have eh_ := eh_.symm
      subst eh_
      have es_ := es_.symm
      subst es_
      refine z_iret M dX6_best_27 (by omega) (by omega) ?_
      exact ⟨by rw [if_pos (by omega)], rfl, rfl⟩
    · refine z_iconst hc dX6_best_20 ?_
      refine z_iret M dX6_best_21 (by omega) (by omega) ?_
      exact ⟨by rw [if_neg (by omega)], rfl, rfl⟩
  · refine v_astore_nN hc dX6_best_5 (Nat.le_of_ble_eq_true rfl) ?_
    refine v_aload_nN hc dX6_best_6 rfl ?_
    refine v_ifnullN (tgt := 20) hc dX6_best_7 (by decide) ?_
    refine z_iconst hc dX6_best_20 ?_
    refine z_iret M dX6_best_21 (by omega) (by omega) ?_
    exact ⟨by rw [if_neg (by omega)], rfl, rfl⟩
set_option maxHeartbeats 4000000 in
theorem c_X6_along (l : Launch) (G : b_G) {h : b_H} {sz : Nat} {o6 : Nat} {P7 : Nat → Prop} {L n : Nat} {I : Nat → Nat → Int} {A : Nat → Nat → Nat → Int} {nf : Nat} {LN : Nat → Nat} {PI PR PB : Nat → Nat → Int} {hn : Bool} {mf : Nat} {SN : Nat → Nat} {SI SR SB : Nat → Nat → Int} {i s : Nat → Int} (hX : x_X G o6 P7 L n I A nf LN PI PR PB hn mf SN SI SR SB i s h sz) (hn12 : n ≤ 12) (hq : ∀ p, p < n → q_J (I (p + 20)) (A (p + 20))) {x y z : Int} (hx : zb x) (hy : zb y) (hz : zb z) : Con l G yX6_along cX6_along 6 (some .int) 4 85 1 17 [.ref o6, .int (zI x), .int (zI y), .int (zI z)] h sz (fun r h2 s2 => r = some (.int (zI (if ((0 ≤ x ∧ x < n) ∧ 1 ≤ y ∧ y ≤ 400) then (if 0 ≤ z ∧ z < (q_ln (A (x.toNat + 20)) y : Int) then q_rx (I (x.toNat + 20) 4).toNat (A (x.toNat + 20) 8) (A (x.toNat + 20) 9) (A (x.toNat + 20) 12) (I (x.toNat + 20) 10) y z.toNat else -1) else -1))) ∧ ((h2 = h ∧ s2 = sz) ∨ (s2 = sz + 1 ∧ ∀ b, b ≠ sz → h2 b = h b))) := by
  refine Con.ofK (by decide +kernel) rfl rfl ?_
  intro S M
  have hc := M.2.2.2.1
  have ho : s_own S = RX6 := M.2.2.1
  have hFr : (s_R S).frames = 4 := by rw [M.2.2.2.2.2.2.2.1]
  have hLo : (s_R S).locals = 85 := by rw [M.2.2.2.2.2.2.2.1]
  have hCe : (s_R S).cells = 1 := by rw [M.2.2.2.2.2.2.2.1]
  have hSl : (s_R S).slots = 17 := by rw [M.2.2.2.2.2.2.2.1]
  have hG : s_G S = G := M.2.1
  subst hG
  obtain ⟨lb, O, D, ol, al, fo, fa, pt, RA, RB, nv, hY⟩ := hX
  obtain ⟨hW, hL, hF, h6, hl6, h7, hN⟩ := id hY
  have hOf : r_O K1 1 (O 1) (D 1) (I 1) (A 1) h := (hW 1 x_is_1).1
  have hOd : r_O K0 0 (O 0) (D 0) (I 0) (A 0) h := (hW 0 x_is_0).1
  have hOp : r_O (K5 L) 5 (O 5) (D 5) (I 5) (A 5) h := (hW 5 x_is_5).1
  obtain ⟨mcl, hjo, -⟩ := id hL.1
  obtain ⟨mcf, hfo, -⟩ := id hF.1
  refine v_aload_n hc dX6_along_0 rfl ?_
  refine v_iload_n hc dX6_along_1 rfl ?_
  refine v_callV (As := [.int (zI x)]) hc ho dX6_along_2 KV_X6_90 KB_X6_pieceAt h6 rfl rfl (c_X6_pieceAt _ _ hY (x := x) hx hn12) rfl (Nat.le_of_ble_eq_true rfl) ⟨by omega, by omega⟩ ⟨by omega, by omega⟩ (fun r_ h_ sz_ q_ z_ => ?_)
  obtain ⟨eh_, es_, hpq⟩ := q_
  have eh_ := eh_.symm
  subst eh_
  have es_ := es_.symm
  subst es_
  rcases hpq with ⟨hxn, rfl⟩ | ⟨hxn, rfl⟩
  · have hpc := hW.pc (p := x.toNat) (by omega)
    have hq4 := hq (x.toNat) (by omega)
    refine v_astore hc dX6_along_5 (Nat.le_of_ble_eq_true rfl) ?_
    refine v_aload hc dX6_along_7 rfl ?_
    refine v_ifnull hc dX6_along_9 ?_
    refine v_iload_n hc dX6_along_12 rfl ?_
    refine z_iconst hc dX6_along_13 ?_
    refine z_sipush hc dX6_along_14 (by decide) ?_
    refine v_callS (As := [.int (zI (y)), .int (zI (1)), .int (zI (400))]) hc ho dX6_along_17 KS_X6_44 KB_X6_within (c_X6_within _ _ (x := y) (y := 1) (z := 400) (by first | assumption | (unfold zb; omega)) (by first | assumption | (unfold zb; omega)) (by first | assumption | (unfold zb; omega))) rfl (Nat.le_of_ble_eq_true rfl) ⟨by omega, by omega⟩ ⟨by omega, by omega⟩ (fun r_ h_ sz_ q_ z_ => ?_)
    obtain ⟨rfl, eh_, es_⟩ := q_
    have eh_ := eh_.symm
    subst eh_
    have es_ := es_.symm
    subst es_
    have hy01 := bI_or (1 ≤ y ∧ y ≤ 400)
    generalize bI (1 ≤ y ∧ y ≤ 400) = bpy at hy01 ⊢
    refine z_if_ne (tgt := 25) hc dX6_along_20 (by decide) (by first | assumption | exact hi _ | exact ha _ _ | (unfold zb; omega)) (fun c_1 => ?_) (fun c_1 => ?_)
    · refine v_aload hc dX6_along_25 rfl ?_
      refine v_iload_n hc dX6_along_27 rfl ?_
      refine v_callV (As := [.int (zI y)]) hc ho dX6_along_28 KV_X6_99 KB_X4_wayFor hpc.1 rfl rfl (c_X4_wayFor _ _ hpc hq4 (b := y) (by omega)) rfl (Nat.le_of_ble_eq_true rfl) ⟨by omega, by omega⟩ ⟨by omega, by omega⟩ (fun r3_ h3 sz3 q3_ z_ => ?_)
      obtain ⟨rfl, rfl, ⟨f3, hf3, hfv⟩, hfr3⟩ := q3_
      have hlnb : q_ln (A (x.toNat + 20)) y ≤ 17 := by unfold q_ln; have := hq4.1.2.2.2.2.2.2.2.2 y.toNat; split <;> omega
      refine v_astore hc dX6_along_31 (Nat.le_of_ble_eq_true rfl) ?_
      refine v_iload_n hc dX6_along_33 rfl ?_
      refine z_iconst hc dX6_along_34 ?_
      refine v_aload hc dX6_along_35 rfl ?_
      refine z_ilen hc dX6_along_37 hf3 ?_
      refine z_iconst hc dX6_along_38 ?_
      refine z_isub hc dX6_along_39 ?_
      refine v_callS (As := [.int (zI (z)), .int (zI (0)), .int (zI ((q_ln (A (x.toNat + 20)) y : Int) - 1))]) hc ho dX6_along_40 KS_X6_44 KB_X6_within (c_X6_within _ _ (x := z) (y := 0) (z := (q_ln (A (x.toNat + 20)) y : Int) - 1) (by first | assumption | (unfold zb; omega)) (by first | assumption | (unfold zb; omega)) (by first | assumption | (unfold zb; omega))) rfl (Nat.le_of_ble_eq_true rfl) ⟨by omega, by omega⟩ ⟨by omega, by omega⟩ (fun r_ h_ sz_ q_ z_ => ?_)
      obtain ⟨rfl, eh_, es_⟩ := q_
      have eh_ := eh_.symm
      subst eh_
      have es_ := es_.symm
      subst es_
      have hz01 := bI_or (0 ≤ z ∧ z ≤ (q_ln (A (x.toNat + 20)) y : Int) - 1)
      generalize bI (0 ≤ z ∧ z ≤ (q_ln (A (x.toNat + 20)) y : Int) - 1) = bpz at hz01 ⊢
      refine z_if_eq (tgt := 53) hc dX6_along_43 (by decide) (by first | assumption | exact hi _ | exact ha _ _ | (unfold zb; omega)) (fun c_2 => ?_) (fun c_2 => ?_)
      · refine z_iconst hc dX6_along_53 ?_
        refine z_iret M dX6_along_54 (by omega) (by omega) ?_
        first
          | exact ⟨by rw [if_pos (by omega), if_pos (by omega)], Or.inr ⟨rfl, hfr3⟩⟩
          | exact ⟨by rw [if_pos (by omega), if_neg (by omega)], Or.inr ⟨rfl, hfr3⟩⟩
      · refine v_aload hc dX6_along_46 rfl ?_
        refine v_iload_n hc dX6_along_48 rfl ?_
        refine z_iald hc dX6_along_49 hf3 (by omega) (by omega) (by omega) ?_
        rw [hfv z.toNat (by omega)]
        refine v_goto (tgt := 54) hc dX6_along_50 (by decide) ?_
        refine z_iret M dX6_along_54 (by omega) (by omega) ?_
        first
          | exact ⟨by rw [if_pos (by omega), if_pos (by omega)], Or.inr ⟨rfl, hfr3⟩⟩
          | exact ⟨by rw [if_pos (by omega), if_neg (by omega)], Or.inr ⟨rfl, hfr3⟩⟩
    · refine z_iconst hc dX6_along_23 ?_
      refine z_iret M dX6_along_24 (by omega) (by omega) ?_
      exact ⟨by rw [if_neg (by omega)], Or.inl ⟨rfl, rfl⟩⟩
  · refine v_astoreN hc dX6_along_5 (Nat.le_of_ble_eq_true rfl) ?_
    refine v_aloadN hc dX6_along_7 rfl ?_
    refine v_ifnullN (tgt := 23) hc dX6_along_9 (by decide) ?_
    refine z_iconst hc dX6_along_23 ?_
    refine z_iret M dX6_along_24 (by omega) (by omega) ?_
    exact ⟨by rw [if_neg (by omega)], Or.inl ⟨rfl, rfl⟩⟩
set_option maxHeartbeats 4000000 in
theorem c_X6_played (l : Launch) (G : b_G) {h : b_H} {sz : Nat} {o6 : Nat} {P7 : Nat → Prop} {L n : Nat} {I : Nat → Nat → Int} {A : Nat → Nat → Nat → Int} {nf : Nat} {LN : Nat → Nat} {PI PR PB : Nat → Nat → Int} {hn : Bool} {mf : Nat} {SN : Nat → Nat} {SI SR SB : Nat → Nat → Int} {i s : Nat → Int} (hX : x_X G o6 P7 L n I A nf LN PI PR PB hn mf SN SI SR SB i s h sz) (hn12 : n ≤ 12) (hq : ∀ p, p < n → q_J (I (p + 20)) (A (p + 20))) {x : Int} (hx : zb x) : Con l G yX6_played cX6_played 3 (some .int) 4 85 0 0 [.ref o6, .int (zI x)] h sz (p_ro (some (.int (zI (if 0 ≤ x ∧ x < n then I (x.toNat + 20) 5 else -1)))) h sz) := by
  refine Con.ofK (by decide +kernel) rfl rfl ?_
  intro S M
  have hc := M.2.2.2.1
  have ho : s_own S = RX6 := M.2.2.1
  have hFr : (s_R S).frames = 4 := by rw [M.2.2.2.2.2.2.2.1]
  have hLo : (s_R S).locals = 85 := by rw [M.2.2.2.2.2.2.2.1]
  have hCe : (s_R S).cells = 0 := by rw [M.2.2.2.2.2.2.2.1]
  have hSl : (s_R S).slots = 0 := by rw [M.2.2.2.2.2.2.2.1]
  have hG : s_G S = G := M.2.1
  subst hG
  obtain ⟨lb, O, D, ol, al, fo, fa, pt, RA, RB, nv, hY⟩ := hX
  obtain ⟨hW, hL, hF, h6, hl6, h7, hN⟩ := id hY
  have hOf : r_O K1 1 (O 1) (D 1) (I 1) (A 1) h := (hW 1 x_is_1).1
  have hOd : r_O K0 0 (O 0) (D 0) (I 0) (A 0) h := (hW 0 x_is_0).1
  have hOp : r_O (K5 L) 5 (O 5) (D 5) (I 5) (A 5) h := (hW 5 x_is_5).1
  obtain ⟨mcl, hjo, -⟩ := id hL.1
  obtain ⟨mcf, hfo, -⟩ := id hF.1
  refine v_aload_n hc dX6_played_0 rfl ?_
  refine v_iload_n hc dX6_played_1 rfl ?_
  refine v_callV (As := [.int (zI x)]) hc ho dX6_played_2 KV_X6_90 KB_X6_pieceAt h6 rfl rfl (c_X6_pieceAt _ _ hY (x := x) hx hn12) rfl (Nat.le_of_ble_eq_true rfl) ⟨by omega, by omega⟩ ⟨by omega, by omega⟩ (fun r_ h_ sz_ q_ z_ => ?_)
  obtain ⟨eh_, es_, hpq⟩ := q_
  have eh_ := eh_.symm
  subst eh_
  have es_ := es_.symm
  subst es_
  rcases hpq with ⟨hxn, rfl⟩ | ⟨hxn, rfl⟩
  · have hpc := hW.pc (p := x.toNat) (by omega)
    have hq4 := hq (x.toNat) (by omega)
    refine v_astore_n hc dX6_played_5 (Nat.le_of_ble_eq_true rfl) ?_
    refine v_aload_n hc dX6_played_6 rfl ?_
    refine v_ifnonnull (tgt := 14) hc dX6_played_7 (by decide) ?_
    refine v_aload_n hc dX6_played_14 rfl ?_
    refine r_get hc ho dX6_played_15 F_X6_178 hpc rfl ?_
    refine z_iret M dX6_played_18 (by omega) (by omega) ?_
    first | exact ⟨by rw [if_pos (by omega)], rfl, rfl⟩ | exact ⟨by rw [if_neg (by omega)], rfl, rfl⟩
  · refine v_astore_nN hc dX6_played_5 (Nat.le_of_ble_eq_true rfl) ?_
    refine v_aload_nN hc dX6_played_6 rfl ?_
    refine v_ifnonnullN hc dX6_played_7 ?_
    refine z_iconst hc dX6_played_10 ?_
    refine v_goto (tgt := 18) hc dX6_played_11 (by decide) ?_
    refine z_iret M dX6_played_18 (by omega) (by omega) ?_
    first | exact ⟨by rw [if_pos (by omega)], rfl, rfl⟩ | exact ⟨by rw [if_neg (by omega)], rfl, rfl⟩
set_option maxHeartbeats 4000000 in
theorem c_X6_block (l : Launch) (G : b_G) {h : b_H} {sz : Nat} {o6 : Nat} {P7 : Nat → Prop} {L n : Nat} {I : Nat → Nat → Int} {A : Nat → Nat → Nat → Int} {nf : Nat} {LN : Nat → Nat} {PI PR PB : Nat → Nat → Int} {hn : Bool} {mf : Nat} {SN : Nat → Nat} {SI SR SB : Nat → Nat → Int} {i s : Nat → Int} (hX : x_X G o6 P7 L n I A nf LN PI PR PB hn mf SN SI SR SB i s h sz) (hn12 : n ≤ 12) (hq : ∀ p, p < n → q_J (I (p + 20)) (A (p + 20))) {x y z u : Int} (hx : zb x) (hy : zb y) (hz : zb z) (hu : zb u) : Con l G yX6_block cX6_block 6 (some .int) 6 139 0 0 [.ref o6, .int (zI x), .int (zI y), .int (zI z), .int (zI u)] h sz (fun r h2 s2 => s2 = sz ∧ (∀ b, P7 b → h2 b = h b) ∧ ∃ I2 A2, ((¬ ((0 ≤ x ∧ x < n) ∧ (1 ≤ y ∧ y ≤ 64) ∧ (0 ≤ z ∧ z ≤ 3) ∧ (0 ≤ u ∧ u ≤ 255)) ∧ r = some (.int (zI (-1))) ∧ I2 = I ∧ A2 = A) ∨ (((0 ≤ x ∧ x < n) ∧ (1 ≤ y ∧ y ≤ 64) ∧ (0 ≤ z ∧ z ≤ 3) ∧ (0 ≤ u ∧ u ≤ 255)) ∧ ∃ i2 a2, I2 = b_up I (x.toNat + 20) i2 ∧ A2 = b_up A (x.toNat + 20) a2 ∧ ((I (x.toNat + 20) 4 = 8 ∧ r = some (.int (zI (-3))) ∧ i2 = I (x.toNat + 20) ∧ a2 = A (x.toNat + 20)) ∨ (I (x.toNat + 20) 4 < 8 ∧ r = some (.int (zI (I (x.toNat + 20) 4))) ∧ i2 4 = I (x.toNat + 20) 4 + 1 ∧ i2 10 = I (x.toNat + 20) 10 + z / 2 * 2 ^ (I (x.toNat + 20) 4).toNat ∧ i2 11 = I (x.toNat + 20) 11 + z % 2 * 2 ^ (I (x.toNat + 20) 4).toNat ∧ (∀ k, k ≠ 4 → k ≠ 10 → k ≠ 11 → i2 k = I (x.toNat + 20) k) ∧ a2 8 = b_up (A (x.toNat + 20) 8) (I (x.toNat + 20) 4).toNat y ∧ a2 9 = b_up (A (x.toNat + 20) 9) (I (x.toNat + 20) 4).toNat u ∧ (∀ j : Nat, (j : Int) < I (x.toNat + 20) 4 + 1 → 1 ≤ a2 8 j) ∧ q_I i2 a2 ∧ q_D i2 (b_up (A (x.toNat + 20) 8) (I (x.toNat + 20) 4).toNat y) (b_up (A (x.toNat + 20) 9) (I (x.toNat + 20) 4).toNat u) (a2 12) (a2 13) 401 0)))) ∧ x_X G o6 P7 L n I2 A2 nf LN PI PR PB hn mf SN SI SR SB i s h2 sz) := by
  refine Con.ofK (by decide +kernel) rfl rfl ?_
  intro S M
  have hc := M.2.2.2.1
  have ho : s_own S = RX6 := M.2.2.1
  have hFr : (s_R S).frames = 6 := by rw [M.2.2.2.2.2.2.2.1]
  have hLo : (s_R S).locals = 139 := by rw [M.2.2.2.2.2.2.2.1]
  have hCe : (s_R S).cells = 0 := by rw [M.2.2.2.2.2.2.2.1]
  have hSl : (s_R S).slots = 0 := by rw [M.2.2.2.2.2.2.2.1]
  have hG : s_G S = G := M.2.1
  subst hG
  obtain ⟨lb, O, D, ol, al, fo, fa, pt, RA, RB, nv, hY⟩ := hX
  obtain ⟨hW, hL, hF, h6, hl6, h7, hN⟩ := id hY
  have hOf : r_O K1 1 (O 1) (D 1) (I 1) (A 1) h := (hW 1 x_is_1).1
  have hOd : r_O K0 0 (O 0) (D 0) (I 0) (A 0) h := (hW 0 x_is_0).1
  have hOp : r_O (K5 L) 5 (O 5) (D 5) (I 5) (A 5) h := (hW 5 x_is_5).1
  obtain ⟨mcl, hjo, -⟩ := id hL.1
  obtain ⟨mcf, hfo, -⟩ := id hF.1
  refine v_aload_n hc dX6_block_0 rfl ?_
  refine v_iload_n hc dX6_block_1 rfl ?_
  refine v_callV (As := [.int (zI x)]) hc ho dX6_block_2 KV_X6_90 KB_X6_pieceAt h6 rfl rfl (c_X6_pieceAt _ _ hY (x := x) hx hn12) rfl (Nat.le_of_ble_eq_true rfl) ⟨by omega, by omega⟩ ⟨by omega, by omega⟩ (fun r_ h_ sz_ q_ z_ => ?_)
  obtain ⟨eh_, es_, hpq⟩ := q_
  have eh_ := eh_.symm
  subst eh_
  have es_ := es_.symm
  subst es_
  rcases hpq with ⟨hxn, rfl⟩ | ⟨hxn, rfl⟩
  · have hpc := hW.pc (p := x.toNat) (by omega)
    have hq4 := hq (x.toNat) (by omega)
    refine v_astore hc dX6_block_5 (Nat.le_of_ble_eq_true rfl) ?_
    refine v_aload hc dX6_block_7 rfl ?_
    refine v_ifnull hc dX6_block_9 ?_
    refine v_iload_n hc dX6_block_12 rfl ?_
    refine z_iconst hc dX6_block_13 ?_
    refine z_bipush hc dX6_block_14 (by decide) ?_
    refine v_callS (As := [.int (zI (y)), .int (zI (1)), .int (zI (64))]) hc ho dX6_block_16 KS_X6_44 KB_X6_within (c_X6_within _ _ (x := y) (y := 1) (z := 64) (by first | assumption | (unfold zb; omega)) (by first | assumption | (unfold zb; omega)) (by first | assumption | (unfold zb; omega))) rfl (Nat.le_of_ble_eq_true rfl) ⟨by omega, by omega⟩ ⟨by omega, by omega⟩ (fun r_ h_ sz_ q_ z_ => ?_)
    obtain ⟨rfl, eh_, es_⟩ := q_
    have eh_ := eh_.symm
    subst eh_
    have es_ := es_.symm
    subst es_
    have hy01 := bI_or (1 ≤ y ∧ y ≤ 64)
    generalize bI (1 ≤ y ∧ y ≤ 64) = bpy at hy01 ⊢
    refine z_if_ne (tgt := 24) hc dX6_block_19 (by decide) (by first | assumption | exact hi _ | exact ha _ _ | (unfold zb; omega)) (fun c_1 => ?_) (fun c_1 => ?_)
    · refine v_iload_n hc dX6_block_24 rfl ?_
      refine z_iconst hc dX6_block_25 ?_
      refine z_iconst hc dX6_block_26 ?_
      refine v_callS (As := [.int (zI (z)), .int (zI (0)), .int (zI (3))]) hc ho dX6_block_27 KS_X6_44 KB_X6_within (c_X6_within _ _ (x := z) (y := 0) (z := 3) (by first | assumption | (unfold zb; omega)) (by first | assumption | (unfold zb; omega)) (by first | assumption | (unfold zb; omega))) rfl (Nat.le_of_ble_eq_true rfl) ⟨by omega, by omega⟩ ⟨by omega, by omega⟩ (fun r_ h_ sz_ q_ z_ => ?_)
      obtain ⟨rfl, eh_, es_⟩ := q_
      have eh_ := eh_.symm
      subst eh_
      have es_ := es_.symm
      subst es_
      have hz01 := bI_or (0 ≤ z ∧ z ≤ 3)
      generalize bI (0 ≤ z ∧ z ≤ 3) = bpz at hz01 ⊢
      refine z_if_eq (tgt := 45) hc dX6_block_30 (by decide) (by first | assumption | exact hi _ | exact ha _ _ | (unfold zb; omega)) (fun c_2 => ?_) (fun c_2 => ?_)
      · refine z_iconst hc dX6_block_45 ?_
        refine z_iret M dX6_block_46 (by omega) (by omega) ?_
        exact ⟨rfl, fun _ _ => rfl, I, A, Or.inl ⟨by omega, rfl, rfl, rfl⟩, ⟨_, _, _, _, _, _, _, _, _, _, _, hY⟩⟩
      · refine v_iload hc dX6_block_33 rfl ?_
        refine z_iconst hc dX6_block_35 ?_
        refine z_sipush hc dX6_block_36 (by decide) ?_
        refine v_callS (As := [.int (zI (u)), .int (zI (0)), .int (zI (255))]) hc ho dX6_block_39 KS_X6_44 KB_X6_within (c_X6_within _ _ (x := u) (y := 0) (z := 255) (by first | assumption | (unfold zb; omega)) (by first | assumption | (unfold zb; omega)) (by first | assumption | (unfold zb; omega))) rfl (Nat.le_of_ble_eq_true rfl) ⟨by omega, by omega⟩ ⟨by omega, by omega⟩ (fun r_ h_ sz_ q_ z_ => ?_)
        obtain ⟨rfl, eh_, es_⟩ := q_
        have eh_ := eh_.symm
        subst eh_
        have es_ := es_.symm
        subst es_
        have hu01 := bI_or (0 ≤ u ∧ u ≤ 255)
        generalize bI (0 ≤ u ∧ u ≤ 255) = bpu at hu01 ⊢
        refine z_if_ne (tgt := 47) hc dX6_block_42 (by decide) (by first | assumption | exact hi _ | exact ha _ _ | (unfold zb; omega)) (fun c_3 => ?_) (fun c_3 => ?_)
        · refine v_aload hc dX6_block_47 rfl ?_
          refine v_iload_n hc dX6_block_49 rfl ?_
          refine v_iload_n hc dX6_block_50 rfl ?_
          refine v_iload hc dX6_block_51 rfl ?_
          refine v_callV (As := [.int (zI y), .int (zI z), .int (zI u)]) hc ho dX6_block_53 KV_X6_94 KB_X4_add hpc.1 rfl rfl (c_X4_add _ _ hpc hq4 (x := y) (c := z) (u := u) (by omega) (by omega) (by omega)) rfl (Nat.le_of_ble_eq_true rfl) ⟨by omega, by omega⟩ ⟨by omega, by omega⟩ (fun r_ h_ sz_ q_ z_ => ?_)
          obtain ⟨e1_, i2, a2, hq2, hO2, hfr2⟩ := q_
          have e1_ := e1_.symm
          subst e1_
          obtain ⟨rv, hrv⟩ : ∃ v, r_ = some (.int v) := by
            rcases hq2 with q | q
            · exact ⟨_, q.2.1⟩
            · exact ⟨_, q.2.1⟩
          subst hrv
          refine z_iret M dX6_block_56 (by omega) (by omega) ?_
          obtain ⟨hY2, h72⟩ := hY.put (t := x.toNat + 20) (x_is_p (by omega)) hO2 hfr2
          exact ⟨rfl, h72, _, _, Or.inr ⟨by omega, i2, a2, rfl, rfl, hq2⟩, ⟨_, _, _, _, _, _, _, _, _, _, _, hY2⟩⟩
        · refine z_iconst hc dX6_block_45 ?_
          refine z_iret M dX6_block_46 (by omega) (by omega) ?_
          exact ⟨rfl, fun _ _ => rfl, I, A, Or.inl ⟨by omega, rfl, rfl, rfl⟩, ⟨_, _, _, _, _, _, _, _, _, _, _, hY⟩⟩
    · refine z_iconst hc dX6_block_22 ?_
      refine z_iret M dX6_block_23 (by omega) (by omega) ?_
      exact ⟨rfl, fun _ _ => rfl, I, A, Or.inl ⟨by omega, rfl, rfl, rfl⟩, ⟨_, _, _, _, _, _, _, _, _, _, _, hY⟩⟩
  · refine v_astoreN hc dX6_block_5 (Nat.le_of_ble_eq_true rfl) ?_
    refine v_aloadN hc dX6_block_7 rfl ?_
    refine v_ifnullN (tgt := 22) hc dX6_block_9 (by decide) ?_
    refine z_iconst hc dX6_block_22 ?_
    refine z_iret M dX6_block_23 (by omega) (by omega) ?_
    exact ⟨rfl, fun _ _ => rfl, I, A, Or.inl ⟨by omega, rfl, rfl, rfl⟩, ⟨_, _, _, _, _, _, _, _, _, _, _, hY⟩⟩
set_option maxHeartbeats 4000000 in
theorem l_X6_allBlocks {S : b_S} {l : Launch} {G : b_G} {h : b_H} {sz : Nat} {o6 : Nat} {P7 : Nat → Prop} {L n : Nat} {I : Nat → Nat → Int} {A : Nat → Nat → Nat → Int} {nf : Nat} {LN : Nat → Nat} {PI PR PB : Nat → Nat → Int} {hn : Bool} {mf : Nat} {SN : Nat → Nat} {SI SR SB : Nat → Nat → Int} {i s : Nat → Int} {lb : Nat → Nat} {O : Nat → Nat} {D : Nat → Nat → Nat} {ol al fo fa : Nat} {pt RA RB : Nat → Nat} {nv : Value} (M : b_M S l G RX6 cX6_allBlocks 3 (some .int) "allBlocks" 3 64 0 0 h sz (p_ro (some (.int (zI (f_sm (fun p => I (p + 20) 4) n)))) h sz)) (hY : x_Y G o6 P7 L n I A nf LN PI PR PB hn mf SN SI SR SB i s lb O D ol al fo fa pt RA RB nv h sz) (hn12 : n ≤ 12) (hb : ∀ p, p < n → 0 ≤ I (p + 20) 4 ∧ I (p + 20) 4 ≤ 8) : ∀ (d : Nat) (g x : Int), (((n : Int) - x).toNat = d) → (0 ≤ x) → (x ≤ n) → (g = f_sm (fun p => I (p + 20) 4) x.toNat) → V S 0 0 h sz 4 [some (.ref o6), some (.int (zI g)), some (.int (zI x))] [] := by
  have hc := M.2.2.2.1
  have ho : s_own S = RX6 := M.2.2.1
  have hFr : (s_R S).frames = 3 := by rw [M.2.2.2.2.2.2.2.1]
  have hLo : (s_R S).locals = 64 := by rw [M.2.2.2.2.2.2.2.1]
  have hCe : (s_R S).cells = 0 := by rw [M.2.2.2.2.2.2.2.1]
  have hSl : (s_R S).slots = 0 := by rw [M.2.2.2.2.2.2.2.1]
  intro d
  induction d using Nat.strongRecOn with
  | ind d ih =>
    intro g x hd h0 h1 hg
    have hG : s_G S = G := M.2.1
    subst hG
    obtain ⟨hW, hL, hF, h6, hl6, h7, hN⟩ := id hY
    have hOf : r_O K1 1 (O 1) (D 1) (I 1) (A 1) h := (hW 1 x_is_1).1
    have hOd : r_O K0 0 (O 0) (D 0) (I 0) (A 0) h := (hW 0 x_is_0).1
    have hOp : r_O (K5 L) 5 (O 5) (D 5) (I 5) (A 5) h := (hW 5 x_is_5).1
    obtain ⟨mcl, hjo, -⟩ := id hL.1
    obtain ⟨mcf, hfo, -⟩ := id hF.1
    refine v_iload_n hc dX6_allBlocks_4 rfl ?_
    refine v_aload_n hc dX6_allBlocks_5 rfl ?_
    refine v_get hc ho dX6_allBlocks_6 F_X6_19 h6 rfl ?_
    refine v_callV (As := []) hc ho dX6_allBlocks_9 KV_X6_79 KB_Jx4a65c_size_8abf5 hjo rfl rfl (c_Jx4a65c_size_8abf5 _ _ hL.1) rfl (Nat.le_of_ble_eq_true rfl) ⟨by omega, by omega⟩ ⟨by omega, by omega⟩ (fun r_ h_ sz_ q_ z_ => ?_)
    obtain ⟨rfl, eh_, es_⟩ := q_
    have eh_ := eh_.symm
    subst eh_
    have es_ := es_.symm
    subst es_
    refine z_icmp_ge (tgt := 38) hc dX6_allBlocks_12 (by decide) (by first | assumption | exact hi _ | exact ha _ _ | (unfold zb; omega)) (by first | assumption | exact hi _ | exact ha _ _ | (unfold zb; omega)) (fun c_1 => ?_) (fun c_1 => ?_)
    · refine v_iload_n hc dX6_allBlocks_38 rfl ?_
      refine z_iret M dX6_allBlocks_39 (by omega) (by omega) ?_
      exact ⟨by rw [hg, show x.toNat = n by omega], rfl, rfl⟩
    · have hpc := hW.pc (p := x.toNat) (by omega)
      have hbp := hb x.toNat (by omega)
      refine v_iload_n hc dX6_allBlocks_15 rfl ?_
      refine v_aload_n hc dX6_allBlocks_16 rfl ?_
      refine v_get hc ho dX6_allBlocks_17 F_X6_19 h6 rfl ?_
      refine v_iload_n hc dX6_allBlocks_20 rfl ?_
      refine v_callV (As := [.int (zI x)]) hc ho dX6_allBlocks_21 KV_X6_139 KB_Jx4a65c_get_915e3 hjo rfl rfl (c_Jx4a65c_get_915e3 _ _ hL.1 (x := x) (by omega)) rfl (Nat.le_of_ble_eq_true rfl) ⟨by omega, by omega⟩ ⟨by omega, by omega⟩ (fun r_ h_ sz_ q_ z_ => ?_)
      obtain ⟨rfl, eh_, es_⟩ := q_
      have eh_ := eh_.symm
      subst eh_
      have es_ := es_.symm
      subst es_
      refine v_cast hc ho dX6_allBlocks_24 rfl CLk_X6_82 hpc.1 ?_
      refine r_get hc ho dX6_allBlocks_27 F_X6_207 hpc rfl ?_
      refine z_iadd hc dX6_allBlocks_30 ?_
      refine v_istore_n hc dX6_allBlocks_31 (Nat.le_of_ble_eq_true rfl) ?_
      refine z_iinc hc dX6_allBlocks_32 rfl ?_
      refine v_goto (tgt := 4) hc dX6_allBlocks_35 (by decide) ?_
      exact ih _ (by omega) _ _ rfl (by omega) (by omega) (by rw [show (x + 1).toNat = x.toNat + 1 by omega, f_sm, ← hg])
set_option maxHeartbeats 4000000 in
theorem c_X6_allBlocks (l : Launch) (G : b_G) {h : b_H} {sz : Nat} {o6 : Nat} {P7 : Nat → Prop} {L n : Nat} {I : Nat → Nat → Int} {A : Nat → Nat → Nat → Int} {nf : Nat} {LN : Nat → Nat} {PI PR PB : Nat → Nat → Int} {hn : Bool} {mf : Nat} {SN : Nat → Nat} {SI SR SB : Nat → Nat → Int} {i s : Nat → Int} (hX : x_X G o6 P7 L n I A nf LN PI PR PB hn mf SN SI SR SB i s h sz) (hn12 : n ≤ 12) (hb : ∀ p, p < n → 0 ≤ I (p + 20) 4 ∧ I (p + 20) 4 ≤ 8) : Con l G yX6_allBlocks cX6_allBlocks 3 (some .int) 3 64 0 0 [.ref o6] h sz (p_ro (some (.int (zI (f_sm (fun p => I (p + 20) 4) n)))) h sz) := by
  refine Con.ofK (by decide +kernel) rfl rfl ?_
  intro S M
  have hc := M.2.2.2.1
  have ho : s_own S = RX6 := M.2.2.1
  have hFr : (s_R S).frames = 3 := by rw [M.2.2.2.2.2.2.2.1]
  have hLo : (s_R S).locals = 64 := by rw [M.2.2.2.2.2.2.2.1]
  have hCe : (s_R S).cells = 0 := by rw [M.2.2.2.2.2.2.2.1]
  have hSl : (s_R S).slots = 0 := by rw [M.2.2.2.2.2.2.2.1]
  have hG : s_G S = G := M.2.1
  subst hG
  obtain ⟨lb, O, D, ol, al, fo, fa, pt, RA, RB, nv, hY⟩ := hX
  obtain ⟨hW, hL, hF, h6, hl6, h7, hN⟩ := id hY
  have hOf : r_O K1 1 (O 1) (D 1) (I 1) (A 1) h := (hW 1 x_is_1).1
  have hOd : r_O K0 0 (O 0) (D 0) (I 0) (A 0) h := (hW 0 x_is_0).1
  have hOp : r_O (K5 L) 5 (O 5) (D 5) (I 5) (A 5) h := (hW 5 x_is_5).1
  obtain ⟨mcl, hjo, -⟩ := id hL.1
  obtain ⟨mcf, hfo, -⟩ := id hF.1
  refine z_iconst hc dX6_allBlocks_0 ?_
  refine v_istore_n hc dX6_allBlocks_1 (Nat.le_of_ble_eq_true rfl) ?_
  refine z_iconst hc dX6_allBlocks_2 ?_
  refine v_istore_n hc dX6_allBlocks_3 (Nat.le_of_ble_eq_true rfl) ?_
  exact l_X6_allBlocks M hY hn12 hb _ _ _ rfl (by omega) (by omega) rfl
set_option maxHeartbeats 4000000 in
theorem l_X6_allPlays {S : b_S} {l : Launch} {G : b_G} {h : b_H} {sz : Nat} {o6 : Nat} {P7 : Nat → Prop} {L n : Nat} {I : Nat → Nat → Int} {A : Nat → Nat → Nat → Int} {nf : Nat} {LN : Nat → Nat} {PI PR PB : Nat → Nat → Int} {hn : Bool} {mf : Nat} {SN : Nat → Nat} {SI SR SB : Nat → Nat → Int} {i s : Nat → Int} {lb : Nat → Nat} {O : Nat → Nat} {D : Nat → Nat → Nat} {ol al fo fa : Nat} {pt RA RB : Nat → Nat} {nv : Value} (M : b_M S l G RX6 cX6_allPlays 3 (some .int) "allPlays" 3 64 0 0 h sz (p_ro (some (.int (zI (f_sm (fun p => I (p + 20) 5) n)))) h sz)) (hY : x_Y G o6 P7 L n I A nf LN PI PR PB hn mf SN SI SR SB i s lb O D ol al fo fa pt RA RB nv h sz) (hn12 : n ≤ 12)  : ∀ (d : Nat) (g x : Int), (((n : Int) - x).toNat = d) → (0 ≤ x) → (x ≤ n) → (g = f_sm (fun p => I (p + 20) 5) x.toNat) → V S 0 0 h sz 4 [some (.ref o6), some (.int (zI g)), some (.int (zI x))] [] := by
  have hc := M.2.2.2.1
  have ho : s_own S = RX6 := M.2.2.1
  have hFr : (s_R S).frames = 3 := by rw [M.2.2.2.2.2.2.2.1]
  have hLo : (s_R S).locals = 64 := by rw [M.2.2.2.2.2.2.2.1]
  have hCe : (s_R S).cells = 0 := by rw [M.2.2.2.2.2.2.2.1]
  have hSl : (s_R S).slots = 0 := by rw [M.2.2.2.2.2.2.2.1]
  intro d
  induction d using Nat.strongRecOn with
  | ind d ih =>
    intro g x hd h0 h1 hg
    have hG : s_G S = G := M.2.1
    subst hG
    obtain ⟨hW, hL, hF, h6, hl6, h7, hN⟩ := id hY
    have hOf : r_O K1 1 (O 1) (D 1) (I 1) (A 1) h := (hW 1 x_is_1).1
    have hOd : r_O K0 0 (O 0) (D 0) (I 0) (A 0) h := (hW 0 x_is_0).1
    have hOp : r_O (K5 L) 5 (O 5) (D 5) (I 5) (A 5) h := (hW 5 x_is_5).1
    obtain ⟨mcl, hjo, -⟩ := id hL.1
    obtain ⟨mcf, hfo, -⟩ := id hF.1
    refine v_iload_n hc dX6_allPlays_4 rfl ?_
    refine v_aload_n hc dX6_allPlays_5 rfl ?_
    refine v_get hc ho dX6_allPlays_6 F_X6_19 h6 rfl ?_
    refine v_callV (As := []) hc ho dX6_allPlays_9 KV_X6_79 KB_Jx4a65c_size_8abf5 hjo rfl rfl (c_Jx4a65c_size_8abf5 _ _ hL.1) rfl (Nat.le_of_ble_eq_true rfl) ⟨by omega, by omega⟩ ⟨by omega, by omega⟩ (fun r_ h_ sz_ q_ z_ => ?_)
    obtain ⟨rfl, eh_, es_⟩ := q_
    have eh_ := eh_.symm
    subst eh_
    have es_ := es_.symm
    subst es_
    refine z_icmp_ge (tgt := 38) hc dX6_allPlays_12 (by decide) (by first | assumption | exact hi _ | exact ha _ _ | (unfold zb; omega)) (by first | assumption | exact hi _ | exact ha _ _ | (unfold zb; omega)) (fun c_1 => ?_) (fun c_1 => ?_)
    · refine v_iload_n hc dX6_allPlays_38 rfl ?_
      refine z_iret M dX6_allPlays_39 (by omega) (by omega) ?_
      exact ⟨by rw [hg, show x.toNat = n by omega], rfl, rfl⟩
    · have hpc := hW.pc (p := x.toNat) (by omega)
      
      refine v_iload_n hc dX6_allPlays_15 rfl ?_
      refine v_aload_n hc dX6_allPlays_16 rfl ?_
      refine v_get hc ho dX6_allPlays_17 F_X6_19 h6 rfl ?_
      refine v_iload_n hc dX6_allPlays_20 rfl ?_
      refine v_callV (As := [.int (zI x)]) hc ho dX6_allPlays_21 KV_X6_139 KB_Jx4a65c_get_915e3 hjo rfl rfl (c_Jx4a65c_get_915e3 _ _ hL.1 (x := x) (by omega)) rfl (Nat.le_of_ble_eq_true rfl) ⟨by omega, by omega⟩ ⟨by omega, by omega⟩ (fun r_ h_ sz_ q_ z_ => ?_)
      obtain ⟨rfl, eh_, es_⟩ := q_
      have eh_ := eh_.symm
      subst eh_
      have es_ := es_.symm
      subst es_
      refine v_cast hc ho dX6_allPlays_24 rfl CLk_X6_82 hpc.1 ?_
      refine r_get hc ho dX6_allPlays_27 F_X6_178 hpc rfl ?_
      refine z_iadd hc dX6_allPlays_30 ?_
      refine v_istore_n hc dX6_allPlays_31 (Nat.le_of_ble_eq_true rfl) ?_
      refine z_iinc hc dX6_allPlays_32 rfl ?_
      refine v_goto (tgt := 4) hc dX6_allPlays_35 (by decide) ?_
      exact ih _ (by omega) _ _ rfl (by omega) (by omega) (by rw [show (x + 1).toNat = x.toNat + 1 by omega, f_sm, ← hg])
set_option maxHeartbeats 4000000 in
theorem c_X6_allPlays (l : Launch) (G : b_G) {h : b_H} {sz : Nat} {o6 : Nat} {P7 : Nat → Prop} {L n : Nat} {I : Nat → Nat → Int} {A : Nat → Nat → Nat → Int} {nf : Nat} {LN : Nat → Nat} {PI PR PB : Nat → Nat → Int} {hn : Bool} {mf : Nat} {SN : Nat → Nat} {SI SR SB : Nat → Nat → Int} {i s : Nat → Int} (hX : x_X G o6 P7 L n I A nf LN PI PR PB hn mf SN SI SR SB i s h sz) (hn12 : n ≤ 12) : Con l G yX6_allPlays cX6_allPlays 3 (some .int) 3 64 0 0 [.ref o6] h sz (p_ro (some (.int (zI (f_sm (fun p => I (p + 20) 5) n)))) h sz) := by
  refine Con.ofK (by decide +kernel) rfl rfl ?_
  intro S M
  have hc := M.2.2.2.1
  have ho : s_own S = RX6 := M.2.2.1
  have hFr : (s_R S).frames = 3 := by rw [M.2.2.2.2.2.2.2.1]
  have hLo : (s_R S).locals = 64 := by rw [M.2.2.2.2.2.2.2.1]
  have hCe : (s_R S).cells = 0 := by rw [M.2.2.2.2.2.2.2.1]
  have hSl : (s_R S).slots = 0 := by rw [M.2.2.2.2.2.2.2.1]
  have hG : s_G S = G := M.2.1
  subst hG
  obtain ⟨lb, O, D, ol, al, fo, fa, pt, RA, RB, nv, hY⟩ := hX
  obtain ⟨hW, hL, hF, h6, hl6, h7, hN⟩ := id hY
  have hOf : r_O K1 1 (O 1) (D 1) (I 1) (A 1) h := (hW 1 x_is_1).1
  have hOd : r_O K0 0 (O 0) (D 0) (I 0) (A 0) h := (hW 0 x_is_0).1
  have hOp : r_O (K5 L) 5 (O 5) (D 5) (I 5) (A 5) h := (hW 5 x_is_5).1
  obtain ⟨mcl, hjo, -⟩ := id hL.1
  obtain ⟨mcf, hfo, -⟩ := id hF.1
  refine z_iconst hc dX6_allPlays_0 ?_
  refine v_istore_n hc dX6_allPlays_1 (Nat.le_of_ble_eq_true rfl) ?_
  refine z_iconst hc dX6_allPlays_2 ?_
  refine v_istore_n hc dX6_allPlays_3 (Nat.le_of_ble_eq_true rfl) ?_
  exact l_X6_allPlays M hY hn12 _ _ _ rfl (by omega) (by omega) rfl
set_option maxHeartbeats 4000000 in
theorem l_X6_fees {S : b_S} {l : Launch} {G : b_G} {h : b_H} {sz : Nat} {o6 : Nat} {P7 : Nat → Prop} {L n : Nat} {I : Nat → Nat → Int} {A : Nat → Nat → Nat → Int} {nf : Nat} {LN : Nat → Nat} {PI PR PB : Nat → Nat → Int} {hn : Bool} {mf : Nat} {SN : Nat → Nat} {SI SR SB : Nat → Nat → Int} {i s : Nat → Int} {lb : Nat → Nat} {O : Nat → Nat} {D : Nat → Nat → Nat} {ol al fo fa : Nat} {pt RA RB : Nat → Nat} {nv : Value} (M : b_M S l G RX6 cX6_fees 4 (some .int) "fees" 3 64 0 0 h sz (p_ro (some (.int (zI (f_sm (fun p => I (p + 20) 5 * I (p + 20) 3) n)))) h sz)) (hY : x_Y G o6 P7 L n I A nf LN PI PR PB hn mf SN SI SR SB i s lb O D ol al fo fa pt RA RB nv h sz) (hn12 : n ≤ 12)  : ∀ (d : Nat) (g x : Int) (x3 : Option Value), (((n : Int) - x).toNat = d) → (0 ≤ x) → (x ≤ n) → (g = f_sm (fun p => I (p + 20) 5 * I (p + 20) 3) x.toNat) → V S 0 0 h sz 4 [some (.ref o6), some (.int (zI g)), some (.int (zI x)), x3] [] := by
  have hc := M.2.2.2.1
  have ho : s_own S = RX6 := M.2.2.1
  have hFr : (s_R S).frames = 3 := by rw [M.2.2.2.2.2.2.2.1]
  have hLo : (s_R S).locals = 64 := by rw [M.2.2.2.2.2.2.2.1]
  have hCe : (s_R S).cells = 0 := by rw [M.2.2.2.2.2.2.2.1]
  have hSl : (s_R S).slots = 0 := by rw [M.2.2.2.2.2.2.2.1]
  intro d
  induction d using Nat.strongRecOn with
  | ind d ih =>
    intro g x x3 hd h0 h1 hg
    have hG : s_G S = G := M.2.1
    subst hG
    obtain ⟨hW, hL, hF, h6, hl6, h7, hN⟩ := id hY
    have hOf : r_O K1 1 (O 1) (D 1) (I 1) (A 1) h := (hW 1 x_is_1).1
    have hOd : r_O K0 0 (O 0) (D 0) (I 0) (A 0) h := (hW 0 x_is_0).1
    have hOp : r_O (K5 L) 5 (O 5) (D 5) (I 5) (A 5) h := (hW 5 x_is_5).1
    obtain ⟨mcl, hjo, -⟩ := id hL.1
    obtain ⟨mcf, hfo, -⟩ := id hF.1
    refine v_iload_n hc dX6_fees_4 rfl ?_
    refine v_aload_n hc dX6_fees_5 rfl ?_
    refine v_get hc ho dX6_fees_6 F_X6_19 h6 rfl ?_
    refine v_callV (As := []) hc ho dX6_fees_9 KV_X6_79 KB_Jx4a65c_size_8abf5 hjo rfl rfl (c_Jx4a65c_size_8abf5 _ _ hL.1) rfl (Nat.le_of_ble_eq_true rfl) ⟨by omega, by omega⟩ ⟨by omega, by omega⟩ (fun r_ h_ sz_ q_ z_ => ?_)
    obtain ⟨rfl, eh_, es_⟩ := q_
    have eh_ := eh_.symm
    subst eh_
    have es_ := es_.symm
    subst es_
    refine z_icmp_ge (tgt := 45) hc dX6_fees_12 (by decide) (by first | assumption | exact hi _ | exact ha _ _ | (unfold zb; omega)) (by first | assumption | exact hi _ | exact ha _ _ | (unfold zb; omega)) (fun c_1 => ?_) (fun c_1 => ?_)
    · refine v_iload_n hc dX6_fees_45 rfl ?_
      refine z_iret M dX6_fees_46 (by omega) (by omega) ?_
      exact ⟨by rw [hg, show x.toNat = n by omega], rfl, rfl⟩
    · have hpc := hW.pc (p := x.toNat) (by omega)
      
      refine v_aload_n hc dX6_fees_15 rfl ?_
      refine v_get hc ho dX6_fees_16 F_X6_19 h6 rfl ?_
      refine v_iload_n hc dX6_fees_19 rfl ?_
      refine v_callV (As := [.int (zI x)]) hc ho dX6_fees_20 KV_X6_139 KB_Jx4a65c_get_915e3 hjo rfl rfl (c_Jx4a65c_get_915e3 _ _ hL.1 (x := x) (by omega)) rfl (Nat.le_of_ble_eq_true rfl) ⟨by omega, by omega⟩ ⟨by omega, by omega⟩ (fun r_ h_ sz_ q_ z_ => ?_)
      obtain ⟨rfl, eh_, es_⟩ := q_
      have eh_ := eh_.symm
      subst eh_
      have es_ := es_.symm
      subst es_
      refine v_cast hc ho dX6_fees_23 rfl CLk_X6_82 hpc.1 ?_
      refine v_astore_n hc dX6_fees_26 (Nat.le_of_ble_eq_true rfl) ?_
      refine v_iload_n hc dX6_fees_27 rfl ?_
      refine v_aload_n hc dX6_fees_28 rfl ?_
      refine r_get hc ho dX6_fees_29 F_X6_178 hpc rfl ?_
      refine v_aload_n hc dX6_fees_32 rfl ?_
      refine r_get hc ho dX6_fees_33 F_X6_181 hpc rfl ?_
      refine z_imul hc dX6_fees_36 ?_
      refine z_iadd hc dX6_fees_37 ?_
      refine v_istore_n hc dX6_fees_38 (Nat.le_of_ble_eq_true rfl) ?_
      refine z_iinc hc dX6_fees_39 rfl ?_
      refine v_goto (tgt := 4) hc dX6_fees_42 (by decide) ?_
      exact ih _ (by omega) _ _ _ rfl (by omega) (by omega) (by rw [show (x + 1).toNat = x.toNat + 1 by omega, f_sm, ← hg])
set_option maxHeartbeats 4000000 in
theorem c_X6_fees (l : Launch) (G : b_G) {h : b_H} {sz : Nat} {o6 : Nat} {P7 : Nat → Prop} {L n : Nat} {I : Nat → Nat → Int} {A : Nat → Nat → Nat → Int} {nf : Nat} {LN : Nat → Nat} {PI PR PB : Nat → Nat → Int} {hn : Bool} {mf : Nat} {SN : Nat → Nat} {SI SR SB : Nat → Nat → Int} {i s : Nat → Int} (hX : x_X G o6 P7 L n I A nf LN PI PR PB hn mf SN SI SR SB i s h sz) (hn12 : n ≤ 12) : Con l G yX6_fees cX6_fees 4 (some .int) 3 64 0 0 [.ref o6] h sz (p_ro (some (.int (zI (f_sm (fun p => I (p + 20) 5 * I (p + 20) 3) n)))) h sz) := by
  refine Con.ofK (by decide +kernel) rfl rfl ?_
  intro S M
  have hc := M.2.2.2.1
  have ho : s_own S = RX6 := M.2.2.1
  have hFr : (s_R S).frames = 3 := by rw [M.2.2.2.2.2.2.2.1]
  have hLo : (s_R S).locals = 64 := by rw [M.2.2.2.2.2.2.2.1]
  have hCe : (s_R S).cells = 0 := by rw [M.2.2.2.2.2.2.2.1]
  have hSl : (s_R S).slots = 0 := by rw [M.2.2.2.2.2.2.2.1]
  have hG : s_G S = G := M.2.1
  subst hG
  obtain ⟨lb, O, D, ol, al, fo, fa, pt, RA, RB, nv, hY⟩ := hX
  obtain ⟨hW, hL, hF, h6, hl6, h7, hN⟩ := id hY
  have hOf : r_O K1 1 (O 1) (D 1) (I 1) (A 1) h := (hW 1 x_is_1).1
  have hOd : r_O K0 0 (O 0) (D 0) (I 0) (A 0) h := (hW 0 x_is_0).1
  have hOp : r_O (K5 L) 5 (O 5) (D 5) (I 5) (A 5) h := (hW 5 x_is_5).1
  obtain ⟨mcl, hjo, -⟩ := id hL.1
  obtain ⟨mcf, hfo, -⟩ := id hF.1
  refine z_iconst hc dX6_fees_0 ?_
  refine v_istore_n hc dX6_fees_1 (Nat.le_of_ble_eq_true rfl) ?_
  refine z_iconst hc dX6_fees_2 ?_
  refine v_istore_n hc dX6_fees_3 (Nat.le_of_ble_eq_true rfl) ?_
  exact l_X6_fees M hY hn12 _ _ _ _ rfl (by omega) (by omega) rfl
set_option maxHeartbeats 4000000 in
theorem c_X6_count (l : Launch) (G : b_G) {h : b_H} {sz : Nat} {o6 : Nat} {P7 : Nat → Prop} {L n : Nat} {I : Nat → Nat → Int} {A : Nat → Nat → Nat → Int} {nf : Nat} {LN : Nat → Nat} {PI PR PB : Nat → Nat → Int} {hn : Bool} {mf : Nat} {SN : Nat → Nat} {SI SR SB : Nat → Nat → Int} {i s : Nat → Int} (hX : x_X G o6 P7 L n I A nf LN PI PR PB hn mf SN SI SR SB i s h sz) (hf : f_I (I 1) (A 1)) (hd : d_I (I 0) (A 0)) (hn12 : n ≤ 12) (hb : ∀ p, p < n → 0 ≤ I (p + 20) 4 ∧ I (p + 20) 4 ≤ 8) {x : Int} (hx : zb x) : Con l G yX6_count cX6_count 2 (some .int) 4 86 0 0 [.ref o6, .int (zI x)] h sz (p_ro (some (.int (zI (if x = 0 then I 1 3 else if x = 1 then f_sm (A 1 0) (I 1 3).toNat else if x = 2 then (n : Int) else if x = 3 then f_sm (fun p => I (p + 20) 4) n else if x = 4 then I 0 3 else if x = 5 then f_sm (fun p => I (p + 20) 5) n else -1)))) h sz) := by
  refine Con.ofK (by decide +kernel) rfl rfl ?_
  intro S M
  have hc := M.2.2.2.1
  have ho : s_own S = RX6 := M.2.2.1
  have hFr : (s_R S).frames = 4 := by rw [M.2.2.2.2.2.2.2.1]
  have hLo : (s_R S).locals = 86 := by rw [M.2.2.2.2.2.2.2.1]
  have hCe : (s_R S).cells = 0 := by rw [M.2.2.2.2.2.2.2.1]
  have hSl : (s_R S).slots = 0 := by rw [M.2.2.2.2.2.2.2.1]
  have hG : s_G S = G := M.2.1
  subst hG
  obtain ⟨lb, O, D, ol, al, fo, fa, pt, RA, RB, nv, hY⟩ := hX
  obtain ⟨hW, hL, hF, h6, hl6, h7, hN⟩ := id hY
  have hOf : r_O K1 1 (O 1) (D 1) (I 1) (A 1) h := (hW 1 x_is_1).1
  have hOd : r_O K0 0 (O 0) (D 0) (I 0) (A 0) h := (hW 0 x_is_0).1
  have hOp : r_O (K5 L) 5 (O 5) (D 5) (I 5) (A 5) h := (hW 5 x_is_5).1
  obtain ⟨mcl, hjo, -⟩ := id hL.1
  obtain ⟨mcf, hfo, -⟩ := id hF.1
  have hf1 := hf.1
  refine v_iload_n hc dX6_count_0 rfl ?_
  by_cases w_1 : x = 0
  · refine z_tableIn (off := 39) (tgt := 40) hc dX6_count_1 (by first | assumption | exact hi _ | exact ha _ _ | (unfold zb; omega)) (by omega) (by omega) (by rw [w_1]; rfl) (by decide) ?_
    refine v_aload_n hc dX6_count_40 rfl ?_
    refine v_get hc ho dX6_count_41 F_X6_12 h6 rfl ?_
    refine v_callV (As := []) hc ho dX6_count_44 KV_X6_52 KB_X1_shotCount hOf.1 rfl rfl (c_X1_shotCount _ _ hOf hf) rfl (Nat.le_of_ble_eq_true rfl) ⟨by omega, by omega⟩ ⟨by omega, by omega⟩ (fun r_ h_ sz_ q_ z_ => ?_)
    obtain ⟨rfl, eh_, es_⟩ := q_
    have eh_ := eh_.symm
    subst eh_
    have es_ := es_.symm
    subst es_
    refine z_iret M dX6_count_47 (by omega) (by omega) ?_
    exact ⟨by rw [if_pos (by omega)], rfl, rfl⟩
  by_cases w_2 : x = 1
  · refine z_tableIn (off := 47) (tgt := 48) hc dX6_count_1 (by first | assumption | exact hi _ | exact ha _ _ | (unfold zb; omega)) (by omega) (by omega) (by rw [w_2]; rfl) (by decide) ?_
    refine v_aload_n hc dX6_count_48 rfl ?_
    refine v_get hc ho dX6_count_49 F_X6_12 h6 rfl ?_
    refine z_iconst hc dX6_count_52 ?_
    refine v_aload_n hc dX6_count_53 rfl ?_
    refine v_get hc ho dX6_count_54 F_X6_12 h6 rfl ?_
    refine v_callV (As := []) hc ho dX6_count_57 KV_X6_52 KB_X1_shotCount hOf.1 rfl rfl (c_X1_shotCount _ _ hOf hf) rfl (Nat.le_of_ble_eq_true rfl) ⟨by omega, by omega⟩ ⟨by omega, by omega⟩ (fun r_ h_ sz_ q_ z_ => ?_)
    obtain ⟨rfl, eh_, es_⟩ := q_
    have eh_ := eh_.symm
    subst eh_
    have es_ := es_.symm
    subst es_
    refine z_iconst hc dX6_count_60 ?_
    refine z_isub hc dX6_count_61 ?_
    refine v_callV (As := [.int (zI 0), .int (zI (I 1 3 - 1))]) hc ho dX6_count_62 KV_X6_69 KB_X1_framesFrom hOf.1 rfl rfl (c_X1_framesFrom _ _ hOf hf (s := 0) (t := I 1 3 - 1) (by omega)) rfl (Nat.le_of_ble_eq_true rfl) ⟨by omega, by omega⟩ ⟨by omega, by omega⟩ (fun r_ h_ sz_ q_ z_ => ?_)
    obtain ⟨rfl, eh_, es_⟩ := q_
    have eh_ := eh_.symm
    subst eh_
    have es_ := es_.symm
    subst es_
    refine z_iret M dX6_count_65 (by omega) (by omega) ?_
    exact ⟨by rw [if_neg (by omega), if_pos (by omega), show (I 1 3 - 1 + 1).toNat = (I 1 3).toNat by omega, show f_sm (A 1 0) (0 : Int).toNat = 0 from rfl, Int.sub_zero], rfl, rfl⟩
  by_cases w_3 : x = 2
  · refine z_tableIn (off := 65) (tgt := 66) hc dX6_count_1 (by first | assumption | exact hi _ | exact ha _ _ | (unfold zb; omega)) (by omega) (by omega) (by rw [w_3]; rfl) (by decide) ?_
    refine v_aload_n hc dX6_count_66 rfl ?_
    refine v_get hc ho dX6_count_67 F_X6_19 h6 rfl ?_
    refine v_callV (As := []) hc ho dX6_count_70 KV_X6_79 KB_Jx4a65c_size_8abf5 hjo rfl rfl (c_Jx4a65c_size_8abf5 _ _ hL.1) rfl (Nat.le_of_ble_eq_true rfl) ⟨by omega, by omega⟩ ⟨by omega, by omega⟩ (fun r_ h_ sz_ q_ z_ => ?_)
    obtain ⟨rfl, eh_, es_⟩ := q_
    have eh_ := eh_.symm
    subst eh_
    have es_ := es_.symm
    subst es_
    refine z_iret M dX6_count_73 (by omega) (by omega) ?_
    exact ⟨by rw [if_neg (by omega), if_neg (by omega), if_pos (by omega)], rfl, rfl⟩
  by_cases w_4 : x = 3
  · refine z_tableIn (off := 73) (tgt := 74) hc dX6_count_1 (by first | assumption | exact hi _ | exact ha _ _ | (unfold zb; omega)) (by omega) (by omega) (by rw [w_4]; rfl) (by decide) ?_
    refine v_aload_n hc dX6_count_74 rfl ?_
    refine v_callV (As := []) hc ho dX6_count_75 KV_X6_198 KB_X6_allBlocks h6 rfl rfl (c_X6_allBlocks _ _ (nf := nf) ⟨_, _, _, _, _, _, _, _, _, _, _, hY⟩ hn12 hb) rfl (Nat.le_of_ble_eq_true rfl) ⟨by omega, by omega⟩ ⟨by omega, by omega⟩ (fun r_ h_ sz_ q_ z_ => ?_)
    obtain ⟨rfl, eh_, es_⟩ := q_
    have eh_ := eh_.symm
    subst eh_
    have es_ := es_.symm
    subst es_
    refine z_iret M dX6_count_78 (by omega) (by omega) ?_
    exact ⟨by rw [if_neg (by omega), if_neg (by omega), if_neg (by omega), if_pos (by omega)], rfl, rfl⟩
  by_cases w_5 : x = 4
  · refine z_tableIn (off := 78) (tgt := 79) hc dX6_count_1 (by first | assumption | exact hi _ | exact ha _ _ | (unfold zb; omega)) (by omega) (by omega) (by rw [w_5]; rfl) (by decide) ?_
    refine v_aload_n hc dX6_count_79 rfl ?_
    refine v_get hc ho dX6_count_80 F_X6_33 h6 rfl ?_
    refine v_callV (As := []) hc ho dX6_count_83 KV_X6_201 KB_X0_effectCount hOd.1 rfl rfl (c_X0_effectCount _ _ hOd hd) rfl (Nat.le_of_ble_eq_true rfl) ⟨by omega, by omega⟩ ⟨by omega, by omega⟩ (fun r_ h_ sz_ q_ z_ => ?_)
    obtain ⟨rfl, eh_, es_⟩ := q_
    have eh_ := eh_.symm
    subst eh_
    have es_ := es_.symm
    subst es_
    refine z_iret M dX6_count_86 (by omega) (by omega) ?_
    exact ⟨by rw [if_neg (by omega), if_neg (by omega), if_neg (by omega), if_neg (by omega), if_pos (by omega)], rfl, rfl⟩
  by_cases w_6 : x = 5
  · refine z_tableIn (off := 86) (tgt := 87) hc dX6_count_1 (by first | assumption | exact hi _ | exact ha _ _ | (unfold zb; omega)) (by omega) (by omega) (by rw [w_6]; rfl) (by decide) ?_
    refine v_aload_n hc dX6_count_87 rfl ?_
    refine v_callV (As := []) hc ho dX6_count_88 KV_X6_204 KB_X6_allPlays h6 rfl rfl (c_X6_allPlays _ _ (nf := nf) ⟨_, _, _, _, _, _, _, _, _, _, _, hY⟩ hn12) rfl (Nat.le_of_ble_eq_true rfl) ⟨by omega, by omega⟩ ⟨by omega, by omega⟩ (fun r_ h_ sz_ q_ z_ => ?_)
    obtain ⟨rfl, eh_, es_⟩ := q_
    have eh_ := eh_.symm
    subst eh_
    have es_ := es_.symm
    subst es_
    refine z_iret M dX6_count_91 (by omega) (by omega) ?_
    exact ⟨by rw [if_neg (by omega), if_neg (by omega), if_neg (by omega), if_neg (by omega), if_neg (by omega), if_pos (by omega)], rfl, rfl⟩
  refine z_tableOut (tgt := 92) hc dX6_count_1 (by first | assumption | exact hi _ | exact ha _ _ | (unfold zb; omega)) (by omega) (by decide) ?_
  refine z_iconst hc dX6_count_92 ?_
  refine z_iret M dX6_count_93 (by omega) (by omega) ?_
  exact ⟨by rw [if_neg (by omega), if_neg (by omega), if_neg (by omega), if_neg (by omega), if_neg (by omega), if_neg (by omega)], rfl, rfl⟩
