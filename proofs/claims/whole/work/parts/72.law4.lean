/-! the law: the calls on ways -/
theorem y_bt {hw hw2 : Nat → Prop} [DecidablePred hw] [DecidablePred hw2] {ms ms2 : Int → Int} : ∀ N : Nat, (∀ b : Nat, 1 ≤ b → b ≤ N → (hw b ↔ hw2 b)) → (∀ b : Int, 1 ≤ b → b ≤ N → ms b = ms2 b) → q_bt hw ms N = q_bt hw2 ms2 N
  | 0, _, _ => rfl
  | N + 1, h1, h2 => by
    have ih := y_bt N (fun b q1 q2 => h1 b q1 (by omega)) (fun b q1 q2 => h2 b q1 (by omega))
    have hb := q_bt_bd hw2 ms2 N
    rw [q_bt, q_bt, ih]
    have e1 := h1 (N + 1) (by omega) (by omega)
    have e2 := h2 ((N : Int) + 1) (by omega) (by push_cast; omega)
    rw [e2]
    rcases hb with q | q
    · rw [q]
      by_cases z : hw2 (N + 1)
      · rw [if_pos ⟨e1.mpr z, Or.inl rfl⟩, if_pos ⟨z, Or.inl rfl⟩]
      · rw [if_neg (fun u => z (e1.mp u.1)), if_neg (fun u => z u.1)]
    · rw [h2 _ q.1 (by omega)]
      by_cases z : hw2 (N + 1) ∧ (q_bt hw2 ms2 N = -2 ∨ ms2 ((N : Int) + 1) < ms2 (q_bt hw2 ms2 N))
      · rw [if_pos ⟨e1.mpr z.1, z.2⟩, if_pos z]
      · rw [if_neg (fun u => z ⟨e1.mp u.1, u.2⟩), if_neg z]
theorem y_R.w {c : Int} {L n : Nat} {I : Nat → Nat → Int} {A : Nat → Nat → Nat → Int} {nf : Nat} {LN : Nat → Nat} {PI PR PB : Nat → Nat → Int} {hn : Bool} {mf : Nat} {SN : Nat → Nat} {SI SR SB : Nat → Nat → Int} {i s j j2 : Nat → Int} {a a2 : Nat → Nat → Int} (hR : y_R c L n I A nf LN PI PR PB hn mf SN SI SR SB i s j a) (hP : m_P j2 a2) (hj : ∀ k, k ≠ 18 → j2 k = j k) (ha : ∀ k, k ≠ 16 → k ≠ 17 → a2 k = a k) : y_R c L n I A nf LN PI PR PB hn mf SN SI SR SB i s j2 a2 := by
  obtain ⟨h0, hFf, hDd, hKk, hPp, hGg, hNn, hCc⟩ := hR
  exact ⟨h0, hFf.cg rfl rfl (hj 1 (by decide)) (fun k hk => ha k ((by decide : ∀ k ∈ [2, 3, 4], k ≠ 16) k hk) ((by decide : ∀ k ∈ [2, 3, 4], k ≠ 17) k hk)), hDd.cg rfl rfl (fun k hk => hj k ((by decide : ∀ k ∈ [53, 57], k ≠ 18) k hk)) (fun k hk => ha k ((by decide : ∀ k ∈ [54, 55, 56], k ≠ 16) k hk) ((by decide : ∀ k ∈ [54, 55, 56], k ≠ 17) k hk)), hKk.cg rfl rfl (fun k hk => hj k ((by decide : ∀ k ∈ [19, 20], k ≠ 18) k hk)) (ha 22 (by decide) (by decide)), hPp.cg (fun _ => rfl) (fun _ => rfl) (hj 5 (by decide)) hP (fun k hk => ha k ((by decide : ∀ k ∈ [6, 7, 8, 9, 10, 11, 12, 13, 14, 15, 50], k ≠ 16) k hk) ((by decide : ∀ k ∈ [6, 7, 8, 9, 10, 11, 12, 13, 14, 15, 50], k ≠ 17) k hk)), hGg.cg (fun k hk => hj k ((by decide : ∀ k ∈ [5, 25], k ≠ 18) k hk)) (fun k hk => ha k ((by decide : ∀ k ∈ [6, 8, 9, 12, 13, 14, 26, 27, 28, 29, 30, 31], k ≠ 16) k hk) ((by decide : ∀ k ∈ [6, 8, 9, 12, 13, 14, 26, 27, 28, 29, 30, 31], k ≠ 17) k hk)), hNn.cg (fun k hk => hj k ((by decide : ∀ k ∈ [5, 32, 33, 34, 35, 41, 42, 43, 44, 45, 46, 47, 48], k ≠ 18) k hk)) (fun k hk => ha k ((by decide : ∀ k ∈ [12, 13, 14, 36, 37, 38, 39, 40, 49], k ≠ 16) k hk) ((by decide : ∀ k ∈ [12, 13, 14, 36, 37, 38, 39, 40, 49], k ≠ 17) k hk)), hCc.cg (fun _ => rfl) (fun k hk => hj k ((by decide : ∀ k ∈ [51, 52], k ≠ 18) k hk)) (ha 50 (by decide) (by decide))⟩
theorem x_X.more {G : b_G} {o6 : Nat} {P7 : Nat → Prop} {L n : Nat} {I : Nat → Nat → Int} {A : Nat → Nat → Nat → Int} {nf : Nat} {LN : Nat → Nat} {PI PR PB : Nat → Nat → Int} {hn : Bool} {mf : Nat} {SN : Nat → Nat} {SI SR SB : Nat → Nat → Int} {i s : Nat → Int} {h h1 : b_H} {sz s1 : Nat} (hX : x_X G o6 P7 L n I A nf LN PI PR PB hn mf SN SI SR SB i s h sz) (hd : ∀ b, h b ≠ none → b < sz) (hq : ∀ b, b < sz → h1 b = h b) (hs : sz ≤ s1) : x_X G o6 P7 L n I A nf LN PI PR PB hn mf SN SI SR SB i s h1 s1 := by
  obtain ⟨lb, O, D, ol, al, fo, fa, pt, RA, RB, nv, hW, hL, hF, h6, hl6, h7, hN⟩ := hX
  have he2 : ∀ b, h b ≠ none → h1 b = h b := fun b hb => hq b (hd b hb)
  have h6n : h o6 ≠ none := by rw [h6]; exact fun e => by cases e
  refine ⟨lb, O, D, ol, al, fo, fa, pt, RA, RB, nv, hW.kept2 (fun b hb _ => ⟨he2 b hb, rfl⟩), hL.kept2 (fun b hb q => ⟨he2 b hb, q⟩), hF.kept2 (fun b hb q => ⟨he2 b hb, q⟩) (Nat.le_refl n) (fun _ _ => rfl), (he2 o6 h6n).trans h6, hl6, fun b hb => ⟨(h7 b hb).1, by have := (h7 b hb).2; omega⟩, ?_⟩
  rcases hN with q | ⟨q, o2, sa, pr, pa, qt, QA, QB, w1, w2, w3⟩
  · exact Or.inl q
  · exact Or.inr ⟨q, o2, sa, pr, pa, qt, QA, QB, w1, w2.kept2 (fun b hb q => ⟨he2 b hb, q⟩) (Nat.le_refl n) (fun _ _ => rfl), w3.kept2 (fun b hb q => ⟨he2 b hb, q⟩)⟩

set_option maxHeartbeats 4000000 in
theorem law_way {S : b_S} {b Ls : Nat} {xs : Nat → Int32} (hC : lw_ctx S b Ls xs) {o6 o7 : Nat} {c x : Int} {k m : Nat} {h : b_H} {sz : Nat} (hI : lw_I (s_G S) o6 o7 c k m h sz) (hc5 : c < 512) (hx : 0 ≤ x ∧ x + 5 ≤ Ls) (K : ∀ (k m : Nat) (h : b_H) (sz : Nat), lw_I (s_G S) o6 o7 (c + 1) k m h sz → V S k m h sz 954 [some (.ref b), some (.ref o6), some (.ref o7), some (.int (zI x))] []) : V S k m h sz 411 [some (.ref b), some (.ref o6), some (.ref o7), some (.int (zI x))] [] := by
  obtain ⟨hSX, hSh, hc, ho, hFr, hLo, hCe, hSl, hLs⟩ := hC
  obtain ⟨ad, L, n, I, A, nf, LN, PI, PR, PB, hn, mf, SN, SI, SR, SB, i, s, j, a, hX, hO, hR, hk, hm⟩ := hI
  obtain ⟨hc0, hF, hD, hK, hP, hG, hN, hCc⟩ := id hR
  obtain ⟨fs, h6⟩ := hX.obj
  obtain ⟨hP5, hn12, hmP, hpp, hp0⟩ := id hP
  have hq : ∀ p, p < n → q_J (I (p + 20)) (A (p + 20)) := fun p hp => (hpp p hp).2
  have hL786 := hK.2.2.2.2.1
  obtain ⟨y1, e1, z1⟩ : ∃ y, (xs (x + 1).toNat).toInt = y ∧ zb y := ⟨_, rfl, zb_of _⟩
  obtain ⟨y2, e2, z2⟩ : ∃ y, (xs (x + 2).toNat).toInt = y ∧ zb y := ⟨_, rfl, zb_of _⟩
  obtain ⟨y3, e3, z3⟩ : ∃ y, (xs (x + 3).toNat).toInt = y ∧ zb y := ⟨_, rfl, zb_of _⟩
  obtain ⟨y4, e4, z4⟩ : ∃ y, (xs (x + 4).toNat).toInt = y ∧ zb y := ⟨_, rfl, zb_of _⟩
  refine v_aload_n hc dL_law_411 rfl ?_
  refine v_aload_n hc dL_law_412 rfl ?_
  refine v_iload_n hc dL_law_413 rfl ?_
  refine z_iconst hc dL_law_414 ?_
  refine z_iadd hc dL_law_415 ?_
  refine v_sld hSX hSh hc dL_law_416 (by omega) (by omega) hLs ?_
  rw [e1]
  refine v_aload_n hc dL_law_417 rfl ?_
  refine v_iload_n hc dL_law_418 rfl ?_
  refine z_iconst hc dL_law_419 ?_
  refine z_iadd hc dL_law_420 ?_
  refine v_sld hSX hSh hc dL_law_421 (by omega) (by omega) hLs ?_
  rw [e2]
  refine v_callV (As := [.int (zI y1), .int (zI y2)]) hc ho dL_law_422 KV_L_44 KB_X6_way h6 rfl rfl (c_X6_way _ _ hX hn12 hq z1 z2) rfl (Nat.le_of_ble_eq_true rfl) ⟨by omega, by omega⟩ ⟨by omega, by omega⟩ (fun r6 h6_ s6 q6 z6 => ?_)
  obtain ⟨rfl, eh_, es_⟩ := q6
  have eh_ := eh_.symm
  subst eh_
  have es_ := es_.symm
  subst es_
  obtain ⟨v6, hv6⟩ : ∃ v6, v6 = zI (if ((0 ≤ y1 ∧ y1 < n) ∧ 1 ≤ y2 ∧ y2 ≤ 400) then x_wl (A (y1.toNat + 20)) y2 else -1) := ⟨_, rfl⟩
  rw [← hv6]
  refine v_aload_n hc dL_law_425 rfl ?_
  refine v_aload_n hc dL_law_426 rfl ?_
  refine v_iload_n hc dL_law_427 rfl ?_
  refine z_iconst hc dL_law_428 ?_
  refine z_iadd hc dL_law_429 ?_
  refine v_sld hSX hSh hc dL_law_430 (by omega) (by omega) hLs ?_
  rw [e1]
  refine v_aload_n hc dL_law_431 rfl ?_
  refine v_iload_n hc dL_law_432 rfl ?_
  refine z_iconst hc dL_law_433 ?_
  refine z_iadd hc dL_law_434 ?_
  refine v_sld hSX hSh hc dL_law_435 (by omega) (by omega) hLs ?_
  rw [e2]
  refine v_callV (As := [.int (zI y1), .int (zI y2)]) hc ho dL_law_436 KV_L_47 KB_X7_way hO.1 rfl rfl (c_X7_way _ _ hO hmP z1 z2) rfl (Nat.le_of_ble_eq_true rfl) ⟨by omega, by omega⟩ ⟨by omega, by omega⟩ (fun r7 h7_ s7 q7 z7 => ?_)
  obtain ⟨es7, j2, b2, hq7, hO2, hfr7⟩ := q7
  subst es7
  obtain ⟨v7, hv7⟩ : ∃ v : Int32, r7 = some (.int v) := by
    rcases hq7 with q | ⟨u, -, q, -⟩
    · exact ⟨_, q.2.1⟩
    · exact ⟨_, q⟩
  subst hv7
  have hX3 := hX.kept7 hfr7
  obtain ⟨hv, hfin⟩ : v6 = v7 ∧ lw_I (s_G S) o6 o7 (c + 1) (k + 0 + 0) (m + 0 + 0) h7_ s7 := by
    rcases hq7 with ⟨c7, r7, e3, e4⟩ | ⟨u, c7, r7, w7, p7, ej, ea⟩
    · subst e3 e4
      refine ⟨?_, ⟨ad, L, n, I, A, nf, LN, PI, PR, PB, hn, mf, SN, SI, SR, SB, i, s, j2, b2, hX3, hO2, hR.mono, by push_cast; omega, by push_cast; omega⟩⟩
      rw [hv6, if_neg (by omega)]
      exact (Value.int.inj (Option.some.inj r7)).symm
    · refine ⟨?_, ⟨ad, L, n, I, A, nf, LN, PI, PR, PB, hn, mf, SN, SI, SR, SB, i, s, j2, b2, hX3, hO2, hR.mono.w p7 ej ea, by push_cast; omega, by push_cast; omega⟩⟩
      obtain ⟨p1, p2⟩ := hpp y1.toNat (by omega)
      rw [hv6, if_pos ⟨by omega, c7.2⟩, (y_wl p2 p1 hmP.2.2.2.2.2.2.2.2.2.1 c7.2.1 c7.2.2 w7).1]
      exact (Value.int.inj (Option.some.inj r7)).symm
  subst hv
  refine v_icmp_same (tgt := 954) hc dL_law_439 (by decide) ?_
  exact K _ _ _ _ hfin

set_option maxHeartbeats 4000000 in
theorem law_along {S : b_S} {b Ls : Nat} {xs : Nat → Int32} (hC : lw_ctx S b Ls xs) {o6 o7 : Nat} {c x : Int} {k m : Nat} {h : b_H} {sz : Nat} (hI : lw_I (s_G S) o6 o7 c k m h sz) (hc5 : c < 512) (hx : 0 ≤ x ∧ x + 5 ≤ Ls) (K : ∀ (k m : Nat) (h : b_H) (sz : Nat), lw_I (s_G S) o6 o7 (c + 1) k m h sz → V S k m h sz 954 [some (.ref b), some (.ref o6), some (.ref o7), some (.int (zI x))] []) : V S k m h sz 444 [some (.ref b), some (.ref o6), some (.ref o7), some (.int (zI x))] [] := by
  obtain ⟨hSX, hSh, hc, ho, hFr, hLo, hCe, hSl, hLs⟩ := hC
  obtain ⟨ad, L, n, I, A, nf, LN, PI, PR, PB, hn, mf, SN, SI, SR, SB, i, s, j, a, hX, hO, hR, hk, hm⟩ := hI
  obtain ⟨hc0, hF, hD, hK, hP, hG, hN, hCc⟩ := id hR
  obtain ⟨fs, h6⟩ := hX.obj
  obtain ⟨hP5, hn12, hmP, hpp, hp0⟩ := id hP
  have hq : ∀ p, p < n → q_J (I (p + 20)) (A (p + 20)) := fun p hp => (hpp p hp).2
  have hL786 := hK.2.2.2.2.1
  obtain ⟨y1, e1, z1⟩ : ∃ y, (xs (x + 1).toNat).toInt = y ∧ zb y := ⟨_, rfl, zb_of _⟩
  obtain ⟨y2, e2, z2⟩ : ∃ y, (xs (x + 2).toNat).toInt = y ∧ zb y := ⟨_, rfl, zb_of _⟩
  obtain ⟨y3, e3, z3⟩ : ∃ y, (xs (x + 3).toNat).toInt = y ∧ zb y := ⟨_, rfl, zb_of _⟩
  obtain ⟨y4, e4, z4⟩ : ∃ y, (xs (x + 4).toNat).toInt = y ∧ zb y := ⟨_, rfl, zb_of _⟩
  refine v_dom (fun hdom => ?_)
  refine v_aload_n hc dL_law_444 rfl ?_
  refine v_aload_n hc dL_law_445 rfl ?_
  refine v_iload_n hc dL_law_446 rfl ?_
  refine z_iconst hc dL_law_447 ?_
  refine z_iadd hc dL_law_448 ?_
  refine v_sld hSX hSh hc dL_law_449 (by omega) (by omega) hLs ?_
  rw [e1]
  refine v_aload_n hc dL_law_450 rfl ?_
  refine v_iload_n hc dL_law_451 rfl ?_
  refine z_iconst hc dL_law_452 ?_
  refine z_iadd hc dL_law_453 ?_
  refine v_sld hSX hSh hc dL_law_454 (by omega) (by omega) hLs ?_
  rw [e2]
  refine v_aload_n hc dL_law_455 rfl ?_
  refine v_iload_n hc dL_law_456 rfl ?_
  refine z_iconst hc dL_law_457 ?_
  refine z_iadd hc dL_law_458 ?_
  refine v_sld hSX hSh hc dL_law_459 (by omega) (by omega) hLs ?_
  rw [e3]
  refine v_callV (As := [.int (zI y1), .int (zI y2), .int (zI y3)]) hc ho dL_law_460 KV_L_48 KB_X6_along h6 rfl rfl (c_X6_along _ _ hX hn12 hq z1 z2 z3) rfl (Nat.le_of_ble_eq_true rfl) ⟨by omega, by omega⟩ ⟨by omega, by omega⟩ (fun r6 h6_ s6 q6 z6 => ?_)
  obtain ⟨rfl, q6⟩ := q6
  have hk6 : sz ≤ s6 ∧ ∀ b, b < sz → h6_ b = h b := by
    rcases q6 with ⟨g1, g2⟩ | ⟨g1, g2⟩
    · exact ⟨z6, fun b _ => by rw [g1]⟩
    · exact ⟨z6, fun b hb => g2 b (by omega)⟩
  have hO := hO.kept (fun b hb => hk6.2 b (hO.lt hdom b hb))
  have hX := hX.more hdom hk6.2 hk6.1
  obtain ⟨v6, hv6⟩ : ∃ v6, v6 = zI (if ((0 ≤ y1 ∧ y1 < n) ∧ 1 ≤ y2 ∧ y2 ≤ 400) then (if 0 ≤ y3 ∧ y3 < (q_ln (A (y1.toNat + 20)) y2 : Int) then q_rx (I (y1.toNat + 20) 4).toNat (A (y1.toNat + 20) 8) (A (y1.toNat + 20) 9) (A (y1.toNat + 20) 12) (I (y1.toNat + 20) 10) y2 y3.toNat else -1) else -1) := ⟨_, rfl⟩
  rw [← hv6]
  refine v_aload_n hc dL_law_463 rfl ?_
  refine v_aload_n hc dL_law_464 rfl ?_
  refine v_iload_n hc dL_law_465 rfl ?_
  refine z_iconst hc dL_law_466 ?_
  refine z_iadd hc dL_law_467 ?_
  refine v_sld hSX hSh hc dL_law_468 (by omega) (by omega) hLs ?_
  rw [e1]
  refine v_aload_n hc dL_law_469 rfl ?_
  refine v_iload_n hc dL_law_470 rfl ?_
  refine z_iconst hc dL_law_471 ?_
  refine z_iadd hc dL_law_472 ?_
  refine v_sld hSX hSh hc dL_law_473 (by omega) (by omega) hLs ?_
  rw [e2]
  refine v_aload_n hc dL_law_474 rfl ?_
  refine v_iload_n hc dL_law_475 rfl ?_
  refine z_iconst hc dL_law_476 ?_
  refine z_iadd hc dL_law_477 ?_
  refine v_sld hSX hSh hc dL_law_478 (by omega) (by omega) hLs ?_
  rw [e3]
  refine v_callV (As := [.int (zI y1), .int (zI y2), .int (zI y3)]) hc ho dL_law_479 KV_L_52 KB_X7_along hO.1 rfl rfl (c_X7_along _ _ hO hmP z1 z2 z3) rfl (Nat.le_of_ble_eq_true rfl) ⟨by omega, by omega⟩ ⟨by omega, by omega⟩ (fun r7 h7_ s7 q7 z7 => ?_)
  obtain ⟨es7, j2, b2, hq7, hO2, hfr7⟩ := q7
  subst es7
  obtain ⟨v7, hv7⟩ : ∃ v : Int32, r7 = some (.int v) := by
    rcases hq7 with q | ⟨u, -, q, -⟩
    · exact ⟨_, q.2.1⟩
    · exact ⟨_, q⟩
  subst hv7
  have hX3 := hX.kept7 hfr7
  obtain ⟨hv, hfin⟩ : v6 = v7 ∧ lw_I (s_G S) o6 o7 (c + 1) (k + 1 + 0) (m + 17 + 0) h7_ s7 := by
    rcases hq7 with ⟨c7, r7, e3, e4⟩ | ⟨u, c7, r7, w7, p7, ej, ea⟩
    · subst e3 e4
      refine ⟨?_, ⟨ad, L, n, I, A, nf, LN, PI, PR, PB, hn, mf, SN, SI, SR, SB, i, s, j2, b2, hX3, hO2, hR.mono, by push_cast; omega, by push_cast; omega⟩⟩
      rw [hv6, if_neg (by omega)]
      exact (Value.int.inj (Option.some.inj r7)).symm
    · refine ⟨?_, ⟨ad, L, n, I, A, nf, LN, PI, PR, PB, hn, mf, SN, SI, SR, SB, i, s, j2, b2, hX3, hO2, hR.mono.w p7 ej ea, by push_cast; omega, by push_cast; omega⟩⟩
      obtain ⟨p1, p2⟩ := hpp y1.toNat (by omega)
      obtain ⟨w1, w2, w3⟩ := y_wl p2 p1 hmP.2.2.2.2.2.2.2.2.2.1 c7.2.1 c7.2.2 w7
      rw [hv6, if_pos (c := ((0 ≤ y1 ∧ y1 < n) ∧ 1 ≤ y2 ∧ y2 ≤ 400)) ⟨by omega, c7.2⟩]
      refine Eq.trans ?_ (Value.int.inj (Option.some.inj r7)).symm
      congr 1
      by_cases e : u = -2
      · rw [w2 e, if_neg (by omega), if_neg (by omega)]
      · obtain ⟨w4, w5⟩ := w3 e
        rw [w5]
        by_cases g : 0 ≤ y3 ∧ y3 < u
        · rw [if_pos g, if_pos (by omega)]
          exact (y_rw p2 p1 hmP.2.2.2.2.2.2.2.2.2.1 c7.2.1 c7.2.2 w4 y3.toNat (by omega)).2
        · rw [if_neg g, if_neg (by omega)]
  subst hv
  refine v_icmp_same (tgt := 954) hc dL_law_482 (by decide) ?_
  exact K _ _ _ _ hfin

set_option maxHeartbeats 4000000 in
theorem law_best {S : b_S} {b Ls : Nat} {xs : Nat → Int32} (hC : lw_ctx S b Ls xs) {o6 o7 : Nat} {c x : Int} {k m : Nat} {h : b_H} {sz : Nat} (hI : lw_I (s_G S) o6 o7 c k m h sz) (hc5 : c < 512) (hx : 0 ≤ x ∧ x + 5 ≤ Ls) (K : ∀ (k m : Nat) (h : b_H) (sz : Nat), lw_I (s_G S) o6 o7 (c + 1) k m h sz → V S k m h sz 954 [some (.ref b), some (.ref o6), some (.ref o7), some (.int (zI x))] []) : V S k m h sz 530 [some (.ref b), some (.ref o6), some (.ref o7), some (.int (zI x))] [] := by
  obtain ⟨hSX, hSh, hc, ho, hFr, hLo, hCe, hSl, hLs⟩ := hC
  obtain ⟨ad, L, n, I, A, nf, LN, PI, PR, PB, hn, mf, SN, SI, SR, SB, i, s, j, a, hX, hO, hR, hk, hm⟩ := hI
  obtain ⟨hc0, hF, hD, hK, hP, hG, hN, hCc⟩ := id hR
  obtain ⟨fs, h6⟩ := hX.obj
  obtain ⟨hP5, hn12, hmP, hpp, hp0⟩ := id hP
  have hq : ∀ p, p < n → q_J (I (p + 20)) (A (p + 20)) := fun p hp => (hpp p hp).2
  have hL786 := hK.2.2.2.2.1
  obtain ⟨y1, e1, z1⟩ : ∃ y, (xs (x + 1).toNat).toInt = y ∧ zb y := ⟨_, rfl, zb_of _⟩
  obtain ⟨y2, e2, z2⟩ : ∃ y, (xs (x + 2).toNat).toInt = y ∧ zb y := ⟨_, rfl, zb_of _⟩
  obtain ⟨y3, e3, z3⟩ : ∃ y, (xs (x + 3).toNat).toInt = y ∧ zb y := ⟨_, rfl, zb_of _⟩
  obtain ⟨y4, e4, z4⟩ : ∃ y, (xs (x + 4).toNat).toInt = y ∧ zb y := ⟨_, rfl, zb_of _⟩
  refine v_aload_n hc dL_law_530 rfl ?_
  refine v_aload_n hc dL_law_531 rfl ?_
  refine v_iload_n hc dL_law_532 rfl ?_
  refine z_iconst hc dL_law_533 ?_
  refine z_iadd hc dL_law_534 ?_
  refine v_sld hSX hSh hc dL_law_535 (by omega) (by omega) hLs ?_
  rw [e1]
  refine v_aload_n hc dL_law_536 rfl ?_
  refine v_iload_n hc dL_law_537 rfl ?_
  refine z_iconst hc dL_law_538 ?_
  refine z_iadd hc dL_law_539 ?_
  refine v_sld hSX hSh hc dL_law_540 (by omega) (by omega) hLs ?_
  rw [e2]
  refine v_callV (As := [.int (zI y1), .int (zI y2)]) hc ho dL_law_541 KV_L_57 KB_X6_best h6 rfl rfl (c_X6_best _ _ hX hn12 hq z1 z2) rfl (Nat.le_of_ble_eq_true rfl) ⟨by omega, by omega⟩ ⟨by omega, by omega⟩ (fun r6 h6_ s6 q6 z6 => ?_)
  obtain ⟨rfl, eh_, es_⟩ := q6
  have eh_ := eh_.symm
  subst eh_
  have es_ := es_.symm
  subst es_
  obtain ⟨v6, hv6⟩ : ∃ v6, v6 = zI (if ((0 ≤ y1 ∧ y1 < n) ∧ 0 ≤ y2 ∧ y2 ≤ 100000) then q_bt (fun b => ¬ A (y1.toNat + 20) 13 b = 17) (fun b => q_ms (I (y1.toNat + 20) 6) (I (y1.toNat + 20) 7) b y2) 400 else -1) := ⟨_, rfl⟩
  rw [← hv6]
  refine v_aload_n hc dL_law_544 rfl ?_
  refine v_aload_n hc dL_law_545 rfl ?_
  refine v_iload_n hc dL_law_546 rfl ?_
  refine z_iconst hc dL_law_547 ?_
  refine z_iadd hc dL_law_548 ?_
  refine v_sld hSX hSh hc dL_law_549 (by omega) (by omega) hLs ?_
  rw [e1]
  refine v_aload_n hc dL_law_550 rfl ?_
  refine v_iload_n hc dL_law_551 rfl ?_
  refine z_iconst hc dL_law_552 ?_
  refine z_iadd hc dL_law_553 ?_
  refine v_sld hSX hSh hc dL_law_554 (by omega) (by omega) hLs ?_
  rw [e2]
  refine v_callV (As := [.int (zI y1), .int (zI y2)]) hc ho dL_law_555 KV_L_60 KB_X7_best hO.1 rfl rfl (c_X7_best _ _ hO hmP z1 z2) rfl (Nat.le_of_ble_eq_true rfl) ⟨by omega, by omega⟩ ⟨by omega, by omega⟩ (fun r7 h7_ s7 q7 z7 => ?_)
  obtain ⟨es7, j2, b2, hq7, hO2, hfr7⟩ := q7
  subst es7
  obtain ⟨v7, hv7⟩ : ∃ v : Int32, r7 = some (.int v) := by
    rcases hq7 with q | q
    · exact ⟨_, q.2.1⟩
    · exact ⟨_, q.2.1⟩
  subst hv7
  have hX3 := hX.kept7 hfr7
  obtain ⟨hv, hfin⟩ : v6 = v7 ∧ lw_I (s_G S) o6 o7 (c + 1) (k + 0 + 0) (m + 0 + 0) h7_ s7 := by
    rcases hq7 with ⟨c7, r7, e3, e4⟩ | ⟨c7, r7, e3, p7, ea⟩
    · subst e3 e4
      refine ⟨?_, ⟨ad, L, n, I, A, nf, LN, PI, PR, PB, hn, mf, SN, SI, SR, SB, i, s, j2, b2, hX3, hO2, hR.mono, by push_cast; omega, by push_cast; omega⟩⟩
      rw [hv6, if_neg (by omega)]
      exact (Value.int.inj (Option.some.inj r7)).symm
    · refine ⟨?_, ⟨ad, L, n, I, A, nf, LN, PI, PR, PB, hn, mf, SN, SI, SR, SB, i, s, j2, b2, hX3, hO2, hR.mono.w p7 (fun k _ => by rw [e3]) (fun k q _ => ea k q), by push_cast; omega, by push_cast; omega⟩⟩
      obtain ⟨p1, p2⟩ := hpp y1.toNat (by omega)
      rw [hv6, if_pos (c := ((0 ≤ y1 ∧ y1 < n) ∧ 0 ≤ y2 ∧ y2 ≤ 100000)) ⟨by omega, c7.2⟩]
      refine Eq.trans ?_ (Value.int.inj (Option.some.inj r7)).symm
      congr 1
      obtain ⟨u0, u1, u2, u3, u4, u5, u6, u7, u8⟩ := id p1
      have hb9 := hmP.2.2.1 y1.toNat (by omega)
      refine y_bt 400 (fun b q1 q2 => ?_) (fun b q1 q2 => ?_)
      · have := y_hw p2 p1 hmP.2.2.2.2.2.2.2.2.2.1 (b := (b : Int)) (by omega) (by omega)
        rw [Int.toNat_natCast] at this
        exact this.symm
      · show q_ms _ _ b y2 = p_mf _ _ _
        rw [u6, u7, p_mf_ms (by omega) (by omega) (by omega)]
  subst hv
  refine v_icmp_same (tgt := 954) hc dL_law_558 (by decide) ?_
  exact K _ _ _ _ hfin
