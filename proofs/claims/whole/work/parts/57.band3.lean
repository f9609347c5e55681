/-! the class: given, the night -/
section K2
variable {G : b_G} {lb lb2 : Nat → Nat} {L n : Nat} {O : Nat → Nat} {D : Nat → Nat → Nat} {I : Nat → Nat → Int} {A : Nat → Nat → Nat → Int} {h h1 : b_H}
theorem r_O.nn {K : r_K} {ci o : Nat} {ad : Nat → Nat} {i : Nat → Int} {a : Nat → Nat → Int} {h : b_H} (hO : r_O K ci o ad i a h) {b : Nat} (hb : r_own K o ad b) : h b ≠ none := by
  rcases hb with q | ⟨k, ⟨z, m⟩, hk, q⟩
  · rw [q, hO.1]; exact fun e => by cases e
  · rw [q, hO.2.1 k z m hk]; exact fun e => by cases e
theorem x_W.kept2 (hW : x_W lb L n O D I A h) (hq : ∀ b, h b ≠ none → x_is n (lb b) → h1 b = h b ∧ lb2 b = lb b) : x_W lb2 L n O D I A h1 := fun t ht => by
  obtain ⟨g1, g2⟩ := hW t ht
  have hx : ∀ b, r_own (x_K L t) (O t) (D t) b → h1 b = h b ∧ lb2 b = lb b := fun b hb => hq b (g1.nn hb) (by rw [g2 b hb]; exact ht)
  exact ⟨g1.kept (fun b hb => (hx b hb).1), fun b hb => by rw [(hx b hb).2]; exact g2 b hb⟩
theorem j_L.nn {o ad m : Nat} {e : Nat → Nat} (hL : j_L G o ad m e h) : h o ≠ none ∧ (m ≠ 0 → h ad ≠ none) := by
  obtain ⟨mc, q1, q2, q3⟩ := hL
  refine ⟨by rw [q1]; exact fun e => (by cases e), fun hm => ?_⟩
  rcases q3 with q | ⟨cap, f, g1, g2⟩
  · exact absurd q.1 hm
  · rw [g1]; exact fun e => (by cases e)
theorem p_L.kept2 {ol al : Nat} (hL : p_L G lb n O ol al h) (hq : ∀ b, h b ≠ none → lb b = 10 → h1 b = h b ∧ lb2 b = 10) : p_L G lb2 n O ol al h1 := by
  obtain ⟨g1, g3, g4, g5⟩ := hL
  have hn := g1.nn
  refine ⟨?_, (hq ol hn.1 g3).2, g4, fun e => (hq al (hn.2 e) (g5 e)).2⟩
  by_cases e : n = 0
  · obtain ⟨mc, q1, q2, q3⟩ := g1
    exact ⟨mc, (hq ol hn.1 g3).1.trans q1, q2, Or.inl ⟨e, g4 e⟩⟩
  · exact g1.kept (hq ol hn.1 g3).1 (fun _ => (hq al (hn.2 e) (g5 e)).1)
theorem f_W.kept2 {n2 : Nat} {O2 : Nat → Nat} {fo fa nf : Nat} {pt RA RB LN : Nat → Nat} {PI PR PB : Nat → Nat → Int} (hF : f_W G lb n O fo fa nf pt RA RB LN PI PR PB h) (hq : ∀ b, h b ≠ none → lb b = 9 → h1 b = h b ∧ lb2 b = 9) (hn2 : n ≤ n2) (hO : ∀ p, p < n → O2 (p + 20) = O (p + 20)) : f_W G lb2 n2 O2 fo fa nf pt RA RB LN PI PR PB h1 := by
  obtain ⟨g1, g2, g3, g4, g5, g6⟩ := hF
  have hn := g1.nn
  refine ⟨?_, g2, (hq fo hn.1 g3).2, g4, fun e => (hq fa (hn.2 e) (g5 e)).2, fun s hs => ?_⟩
  · by_cases e : nf = 0
    · obtain ⟨mc, q1, q2, q3⟩ := g1
      exact ⟨mc, (hq fo hn.1 g3).1.trans q1, q2, Or.inl ⟨e, g4 e⟩⟩
    · exact g1.kept (hq fo hn.1 g3).1 (fun _ => (hq fa (hn.2 e) (g5 e)).1)
  · obtain ⟨q1, q2, q3, q4, q5, q6⟩ := g6 s hs
    have e1 := hq _ (by rw [q1.1]; exact fun e => (by cases e)) q4
    have e2 := hq _ (by rw [q1.2.1]; exact fun e => (by cases e)) q5
    have e3 := hq _ (by rw [q1.2.2]; exact fun e => (by cases e)) q6
    rw [hO _ q3]
    exact ⟨q1.kept e1.1 e2.1 e3.1, q2, by omega, e1.2, e2.2, e3.2⟩
theorem n_W.kept2 {o sa pr : Nat} {pv : Value} {i s : Nat → Int} (hN : n_W lb o sa pr pv i s h) (hq : ∀ b, h b ≠ none → lb b = 2 → h1 b = h b ∧ lb2 b = 2) : n_W lb2 o sa pr pv i s h1 := by
  obtain ⟨g1, g2, g3, g4, g5⟩ := hN
  have e1 := hq o (by rw [g1]; exact fun e => (by cases e)) g4
  have e2 := hq sa (by rw [g2]; exact fun e => (by cases e)) g5
  exact ⟨e1.1.trans g1, e2.1.trans g2, g3, e1.2, e2.2⟩
end K2
def x_gv (nf : Nat) (PI : Nat → Nat → Int) (s w : Int) : Int := if ¬ (0 ≤ s ∧ s < nf) then -1 else if w = 0 then PI s.toNat 1 else if w = 1 then PI s.toNat 2 else if w = 2 then PI s.toNat 3 else if w = 3 then PI s.toNat 4 else -1

set_option maxHeartbeats 4000000 in
theorem c_X6_given (l : Launch) (G : b_G) {h : b_H} {sz : Nat} {o6 : Nat} {P7 : Nat → Prop} {L n : Nat} {I : Nat → Nat → Int} {A : Nat → Nat → Nat → Int} {nf : Nat} {LN : Nat → Nat} {PI PR PB : Nat → Nat → Int} {hn : Bool} {mf : Nat} {SN : Nat → Nat} {SI SR SB : Nat → Nat → Int} {i s : Nat → Int} (hX : x_X G o6 P7 L n I A nf LN PI PR PB hn mf SN SI SR SB i s h sz) {x y : Int} (hx : zb x) (hy : zb y) : Con l G yX6_given cX6_given 4 (some .int) 3 64 0 0 [.ref o6, .int (zI x), .int (zI y)] h sz (p_ro (some (.int (zI (x_gv nf PI x y)))) h sz) := by
  refine Con.ofK (by decide +kernel) rfl rfl ?_
  intro S M
  have hc := M.2.2.2.1
  have ho : s_own S = RX6 := M.2.2.1
  have hFr : (s_R S).frames = 3 := by rw [M.2.2.2.2.2.2.2.1]
  have hLo : (s_R S).locals = 64 := by rw [M.2.2.2.2.2.2.2.1]
  have hCe : (s_R S).cells = 0 := by rw [M.2.2.2.2.2.2.2.1]
  have hSl : (s_R S).slots = 0 := by rw [M.2.2.2.2.2.2.2.1]
  have hG : s_G S = G := M.2.1
  subst hG
  obtain ⟨lb, O, D, ol, al, fo, fa, pt, RA, RB, nv, hY⟩ := hX
  obtain ⟨hW, hL, hF, h6, hl6, h7, hN⟩ := id hY
  have hOf : r_O K1 1 (O 1) (D 1) (I 1) (A 1) h := (hW 1 x_is_1).1
  have hOd : r_O K0 0 (O 0) (D 0) (I 0) (A 0) h := (hW 0 x_is_0).1
  have hOp : r_O (K5 L) 5 (O 5) (D 5) (I 5) (A 5) h := (hW 5 x_is_5).1
  obtain ⟨mcl, hjo, -⟩ := id hL.1
  obtain ⟨mcf, hfo, -⟩ := id hF.1
  have hnf8 := hF.2.1
  refine v_iload_n hc dX6_given_0 rfl ?_
  refine z_iconst hc dX6_given_1 ?_
  refine v_aload_n hc dX6_given_2 rfl ?_
  refine v_get hc ho dX6_given_3 F_X6_37 h6 rfl ?_
  refine v_callV (As := []) hc ho dX6_given_6 KV_X6_79 KB_Jx4a65c_size_8abf5 hfo rfl rfl (c_Jx4a65c_size_8abf5 _ _ hF.1) rfl (Nat.le_of_ble_eq_true rfl) ⟨by omega, by omega⟩ ⟨by omega, by omega⟩ (fun r_ h_ sz_ q_ z_ => ?_)
  obtain ⟨rfl, eh_, es_⟩ := q_
  have eh_ := eh_.symm
  subst eh_
  have es_ := es_.symm
  subst es_
  refine z_iconst hc dX6_given_9 ?_
  refine z_isub hc dX6_given_10 ?_
  refine v_callS (As := [.int (zI (x)), .int (zI (0)), .int (zI ((nf : Int) - 1))]) hc ho dX6_given_11 KS_X6_44 KB_X6_within (c_X6_within _ _ (x := x) (y := 0) (z := (nf : Int) - 1) (by first | assumption | (unfold zb; omega)) (by first | assumption | (unfold zb; omega)) (by first | assumption | (unfold zb; omega))) rfl (Nat.le_of_ble_eq_true rfl) ⟨by omega, by omega⟩ ⟨by omega, by omega⟩ (fun r_ h_ sz_ q_ z_ => ?_)
  obtain ⟨rfl, eh_, es_⟩ := q_
  have eh_ := eh_.symm
  subst eh_
  have es_ := es_.symm
  subst es_
  have hx01 := bI_or (0 ≤ x ∧ x ≤ (nf : Int) - 1)
  generalize bI (0 ≤ x ∧ x ≤ (nf : Int) - 1) = bpx at hx01 ⊢
  refine z_if_ne (tgt := 19) hc dX6_given_14 (by decide) (by first | assumption | exact hi _ | exact ha _ _ | (unfold zb; omega)) (fun c_1 => ?_) (fun c_1 => ?_)
  · have hpt := hF.2.2.2.2.2 x.toNat (by omega)
    refine v_aload_n hc dX6_given_19 rfl ?_
    refine v_get hc ho dX6_given_20 F_X6_37 h6 rfl ?_
    refine v_iload_n hc dX6_given_23 rfl ?_
    refine v_callV (As := [.int (zI x)]) hc ho dX6_given_24 KV_X6_139 KB_Jx4a65c_get_915e3 hfo rfl rfl (c_Jx4a65c_get_915e3 _ _ hF.1 (x := x) (by omega)) rfl (Nat.le_of_ble_eq_true rfl) ⟨by omega, by omega⟩ ⟨by omega, by omega⟩ (fun r_ h_ sz_ q_ z_ => ?_)
    obtain ⟨rfl, eh_, es_⟩ := q_
    have eh_ := eh_.symm
    subst eh_
    have es_ := es_.symm
    subst es_
    refine v_cast hc ho dX6_given_27 rfl CLk_X6_143 hpt.1.1 ?_
    refine v_astore_n hc dX6_given_30 (Nat.le_of_ble_eq_true rfl) ?_
    refine v_iload_n hc dX6_given_31 rfl ?_
    by_cases w_2 : y = 0
    · refine z_tableIn (off := 32) (tgt := 64) hc dX6_given_32 (by first | assumption | exact hi _ | exact ha _ _ | (unfold zb; omega)) (by omega) (by omega) (by rw [w_2]; rfl) (by decide) ?_
      refine v_aload_n hc dX6_given_64 rfl ?_
      refine v_get hc ho dX6_given_65 F_X6_145 hpt.1.1 rfl ?_
      refine z_iret M dX6_given_68 (by omega) (by omega) ?_
      exact ⟨by rw [x_gv, if_neg (by omega), if_pos (by omega)], rfl, rfl⟩
    by_cases w_3 : y = 1
    · refine z_tableIn (off := 37) (tgt := 69) hc dX6_given_32 (by first | assumption | exact hi _ | exact ha _ _ | (unfold zb; omega)) (by omega) (by omega) (by rw [w_3]; rfl) (by decide) ?_
      refine v_aload_n hc dX6_given_69 rfl ?_
      refine v_get hc ho dX6_given_70 F_X6_149 hpt.1.1 rfl ?_
      refine z_iret M dX6_given_73 (by omega) (by omega) ?_
      exact ⟨by rw [x_gv, if_neg (by omega), if_neg (by omega), if_pos (by omega)], rfl, rfl⟩
    by_cases w_4 : y = 2
    · refine z_tableIn (off := 42) (tgt := 74) hc dX6_given_32 (by first | assumption | exact hi _ | exact ha _ _ | (unfold zb; omega)) (by omega) (by omega) (by rw [w_4]; rfl) (by decide) ?_
      refine v_aload_n hc dX6_given_74 rfl ?_
      refine v_get hc ho dX6_given_75 F_X6_152 hpt.1.1 rfl ?_
      refine z_iret M dX6_given_78 (by omega) (by omega) ?_
      exact ⟨by rw [x_gv, if_neg (by omega), if_neg (by omega), if_neg (by omega), if_pos (by omega)], rfl, rfl⟩
    by_cases w_5 : y = 3
    · refine z_tableIn (off := 47) (tgt := 79) hc dX6_given_32 (by first | assumption | exact hi _ | exact ha _ _ | (unfold zb; omega)) (by omega) (by omega) (by rw [w_5]; rfl) (by decide) ?_
      refine v_aload_n hc dX6_given_79 rfl ?_
      refine v_get hc ho dX6_given_80 F_X6_155 hpt.1.1 rfl ?_
      refine z_iret M dX6_given_83 (by omega) (by omega) ?_
      exact ⟨by rw [x_gv, if_neg (by omega), if_neg (by omega), if_neg (by omega), if_neg (by omega), if_pos (by omega)], rfl, rfl⟩
    refine z_tableOut (tgt := 84) hc dX6_given_32 (by first | assumption | exact hi _ | exact ha _ _ | (unfold zb; omega)) (by omega) (by decide) ?_
    refine z_iconst hc dX6_given_84 ?_
    refine z_iret M dX6_given_85 (by omega) (by omega) ?_
    exact ⟨by rw [x_gv, if_neg (by omega), if_neg (by omega), if_neg (by omega), if_neg (by omega), if_neg (by omega)], rfl, rfl⟩
  · refine z_iconst hc dX6_given_17 ?_
    refine z_iret M dX6_given_18 (by omega) (by omega) ?_
    exact ⟨by rw [x_gv, if_pos (by omega)], rfl, rfl⟩
set_option maxHeartbeats 4000000 in
theorem c_X6_now (l : Launch) (G : b_G) {h : b_H} {sz : Nat} {o6 : Nat} {P7 : Nat → Prop} {L n : Nat} {I : Nat → Nat → Int} {A : Nat → Nat → Nat → Int} {nf : Nat} {LN : Nat → Nat} {PI PR PB : Nat → Nat → Int} {hn : Bool} {mf : Nat} {SN : Nat → Nat} {SI SR SB : Nat → Nat → Int} {i s : Nat → Int} (hX : x_X G o6 P7 L n I A nf LN PI PR PB hn mf SN SI SR SB i s h sz) (hNI : hn = true → n_I mf SN SI i s) {x : Int} (hx : zb x) : Con l G yX6_now cX6_now 2 (some .int) 3 63 0 0 [.ref o6, .int (zI x)] h sz (p_ro (some (.int (zI (if hn = true then n_tl SN SI SR i x else -1)))) h sz) := by
  refine Con.ofK (by decide +kernel) rfl rfl ?_
  intro S M
  have hc := M.2.2.2.1
  have ho : s_own S = RX6 := M.2.2.1
  have hFr : (s_R S).frames = 3 := by rw [M.2.2.2.2.2.2.2.1]
  have hLo : (s_R S).locals = 63 := by rw [M.2.2.2.2.2.2.2.1]
  have hCe : (s_R S).cells = 0 := by rw [M.2.2.2.2.2.2.2.1]
  have hSl : (s_R S).slots = 0 := by rw [M.2.2.2.2.2.2.2.1]
  have hG : s_G S = G := M.2.1
  subst hG
  obtain ⟨lb, O, D, ol, al, fo, fa, pt, RA, RB, nv, hY⟩ := hX
  obtain ⟨hW, hL, hF, h6, hl6, h7, hN⟩ := id hY
  have hOf : r_O K1 1 (O 1) (D 1) (I 1) (A 1) h := (hW 1 x_is_1).1
  have hOd : r_O K0 0 (O 0) (D 0) (I 0) (A 0) h := (hW 0 x_is_0).1
  have hOp : r_O (K5 L) 5 (O 5) (D 5) (I 5) (A 5) h := (hW 5 x_is_5).1
  obtain ⟨mcl, hjo, -⟩ := id hL.1
  obtain ⟨mcf, hfo, -⟩ := id hF.1
  rcases hN with hN | hN
  · obtain ⟨hq1, rfl⟩ := hN
    refine v_aload_n hc dX6_now_0 rfl ?_
    refine v_get hc ho dX6_now_1 F_X6_40 h6 rfl ?_
    refine v_ifnonnullN hc dX6_now_4 ?_
    refine z_iconst hc dX6_now_7 ?_
    refine v_goto (tgt := 19) hc dX6_now_8 (by decide) ?_
    refine z_iret M dX6_now_19 (by omega) (by omega) ?_
    exact ⟨by rw [hq1]; rfl, rfl, rfl⟩
  · obtain ⟨hq1, o2, sa, pr, pa, qt, QA, QB, rfl, hF2, hN2⟩ := hN
    have hI2 := hNI hq1
    have hA : n_A (s_G S) lb L n O D I A pr pa mf qt QA QB SN SI SR SB o2 sa (.ref (qt (i 3).toNat)) i s h := ⟨hW, hF2, hN2⟩
    obtain ⟨hn1, hn2, hn3, hn4, hn5, hn6, hn7, hn8, hn9, hn10, hn11, hn12⟩ := id hI2
    have hk : (i 3).toNat < mf := by omega
    have hk3 : i 3 = (((i 3).toNat : Nat) : Int) := by omega
    refine v_aload_n hc dX6_now_0 rfl ?_
    refine v_get hc ho dX6_now_1 F_X6_40 h6 rfl ?_
    refine v_ifnonnull (tgt := 11) hc dX6_now_4 (by decide) ?_
    refine v_aload_n hc dX6_now_11 rfl ?_
    refine v_get hc ho dX6_now_12 F_X6_40 h6 rfl ?_
    refine v_iload_n hc dX6_now_15 rfl ?_
    refine v_callV (As := [.int (zI x)]) hc ho dX6_now_16 KV_X6_175 KB_X2_tell hA.2.2.1 rfl rfl (c_X2_tell _ _ hA hk hk3 hI2 (x := x) hx) rfl (Nat.le_of_ble_eq_true rfl) ⟨by omega, by omega⟩ ⟨by omega, by omega⟩ (fun r_ h_ sz_ q_ z_ => ?_)
    obtain ⟨rfl, eh_, es_⟩ := q_
    have eh_ := eh_.symm
    subst eh_
    have es_ := es_.symm
    subst es_
    refine z_iret M dX6_now_19 (by omega) (by omega) ?_
    exact ⟨by rw [hq1]; rfl, rfl, rfl⟩
set_option maxHeartbeats 4000000 in
theorem c_X6_seen (l : Launch) (G : b_G) {h : b_H} {sz : Nat} {o6 : Nat} {P7 : Nat → Prop} {L n : Nat} {I : Nat → Nat → Int} {A : Nat → Nat → Nat → Int} {nf : Nat} {LN : Nat → Nat} {PI PR PB : Nat → Nat → Int} {hn : Bool} {mf : Nat} {SN : Nat → Nat} {SI SR SB : Nat → Nat → Int} {i s : Nat → Int} (hX : x_X G o6 P7 L n I A nf LN PI PR PB hn mf SN SI SR SB i s h sz) (hNI : hn = true → n_I mf SN SI i s)  : Con l G yX6_seen cX6_seen 1 (some .int) 2 41 0 0 [.ref o6] h sz (fun r h2 s3 => s3 = sz ∧ (∀ b, P7 b → h2 b = h b) ∧ ∃ i2 s2, ((¬ (hn = true ∧ i 11 = 0 ∧ i 12 = 0 ∧ i 10 + 1 < mf) ∧ r = some (.int (zI (-2))) ∧ s2 = s ∧ i2 = i) ∨ ((hn = true ∧ i 11 = 0 ∧ i 12 = 0 ∧ i 10 + 1 < mf) ∧ r = some (.int (zI (i 10 + 1))) ∧ i2 10 = i 10 + 1 ∧ n_ck i i2 [10] ∧ s2 = b_up s (i 10 + 1).toNat (i 7))) ∧ x_X G o6 P7 L n I A nf LN PI PR PB hn mf SN SI SR SB i2 s2 h2 sz ∧ (hn = true → n_I mf SN SI i2 s2)) := by
  refine Con.ofK (by decide +kernel) rfl rfl ?_
  intro S M
  have hc := M.2.2.2.1
  have ho : s_own S = RX6 := M.2.2.1
  have hFr : (s_R S).frames = 2 := by rw [M.2.2.2.2.2.2.2.1]
  have hLo : (s_R S).locals = 41 := by rw [M.2.2.2.2.2.2.2.1]
  have hCe : (s_R S).cells = 0 := by rw [M.2.2.2.2.2.2.2.1]
  have hSl : (s_R S).slots = 0 := by rw [M.2.2.2.2.2.2.2.1]
  have hG : s_G S = G := M.2.1
  subst hG
  obtain ⟨lb, O, D, ol, al, fo, fa, pt, RA, RB, nv, hY⟩ := hX
  obtain ⟨hW, hL, hF, h6, hl6, h7, hN⟩ := id hY
  have hOf : r_O K1 1 (O 1) (D 1) (I 1) (A 1) h := (hW 1 x_is_1).1
  have hOd : r_O K0 0 (O 0) (D 0) (I 0) (A 0) h := (hW 0 x_is_0).1
  have hOp : r_O (K5 L) 5 (O 5) (D 5) (I 5) (A 5) h := (hW 5 x_is_5).1
  obtain ⟨mcl, hjo, -⟩ := id hL.1
  obtain ⟨mcf, hfo, -⟩ := id hF.1
  rcases hN with hN | hN
  · obtain ⟨hq1, rfl⟩ := hN
    refine v_aload_n hc dX6_seen_0 rfl ?_
    refine v_get hc ho dX6_seen_1 F_X6_40 h6 rfl ?_
    refine v_ifnonnullN hc dX6_seen_4 ?_
    refine z_bipush hc dX6_seen_7 (by decide) ?_
    refine v_goto (tgt := 19) hc dX6_seen_9 (by decide) ?_
    refine z_iret M dX6_seen_19 (by omega) (by omega) ?_
    exact ⟨rfl, fun _ _ => rfl, i, s, Or.inl ⟨by rw [hq1]; simp, rfl, rfl, rfl⟩, by rw [hq1] at hY ⊢; exact ⟨_, _, _, _, _, _, _, _, _, _, _, hY⟩, hNI⟩
  · obtain ⟨hq1, o2, sa, pr, pa, qt, QA, QB, rfl, hF2, hN2⟩ := hN
    have hI2 := hNI hq1
    have hA : n_A (s_G S) lb L n O D I A pr pa mf qt QA QB SN SI SR SB o2 sa (.ref (qt (i 3).toNat)) i s h := ⟨hW, hF2, hN2⟩
    obtain ⟨hn1, hn2, hn3, hn4, hn5, hn6, hn7, hn8, hn9, hn10, hn11, hn12⟩ := id hI2
    have hk : (i 3).toNat < mf := by omega
    have hk3 : i 3 = (((i 3).toNat : Nat) : Int) := by omega
    refine v_aload_n hc dX6_seen_0 rfl ?_
    refine v_get hc ho dX6_seen_1 F_X6_40 h6 rfl ?_
    refine v_ifnonnull (tgt := 12) hc dX6_seen_4 (by decide) ?_
    refine v_aload_n hc dX6_seen_12 rfl ?_
    refine v_get hc ho dX6_seen_13 F_X6_40 h6 rfl ?_
    refine v_callV (As := []) hc ho dX6_seen_16 KV_X6_169 KB_X2_seeCue hA.2.2.1 rfl rfl (c_X2_seeCue _ _ hA hk hk3 hI2) rfl (Nat.le_of_ble_eq_true rfl) ⟨by omega, by omega⟩ ⟨by omega, by omega⟩ (fun r3 h3 sz3 q3 z_ => ?_)
    obtain ⟨es_, s2, i2, hq3, hA3, hI3, hfr3⟩ := q3
    have es_ := es_.symm
    subst es_
    obtain ⟨rv, hrv⟩ : ∃ v, r3 = some (.int v) := by
      rcases hq3 with q | q
      · exact ⟨_, q.2.1⟩
      · exact ⟨_, q.2.1⟩
    subst hrv
    refine z_iret M dX6_seen_19 (by omega) (by omega) ?_
    have hlq : ∀ b, lb b ≠ 2 → ¬ (20 ≤ lb b ∧ lb b < 20 + n) → h3 b = h b := hfr3
    have hY2 : x_Y (s_G S) o6 P7 L n I A nf LN PI PR PB true mf SN SI SR SB i2 s2 lb O D ol al fo fa pt RA RB (.ref o2) h3 sz := ⟨hA3.1, hL.kept (fun b hb => hlq b (by omega) (by omega)), hF.kept (fun b hb => hlq b (by omega) (by omega)), (hlq o6 (by omega) (by omega)).trans h6, hl6, h7, Or.inr ⟨rfl, o2, sa, pr, pa, qt, QA, QB, rfl, hA3.2.1, hA3.2.2⟩⟩
    have h72 : ∀ b, P7 b → h3 b = h b := fun b hb => hlq b (by have := (h7 b hb).1; omega) (by have := (h7 b hb).1; omega)
    refine ⟨rfl, h72, i2, s2, ?_, by rw [hq1]; exact ⟨_, _, _, _, _, _, _, _, _, _, _, hY2⟩, fun _ => hI3⟩
    rcases hq3 with q | q
    · exact Or.inl ⟨fun w => q.1 w.2, q.2⟩
    · exact Or.inr ⟨⟨hq1, q.1⟩, q.2⟩
set_option maxHeartbeats 4000000 in
theorem c_X6_reel (l : Launch) (G : b_G) {h : b_H} {sz : Nat} {o6 : Nat} {P7 : Nat → Prop} {L n : Nat} {I : Nat → Nat → Int} {A : Nat → Nat → Nat → Int} {nf : Nat} {LN : Nat → Nat} {PI PR PB : Nat → Nat → Int} {hn : Bool} {mf : Nat} {SN : Nat → Nat} {SI SR SB : Nat → Nat → Int} {i s : Nat → Int} (hX : x_X G o6 P7 L n I A nf LN PI PR PB hn mf SN SI SR SB i s h sz) (hNI : hn = true → n_I mf SN SI i s) {x : Int} (hx : zb x) : Con l G yX6_reel cX6_reel 2 (some .int) 1 22 0 0 [.ref o6, .int (zI x)] h sz (fun r h2 s3 => s3 = sz ∧ (∀ b, P7 b → h2 b = h b) ∧ ∃ i2 s2, ((¬ (0 ≤ x ∧ x ≤ 1) ∧ r = some (.int (zI (-1))) ∧ s2 = s ∧ i2 = i) ∨ ((0 ≤ x ∧ x ≤ 1) ∧ ¬ hn = true ∧ r = some (.int (zI (-2))) ∧ s2 = s ∧ i2 = i) ∨ ((0 ≤ x ∧ x ≤ 1) ∧ hn = true ∧ r = some (.int (zI (i 12))) ∧ i2 12 = x ∧ n_ck i i2 [12] ∧ s2 = s)) ∧ x_X G o6 P7 L n I A nf LN PI PR PB hn mf SN SI SR SB i2 s2 h2 sz ∧ (hn = true → n_I mf SN SI i2 s2)) := by
  refine Con.ofK (by decide +kernel) rfl rfl ?_
  intro S M
  have hc := M.2.2.2.1
  have ho : s_own S = RX6 := M.2.2.1
  have hFr : (s_R S).frames = 1 := by rw [M.2.2.2.2.2.2.2.1]
  have hLo : (s_R S).locals = 22 := by rw [M.2.2.2.2.2.2.2.1]
  have hCe : (s_R S).cells = 0 := by rw [M.2.2.2.2.2.2.2.1]
  have hSl : (s_R S).slots = 0 := by rw [M.2.2.2.2.2.2.2.1]
  have hG : s_G S = G := M.2.1
  subst hG
  obtain ⟨lb, O, D, ol, al, fo, fa, pt, RA, RB, nv, hY⟩ := hX
  obtain ⟨hW, hL, hF, h6, hl6, h7, hN⟩ := id hY
  have hOf : r_O K1 1 (O 1) (D 1) (I 1) (A 1) h := (hW 1 x_is_1).1
  have hOd : r_O K0 0 (O 0) (D 0) (I 0) (A 0) h := (hW 0 x_is_0).1
  have hOp : r_O (K5 L) 5 (O 5) (D 5) (I 5) (A 5) h := (hW 5 x_is_5).1
  obtain ⟨mcl, hjo, -⟩ := id hL.1
  obtain ⟨mcf, hfo, -⟩ := id hF.1
  rcases hN with hN | hN
  · obtain ⟨hq1, rfl⟩ := hN
    refine v_iload_n hc dX6_reel_0 rfl ?_
    refine z_iconst hc dX6_reel_1 ?_
    refine z_iconst hc dX6_reel_2 ?_
    refine v_callS (As := [.int (zI (x)), .int (zI (0)), .int (zI (1))]) hc ho dX6_reel_3 KS_X6_44 KB_X6_within (c_X6_within _ _ (x := x) (y := 0) (z := 1) (by first | assumption | (unfold zb; omega)) (by first | assumption | (unfold zb; omega)) (by first | assumption | (unfold zb; omega))) rfl (Nat.le_of_ble_eq_true rfl) ⟨by omega, by omega⟩ ⟨by omega, by omega⟩ (fun r_ h_ sz_ q_ z_ => ?_)
    obtain ⟨rfl, eh_, es_⟩ := q_
    have eh_ := eh_.symm
    subst eh_
    have es_ := es_.symm
    subst es_
    have hx01 := bI_or (0 ≤ x ∧ x ≤ 1)
    generalize bI (0 ≤ x ∧ x ≤ 1) = bpx at hx01 ⊢
    refine z_if_ne (tgt := 11) hc dX6_reel_6 (by decide) (by first | assumption | exact hi _ | exact ha _ _ | (unfold zb; omega)) (fun c_1 => ?_) (fun c_1 => ?_)
    · refine v_aload_n hc dX6_reel_11 rfl ?_
      refine v_get hc ho dX6_reel_12 F_X6_40 h6 rfl ?_
      refine v_ifnonnullN hc dX6_reel_15 ?_
      refine z_bipush hc dX6_reel_18 (by decide) ?_
      refine v_goto (tgt := 31) hc dX6_reel_20 (by decide) ?_
      refine z_iret M dX6_reel_31 (by omega) (by omega) ?_
      exact ⟨rfl, fun _ _ => rfl, i, s, Or.inr (Or.inl ⟨by omega, by rw [hq1]; simp, rfl, rfl, rfl⟩), by rw [hq1] at hY ⊢; exact ⟨_, _, _, _, _, _, _, _, _, _, _, hY⟩, hNI⟩
    · refine z_iconst hc dX6_reel_9 ?_
      refine z_iret M dX6_reel_10 (by omega) (by omega) ?_
      exact ⟨rfl, fun _ _ => rfl, i, s, Or.inl ⟨by omega, rfl, rfl, rfl⟩, by rw [hq1] at hY ⊢; exact ⟨_, _, _, _, _, _, _, _, _, _, _, hY⟩, hNI⟩
  · obtain ⟨hq1, o2, sa, pr, pa, qt, QA, QB, rfl, hF2, hN2⟩ := hN
    have hI2 := hNI hq1
    have hA : n_A (s_G S) lb L n O D I A pr pa mf qt QA QB SN SI SR SB o2 sa (.ref (qt (i 3).toNat)) i s h := ⟨hW, hF2, hN2⟩
    obtain ⟨hn1, hn2, hn3, hn4, hn5, hn6, hn7, hn8, hn9, hn10, hn11, hn12⟩ := id hI2
    have hk : (i 3).toNat < mf := by omega
    have hk3 : i 3 = (((i 3).toNat : Nat) : Int) := by omega
    refine v_iload_n hc dX6_reel_0 rfl ?_
    refine z_iconst hc dX6_reel_1 ?_
    refine z_iconst hc dX6_reel_2 ?_
    refine v_callS (As := [.int (zI (x)), .int (zI (0)), .int (zI (1))]) hc ho dX6_reel_3 KS_X6_44 KB_X6_within (c_X6_within _ _ (x := x) (y := 0) (z := 1) (by first | assumption | (unfold zb; omega)) (by first | assumption | (unfold zb; omega)) (by first | assumption | (unfold zb; omega))) rfl (Nat.le_of_ble_eq_true rfl) ⟨by omega, by omega⟩ ⟨by omega, by omega⟩ (fun r_ h_ sz_ q_ z_ => ?_)
    obtain ⟨rfl, eh_, es_⟩ := q_
    have eh_ := eh_.symm
    subst eh_
    have es_ := es_.symm
    subst es_
    have hx01 := bI_or (0 ≤ x ∧ x ≤ 1)
    generalize bI (0 ≤ x ∧ x ≤ 1) = bpx at hx01 ⊢
    refine z_if_ne (tgt := 11) hc dX6_reel_6 (by decide) (by first | assumption | exact hi _ | exact ha _ _ | (unfold zb; omega)) (fun c_61 => ?_) (fun c_61 => ?_)
    · refine v_aload_n hc dX6_reel_11 rfl ?_
      refine v_get hc ho dX6_reel_12 F_X6_40 h6 rfl ?_
      refine v_ifnonnull (tgt := 23) hc dX6_reel_15 (by decide) ?_
      refine v_aload_n hc dX6_reel_23 rfl ?_
      refine v_get hc ho dX6_reel_24 F_X6_40 h6 rfl ?_
      refine v_iload_n hc dX6_reel_27 rfl ?_
      refine v_callV (As := [.int (zI x)]) hc ho dX6_reel_28 KV_X6_172 KB_X2_breakReel hA.2.2.1 rfl rfl (c_X2_breakReel _ _ hA hk hk3 hI2 (x := x) hx) rfl (Nat.le_of_ble_eq_true rfl) ⟨by omega, by omega⟩ ⟨by omega, by omega⟩ (fun r3 h3 sz3 q3 z_ => ?_)
      obtain ⟨rfl, es_, i2, hq3, hck3, hA3, hI3, hfr3⟩ := q3
      have es_ := es_.symm
      subst es_
      refine z_iret M dX6_reel_31 (by omega) (by omega) ?_
      have hlq : ∀ b, lb b ≠ 2 → ¬ (20 ≤ lb b ∧ lb b < 20 + n) → h3 b = h b := hfr3
      have hY2 : x_Y (s_G S) o6 P7 L n I A nf LN PI PR PB true mf SN SI SR SB i2 s lb O D ol al fo fa pt RA RB (.ref o2) h3 sz := ⟨hA3.1, hL.kept (fun b hb => hlq b (by omega) (by omega)), hF.kept (fun b hb => hlq b (by omega) (by omega)), (hlq o6 (by omega) (by omega)).trans h6, hl6, h7, Or.inr ⟨rfl, o2, sa, pr, pa, qt, QA, QB, rfl, hA3.2.1, hA3.2.2⟩⟩
      have h72 : ∀ b, P7 b → h3 b = h b := fun b hb => hlq b (by have := (h7 b hb).1; omega) (by have := (h7 b hb).1; omega)
      exact ⟨rfl, h72, i2, s, Or.inr (Or.inr ⟨by omega, hq1, rfl, by rw [hq3]; unfold bI; split <;> omega, hck3, rfl⟩), by rw [hq1]; exact ⟨_, _, _, _, _, _, _, _, _, _, _, hY2⟩, fun _ => hI3⟩
    · refine z_iconst hc dX6_reel_9 ?_
      refine z_iret M dX6_reel_10 (by omega) (by omega) ?_
      exact ⟨rfl, fun _ _ => rfl, i, s, Or.inl ⟨by omega, rfl, rfl, rfl⟩, by rw [hq1] at hY ⊢; exact ⟨_, _, _, _, _, _, _, _, _, _, _, hY⟩, hNI⟩
set_option maxHeartbeats 4000000 in
theorem c_X6_go (l : Launch) (G : b_G) {h : b_H} {sz : Nat} {o6 : Nat} {P7 : Nat → Prop} {L n : Nat} {I : Nat → Nat → Int} {A : Nat → Nat → Nat → Int} {nf : Nat} {LN : Nat → Nat} {PI PR PB : Nat → Nat → Int} {hn : Bool} {mf : Nat} {SN : Nat → Nat} {SI SR SB : Nat → Nat → Int} {i s : Nat → Int} (hX : x_X G o6 P7 L n I A nf LN PI PR PB hn mf SN SI SR SB i s h sz) (hNI : hn = true → n_I mf SN SI i s) {x : Int} (hx : zb x) (h7b : hn = true → i 7 ≤ 399000) (hpb : ∀ p, 0 ≤ I (p + 20) 5 ∧ I (p + 20) 5 ≤ 1999999000) : Con l G yX6_go cX6_go 2 (some .int) 7 148 0 0 [.ref o6, .int (zI x)] h sz (fun r h2 s3 => s3 = sz ∧ (∀ b, P7 b → h2 b = h b) ∧ ∃ I2 i2, ((¬ (1 ≤ x ∧ x ≤ 600) ∧ r = some (.int (zI (-1))) ∧ I2 = I ∧ i2 = i) ∨ ((1 ≤ x ∧ x ≤ 600) ∧ ¬ (hn = true ∧ i 11 = 0) ∧ r = some (.int (zI (-2))) ∧ I2 = I ∧ i2 = i) ∨ ((1 ≤ x ∧ x ≤ 600) ∧ (hn = true ∧ i 11 = 0) ∧ n_rn mf SN SI SB s x.toNat I i I2 i2 ∧ r = some (.int (zI (i2 7))))) ∧ x_X G o6 P7 L n I2 A nf LN PI PR PB hn mf SN SI SR SB i2 s h2 sz ∧ (hn = true → n_I mf SN SI i2 s)) := by
  refine Con.ofK (by decide +kernel) rfl rfl ?_
  intro S M
  have hc := M.2.2.2.1
  have ho : s_own S = RX6 := M.2.2.1
  have hFr : (s_R S).frames = 7 := by rw [M.2.2.2.2.2.2.2.1]
  have hLo : (s_R S).locals = 148 := by rw [M.2.2.2.2.2.2.2.1]
  have hCe : (s_R S).cells = 0 := by rw [M.2.2.2.2.2.2.2.1]
  have hSl : (s_R S).slots = 0 := by rw [M.2.2.2.2.2.2.2.1]
  have hG : s_G S = G := M.2.1
  subst hG
  obtain ⟨lb, O, D, ol, al, fo, fa, pt, RA, RB, nv, hY⟩ := hX
  obtain ⟨hW, hL, hF, h6, hl6, h7, hN⟩ := id hY
  have hOf : r_O K1 1 (O 1) (D 1) (I 1) (A 1) h := (hW 1 x_is_1).1
  have hOd : r_O K0 0 (O 0) (D 0) (I 0) (A 0) h := (hW 0 x_is_0).1
  have hOp : r_O (K5 L) 5 (O 5) (D 5) (I 5) (A 5) h := (hW 5 x_is_5).1
  obtain ⟨mcl, hjo, -⟩ := id hL.1
  obtain ⟨mcf, hfo, -⟩ := id hF.1
  rcases hN with hN | hN
  · obtain ⟨hq1, rfl⟩ := hN
    refine v_iload_n hc dX6_go_0 rfl ?_
    refine z_iconst hc dX6_go_1 ?_
    refine z_sipush hc dX6_go_2 (by decide) ?_
    refine v_callS (As := [.int (zI (x)), .int (zI (1)), .int (zI (600))]) hc ho dX6_go_5 KS_X6_44 KB_X6_within (c_X6_within _ _ (x := x) (y := 1) (z := 600) (by first | assumption | (unfold zb; omega)) (by first | assumption | (unfold zb; omega)) (by first | assumption | (unfold zb; omega))) rfl (Nat.le_of_ble_eq_true rfl) ⟨by omega, by omega⟩ ⟨by omega, by omega⟩ (fun r_ h_ sz_ q_ z_ => ?_)
    obtain ⟨rfl, eh_, es_⟩ := q_
    have eh_ := eh_.symm
    subst eh_
    have es_ := es_.symm
    subst es_
    have hx01 := bI_or (1 ≤ x ∧ x ≤ 600)
    generalize bI (1 ≤ x ∧ x ≤ 600) = bpx at hx01 ⊢
    refine z_if_ne (tgt := 13) hc dX6_go_8 (by decide) (by first | assumption | exact hi _ | exact ha _ _ | (unfold zb; omega)) (fun c_1 => ?_) (fun c_1 => ?_)
    · refine v_aload_n hc dX6_go_13 rfl ?_
      refine v_get hc ho dX6_go_14 F_X6_40 h6 rfl ?_
      refine v_ifnullN (tgt := 30) hc dX6_go_17 (by decide) ?_
      refine z_bipush hc dX6_go_30 (by decide) ?_
      refine z_iret M dX6_go_32 (by omega) (by omega) ?_
      exact ⟨rfl, fun _ _ => rfl, I, i, Or.inr (Or.inl ⟨by omega, by rw [hq1]; simp, rfl, rfl, rfl⟩), by rw [hq1] at hY ⊢; exact ⟨_, _, _, _, _, _, _, _, _, _, _, hY⟩, hNI⟩
    · refine z_iconst hc dX6_go_11 ?_
      refine z_iret M dX6_go_12 (by omega) (by omega) ?_
      exact ⟨rfl, fun _ _ => rfl, I, i, Or.inl ⟨by omega, rfl, rfl, rfl⟩, by rw [hq1] at hY ⊢; exact ⟨_, _, _, _, _, _, _, _, _, _, _, hY⟩, hNI⟩
  · obtain ⟨hq1, o2, sa, pr, pa, qt, QA, QB, rfl, hF2, hN2⟩ := hN
    have hI2 := hNI hq1
    have hA : n_A (s_G S) lb L n O D I A pr pa mf qt QA QB SN SI SR SB o2 sa (.ref (qt (i 3).toNat)) i s h := ⟨hW, hF2, hN2⟩
    obtain ⟨hn1, hn2, hn3, hn4, hn5, hn6, hn7, hn8, hn9, hn10, hn11, hn12⟩ := id hI2
    have hk : (i 3).toNat < mf := by omega
    have hk3 : i 3 = (((i 3).toNat : Nat) : Int) := by omega
    refine v_iload_n hc dX6_go_0 rfl ?_
    refine z_iconst hc dX6_go_1 ?_
    refine z_sipush hc dX6_go_2 (by decide) ?_
    refine v_callS (As := [.int (zI (x)), .int (zI (1)), .int (zI (600))]) hc ho dX6_go_5 KS_X6_44 KB_X6_within (c_X6_within _ _ (x := x) (y := 1) (z := 600) (by first | assumption | (unfold zb; omega)) (by first | assumption | (unfold zb; omega)) (by first | assumption | (unfold zb; omega))) rfl (Nat.le_of_ble_eq_true rfl) ⟨by omega, by omega⟩ ⟨by omega, by omega⟩ (fun r_ h_ sz_ q_ z_ => ?_)
    obtain ⟨rfl, eh_, es_⟩ := q_
    have eh_ := eh_.symm
    subst eh_
    have es_ := es_.symm
    subst es_
    have hx01 := bI_or (1 ≤ x ∧ x ≤ 600)
    generalize bI (1 ≤ x ∧ x ≤ 600) = bpx at hx01 ⊢
    refine z_if_ne (tgt := 13) hc dX6_go_8 (by decide) (by first | assumption | exact hi _ | exact ha _ _ | (unfold zb; omega)) (fun c_61 => ?_) (fun c_61 => ?_)
    · refine v_aload_n hc dX6_go_13 rfl ?_
      refine v_get hc ho dX6_go_14 F_X6_40 h6 rfl ?_
      refine v_ifnull hc dX6_go_17 ?_
      refine v_aload_n hc dX6_go_20 rfl ?_
      refine v_get hc ho dX6_go_21 F_X6_40 h6 rfl ?_
      refine v_callV (As := []) hc ho dX6_go_24 KV_X6_163 KB_X2_hasEnded hA.2.2.1 rfl rfl (c_X2_hasEnded _ _ hA hn10) rfl (Nat.le_of_ble_eq_true rfl) ⟨by omega, by omega⟩ ⟨by omega, by omega⟩ (fun r_ h_ sz_ q_ z_ => ?_)
      obtain ⟨rfl, eh_, es_⟩ := q_
      have eh_ := eh_.symm
      subst eh_
      have es_ := es_.symm
      subst es_
      refine z_if_eq (tgt := 33) hc dX6_go_27 (by decide) (by first | assumption | exact hi _ | exact ha _ _ | (unfold zb; omega)) (fun c_62 => ?_) (fun c_62 => ?_)
      · refine v_aload_n hc dX6_go_33 rfl ?_
        refine v_get hc ho dX6_go_34 F_X6_40 h6 rfl ?_
        refine v_iload_n hc dX6_go_37 rfl ?_
        refine v_callV (As := [.int (zI x)]) hc ho dX6_go_38 KV_X6_166 KB_X2_run hA.2.2.1 rfl rfl (c_X2_run _ _ hA hk hk3 (nn := x) (by omega) hI2 (by have := h7b hq1; omega) hpb) rfl (Nat.le_of_ble_eq_true rfl) ⟨by omega, by omega⟩ ⟨by omega, by omega⟩ (fun r3 h3 sz3 q3 z_ => ?_)
        obtain ⟨i2, rfl, es_, I2, hA3, hrn3, hI3, hfr3⟩ := q3
        have es_ := es_.symm
        subst es_
        refine z_iret M dX6_go_41 (by omega) (by omega) ?_
        have hlq : ∀ b, lb b ≠ 2 → ¬ (20 ≤ lb b ∧ lb b < 20 + n) → h3 b = h b := hfr3
        have hY2 : x_Y (s_G S) o6 P7 L n I2 A nf LN PI PR PB true mf SN SI SR SB i2 s lb O D ol al fo fa pt RA RB (.ref o2) h3 sz := ⟨hA3.1, hL.kept (fun b hb => hlq b (by omega) (by omega)), hF.kept (fun b hb => hlq b (by omega) (by omega)), (hlq o6 (by omega) (by omega)).trans h6, hl6, h7, Or.inr ⟨rfl, o2, sa, pr, pa, qt, QA, QB, rfl, hA3.2.1, hA3.2.2⟩⟩
        have h72 : ∀ b, P7 b → h3 b = h b := fun b hb => hlq b (by have := (h7 b hb).1; omega) (by have := (h7 b hb).1; omega)
        exact ⟨rfl, h72, I2, i2, Or.inr (Or.inr ⟨by omega, ⟨hq1, by omega⟩, hrn3, rfl⟩), by rw [hq1]; exact ⟨_, _, _, _, _, _, _, _, _, _, _, hY2⟩, fun _ => hI3⟩
      · refine z_bipush hc dX6_go_30 (by decide) ?_
        refine z_iret M dX6_go_32 (by omega) (by omega) ?_
        exact ⟨rfl, fun _ _ => rfl, I, i, Or.inr (Or.inl ⟨by omega, fun w => by omega, rfl, rfl, rfl⟩), by rw [hq1] at hY ⊢; exact ⟨_, _, _, _, _, _, _, _, _, _, _, hY⟩, hNI⟩
    · refine z_iconst hc dX6_go_11 ?_
      refine z_iret M dX6_go_12 (by omega) (by omega) ?_
      exact ⟨rfl, fun _ _ => rfl, I, i, Or.inl ⟨by omega, rfl, rfl, rfl⟩, by rw [hq1] at hY ⊢; exact ⟨_, _, _, _, _, _, _, _, _, _, _, hY⟩, hNI⟩
set_option maxHeartbeats 4000000 in
theorem c_X6_begin (l : Launch) (G : b_G) {h : b_H} {sz : Nat} {o6 : Nat} {P7 : Nat → Prop} {L n : Nat} {I : Nat → Nat → Int} {A : Nat → Nat → Nat → Int} {nf : Nat} {LN : Nat → Nat} {PI PR PB : Nat → Nat → Int} {hn : Bool} {mf : Nat} {SN : Nat → Nat} {SI SR SB : Nat → Nat → Int} {i s : Nat → Int} (hX : x_X G o6 P7 L n I A nf LN PI PR PB hn mf SN SI SR SB i s h sz) (hpb : ∀ p, 0 ≤ I (p + 20) 5 ∧ I (p + 20) 5 ≤ 2000000000) : Con l G yX6_begin cX6_begin 1 (some .int) 4 85 2 21 [.ref o6] h sz (fun r h2 s2 => (nf = 0 ∧ r = some (.int (zI (-2))) ∧ h2 = h ∧ s2 = sz ∧ x_X G o6 P7 L n I A nf LN PI PR PB hn mf SN SI SR SB i s h2 s2) ∨ (¬ nf = 0 ∧ r = some (.int (zI (nf : Int))) ∧ s2 = sz + 2 ∧ (∀ b, P7 b → h2 b = h b) ∧ ∃ i2 : Nat → Int, i2 4 = 0 ∧ i2 5 = 0 ∧ i2 6 = PB 0 0 ∧ n_ck (fun _ => 0) i2 [4, 5, 6] ∧ x_X G o6 P7 L n (n_pl I (PI 0 1)) A nf LN PI PR PB true nf LN PI PR PB i2 (fun _ => 0) h2 s2)) := by
  refine Con.ofK (by decide +kernel) rfl rfl ?_
  intro S M
  have hc := M.2.2.2.1
  have ho : s_own S = RX6 := M.2.2.1
  have hFr : (s_R S).frames = 4 := by rw [M.2.2.2.2.2.2.2.1]
  have hLo : (s_R S).locals = 85 := by rw [M.2.2.2.2.2.2.2.1]
  have hCe : (s_R S).cells = 2 := by rw [M.2.2.2.2.2.2.2.1]
  have hSl : (s_R S).slots = 21 := by rw [M.2.2.2.2.2.2.2.1]
  have hG : s_G S = G := M.2.1
  subst hG
  obtain ⟨lb, O, D, ol, al, fo, fa, pt, RA, RB, nv, hY⟩ := hX
  obtain ⟨hW, hL, hF, h6, hl6, h7, hN⟩ := id hY
  have hOf : r_O K1 1 (O 1) (D 1) (I 1) (A 1) h := (hW 1 x_is_1).1
  have hOd : r_O K0 0 (O 0) (D 0) (I 0) (A 0) h := (hW 0 x_is_0).1
  have hOp : r_O (K5 L) 5 (O 5) (D 5) (I 5) (A 5) h := (hW 5 x_is_5).1
  obtain ⟨mcl, hjo, -⟩ := id hL.1
  obtain ⟨mcf, hfo, -⟩ := id hF.1
  have hnf8 := hF.2.1
  refine v_aload_n hc dX6_begin_0 rfl ?_
  refine v_get hc ho dX6_begin_1 F_X6_37 h6 rfl ?_
  refine v_callV (As := []) hc ho dX6_begin_4 KV_X6_119 KB_Jx4a65c_isEmpty_aae02 hfo rfl rfl (c_Jx4a65c_isEmpty_aae02 _ _ hF.1) rfl (Nat.le_of_ble_eq_true rfl) ⟨by omega, by omega⟩ ⟨by omega, by omega⟩ (fun r_ h_ sz_ q_ z_ => ?_)
  obtain ⟨rfl, eh_, es_⟩ := q_
  have eh_ := eh_.symm
  subst eh_
  have es_ := es_.symm
  subst es_
  have hb01 := bI_or (nf = 0)
  generalize bI (nf = 0) = bp at hb01 ⊢
  refine z_if_eq (tgt := 13) hc dX6_begin_7 (by decide) (by first | assumption | exact hi _ | exact ha _ _ | (unfold zb; omega)) (fun c_1 => ?_) (fun c_1 => ?_)
  · refine v_aload_n hc dX6_begin_13 rfl ?_
    refine v_dom (fun hdom => ?_)
    refine x_new hc ho dX6_begin_14 NW_X6_158 (by omega) (by omega) (fun h1 e1 e2 => ?_)
    obtain ⟨lb2, hlb2⟩ : ∃ f : Nat → Nat, f = (fun b => if b < sz then lb b else 2) := ⟨_, rfl⟩
    have hl2 : ∀ b, h b ≠ none → lb2 b = lb b := fun b hb => by rw [hlb2]; exact if_pos (hdom b hb)
    have he2 : ∀ b, h b ≠ none → h1 b = h b := fun b hb => e2 b (by have := hdom b hb; omega)
    have hW1 : x_W lb2 L n O D I A h1 := hW.kept2 (fun b hb _ => ⟨he2 b hb, hl2 b hb⟩)
    have hL1 : p_L (s_G S) lb2 n O ol al h1 := hL.kept2 (fun b hb q => ⟨he2 b hb, (hl2 b hb).trans q⟩)
    have hF1 : f_W (s_G S) lb2 n O fo fa nf pt RA RB LN PI PR PB h1 := hF.kept2 (fun b hb q => ⟨he2 b hb, (hl2 b hb).trans q⟩) (Nat.le_refl n) (fun _ _ => rfl)
    have h6n : h o6 ≠ none := by rw [h6]; exact fun e => by cases e
    have h61 := (he2 o6 h6n).trans h6
    have hl61 : lb2 o6 = 6 := (hl2 o6 h6n).trans hl6
    have hz1 : lb2 sz = 2 := by rw [hlb2]; exact if_neg (by omega)
    have hz2 : lb2 (sz + 1) = 2 := by rw [hlb2]; exact if_neg (by omega)
    have ho6 : o6 < sz := hdom o6 h6n
    obtain ⟨mcg, hfo1, -⟩ := id hF1.1
    have hpt := hF1.2.2.2.2.2 0 (by omega)
    refine v_dup hc dX6_begin_17 rfl ?_
    refine v_aload_n hc dX6_begin_18 rfl ?_
    refine v_get hc ho dX6_begin_19 F_X6_37 h61 rfl ?_
    refine v_aload_n hc dX6_begin_22 rfl ?_
    refine v_get hc ho dX6_begin_23 F_X6_37 h61 rfl ?_
    refine z_iconst hc dX6_begin_26 ?_
    refine v_callV (As := [.int (zI 0)]) hc ho dX6_begin_27 KV_X6_139 KB_Jx4a65c_get_915e3 hfo1 rfl rfl (c_Jx4a65c_get_915e3 _ _ hF1.1 (x := 0) (by omega)) rfl (Nat.le_of_ble_eq_true rfl) ⟨by omega, by omega⟩ ⟨by omega, by omega⟩ (fun r_ h_ sz_ q_ z_ => ?_)
    obtain ⟨rfl, eh_, es_⟩ := q_
    have eh_ := eh_.symm
    subst eh_
    have es_ := es_.symm
    subst es_
    refine v_cast hc ho dX6_begin_30 rfl CLk_X6_143 hpt.1.1 ?_
    refine v_callI (As := [.ref fo, .ref (pt 0)]) hc ho dX6_begin_33 KI_X6_160 KB_X2_init (c_X2_init (sa := 0) (i := fun _ => 0) (s := fun _ => 0) _ _ hW1 hF1 e1 (by omega) hz1 hz2 (by omega) (hpb _)) rfl (Nat.le_of_ble_eq_true rfl) ⟨by omega, by omega⟩ ⟨by omega, by omega⟩ (fun r3 h3 sz3 q3 z_ => ?_)
    obtain ⟨rfl, rfl, i2, hA3, g4, g5, g6, gck, hfr3⟩ := q3
    have h63 := (hfr3 o6 (by omega) (by omega) (by omega)).trans h61
    refine x_put hc ho dX6_begin_36 F_X6_40 h63 rfl ⟨rfl, rfl⟩ (fun h4 e3 e4 => ?_)
    have e4l : ∀ b, lb2 b ≠ 6 → h4 b = h3 b := fun b hb => e4 b (fun q => hb (by rw [q]; exact hl61))
    have hF4 := hA3.2.1.kept (h1 := h4) (fun b hb => e4l b (by omega))
    obtain ⟨mch, hfo4, -⟩ := id hF4.1
    skip
    refine v_aload_n hc dX6_begin_39 rfl ?_
    refine v_get hc ho dX6_begin_40 F_X6_37 e3 rfl ?_
    refine v_callV (As := []) hc ho dX6_begin_43 KV_X6_79 KB_Jx4a65c_size_8abf5 hfo4 rfl rfl (c_Jx4a65c_size_8abf5 _ _ hF4.1) rfl (Nat.le_of_ble_eq_true rfl) ⟨by omega, by omega⟩ ⟨by omega, by omega⟩ (fun r_ h_ sz_ q_ z_ => ?_)
    obtain ⟨rfl, eh_, es_⟩ := q_
    have eh_ := eh_.symm
    subst eh_
    have es_ := es_.symm
    subst es_
    refine z_iret M dX6_begin_46 (by omega) (by omega) ?_
    refine Or.inr ⟨by omega, rfl, rfl, fun b hb => ?_, i2, g4, g5, g6, gck, ⟨lb2, O, D, ol, al, fo, fa, pt, RA, RB, .ref sz, ?_⟩⟩
    · have := h7 b hb
      have hb2 : lb2 b = 7 := by rw [hlb2]; show (if b < sz then lb b else 2) = 7; rw [if_pos this.2]; exact this.1
      rw [e4l b (by omega), hfr3 b (by omega) (by omega) (by omega)]
      exact e2 b (by omega)
    · refine ⟨hA3.1.kept (fun b hb => e4l b (fun q => by rw [q] at hb; exact x_is_no (Or.inr (Or.inl rfl)) hb)), ?_, hF4, e3, hl61, fun b hb => ?_, Or.inr ⟨rfl, sz, sz + 1, fo, fa, pt, RA, RB, rfl, hF4, ?_⟩⟩
      · refine hL1.kept (fun b hb => (e4l b (by omega)).trans ?_)
        by_cases q : b < sz + 1
        · exact hfr3 b q (by omega) (by omega)
        · rw [hlb2] at hb; have hb3 : (if b < sz then lb b else 2) = 10 := hb; rw [if_neg (by omega)] at hb3; omega
      · have := h7 b hb
        exact ⟨by rw [hlb2]; show (if b < sz then lb b else 2) = 7; rw [if_pos this.2]; exact this.1, by omega⟩
      · have h3z : i2 3 = 0 := gck 3 (by decide)
        rw [h3z]
        exact hA3.2.2.kept (fun b hb => e4l b (by omega))
  · refine z_bipush hc dX6_begin_10 (by decide) ?_
    refine z_iret M dX6_begin_12 (by omega) (by omega) ?_
    rcases hb01 with q | q
    · exact Or.inl ⟨q.2, rfl, rfl, rfl, ⟨_, _, _, _, _, _, _, _, _, _, _, hY⟩⟩
    · omega
