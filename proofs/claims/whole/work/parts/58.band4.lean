/-! the class: a new piece, a new object -/
theorem x_ix4 {sz b : Nat} (h : r_own K4 sz (fun k => sz + 1 + r_ix K4 k) b) : sz ≤ b ∧ b < sz + 5 := by
  rcases h with q | ⟨k, p, hk, q⟩
  · omega
  · have h1 : k < 14 := by
      rcases Nat.lt_or_ge k 14 with u | u
      · exact u
      · rw [List.getElem?_eq_none (by show 14 ≤ k; exact u)] at hk; cases hk
    have key : ∀ k : Fin 14, r_ix K4 k.val < 4 := by decide
    have := key ⟨k, h1⟩
    show sz ≤ b ∧ b < sz + 5
    have e : b = sz + 1 + r_ix K4 k := q
    have e2 : r_ix K4 k < 4 := this
    omega
theorem x_W.add {lb : Nat → Nat} {L n : Nat} {O : Nat → Nat} {D : Nat → Nat → Nat} {I : Nat → Nat → Int} {A : Nat → Nat → Nat → Int} {h : b_H} (hW : x_W lb L n O D I A h) {o : Nat} {ad : Nat → Nat} {i : Nat → Int} {a : Nat → Nat → Int} (hO : r_O K4 4 o ad i a h) (hl : ∀ b, r_own K4 o ad b → lb b = n + 20) : x_W lb L (n + 1) (b_up O (n + 20) o) (b_up D (n + 20) ad) (b_up I (n + 20) i) (b_up A (n + 20) a) h := fun t ht => by
  by_cases e : t = n + 20
  · subst e
    rw [b_up_eq, b_up_eq, b_up_eq, b_up_eq]
    exact ⟨hO, hl⟩
  · rw [b_up_ne _ _ e, b_up_ne _ _ e, b_up_ne _ _ e, b_up_ne _ _ e]
    refine hW t ?_
    rcases ht with q | q | q | q
    · exact Or.inl q
    · exact Or.inr (Or.inl q)
    · exact Or.inr (Or.inr (Or.inl q))
    · exact Or.inr (Or.inr (Or.inr ⟨q.1, by omega⟩))

set_option maxHeartbeats 4000000 in
theorem c_X6_piece (l : Launch) (G : b_G) {h : b_H} {sz : Nat} {o6 : Nat} {P7 : Nat → Prop} {L n : Nat} {I : Nat → Nat → Int} {A : Nat → Nat → Nat → Int} {nf : Nat} {LN : Nat → Nat} {PI PR PB : Nat → Nat → Int} {hn : Bool} {mf : Nat} {SN : Nat → Nat} {SI SR SB : Nat → Nat → Int} {i s : Nat → Int} (hX : x_X G o6 P7 L n I A nf LN PI PR PB hn mf SN SI SR SB i s h sz) (hn12 : n ≤ 12) {x y z u : Int} (hx : zb x) (hy : zb y) (hz : zb z) (hu : zb u) : Con l G yX6_piece cX6_piece 9 (some .int) 8 294 6 4714 [.ref o6, .int (zI x), .int (zI y), .int (zI z), .int (zI u)] h sz (fun r h2 s2 => (¬ p_ok x y z u ∧ r = some (.int (zI (-1))) ∧ h2 = h ∧ s2 = sz) ∨ (p_ok x y z u ∧ n = 12 ∧ r = some (.int (zI (-3))) ∧ h2 = h ∧ s2 = sz) ∨ (p_ok x y z u ∧ n < 12 ∧ r = some (.int (zI (n : Int))) ∧ sz ≤ s2 ∧ (∀ b, P7 b → h2 b = h b) ∧ ∃ a3, q_J (fun k => if k = 0 then x / 100 else if k = 1 then x % 100 else if k = 2 then bI (z = 1) else if k = 3 then u else if k = 6 then y / 1000 else if k = 7 then y % 1000 else 0) a3 ∧ x_X G o6 P7 L (n + 1) (b_up I (n + 20) (fun k => if k = 0 then x / 100 else if k = 1 then x % 100 else if k = 2 then bI (z = 1) else if k = 3 then u else if k = 6 then y / 1000 else if k = 7 then y % 1000 else 0)) (b_up A (n + 20) a3) nf LN PI PR PB hn mf SN SI SR SB i s h2 s2)) := by
  refine Con.ofK (by decide +kernel) rfl rfl ?_
  intro S M
  have hc := M.2.2.2.1
  have ho : s_own S = RX6 := M.2.2.1
  have hFr : (s_R S).frames = 8 := by rw [M.2.2.2.2.2.2.2.1]
  have hLo : (s_R S).locals = 294 := by rw [M.2.2.2.2.2.2.2.1]
  have hCe : (s_R S).cells = 6 := by rw [M.2.2.2.2.2.2.2.1]
  have hSl : (s_R S).slots = 4714 := by rw [M.2.2.2.2.2.2.2.1]
  have hG : s_G S = G := M.2.1
  subst hG
  obtain ⟨lb, O, D, ol, al, fo, fa, pt, RA, RB, nv, hY⟩ := hX
  obtain ⟨hW, hL, hF, h6, hl6, h7, hN⟩ := id hY
  have hOf : r_O K1 1 (O 1) (D 1) (I 1) (A 1) h := (hW 1 x_is_1).1
  have hOd : r_O K0 0 (O 0) (D 0) (I 0) (A 0) h := (hW 0 x_is_0).1
  have hOp : r_O (K5 L) 5 (O 5) (D 5) (I 5) (A 5) h := (hW 5 x_is_5).1
  obtain ⟨mcl, hjo, -⟩ := id hL.1
  obtain ⟨mcf, hfo, -⟩ := id hF.1
  obtain ⟨hx1, hx2⟩ := id hx
  obtain ⟨hy1, hy2⟩ := id hy
  refine v_iload_n hc dX6_piece_0 rfl ?_
  refine z_if_lt (tgt := 29) hc dX6_piece_1 (by decide) (by first | assumption | exact hi _ | exact ha _ _ | (unfold zb; omega)) (fun c_1 => ?_) (fun c_1 => ?_)
  · refine z_iconst hc dX6_piece_29 ?_
    refine z_iret M dX6_piece_30 (by omega) (by omega) ?_
    exact Or.inl ⟨by unfold p_ok; omega, rfl, rfl, rfl⟩
  · refine v_iload_n hc dX6_piece_4 rfl ?_
    refine z_if_lt (tgt := 29) hc dX6_piece_5 (by decide) (by first | assumption | exact hi _ | exact ha _ _ | (unfold zb; omega)) (fun c_2 => ?_) (fun c_2 => ?_)
    · refine z_iconst hc dX6_piece_29 ?_
      refine z_iret M dX6_piece_30 (by omega) (by omega) ?_
      exact Or.inl ⟨by unfold p_ok; omega, rfl, rfl, rfl⟩
    · refine v_iload_n hc dX6_piece_8 rfl ?_
      refine z_iconst hc dX6_piece_9 ?_
      refine z_iconst hc dX6_piece_10 ?_
      refine v_callS (As := [.int (zI (z)), .int (zI (0)), .int (zI (1))]) hc ho dX6_piece_11 KS_X6_44 KB_X6_within (c_X6_within _ _ (x := z) (y := 0) (z := 1) (by first | assumption | (unfold zb; omega)) (by first | assumption | (unfold zb; omega)) (by first | assumption | (unfold zb; omega))) rfl (Nat.le_of_ble_eq_true rfl) ⟨by omega, by omega⟩ ⟨by omega, by omega⟩ (fun r_ h_ sz_ q_ z_ => ?_)
      obtain ⟨rfl, eh_, es_⟩ := q_
      have eh_ := eh_.symm
      subst eh_
      have es_ := es_.symm
      subst es_
      have hz01 := bI_or (0 ≤ z ∧ z ≤ 1)
      generalize bI (0 ≤ z ∧ z ≤ 1) = bpz at hz01 ⊢
      refine z_if_eq (tgt := 29) hc dX6_piece_14 (by decide) (by first | assumption | exact hi _ | exact ha _ _ | (unfold zb; omega)) (fun c_3 => ?_) (fun c_3 => ?_)
      · refine z_iconst hc dX6_piece_29 ?_
        refine z_iret M dX6_piece_30 (by omega) (by omega) ?_
        exact Or.inl ⟨by unfold p_ok; omega, rfl, rfl, rfl⟩
      · refine v_iload hc dX6_piece_17 rfl ?_
        refine z_iconst hc dX6_piece_19 ?_
        refine z_sipush hc dX6_piece_20 (by decide) ?_
        refine v_callS (As := [.int (zI (u)), .int (zI (0)), .int (zI (999))]) hc ho dX6_piece_23 KS_X6_44 KB_X6_within (c_X6_within _ _ (x := u) (y := 0) (z := 999) (by first | assumption | (unfold zb; omega)) (by first | assumption | (unfold zb; omega)) (by first | assumption | (unfold zb; omega))) rfl (Nat.le_of_ble_eq_true rfl) ⟨by omega, by omega⟩ ⟨by omega, by omega⟩ (fun r_ h_ sz_ q_ z_ => ?_)
        obtain ⟨rfl, eh_, es_⟩ := q_
        have eh_ := eh_.symm
        subst eh_
        have es_ := es_.symm
        subst es_
        have hu01 := bI_or (0 ≤ u ∧ u ≤ 999)
        generalize bI (0 ≤ u ∧ u ≤ 999) = bpu at hu01 ⊢
        refine z_if_ne (tgt := 31) hc dX6_piece_26 (by decide) (by first | assumption | exact hi _ | exact ha _ _ | (unfold zb; omega)) (fun c_4 => ?_) (fun c_4 => ?_)
        · refine v_iload_n hc dX6_piece_31 rfl ?_
          refine z_bipush hc dX6_piece_32 (by decide) ?_
          refine z_idivN hc dX6_piece_34 (by first | assumption | exact hi _ | exact ha _ _ | (unfold zb; omega)) (by first | assumption | exact hi _ | exact ha _ _ | (unfold zb; omega)) (by omega) (by omega) ?_
          refine v_istore hc dX6_piece_35 (Nat.le_of_ble_eq_true rfl) ?_
          refine v_iload_n hc dX6_piece_37 rfl ?_
          refine z_bipush hc dX6_piece_38 (by decide) ?_
          refine z_iremN hc dX6_piece_40 (by first | assumption | exact hi _ | exact ha _ _ | (unfold zb; omega)) (by first | assumption | exact hi _ | exact ha _ _ | (unfold zb; omega)) (by omega) (by omega) ?_
          refine v_istore hc dX6_piece_41 (Nat.le_of_ble_eq_true rfl) ?_
          refine v_iload_n hc dX6_piece_43 rfl ?_
          refine z_sipush hc dX6_piece_44 (by decide) ?_
          refine z_idivN hc dX6_piece_47 (by first | assumption | exact hi _ | exact ha _ _ | (unfold zb; omega)) (by first | assumption | exact hi _ | exact ha _ _ | (unfold zb; omega)) (by omega) (by omega) ?_
          refine v_istore hc dX6_piece_48 (Nat.le_of_ble_eq_true rfl) ?_
          refine v_iload_n hc dX6_piece_50 rfl ?_
          refine z_sipush hc dX6_piece_51 (by decide) ?_
          refine z_iremN hc dX6_piece_54 (by first | assumption | exact hi _ | exact ha _ _ | (unfold zb; omega)) (by first | assumption | exact hi _ | exact ha _ _ | (unfold zb; omega)) (by omega) (by omega) ?_
          refine v_istore hc dX6_piece_55 (Nat.le_of_ble_eq_true rfl) ?_
          refine v_iload hc dX6_piece_57 rfl ?_
          refine z_bipush hc dX6_piece_59 (by decide) ?_
          refine z_icmp_ge (tgt := 75) hc dX6_piece_61 (by decide) (by first | assumption | exact hi _ | exact ha _ _ | (unfold zb; omega)) (by first | assumption | exact hi _ | exact ha _ _ | (unfold zb; omega)) (fun c_5 => ?_) (fun c_5 => ?_)
          · refine z_iconst hc dX6_piece_75 ?_
            refine z_iret M dX6_piece_76 (by omega) (by omega) ?_
            exact Or.inl ⟨by unfold p_ok; omega, rfl, rfl, rfl⟩
          · refine v_iload hc dX6_piece_64 rfl ?_
            refine z_iconst hc dX6_piece_66 ?_
            refine z_bipush hc dX6_piece_67 (by decide) ?_
            refine v_callS (As := [.int (zI (x % 100)), .int (zI (1)), .int (zI (63))]) hc ho dX6_piece_69 KS_X6_44 KB_X6_within (c_X6_within _ _ (x := x % 100) (y := 1) (z := 63) (by first | assumption | (unfold zb; omega)) (by first | assumption | (unfold zb; omega)) (by first | assumption | (unfold zb; omega))) rfl (Nat.le_of_ble_eq_true rfl) ⟨by omega, by omega⟩ ⟨by omega, by omega⟩ (fun r_ h_ sz_ q_ z_ => ?_)
            obtain ⟨rfl, eh_, es_⟩ := q_
            have eh_ := eh_.symm
            subst eh_
            have es_ := es_.symm
            subst es_
            have hm01 := bI_or (1 ≤ x % 100 ∧ x % 100 ≤ 63)
            generalize bI (1 ≤ x % 100 ∧ x % 100 ≤ 63) = bpm at hm01 ⊢
            refine z_if_ne (tgt := 77) hc dX6_piece_72 (by decide) (by first | assumption | exact hi _ | exact ha _ _ | (unfold zb; omega)) (fun c_6 => ?_) (fun c_6 => ?_)
            · refine v_iload hc dX6_piece_77 rfl ?_
              refine z_bipush hc dX6_piece_79 (by decide) ?_
              refine z_icmp_lt (tgt := 99) hc dX6_piece_81 (by decide) (by first | assumption | exact hi _ | exact ha _ _ | (unfold zb; omega)) (by first | assumption | exact hi _ | exact ha _ _ | (unfold zb; omega)) (fun c_7 => ?_) (fun c_7 => ?_)
              · refine z_iconst hc dX6_piece_99 ?_
                refine z_iret M dX6_piece_100 (by omega) (by omega) ?_
                exact Or.inl ⟨by unfold p_ok; omega, rfl, rfl, rfl⟩
              · refine v_iload hc dX6_piece_84 rfl ?_
                refine v_iload hc dX6_piece_86 rfl ?_
                refine z_icmp_gt (tgt := 99) hc dX6_piece_88 (by decide) (by first | assumption | exact hi _ | exact ha _ _ | (unfold zb; omega)) (by first | assumption | exact hi _ | exact ha _ _ | (unfold zb; omega)) (fun c_8 => ?_) (fun c_8 => ?_)
                · refine z_iconst hc dX6_piece_99 ?_
                  refine z_iret M dX6_piece_100 (by omega) (by omega) ?_
                  exact Or.inl ⟨by unfold p_ok; omega, rfl, rfl, rfl⟩
                · refine v_iload hc dX6_piece_91 rfl ?_
                  refine z_sipush hc dX6_piece_93 (by decide) ?_
                  refine z_icmp_le (tgt := 101) hc dX6_piece_96 (by decide) (by first | assumption | exact hi _ | exact ha _ _ | (unfold zb; omega)) (by first | assumption | exact hi _ | exact ha _ _ | (unfold zb; omega)) (fun c_9 => ?_) (fun c_9 => ?_)
                  · refine v_aload_n hc dX6_piece_101 rfl ?_
                    refine v_get hc ho dX6_piece_102 F_X6_19 h6 rfl ?_
                    refine v_callV (As := []) hc ho dX6_piece_105 KV_X6_79 KB_Jx4a65c_size_8abf5 hjo rfl rfl (c_Jx4a65c_size_8abf5 _ _ hL.1) rfl (Nat.le_of_ble_eq_true rfl) ⟨by omega, by omega⟩ ⟨by omega, by omega⟩ (fun r_ h_ sz_ q_ z_ => ?_)
                    obtain ⟨rfl, eh_, es_⟩ := q_
                    have eh_ := eh_.symm
                    subst eh_
                    have es_ := es_.symm
                    subst es_
                    refine z_bipush hc dX6_piece_108 (by decide) ?_
                    refine z_icmp_lt (tgt := 116) hc dX6_piece_110 (by decide) (by first | assumption | exact hi _ | exact ha _ _ | (unfold zb; omega)) (by first | assumption | exact hi _ | exact ha _ _ | (unfold zb; omega)) (fun c_10 => ?_) (fun c_10 => ?_)
                    · refine v_aload_n hc dX6_piece_116 rfl ?_
                      refine v_get hc ho dX6_piece_117 F_X6_19 h6 rfl ?_
                      refine v_dom (fun hdom => ?_)
                      refine x_new hc ho dX6_piece_120 NW_X6_82 (by omega) (by omega) (fun h1 e1 e2 => ?_)
                      refine v_dup hc dX6_piece_123 rfl ?_
                      refine v_iload hc dX6_piece_124 rfl ?_
                      refine v_iload hc dX6_piece_126 rfl ?_
                      refine v_iload hc dX6_piece_128 rfl ?_
                      refine v_iload hc dX6_piece_130 rfl ?_
                      refine v_iload_n hc dX6_piece_132 rfl ?_
                      refine z_iconst hc dX6_piece_133 ?_
                      refine z_icmp_ne (tgt := 141) hc dX6_piece_134 (by decide) (by first | assumption | exact hi _ | exact ha _ _ | (unfold zb; omega)) (by first | assumption | exact hi _ | exact ha _ _ | (unfold zb; omega)) (fun c_11 => ?_) (fun c_11 => ?_)
                      · refine z_iconst hc dX6_piece_141 ?_
                        refine v_iload hc dX6_piece_142 rfl ?_
                        refine v_callI (As := [.int (zI (x / 100)), .int (zI (x % 100)), .int (zI (y / 1000)), .int (zI (y % 1000)), .int (zI 0), .int (zI u)]) hc ho dX6_piece_144 KI_X6_84 KB_X4_init (c_X4_init _ _ (x := x / 100) (y := x % 100) (z := y / 1000) (t := y % 1000) (u := 0) (v := u) e1 (by omega) (by omega) (by omega) (by omega) (Or.inl rfl) (by omega)) rfl (Nat.le_of_ble_eq_true rfl) ⟨by omega, by omega⟩ ⟨by omega, by omega⟩ (fun r3 h3 sz3 q3 z_ => ?_)
                        obtain ⟨rfl, rfl, ⟨a3, hO3, hJ3⟩, hfr3⟩ := q3
                        have hcl : ∀ b, h b ≠ none → h3 b = h b := fun b hb => (hfr3 b (by have := hdom b hb; omega) (by have := hdom b hb; omega)).trans (e2 b (by have := hdom b hb; omega))
                        have hnl := hL.1.nn
                        have hjl3 : j_L (s_G S) ol al n (fun p => O (p + 20)) h3 := by
                          by_cases e : n = 0
                          · obtain ⟨mcq, q1, q2, q3⟩ := id hL.1
                            exact ⟨mcq, (hcl ol hnl.1).trans q1, q2, Or.inl ⟨e, hL.2.2.1 e⟩⟩
                          · exact hL.1.kept (hcl ol hnl.1) (fun _ => hcl al (hnl.2 e))
                        have hol := hdom ol hnl.1
                        obtain ⟨mc3, hlo3, -⟩ := id hjl3
                        refine v_callV (As := [.ref sz]) hc ho dX6_piece_147 KV_X6_87 KB_Jx4a65c_add_9ea2d hlo3 rfl rfl (c_Jx4a65c_add_9ea2d _ _ hjl3 (v := sz) hL.2.2.1 (by omega) (by omega) (ci := 4) rfl CA4 (by decide) (fun j hj => ⟨_, (hcl _ (by rw [(hW.pc hj).1]; exact fun e => (by cases e))).trans (hW.pc hj).1⟩) hO3.1 (by omega)) rfl (Nat.le_of_ble_eq_true rfl) ⟨by omega, by omega⟩ ⟨by omega, by omega⟩ (fun r4 h4 sz4 q4 z_ => ?_)
                        obtain ⟨rfl, al2, hq4, hj4, hfr4⟩ := q4
                        have hsz4 : sz + 5 ≤ sz4 := by rcases hq4 with q | q <;> omega
                        have hall : ∀ b, h b ≠ none → lb b ≠ 10 → h4 b = h b := fun b hb q => by
                          have hbz := hdom b hb
                          refine (hfr4 b (fun e => q (by rw [e]; exact hL.2.1)) (fun e => ?_)).trans (hcl b hb)
                          rcases hq4 with ⟨u1, u2, u3⟩ | ⟨u1, u2⟩
                          · exact q (by rw [e, u1]; exact hL.2.2.2 u3)
                          · omega
                        have h6n : h o6 ≠ none := by rw [h6]; exact fun e => (by cases e)
                        have h64 := (hall o6 h6n (by omega)).trans h6
                        obtain ⟨mc4, hlo4, -⟩ := id hj4
                        refine v_pop hc dX6_piece_150 rfl ?_
                        refine v_aload_n hc dX6_piece_151 rfl ?_
                        refine v_get hc ho dX6_piece_152 F_X6_19 h64 rfl ?_
                        refine v_callV (As := []) hc ho dX6_piece_155 KV_X6_79 KB_Jx4a65c_size_8abf5 hlo4 rfl rfl (c_Jx4a65c_size_8abf5 _ _ hj4) rfl (Nat.le_of_ble_eq_true rfl) ⟨by omega, by omega⟩ ⟨by omega, by omega⟩ (fun r_ h_ sz_ q_ z_ => ?_)
                        obtain ⟨rfl, eh_, es_⟩ := q_
                        have eh_ := eh_.symm
                        subst eh_
                        have es_ := es_.symm
                        subst es_
                        refine z_iconst hc dX6_piece_158 ?_
                        refine z_isub hc dX6_piece_159 ?_
                        refine z_iret M dX6_piece_160 (by omega) (by omega) ?_
                        obtain ⟨lb2, hlb2⟩ : ∃ f : Nat → Nat, f = (fun b => if b < sz then lb b else if b < sz + 5 then n + 20 else 10) := ⟨_, rfl⟩
                        have hl2 : ∀ b, b < sz → lb2 b = lb b := fun b hb => by rw [hlb2]; exact if_pos hb
                        have hln : ∀ b, sz ≤ b → b < sz + 5 → lb2 b = n + 20 := fun b q1 q2 => by rw [hlb2]; show (if b < sz then lb b else if b < sz + 5 then n + 20 else 10) = n + 20; rw [if_neg (by omega), if_pos q2]
                        have hlt : ∀ b, sz + 5 ≤ b → lb2 b = 10 := fun b q1 => by rw [hlb2]; show (if b < sz then lb b else if b < sz + 5 then n + 20 else 10) = 10; rw [if_neg (by omega), if_neg (by omega)]
                        have ebz : bI (z = 1) = (0 : Int) := by unfold bI; first | exact if_pos (by omega) | exact if_neg (by omega)
                        have hO4 : r_O K4 4 sz (fun k => sz + 1 + r_ix K4 k) (fun k => if k = 0 then x / 100 else if k = 1 then x % 100 else if k = 2 then bI (z = 1) else if k = 3 then u else if k = 6 then y / 1000 else if k = 7 then y % 1000 else 0) a3 h4 := by rw [ebz]; exact hO3.kept (fun b hb => by
                          have := x_ix4 hb
                          refine hfr4 b (by omega) ?_
                          rcases hq4 with ⟨u1, u2, u3⟩ | ⟨u1, u2⟩
                          · have := hdom al (hnl.2 u3); omega
                          · omega)
                        have hWn := (hW.kept2 (h1 := h4) (lb2 := lb2) (fun b hb q => ⟨hall b hb (fun e => by rw [e] at q; exact x_is_no (Or.inr (Or.inr (Or.inr (Or.inr rfl)))) q), hl2 b (hdom b hb)⟩)).add hO4 (fun b hb => hln b (x_ix4 hb).1 (x_ix4 hb).2)
                        have hOe : ∀ p, p < n → b_up O (n + 20) sz (p + 20) = O (p + 20) := fun p hp => b_up_ne _ _ (by omega)
                        have hO20 : b_up O (n + 20) sz 0 = O 0 ∧ b_up O (n + 20) sz 1 = O 1 ∧ b_up O (n + 20) sz 5 = O 5 := ⟨b_up_ne _ _ (by omega), b_up_ne _ _ (by omega), b_up_ne _ _ (by omega)⟩
                        refine Or.inr (Or.inr ⟨by unfold p_ok; omega, by omega, by rw [show (((n + 1 : Nat) : Int) - 1) = (n : Int) by omega], by omega, fun b hb => ?_, a3, ?_, ⟨lb2, _, _, ol, al2, fo, fa, pt, RA, RB, nv, hWn, ⟨hj4.cong (fun j hj => ?_), (hl2 ol hol).trans hL.2.1, fun e => by omega, fun _ => ?_⟩, hF.kept2 (fun b hb q => ⟨hall b hb (by omega), (hl2 b (hdom b hb)).trans q⟩) (by omega) hOe, by rw [hO20.1, hO20.2.1, hO20.2.2]; exact h64, (hl2 o6 (hdom o6 h6n)).trans hl6, fun b hb => ?_, ?_⟩⟩)
                        · by_cases e : h b = none
                          · -- a cell that the world doesn't have: nothing of it is written
                            have hb7 := h7 b hb
                            refine (hfr4 b (fun q => ?_) (fun q => ?_)).trans ((hfr3 b (by omega) (by omega)).trans (e2 b (by omega)))
                            · rw [q, hL.2.1] at hb7; omega
                            · rcases hq4 with ⟨u1, u2, u3⟩ | ⟨u1, u2⟩
                              · rw [q, u1, hL.2.2.2 u3] at hb7; omega
                              · omega
                          · exact hall b e (by have := (h7 b hb).1; omega)
                        · rw [show bI (z = 1) = (0 : Int) by unfold bI; first | exact if_pos (by omega) | exact if_neg (by omega)]; exact hJ3
                        · by_cases e : j = n
                          · rw [e, b_up_eq, b_up_eq]
                          · rw [b_up_ne _ _ e, b_up_ne _ _ (by omega)]
                        · rcases hq4 with ⟨u1, u2, u3⟩ | ⟨u1, u2⟩
                          · rw [u1, hl2 al (hdom al (hnl.2 u3))]; exact hL.2.2.2 u3
                          · rw [u1]; exact hlt _ (by omega)
                        · have hb7 := h7 b hb
                          exact ⟨(hl2 b hb7.2).trans hb7.1, by omega⟩
                        · rcases hN with q | ⟨q, o2, sa, pr, pa, qt, QA, QB, g1, g2, g3⟩
                          · exact Or.inl q
                          · exact Or.inr ⟨q, o2, sa, pr, pa, qt, QA, QB, g1, g2.kept2 (fun b hb q => ⟨hall b hb (by omega), (hl2 b (hdom b hb)).trans q⟩) (by omega) hOe, g3.kept2 (fun b hb q => ⟨hall b hb (by omega), (hl2 b (hdom b hb)).trans q⟩)⟩
                      · refine z_iconst hc dX6_piece_137 ?_
                        refine v_goto (tgt := 142) hc dX6_piece_138 (by decide) ?_
                        refine v_iload hc dX6_piece_142 rfl ?_
                        refine v_callI (As := [.int (zI (x / 100)), .int (zI (x % 100)), .int (zI (y / 1000)), .int (zI (y % 1000)), .int (zI 1), .int (zI u)]) hc ho dX6_piece_144 KI_X6_84 KB_X4_init (c_X4_init _ _ (x := x / 100) (y := x % 100) (z := y / 1000) (t := y % 1000) (u := 1) (v := u) e1 (by omega) (by omega) (by omega) (by omega) (Or.inr rfl) (by omega)) rfl (Nat.le_of_ble_eq_true rfl) ⟨by omega, by omega⟩ ⟨by omega, by omega⟩ (fun r3 h3 sz3 q3 z_ => ?_)
                        obtain ⟨rfl, rfl, ⟨a3, hO3, hJ3⟩, hfr3⟩ := q3
                        have hcl : ∀ b, h b ≠ none → h3 b = h b := fun b hb => (hfr3 b (by have := hdom b hb; omega) (by have := hdom b hb; omega)).trans (e2 b (by have := hdom b hb; omega))
                        have hnl := hL.1.nn
                        have hjl3 : j_L (s_G S) ol al n (fun p => O (p + 20)) h3 := by
                          by_cases e : n = 0
                          · obtain ⟨mcq, q1, q2, q3⟩ := id hL.1
                            exact ⟨mcq, (hcl ol hnl.1).trans q1, q2, Or.inl ⟨e, hL.2.2.1 e⟩⟩
                          · exact hL.1.kept (hcl ol hnl.1) (fun _ => hcl al (hnl.2 e))
                        have hol := hdom ol hnl.1
                        obtain ⟨mc3, hlo3, -⟩ := id hjl3
                        refine v_callV (As := [.ref sz]) hc ho dX6_piece_147 KV_X6_87 KB_Jx4a65c_add_9ea2d hlo3 rfl rfl (c_Jx4a65c_add_9ea2d _ _ hjl3 (v := sz) hL.2.2.1 (by omega) (by omega) (ci := 4) rfl CA4 (by decide) (fun j hj => ⟨_, (hcl _ (by rw [(hW.pc hj).1]; exact fun e => (by cases e))).trans (hW.pc hj).1⟩) hO3.1 (by omega)) rfl (Nat.le_of_ble_eq_true rfl) ⟨by omega, by omega⟩ ⟨by omega, by omega⟩ (fun r4 h4 sz4 q4 z_ => ?_)
                        obtain ⟨rfl, al2, hq4, hj4, hfr4⟩ := q4
                        have hsz4 : sz + 5 ≤ sz4 := by rcases hq4 with q | q <;> omega
                        have hall : ∀ b, h b ≠ none → lb b ≠ 10 → h4 b = h b := fun b hb q => by
                          have hbz := hdom b hb
                          refine (hfr4 b (fun e => q (by rw [e]; exact hL.2.1)) (fun e => ?_)).trans (hcl b hb)
                          rcases hq4 with ⟨u1, u2, u3⟩ | ⟨u1, u2⟩
                          · exact q (by rw [e, u1]; exact hL.2.2.2 u3)
                          · omega
                        have h6n : h o6 ≠ none := by rw [h6]; exact fun e => (by cases e)
                        have h64 := (hall o6 h6n (by omega)).trans h6
                        obtain ⟨mc4, hlo4, -⟩ := id hj4
                        refine v_pop hc dX6_piece_150 rfl ?_
                        refine v_aload_n hc dX6_piece_151 rfl ?_
                        refine v_get hc ho dX6_piece_152 F_X6_19 h64 rfl ?_
                        refine v_callV (As := []) hc ho dX6_piece_155 KV_X6_79 KB_Jx4a65c_size_8abf5 hlo4 rfl rfl (c_Jx4a65c_size_8abf5 _ _ hj4) rfl (Nat.le_of_ble_eq_true rfl) ⟨by omega, by omega⟩ ⟨by omega, by omega⟩ (fun r_ h_ sz_ q_ z_ => ?_)
                        obtain ⟨rfl, eh_, es_⟩ := q_
                        have eh_ := eh_.symm
                        subst eh_
                        have es_ := es_.symm
                        subst es_
                        refine z_iconst hc dX6_piece_158 ?_
                        refine z_isub hc dX6_piece_159 ?_
                        refine z_iret M dX6_piece_160 (by omega) (by omega) ?_
                        obtain ⟨lb2, hlb2⟩ : ∃ f : Nat → Nat, f = (fun b => if b < sz then lb b else if b < sz + 5 then n + 20 else 10) := ⟨_, rfl⟩
                        have hl2 : ∀ b, b < sz → lb2 b = lb b := fun b hb => by rw [hlb2]; exact if_pos hb
                        have hln : ∀ b, sz ≤ b → b < sz + 5 → lb2 b = n + 20 := fun b q1 q2 => by rw [hlb2]; show (if b < sz then lb b else if b < sz + 5 then n + 20 else 10) = n + 20; rw [if_neg (by omega), if_pos q2]
                        have hlt : ∀ b, sz + 5 ≤ b → lb2 b = 10 := fun b q1 => by rw [hlb2]; show (if b < sz then lb b else if b < sz + 5 then n + 20 else 10) = 10; rw [if_neg (by omega), if_neg (by omega)]
                        have ebz : bI (z = 1) = (1 : Int) := by unfold bI; first | exact if_pos (by omega) | exact if_neg (by omega)
                        have hO4 : r_O K4 4 sz (fun k => sz + 1 + r_ix K4 k) (fun k => if k = 0 then x / 100 else if k = 1 then x % 100 else if k = 2 then bI (z = 1) else if k = 3 then u else if k = 6 then y / 1000 else if k = 7 then y % 1000 else 0) a3 h4 := by rw [ebz]; exact hO3.kept (fun b hb => by
                          have := x_ix4 hb
                          refine hfr4 b (by omega) ?_
                          rcases hq4 with ⟨u1, u2, u3⟩ | ⟨u1, u2⟩
                          · have := hdom al (hnl.2 u3); omega
                          · omega)
                        have hWn := (hW.kept2 (h1 := h4) (lb2 := lb2) (fun b hb q => ⟨hall b hb (fun e => by rw [e] at q; exact x_is_no (Or.inr (Or.inr (Or.inr (Or.inr rfl)))) q), hl2 b (hdom b hb)⟩)).add hO4 (fun b hb => hln b (x_ix4 hb).1 (x_ix4 hb).2)
                        have hOe : ∀ p, p < n → b_up O (n + 20) sz (p + 20) = O (p + 20) := fun p hp => b_up_ne _ _ (by omega)
                        have hO20 : b_up O (n + 20) sz 0 = O 0 ∧ b_up O (n + 20) sz 1 = O 1 ∧ b_up O (n + 20) sz 5 = O 5 := ⟨b_up_ne _ _ (by omega), b_up_ne _ _ (by omega), b_up_ne _ _ (by omega)⟩
                        refine Or.inr (Or.inr ⟨by unfold p_ok; omega, by omega, by rw [show (((n + 1 : Nat) : Int) - 1) = (n : Int) by omega], by omega, fun b hb => ?_, a3, ?_, ⟨lb2, _, _, ol, al2, fo, fa, pt, RA, RB, nv, hWn, ⟨hj4.cong (fun j hj => ?_), (hl2 ol hol).trans hL.2.1, fun e => by omega, fun _ => ?_⟩, hF.kept2 (fun b hb q => ⟨hall b hb (by omega), (hl2 b (hdom b hb)).trans q⟩) (by omega) hOe, by rw [hO20.1, hO20.2.1, hO20.2.2]; exact h64, (hl2 o6 (hdom o6 h6n)).trans hl6, fun b hb => ?_, ?_⟩⟩)
                        · by_cases e : h b = none
                          · -- a cell that the world doesn't have: nothing of it is written
                            have hb7 := h7 b hb
                            refine (hfr4 b (fun q => ?_) (fun q => ?_)).trans ((hfr3 b (by omega) (by omega)).trans (e2 b (by omega)))
                            · rw [q, hL.2.1] at hb7; omega
                            · rcases hq4 with ⟨u1, u2, u3⟩ | ⟨u1, u2⟩
                              · rw [q, u1, hL.2.2.2 u3] at hb7; omega
                              · omega
                          · exact hall b e (by have := (h7 b hb).1; omega)
                        · rw [show bI (z = 1) = (1 : Int) by unfold bI; first | exact if_pos (by omega) | exact if_neg (by omega)]; exact hJ3
                        · by_cases e : j = n
                          · rw [e, b_up_eq, b_up_eq]
                          · rw [b_up_ne _ _ e, b_up_ne _ _ (by omega)]
                        · rcases hq4 with ⟨u1, u2, u3⟩ | ⟨u1, u2⟩
                          · rw [u1, hl2 al (hdom al (hnl.2 u3))]; exact hL.2.2.2 u3
                          · rw [u1]; exact hlt _ (by omega)
                        · have hb7 := h7 b hb
                          exact ⟨(hl2 b hb7.2).trans hb7.1, by omega⟩
                        · rcases hN with q | ⟨q, o2, sa, pr, pa, qt, QA, QB, g1, g2, g3⟩
                          · exact Or.inl q
                          · exact Or.inr ⟨q, o2, sa, pr, pa, qt, QA, QB, g1, g2.kept2 (fun b hb q => ⟨hall b hb (by omega), (hl2 b (hdom b hb)).trans q⟩) (by omega) hOe, g3.kept2 (fun b hb q => ⟨hall b hb (by omega), (hl2 b (hdom b hb)).trans q⟩)⟩
                    · refine z_bipush hc dX6_piece_113 (by decide) ?_
                      refine z_iret M dX6_piece_115 (by omega) (by omega) ?_
                      exact Or.inr (Or.inl ⟨by unfold p_ok; omega, by omega, rfl, rfl, rfl⟩)
                  · refine z_iconst hc dX6_piece_99 ?_
                    refine z_iret M dX6_piece_100 (by omega) (by omega) ?_
                    exact Or.inl ⟨by unfold p_ok; omega, rfl, rfl, rfl⟩
            · refine z_iconst hc dX6_piece_75 ?_
              refine z_iret M dX6_piece_76 (by omega) (by omega) ?_
              exact Or.inl ⟨by unfold p_ok; omega, rfl, rfl, rfl⟩
        · refine z_iconst hc dX6_piece_29 ?_
          refine z_iret M dX6_piece_30 (by omega) (by omega) ?_
          exact Or.inl ⟨by unfold p_ok; omega, rfl, rfl, rfl⟩
