/-! the class: programme -/
theorem x_K_ne {L L2 t : Nat} (h : t ≠ 5) : x_K L2 t = x_K L t := by
  unfold x_K
  split <;> first | rfl | omega
theorem x_W.put5 {lb lb2 : Nat → Nat} {L L2 n : Nat} {O : Nat → Nat} {D : Nat → Nat → Nat} {I : Nat → Nat → Int} {A : Nat → Nat → Nat → Int} {h h1 : b_H} {d2 : Nat → Nat} {i2 : Nat → Int} {a2 : Nat → Nat → Int} (hW : x_W lb L n O D I A h) (hO : r_O (K5 L2) 5 (O 5) d2 i2 a2 h1) (hl5 : ∀ b, r_own (K5 L2) (O 5) d2 b → lb2 b = 5) (hq : ∀ b, h b ≠ none → lb b ≠ 5 → h1 b = h b ∧ lb2 b = lb b) : x_W lb2 L2 n O (b_up D 5 d2) (b_up I 5 i2) (b_up A 5 a2) h1 := fun t ht => by
  by_cases e : t = 5
  · subst e
    rw [b_up_eq, b_up_eq, b_up_eq]
    exact ⟨hO, hl5⟩
  · rw [b_up_ne _ _ e, b_up_ne _ _ e, b_up_ne _ _ e, x_K_ne (L := L) e]
    obtain ⟨g1, g2⟩ := hW t ht
    have hx : ∀ b, r_own (x_K L t) (O t) (D t) b → h1 b = h b ∧ lb2 b = lb b := fun b hb => hq b (g1.nn hb) (by rw [g2 b hb]; exact e)
    exact ⟨g1.kept (fun b hb => (hx b hb).1), fun b hb => by rw [(hx b hb).2]; exact g2 b hb⟩
/-- all of the world but planner and found list stays where the planner's cells alone were written and new cells came -/
theorem x_Y.put5 {G : b_G} {o6 : Nat} {P7 : Nat → Prop} {L n : Nat} {I : Nat → Nat → Int} {A : Nat → Nat → Nat → Int} {nf : Nat} {LN : Nat → Nat} {PI PR PB : Nat → Nat → Int} {hn : Bool} {mf : Nat} {SN : Nat → Nat} {SI SR SB : Nat → Nat → Int} {i s : Nat → Int} {lb : Nat → Nat} {O : Nat → Nat} {D : Nat → Nat → Nat} {ol al fo fa : Nat} {pt RA RB : Nat → Nat} {nv : Value} {h h1 : b_H} {sz s1 L2 : Nat} {lb2 : Nat → Nat} {d2 : Nat → Nat} {i2 : Nat → Int} {a2 : Nat → Nat → Int} (hY : x_Y G o6 P7 L n I A nf LN PI PR PB hn mf SN SI SR SB i s lb O D ol al fo fa pt RA RB nv h sz) (hO : r_O (K5 L2) 5 (O 5) d2 i2 a2 h1) (hl5 : ∀ b, r_own (K5 L2) (O 5) d2 b → lb2 b = 5) (hdom : ∀ b, h b ≠ none → b < sz) (hfr : ∀ b, ¬ r_own (K5 L) (O 5) (D 5) b → b < sz → h1 b = h b) (hlb : ∀ b, b < sz → lb2 b = lb b) (hs1 : sz ≤ s1) : x_Y G o6 P7 L2 n (b_up I 5 i2) (b_up A 5 a2) nf LN PI PR PB hn mf SN SI SR SB i s lb2 O (b_up D 5 d2) ol al fo fa pt RA RB nv h1 s1 ∧ ∀ b, P7 b → h1 b = h b := by
  obtain ⟨hW, hL, hF, h6, hl6, h7, hN⟩ := hY
  have hk : ∀ b, h b ≠ none → lb b ≠ 5 → h1 b = h b ∧ lb2 b = lb b := fun b hb q => ⟨hfr b (hW.no5 q) (hdom b hb), hlb b (hdom b hb)⟩
  have h6n : h o6 ≠ none := by rw [h6]; exact fun e => (by cases e)
  refine ⟨⟨hW.put5 hO hl5 hk, hL.kept2 (fun b hb q => ⟨(hk b hb (by omega)).1, (hk b hb (by omega)).2.trans q⟩), hF.kept2 (fun b hb q => ⟨(hk b hb (by omega)).1, (hk b hb (by omega)).2.trans q⟩) (Nat.le_refl n) (fun _ _ => rfl), (hk o6 h6n (by omega)).1.trans h6, (hk o6 h6n (by omega)).2.trans hl6, fun b hb => ⟨(hlb b (h7 b hb).2).trans (h7 b hb).1, by have := (h7 b hb).2; omega⟩, ?_⟩, fun b hb => hfr b (hW.no5 (by have := (h7 b hb).1; omega)) (h7 b hb).2⟩
  rcases hN with q | ⟨q, o2, sa, pr, pa, qt, QA, QB, g1, g2, g3⟩
  · exact Or.inl q
  · exact Or.inr ⟨q, o2, sa, pr, pa, qt, QA, QB, g1, g2.kept2 (fun b hb q => ⟨(hk b hb (by omega)).1, (hk b hb (by omega)).2.trans q⟩) (Nat.le_refl n) (fun _ _ => rfl), g3.kept2 (fun b hb q => ⟨(hk b hb (by omega)).1, (hk b hb (by omega)).2.trans q⟩)⟩
theorem c_R_12 {I : Nat → Nat → Int} {A : Nat → Nat → Nat → Int} {v : Int} {St n : Nat} {i0 i : Nat → Int} {a a2 : Nat → Nat → Int} (h : c_R I A v St n i0 i a) (hE : ∀ k, k ≠ 12 → a2 k = a k) : c_R I A v St n i0 i a2 := by
  unfold c_R at h ⊢
  rw [hE 4 (by decide), hE 5 (by decide), hE 6 (by decide), hE 7 (by decide), hE 8 (by decide)]
  exact h
theorem c_fb_way {I : Nat → Nat → Int} {A : Nat → Nat → Nat → Int} {mo t : Int} {j : Nat} (h : 1 ≤ c_fb I A mo t j) : ¬ A (j + 20) 13 (c_fb I A mo t j).toNat = 17 := by
  unfold c_fb at h ⊢
  split
  · rename_i hc
    rw [if_pos hc] at h
    exact q_bt_hw (fun b => ¬ A (j + 20) 13 b = 17) (fun b => q_ms (I (j + 20) 6) (I (j + 20) 7) b t) 400 h
  · rename_i hc
    rw [if_neg hc] at h; omega

set_option maxHeartbeats 4000000 in
theorem c_X6_programme (l : Launch) (G : b_G) {h : b_H} {sz : Nat} {o6 : Nat} {P7 : Nat → Prop} {L n : Nat} {I : Nat → Nat → Int} {A : Nat → Nat → Nat → Int} {nf : Nat} {LN : Nat → Nat} {PI PR PB : Nat → Nat → Int} {hn : Bool} {mf : Nat} {SN : Nat → Nat} {SI SR SB : Nat → Nat → Int} {i s : Nat → Int} (hX : x_X G o6 P7 L n I A nf LN PI PR PB hn mf SN SI SR SB i s h sz) (hf : f_I (I 1) (A 1)) (hcT : c_T L (I 5) (A 5)) (hn12 : n ≤ 12) (hq : ∀ p, p < n → q_J (I (p + 20)) (A (p + 20))) (hkey : ∀ p, p < n → 0 ≤ I (p + 20) 0 ∧ I (p + 20) 0 ≤ 11) (hth : ∀ p, p < n → I (p + 20) 2 = 0 ∨ I (p + 20) 2 = 1) {v : Int} (hv : zb v) {w : Nat} (hw : ∀ St : Nat, f_ct (A 1 2) (I 1 3).toNat = (St : Int) → (12 ≤ v ∧ v ≤ 30) → (1 ≤ St ∧ St ≤ 8) → 1 ≤ n → (L : Int) < c_zz I A v St n → max (c_zz I A v St n) (2 * (L : Int)) ≤ w) : Con l G yX6_programme cX6_programme 3 (some .int) 25 640 35 (w + 8403) [.ref o6, .int (zI v)] h sz (fun r h2 s2 => (¬ (12 ≤ v ∧ v ≤ 30) ∧ r = some (.int (zI (-1))) ∧ h2 = h ∧ s2 = sz) ∨ ((12 ≤ v ∧ v ≤ 30) ∧ 8 < f_ct (A 1 2) (I 1 3).toNat ∧ r = some (.int (zI (-4))) ∧ h2 = h ∧ s2 = sz) ∨ ((12 ≤ v ∧ v ≤ 30) ∧ (f_ct (A 1 2) (I 1 3).toNat = 0 ∨ (f_ct (A 1 2) (I 1 3).toNat ≤ 8 ∧ n = 0)) ∧ r = some (.int (zI (-2))) ∧ h2 = h ∧ s2 = sz) ∨ (∃ St : Nat, f_ct (A 1 2) (I 1 3).toNat = (St : Int) ∧ (12 ≤ v ∧ v ≤ 30) ∧ 1 ≤ St ∧ St ≤ 8 ∧ 1 ≤ n ∧ ∃ L2 i2 a2, c_R I A v St n (I 5) i2 a2 ∧ c_I L2 i2 a2 ∧ ((c_zz I A v St n ≤ (L : Int) ∧ L2 = L) ∨ ((L : Int) < c_zz I A v St n ∧ L2 = (max (c_zz I A v St n) (2 * (L : Int))).toNat)) ∧ sz ≤ s2 ∧ (∀ b, P7 b → h2 b = h b) ∧ ((c_L St n (c_ms a2) (c_jn a2) (a2 8) St 0 (-1) = 1048575 ∧ r = some (.int (zI (-2))) ∧ x_X G o6 P7 L2 n (b_up I 5 i2) (b_up A 5 a2) nf LN PI PR PB hn mf SN SI SR SB i s h2 s2) ∨ (∃ cst : Int, c_L St n (c_ms a2) (c_jn a2) (a2 8) St 0 (-1) = cst ∧ ¬ cst = 1048575 ∧ (0 ≤ cst ∧ cst ≤ 1000000) ∧ r = some (.int (zI cst)) ∧ ∃ PR2 PB2, (∀ s, s < St → (∀ k, k < q_ln (A ((c_cx St n (c_ms a2) (c_jn a2) (a2 8)) s + 20)) (a2 5 (s * 12 + (c_cx St n (c_ms a2) (c_jn a2) (a2 8)) s)) → PR2 s k = q_rx (I ((c_cx St n (c_ms a2) (c_jn a2) (a2 8)) s + 20) 4).toNat (A ((c_cx St n (c_ms a2) (c_jn a2) (a2 8)) s + 20) 8) (A ((c_cx St n (c_ms a2) (c_jn a2) (a2 8)) s + 20) 9) (A ((c_cx St n (c_ms a2) (c_jn a2) (a2 8)) s + 20) 12) (I ((c_cx St n (c_ms a2) (c_jn a2) (a2 8)) s + 20) 10) (a2 5 (s * 12 + (c_cx St n (c_ms a2) (c_jn a2) (a2 8)) s)) k) ∧ ∀ k, k < q_ln (A ((c_cx St n (c_ms a2) (c_jn a2) (a2 8)) s + 20)) (a2 5 (s * 12 + (c_cx St n (c_ms a2) (c_jn a2) (a2 8)) s)) → PB2 s k = A ((c_cx St n (c_ms a2) (c_jn a2) (a2 8)) s + 20) 8 (q_rx (I ((c_cx St n (c_ms a2) (c_jn a2) (a2 8)) s + 20) 4).toNat (A ((c_cx St n (c_ms a2) (c_jn a2) (a2 8)) s + 20) 8) (A ((c_cx St n (c_ms a2) (c_jn a2) (a2 8)) s + 20) 9) (A ((c_cx St n (c_ms a2) (c_jn a2) (a2 8)) s + 20) 12) (I ((c_cx St n (c_ms a2) (c_jn a2) (a2 8)) s + 20) 10) (a2 5 (s * 12 + (c_cx St n (c_ms a2) (c_jn a2) (a2 8)) s)) k).toNat) ∧ x_X G o6 P7 L2 n (b_up I 5 i2) (b_up A 5 a2) St (fun s => q_ln (A ((c_cx St n (c_ms a2) (c_jn a2) (a2 8)) s + 20)) (a2 5 (s * 12 + (c_cx St n (c_ms a2) (c_jn a2) (a2 8)) s))) (fun s => t_iv (I ((c_cx St n (c_ms a2) (c_jn a2) (a2 8)) s + 20)) (A ((c_cx St n (c_ms a2) (c_jn a2) (a2 8)) s + 20)) (a2 5 (s * 12 + (c_cx St n (c_ms a2) (c_jn a2) (a2 8)) s)) (a2 4 s) ((c_cx St n (c_ms a2) (c_jn a2) (a2 8)) s : Int) (p_st (I ((c_cx St n (c_ms a2) (c_jn a2) (a2 8)) s + 20) 0) (I ((if s + 1 < St then (c_cx St n (c_ms a2) (c_jn a2) (a2 8)) (s + 1) else (c_cx St n (c_ms a2) (c_jn a2) (a2 8)) s) + 20) 0))) PR2 PB2 hn mf SN SI SR SB i s h2 s2)))) := by
  refine Con.ofK (by decide +kernel) rfl rfl ?_
  intro S M
  have hc := M.2.2.2.1
  have ho : s_own S = RX6 := M.2.2.1
  have hFr : (s_R S).frames = 25 := by rw [M.2.2.2.2.2.2.2.1]
  have hLo : (s_R S).locals = 640 := by rw [M.2.2.2.2.2.2.2.1]
  have hCe : (s_R S).cells = 35 := by rw [M.2.2.2.2.2.2.2.1]
  have hSl : (s_R S).slots = (w + 8403) := by rw [M.2.2.2.2.2.2.2.1]
  have hG : s_G S = G := M.2.1
  subst hG
  obtain ⟨lb, O, D, ol, al, fo, fa, pt, RA, RB, nv, hY⟩ := hX
  obtain ⟨hW, hL, hF, h6, hl6, h7, hN⟩ := id hY
  have hOf : r_O K1 1 (O 1) (D 1) (I 1) (A 1) h := (hW 1 x_is_1).1
  have hOd : r_O K0 0 (O 0) (D 0) (I 0) (A 0) h := (hW 0 x_is_0).1
  have hOp : r_O (K5 L) 5 (O 5) (D 5) (I 5) (A 5) h := (hW 5 x_is_5).1
  obtain ⟨mcl, hjo, -⟩ := id hL.1
  obtain ⟨mcf, hfo, -⟩ := id hF.1
  refine v_iload_n hc dX6_programme_0 rfl ?_
  refine z_bipush hc dX6_programme_1 (by decide) ?_
  refine z_bipush hc dX6_programme_3 (by decide) ?_
  refine v_callS (As := [.int (zI (v)), .int (zI (12)), .int (zI (30))]) hc ho dX6_programme_5 KS_X6_44 KB_X6_within (c_X6_within _ _ (x := v) (y := 12) (z := 30) (by first | assumption | (unfold zb; omega)) (by first | assumption | (unfold zb; omega)) (by first | assumption | (unfold zb; omega))) rfl (Nat.le_of_ble_eq_true rfl) ⟨by omega, by omega⟩ ⟨by omega, by omega⟩ (fun r_ h_ sz_ q_ z_ => ?_)
  obtain ⟨rfl, eh_, es_⟩ := q_
  have eh_ := eh_.symm
  subst eh_
  have es_ := es_.symm
  subst es_
  have hv01 := bI_or (12 ≤ v ∧ v ≤ 30)
  generalize bI (12 ≤ v ∧ v ≤ 30) = bpv at hv01 ⊢
  refine z_if_ne (tgt := 13) hc dX6_programme_8 (by decide) (by first | assumption | exact hi _ | exact ha _ _ | (unfold zb; omega)) (fun c_1 => ?_) (fun c_1 => ?_)
  · refine v_aload_n hc dX6_programme_13 rfl ?_
    refine v_get hc ho dX6_programme_14 F_X6_12 h6 rfl ?_
    refine v_callV (As := []) hc ho dX6_programme_17 KV_X6_59 KB_X1_stretchCount hOf.1 rfl rfl (c_X1_stretchCount _ _ hOf hf) rfl (Nat.le_of_ble_eq_true rfl) ⟨by omega, by omega⟩ ⟨by omega, by omega⟩ (fun r_ h_ sz_ q_ z_ => ?_)
    obtain ⟨rfl, eh_, es_⟩ := q_
    have eh_ := eh_.symm
    subst eh_
    have es_ := es_.symm
    subst es_
    have hctb := f_ct_bd (A 1 2) (I 1 3).toNat
    obtain ⟨St, hSt⟩ : ∃ k : Nat, f_ct (A 1 2) (I 1 3).toNat = (k : Int) := ⟨(f_ct (A 1 2) (I 1 3).toNat).toNat, by omega⟩
    rw [hSt]
    have hf1 := hf.1
    refine z_bipush hc dX6_programme_20 (by decide) ?_
    refine z_icmp_le (tgt := 28) hc dX6_programme_22 (by decide) (by first | assumption | exact hi _ | exact ha _ _ | (unfold zb; omega)) (by first | assumption | exact hi _ | exact ha _ _ | (unfold zb; omega)) (fun c_2 => ?_) (fun c_2 => ?_)
    · refine v_aload_n hc dX6_programme_28 rfl ?_
      refine v_get hc ho dX6_programme_29 F_X6_12 h6 rfl ?_
      refine v_callV (As := []) hc ho dX6_programme_32 KV_X6_59 KB_X1_stretchCount hOf.1 rfl rfl (c_X1_stretchCount _ _ hOf hf) rfl (Nat.le_of_ble_eq_true rfl) ⟨by omega, by omega⟩ ⟨by omega, by omega⟩ (fun r_ h_ sz_ q_ z_ => ?_)
      obtain ⟨rfl, eh_, es_⟩ := q_
      have eh_ := eh_.symm
      subst eh_
      have es_ := es_.symm
      subst es_
      rw [hSt]
      refine z_if_eq (tgt := 48) hc dX6_programme_35 (by decide) (by first | assumption | exact hi _ | exact ha _ _ | (unfold zb; omega)) (fun c_3 => ?_) (fun c_3 => ?_)
      · refine z_bipush hc dX6_programme_48 (by decide) ?_
        refine z_iret M dX6_programme_50 (by omega) (by omega) ?_
        exact Or.inr (Or.inr (Or.inl ⟨by omega, by omega, rfl, rfl, rfl⟩))
      · refine v_aload_n hc dX6_programme_38 rfl ?_
        refine v_get hc ho dX6_programme_39 F_X6_19 h6 rfl ?_
        refine v_callV (As := []) hc ho dX6_programme_42 KV_X6_119 KB_Jx4a65c_isEmpty_aae02 hjo rfl rfl (c_Jx4a65c_isEmpty_aae02 _ _ hL.1) rfl (Nat.le_of_ble_eq_true rfl) ⟨by omega, by omega⟩ ⟨by omega, by omega⟩ (fun r_ h_ sz_ q_ z_ => ?_)
        obtain ⟨rfl, eh_, es_⟩ := q_
        have eh_ := eh_.symm
        subst eh_
        have es_ := es_.symm
        subst es_
        have hb01 := bI_or (n = 0)
        generalize bI (n = 0) = bp at hb01 ⊢
        refine z_if_eq (tgt := 51) hc dX6_programme_45 (by decide) (by first | assumption | exact hi _ | exact ha _ _ | (unfold zb; omega)) (fun c_4 => ?_) (fun c_4 => ?_)
        · refine v_dom (fun hdom => ?_)
          refine v_aload_n hc dX6_programme_51 rfl ?_
          refine v_get hc ho dX6_programme_52 F_X6_26 h6 rfl ?_
          refine v_aload_n hc dX6_programme_55 rfl ?_
          refine v_get hc ho dX6_programme_56 F_X6_12 h6 rfl ?_
          refine v_aload_n hc dX6_programme_59 rfl ?_
          refine v_get hc ho dX6_programme_60 F_X6_19 h6 rfl ?_
          refine v_iload_n hc dX6_programme_63 rfl ?_
          refine v_callV (As := [.ref (O 1), .ref ol, .int (zI v)]) hc ho dX6_programme_64 KV_X6_123 KB_X5_prepare hOp.1 rfl rfl (c_X5_prepare _ _ hW hL hq hkey hth hn12 hf hcT (v := v) (by omega) (St := St) hSt (by omega) (w := w) (hw St hSt (by omega) (by omega) (by omega))) rfl (Nat.le_of_ble_eq_true rfl) ⟨by omega, by omega⟩ ⟨by omega, by omega⟩ (fun r3 h3 sz3 q3 z_ => ?_)
          obtain ⟨rfl, L2, d2, i3, a3, hcase, hO3, hR3, hI3, hK3, hfr3⟩ := q3
          have hs3 : sz ≤ sz3 ∧ sz3 ≤ sz + 1 := by rcases hcase with q | q <;> omega
          obtain ⟨lb3, hlb3⟩ : ∃ f : Nat → Nat, f = (fun b => if b < sz then lb b else if b < sz3 then 5 else 9) := ⟨_, rfl⟩
          have hl3 : ∀ b, b < sz → lb3 b = lb b := fun b hb => by rw [hlb3]; exact if_pos hb
          have hl9 : ∀ b, sz3 ≤ b → lb3 b = 9 := fun b hb => by rw [hlb3]; show (if b < sz then lb b else if b < sz3 then 5 else 9) = 9; rw [if_neg (by omega), if_neg (by omega)]
          have hl35 : ∀ b, r_own (K5 L2) (O 5) d2 b → lb3 b = 5 := by
            rcases hcase with ⟨q1, q2, q3, q4⟩ | ⟨q1, q2, q3, q4⟩
            · intro b hb
              rw [q3, q4] at hb
              rw [hl3 b (hOp.lt hdom b hb)]
              exact (hW 5 x_is_5).2 b hb
            · intro b hb
              rw [q4] at hb
              rcases c_own (L := L) hb with u | u
              · rw [hlb3]; show (if b < sz then lb b else if b < sz3 then 5 else 9) = 5; rw [if_neg (by omega), if_pos (by omega)]
              · rw [hl3 b (hOp.lt hdom b u)]
                exact (hW 5 x_is_5).2 b u
          obtain ⟨hr0, hr1, hr2, hr3, hr9, hr10, hr11, hr4, hr5, hr7, hr8⟩ := id hR3
          obtain ⟨hY3, h73⟩ := hY.put5 (lb2 := lb3) (s1 := sz3) hO3 hl35 hdom hfr3 hl3 (by omega)
          have h63 := hY3.2.2.2.1
          refine v_dom (fun hdm3 => ?_)
          refine v_aload_n hc dX6_programme_67 rfl ?_
          refine v_get hc ho dX6_programme_68 F_X6_26 h63 rfl ?_
          refine v_callV (As := []) hc ho dX6_programme_71 KV_X6_127 KB_X5_leastCost hO3.1 rfl rfl (c_X5_leastCost _ _ hO3 hI3 (d := St) hK3 (by omega) hr2) rfl (Nat.le_of_ble_eq_true rfl) ⟨by omega, by omega⟩ ⟨by omega, by omega⟩ (fun r4 h4 sz4 q4 z_ => ?_)
          obtain ⟨e4_, i4, a4, ⟨rfl, e5_, hE4, hK4, hI4⟩, hO4, hfr4⟩ := q4
          have e4_ := e4_.symm
          subst e4_
          have e5_ := e5_.symm
          subst e5_
          rw [hr2, hr3, Int.toNat_natCast, Int.toNat_natCast]
          obtain ⟨cst, hcst⟩ : ∃ u, c_L St n (c_ms a3) (c_jn a3) (a3 8) St 0 (-1) = u := ⟨_, rfl⟩
          rw [hcst]
          have hcb := (c_L_bd (St := St) (n := n) (ms := c_ms a3) (jn := c_jn a3) (bt := a3 8) (fun s p => (hI3.2.2.1 _).2) (fun l p => by unfold c_jn; split; exact ⟨by omega, by omega⟩; exact hI3.2.2.2.1 _) St 0 (-1) (by omega)).1
          rw [hcst] at hcb
          have hR4 := c_R_12 hR3 hE4
          have hfr40 : ∀ b, ¬ r_own (K5 L) (O 5) (D 5) b → b < sz → h4 b = h b := fun b q1 q2 => (hfr4 b (fun u => by
            have := hl35 b u
            rw [hl3 b q2] at this
            rcases hcase with ⟨c1, c2, c3, c4⟩ | ⟨c1, c2, c3, c4⟩
            · rw [c3, c4] at u; exact q1 u
            · rw [c4] at u
              rcases c_own (L := L) u with z | z
              · omega
              · exact q1 z)).trans (hfr3 b q1 q2)
          obtain ⟨hY4, h74⟩ := hY.put5 (lb2 := lb3) (s1 := sz3) hO4 hl35 hdom hfr40 hl3 (by omega)
          have h64 := hY4.2.2.2.1
          have hce4 := c_cong hE4
          refine v_istore_n hc dX6_programme_74 (Nat.le_of_ble_eq_true rfl) ?_
          refine v_iload_n hc dX6_programme_75 rfl ?_
          refine z_ldc hc ho dX6_programme_76 K_X6_130 ?_
          skip
          refine z_icmp_ne (tgt := 84) hc dX6_programme_78 (by decide) (by first | assumption | exact hi _ | exact ha _ _ | (unfold zb; omega)) (by first | assumption | exact hi _ | exact ha _ _ | (unfold zb; omega)) (fun c_5 => ?_) (fun c_5 => ?_)
          · have hne3 : ¬ c_L (i3 2).toNat (i3 3).toNat (c_ms a3) (c_jn a3) (a3 8) (i3 2).toNat 0 (-1) = 1048575 := by rw [hr2, hr3, Int.toNat_natCast, Int.toNat_natCast, hcst]; omega
            have hne4 : ¬ c_L (i3 2).toNat (i3 3).toNat (c_ms a4) (c_jn a4) (a4 8) (i3 2).toNat 0 (-1) = 1048575 := by rw [hce4.1, hce4.2.1, hce4.2.2]; exact hne3
            refine v_aload_n hc dX6_programme_84 rfl ?_
            refine v_aload_n hc dX6_programme_85 rfl ?_
            refine v_get hc ho dX6_programme_86 F_X6_26 h64 rfl ?_
            refine v_aload_n hc dX6_programme_89 rfl ?_
            refine v_get hc ho dX6_programme_90 F_X6_19 h64 rfl ?_
            refine v_aload_n hc dX6_programme_93 rfl ?_
            refine v_get hc ho dX6_programme_94 F_X6_26 h64 rfl ?_
            refine v_callV (As := []) hc ho dX6_programme_97 KV_X6_131 KB_X5_choose hO4.1 rfl rfl (c_X5_choose _ _ hO4 hI4 hK4 hne4) rfl (Nat.le_of_ble_eq_true rfl) ⟨by omega, by omega⟩ ⟨by omega, by omega⟩ (fun r5 h5 sz5 q5 z_ => ?_)
            obtain ⟨rfl, rfl, a5, hO5, hI5, hK5, hE5, ⟨cf, hcf5, hcfv⟩, hfr5⟩ := q5
            rw [hr2, Int.toNat_natCast] at hcf5 hcfv
            rw [hr3, Int.toNat_natCast, hce4.1, hce4.2.1, hce4.2.2] at hcfv
            have hE54 : ∀ k, k ≠ 12 → a5 k = a3 k := fun k hk => (hE5 k hk).trans (hE4 k hk)
            have hR5 := c_R_12 hR3 hE54
            have hzo : ¬ r_own (K5 L2) (O 5) d2 sz3 := fun u => by have := hl35 _ u; rw [hl9 sz3 (by omega)] at this; omega
            have hfr50 : ∀ b, ¬ r_own (K5 L) (O 5) (D 5) b → b < sz → h5 b = h b := fun b q1 q2 => (hfr5 b (fun u => by
              rcases hcase with ⟨c1, c2, c3, c4⟩ | ⟨c1, c2, c3, c4⟩
              · rw [c3, c4] at u; exact q1 u
              · rw [c4] at u
                rcases c_own (L := L) u with z | z
                · omega
                · exact q1 z) (by omega)).trans (hfr40 b q1 q2)
            obtain ⟨hY5, h75⟩ := hY.put5 (lb2 := lb3) (s1 := sz3 + 1) hO5 hl35 hdom hfr50 hl3 (by omega)
            obtain ⟨hW5, hL5, hF5, h65, hl65, h75b, hN5⟩ := id hY5
            have hcxo := c_cx_ok hI3 hne3
            have hcx1 : ∀ s, s < St → c_cx St n (c_ms a3) (c_jn a3) (a3 8) s < n ∧ 0 ≤ a3 6 (s * 12 + c_cx St n (c_ms a3) (c_jn a3) (a3 8) s) := fun s hs => by
              have := hcxo s (by rw [hr2, Int.toNat_natCast]; exact hs)
              rw [hr2, hr3, Int.toNat_natCast, Int.toNat_natCast] at this
              exact ⟨this.1, this.2.1⟩
            have hTb : ∀ s : Nat, 0 ≤ f_T (A 1) (I 1 3).toNat v s ∧ f_T (A 1) (I 1 3).toNat v s ≤ 100000 := fun s => f_T_bd hf.2.2.1 (by omega) (by omega) s
            have hbt5 : ∀ s, s < St → (1 ≤ a5 5 (s * 12 + c_cx St n (c_ms a3) (c_jn a3) (a3 8) s) ∧ a5 5 (s * 12 + c_cx St n (c_ms a3) (c_jn a3) (a3 8) s) ≤ 400) ∧ ¬ A (c_cx St n (c_ms a3) (c_jn a3) (a3 8) s + 20) 13 (a5 5 (s * 12 + c_cx St n (c_ms a3) (c_jn a3) (a3 8) s)).toNat = 17 := fun s hs => by
              obtain ⟨u1, u2⟩ := hcx1 s hs
              have h5s := hr5 s _ hs u1
              rw [h5s.2] at u2
              have hb := (c_fm_bd (I := I) (A := A) (mo := f_m (A 1) (I 1 3).toNat s) (t := f_T (A 1) (I 1 3).toNat v s) (p := c_cx St n (c_ms a3) (c_jn a3) (a3 8) s) (hq _ u1) (hTb s)).2
              rw [hE54 5 (by decide), h5s.1]
              exact ⟨by omega, c_fb_way (by omega)⟩
            refine v_dom (fun hdm5 => ?_)
            refine v_callV (As := [.ref ol, .ref sz3]) hc ho dX6_programme_100 KV_X6_135 KB_X5_parts hO5.1 rfl rfl (c_X5_parts _ _ (D := b_up D 5 d2) (I := b_up I 5 i3) (A := b_up A 5 a5) hW5 hL5 (fun p hp => by rw [x_up20, x_up20]; exact hq p hp) (fun p hp => by rw [x_up20]; exact hkey p hp) (fun p hp => by rw [x_up20]; exact hth p hp) hn12 (ch := c_cx St n (c_ms a3) (c_jn a3) (a3 8)) hcf5 hcfv (fun s hs => (hcx1 s hs).1) (fun s hs => by rw [x_up20]; exact hbt5 s hs) (fun s hs => by rw [hE54 4 (by decide), hr4 s hs]; exact hTb s) (by omega) hr2 (by rw [b_up_eq]; exact hO5)) rfl (Nat.le_of_ble_eq_true rfl) ⟨by omega, by omega⟩ ⟨by omega, by omega⟩ (fun r6 h6_ sz6 q6 z_ => ?_)
            obtain ⟨rfl, fa6, pt6, RA6, RB6, PR6, PB6, hs6, hj6, hz6, hfa6, hps6, hfr6⟩ := q6
            have h66 := (hfr6 o6 (hdm5 o6 (by rw [h65]; exact fun e => (by cases e)))).trans h65
            refine x_put hc ho dX6_programme_103 F_X6_37 h66 rfl ⟨rfl, rfl⟩ (fun h7_ e7 e8 => ?_)
            refine v_iload_n hc dX6_programme_106 rfl ?_
            refine z_iret M dX6_programme_107 (by omega) (by omega) ?_
            have hce5 := c_cong hE54
            have hl36 : ∀ b, h5 b ≠ none → h6_ b = h5 b := fun b hb => hfr6 b (hdm5 b hb)
            have ho6n : h5 o6 ≠ none := by rw [h65]; exact fun e => (by cases e)
            have hk6 : ∀ b, h5 b ≠ none → b ≠ o6 → h7_ b = h5 b := fun b hb q => (e8 b q).trans (hl36 b hb)
            have ho6z : o6 < sz3 + 1 := hdm5 o6 ho6n
            have hlo6 : ∀ b, lb3 b ≠ 6 → b ≠ o6 := fun b q e => q (by rw [e]; exact hl65)
            have hFn : f_W (s_G S) lb3 n O (sz3 + 1) fa6 St pt6 RA6 RB6 (fun s => q_ln (A (c_cx St n (c_ms a3) (c_jn a3) (a3 8) s + 20)) (a5 5 (s * 12 + c_cx St n (c_ms a3) (c_jn a3) (a3 8) s))) (fun s => t_iv (I ((c_cx St n (c_ms a3) (c_jn a3) (a3 8)) s + 20)) (A ((c_cx St n (c_ms a3) (c_jn a3) (a3 8)) s + 20)) (a5 5 (s * 12 + (c_cx St n (c_ms a3) (c_jn a3) (a3 8)) s)) (a5 4 s) ((c_cx St n (c_ms a3) (c_jn a3) (a3 8)) s : Int) (p_st (I ((c_cx St n (c_ms a3) (c_jn a3) (a3 8)) s + 20) 0) (I ((if s + 1 < St then (c_cx St n (c_ms a3) (c_jn a3) (a3 8)) (s + 1) else (c_cx St n (c_ms a3) (c_jn a3) (a3 8)) s) + 20) 0))) PR6 PB6 h7_ := by
              have hn7 : ∀ b, sz3 + 1 ≤ b → h7_ b = h6_ b := fun b hb => e8 b (by omega)
              refine ⟨?_, by omega, hl9 _ (by omega), hz6, fun e => hl9 _ (by have := hfa6 e; omega), fun s hs => ?_⟩
              · obtain ⟨mq, g1, g2, g3⟩ := hj6
                refine ⟨mq, (hn7 _ (by omega)).trans g1, g2, ?_⟩
                rcases g3 with g | ⟨cap, f, u1, u2⟩
                · exact Or.inl g
                · by_cases e : St = 0
                  · exact Or.inl ⟨e, hz6 e⟩
                  · exact Or.inr ⟨cap, f, (hn7 _ (by have := hfa6 e; omega)).trans u1, u2⟩
              · obtain ⟨g1, g2, g3, g4, g5, g6, -, -, -⟩ := hps6 s hs
                simp only [x_up20] at g1 g2 g3
                obtain ⟨u1, u2⟩ := hcx1 s hs
                have hbs := hbt5 s hs
                refine ⟨g1.kept (hn7 _ (by omega)) (hn7 _ (by omega)) (hn7 _ (by omega)), ?_, u1, hl9 _ (by omega), hl9 _ (by omega), hl9 _ (by omega)⟩
                exact t_I_new (hq _ u1) hbs.1 hbs.2 (by rw [hE54 4 (by decide), hr4 s hs]; exact hTb s) (by omega) (p_st_bd _ _) g2 g3
            rw [← hce5.1, ← hce5.2.1, ← hce5.2.2] at hFn
            refine Or.inr (Or.inr (Or.inr ⟨St, hSt, by omega, by omega, by omega, by omega, L2, i3, a5, hR5, hI5, by rcases hcase with q | q; exact Or.inl ⟨q.1, q.2.2.1⟩; exact Or.inr ⟨q.1, q.2.2.1⟩, by omega, fun b hb => ?_, Or.inr ⟨cst, by rw [hce5.1, hce5.2.1, hce5.2.2]; exact hcst, by omega, by omega, rfl, PR6, PB6, fun s hs => ?_, ⟨lb3, O, b_up D 5 d2, ol, al, sz3 + 1, fa6, pt6, RA6, RB6, nv, hW5.kept2 (fun b hb q => ⟨hk6 b hb (hlo6 b (fun e => by rw [e] at q; exact x_is_no (Or.inr (Or.inl rfl)) q)), rfl⟩), hL5.kept2 (fun b hb q => ⟨hk6 b hb (hlo6 b (by omega)), q⟩), hFn, e7, hl65, fun b hb => ⟨(h75b b hb).1, by have := (h75b b hb).2; omega⟩, ?_⟩⟩⟩))
            · have hb7 := h75b b hb
              rw [e8 b (hlo6 b (by omega)), hfr6 b (by omega)]
              exact h75 b hb
            · obtain ⟨g1, g2, g3, -⟩ := hps6 s hs
              simp only [x_up20] at g2 g3
              rw [← hce5.1, ← hce5.2.1, ← hce5.2.2] at g2 g3
              exact ⟨g2, g3⟩
            · rcases hN5 with q | ⟨q, o2, sa, pr, pa, qt, QA, QB, g1, g2, g3⟩
              · exact Or.inl q
              · exact Or.inr ⟨q, o2, sa, pr, pa, qt, QA, QB, g1, g2.kept2 (fun b hb q => ⟨hk6 b hb (hlo6 b (by omega)), q⟩) (Nat.le_refl n) (fun _ _ => rfl), g3.kept2 (fun b hb q => ⟨hk6 b hb (hlo6 b (by omega)), q⟩)⟩
          · refine z_bipush hc dX6_programme_81 (by decide) ?_
            refine z_iret M dX6_programme_83 (by omega) (by omega) ?_
            exact Or.inr (Or.inr (Or.inr ⟨St, hSt, by omega, by omega, by omega, by omega, L2, i3, a4, hR4, hI4, by rcases hcase with q | q; exact Or.inl ⟨q.1, q.2.2.1⟩; exact Or.inr ⟨q.1, q.2.2.1⟩, by omega, h74, Or.inl ⟨by rw [hce4.1, hce4.2.1, hce4.2.2, hcst]; omega, rfl, ⟨_, _, _, _, _, _, _, _, _, _, _, hY4⟩⟩⟩))
        · refine z_bipush hc dX6_programme_48 (by decide) ?_
          refine z_iret M dX6_programme_50 (by omega) (by omega) ?_
          exact Or.inr (Or.inr (Or.inl ⟨by omega, by omega, rfl, rfl, rfl⟩))
    · refine z_bipush hc dX6_programme_25 (by decide) ?_
      refine z_iret M dX6_programme_27 (by omega) (by omega) ?_
      exact Or.inr (Or.inl ⟨by omega, by omega, rfl, rfl, rfl⟩)
  · refine z_iconst hc dX6_programme_11 ?_
    refine z_iret M dX6_programme_12 (by omega) (by omega) ?_
    exact Or.inl ⟨by omega, rfl, rfl, rfl⟩
