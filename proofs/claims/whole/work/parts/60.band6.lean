/-! the class: a new object -/
theorem r_ix_lt (K : r_K) (k : Nat) (p : Bool × Nat) (hk : K[k]? = some (some p)) : r_ix K k < (K.filterMap id).length := by
  unfold r_ix
  have e2 : K.drop k = some p :: K.drop (k + 1) := by
    obtain ⟨hk1, hv⟩ := List.getElem?_eq_some_iff.mp hk
    rw [List.drop_eq_getElem_cons hk1, hv]
  have e3 : (K.take k ++ K.drop k).filterMap id = (K.take k).filterMap id ++ (some p :: K.drop (k + 1)).filterMap id := by
    rw [e2]
    exact List.filterMap_append
  rw [List.take_append_drop] at e3
  have e4 : ((some p :: K.drop (k + 1)).filterMap id).length = ((K.drop (k + 1)).filterMap id).length + 1 := rfl
  rw [e3, List.length_append, e4]
  omega
theorem r_own_rg {K : r_K} {o s0 b : Nat} (hb : r_own K o (fun k => s0 + r_ix K k) b) : b = o ∨ (s0 ≤ b ∧ b < s0 + (K.filterMap id).length) := by
  rcases hb with q | ⟨k, p, hk, e⟩
  · exact Or.inl q
  · have := r_ix_lt K k p hk
    have e2 : b = s0 + r_ix K k := e
    exact Or.inr ⟨by omega, by omega⟩
def x_I0 (t : Nat) : Nat → Int := match t with
  | 0 => fun k => if k = 4 then 2 else 0
  | 5 => fun k => if k = 0 then 1 else if k = 1 then 6 else 0
  | _ => fun _ => 0
def x_O0 (m t : Nat) : Nat := match t with
  | 0 => m + 12
  | 1 => m
  | _ => m + 5
def x_D0 (m t : Nat) : Nat → Nat := match t with
  | 0 => fun k => m + 13 + r_ix K0 k
  | 1 => fun k => m + 1 + r_ix K1 k
  | _ => fun k => m + 6 + r_ix (K5 0) k
def x_l0 (m o b : Nat) : Nat := if b = o then 6 else if b < m + 4 then 1 else if b = m + 4 then 10 else if b < m + 12 then 5 else if b < m + 16 then 0 else 9
set_option maxHeartbeats 4000000 in
theorem c_X6_init (l : Launch) (G : b_G) {o : Nat} {h : b_H} {sz : Nat} (hob : h o = some (b_ob 6 [.null, .null, .null, .null, .null, .null])) (ho2 : o < sz) : Con l G yX6_init cX6_init 1 none 4 100 17 654 [.ref o] h sz (fun r h2 s2 => r = none ∧ s2 = sz + 17 ∧ (∀ b, b < sz → b ≠ o → h2 b = h b) ∧ ∀ (LN : Nat → Nat) (PI PR PB : Nat → Nat → Int) (mf : Nat) (SN : Nat → Nat) (SI SR SB : Nat → Nat → Int) (i s : Nat → Int), x_X G o (fun _ => False) 0 0 x_I0 (fun _ _ _ => 0) 0 LN PI PR PB false mf SN SI SR SB i s h2 s2) := by
  refine Con.ofK (by decide +kernel) rfl rfl ?_
  intro S M
  have hc := M.2.2.2.1
  have ho : s_own S = RX6 := M.2.2.1
  have hFr : (s_R S).frames = 4 := by rw [M.2.2.2.2.2.2.2.1]
  have hLo : (s_R S).locals = 100 := by rw [M.2.2.2.2.2.2.2.1]
  have hCe : (s_R S).cells = 17 := by rw [M.2.2.2.2.2.2.2.1]
  have hSl : (s_R S).slots = 654 := by rw [M.2.2.2.2.2.2.2.1]
  have hG : s_G S = G := M.2.1
  subst hG
  have hnm : s_nm S = "<init>" := M.2.2.2.2.2.2.1
  refine v_aload_n hc dX6_init_0 rfl ?_
  refine v_obj hc ho dX6_init_1 OI_X6_3 (by omega) (by rw [hLo]; exact Nat.le_of_ble_eq_true rfl) ?_
  refine v_aload_n hc dX6_init_4 rfl ?_
  refine x_new hc ho dX6_init_5 NW_X6_9 (by omega) (by omega) (fun h1 e1 f1 => ?_)
  refine v_dup hc dX6_init_8 rfl ?_
  refine v_callIN (As := []) hc ho dX6_init_9 KIN_X6_11 KB_X1_init (c_X1_init _ _ e1 (by omega)) rfl (Nat.le_of_ble_eq_true rfl) ⟨by omega, by omega⟩ ⟨by omega, by omega⟩ (fun r2 h2 s2 q2 z_ => ?_)
  obtain ⟨rfl, es2, O2, f2⟩ := q2
  have es2 : s2 = sz + 4 := es2
  subst es2
  have k2 := (f2 o (by omega) (by omega)).trans ((f1 o (by omega)).trans hob)
  refine x_putF hc ho hnm dX6_init_12 F_X6_12 k2 rfl ⟨rfl, rfl⟩ (fun h3 k3 f3 => ?_)
  refine v_aload_n hc dX6_init_15 rfl ?_
  refine x_new hc ho dX6_init_16 NW_X6_16 (by omega) (by omega) (fun h4 e4 f4 => ?_)
  refine v_dup hc dX6_init_19 rfl ?_
  refine v_callI (As := []) hc ho dX6_init_20 KI_X6_18 KB_Jx4a65c_init_da8c8 (c_Jx4a65c_init_da8c8 (e := fun p => x_O0 sz (p + 20)) _ _ e4) rfl (Nat.le_of_ble_eq_true rfl) ⟨by omega, by omega⟩ ⟨by omega, by omega⟩ (fun r5 h5 s5 q5 z_ => ?_)
  obtain ⟨rfl, es5, O5, f5⟩ := q5
  have es5 : s5 = sz + 5 := es5
  subst es5
  have k5 := (f5 o (by omega)).trans ((f4 o (by omega)).trans k3)
  refine x_putF hc ho hnm dX6_init_23 F_X6_19 k5 rfl ⟨rfl, rfl⟩ (fun h6 k6 f6 => ?_)
  refine v_aload_n hc dX6_init_26 rfl ?_
  refine x_new hc ho dX6_init_27 NW_X6_23 (by omega) (by omega) (fun h7 e7 f7 => ?_)
  refine v_dup hc dX6_init_30 rfl ?_
  refine v_callIN (As := []) hc ho dX6_init_31 KIN_X6_25 KB_X5_init (c_X5_init _ _ e7 (by omega)) rfl (Nat.le_of_ble_eq_true rfl) ⟨by omega, by omega⟩ ⟨by omega, by omega⟩ (fun r8 h8 s8 q8 z_ => ?_)
  obtain ⟨rfl, es8, O8, f8⟩ := q8
  have es8 : s8 = sz + 12 := es8
  subst es8
  have k8 := (f8 o (by omega) (by omega)).trans ((f7 o (by omega)).trans k6)
  refine x_putF hc ho hnm dX6_init_34 F_X6_26 k8 rfl ⟨rfl, rfl⟩ (fun h9 k9 f9 => ?_)
  refine v_aload_n hc dX6_init_37 rfl ?_
  refine x_new hc ho dX6_init_38 NW_X6_30 (by omega) (by omega) (fun h10 e10 f10 => ?_)
  refine v_dup hc dX6_init_41 rfl ?_
  refine v_callIN (As := []) hc ho dX6_init_42 KIN_X6_32 KB_X0_init (c_X0_init _ _ e10 (by omega)) rfl (Nat.le_of_ble_eq_true rfl) ⟨by omega, by omega⟩ ⟨by omega, by omega⟩ (fun r11 h11 s11 q11 z_ => ?_)
  obtain ⟨rfl, es11, O11, f11⟩ := q11
  have es11 : s11 = sz + 16 := es11
  subst es11
  have k11 := (f11 o (by omega) (by omega)).trans ((f10 o (by omega)).trans k9)
  refine x_putF hc ho hnm dX6_init_45 F_X6_33 k11 rfl ⟨rfl, rfl⟩ (fun h12 k12 f12 => ?_)
  refine v_aload_n hc dX6_init_48 rfl ?_
  refine x_new hc ho dX6_init_49 NW_X6_16 (by omega) (by omega) (fun h13 e13 f13 => ?_)
  refine v_dup hc dX6_init_52 rfl ?_
  refine v_callI (As := []) hc ho dX6_init_53 KI_X6_18 KB_Jx4a65c_init_da8c8 (c_Jx4a65c_init_da8c8 (e := fun _ => 0) _ _ e13) rfl (Nat.le_of_ble_eq_true rfl) ⟨by omega, by omega⟩ ⟨by omega, by omega⟩ (fun r14 h14 s14 q14 z_ => ?_)
  obtain ⟨rfl, es14, O14, f14⟩ := q14
  have es14 : s14 = sz + 17 := es14
  subst es14
  have k14 := (f14 o (by omega)).trans ((f13 o (by omega)).trans k12)
  refine x_put hc ho dX6_init_56 F_X6_37 k14 rfl ⟨rfl, rfl⟩ (fun h15 k15 f15 => ?_)
  refine v_aload_n hc dX6_init_59 rfl ?_
  refine v_null hc dX6_init_60 ?_
  refine x_put hc ho dX6_init_61 F_X6_40 k15 rfl ⟨rfl, rfl⟩ (fun h16 k16 f16 => ?_)
  have g14 : ∀ b, b ≠ o → h16 b = h14 b := fun b hb => (f16 b hb).trans (f15 b hb)
  have g11 : ∀ b, b < sz + 16 → b ≠ o → h16 b = h11 b := fun b q hb => (g14 b hb).trans ((f14 b (by omega)).trans ((f13 b (by omega)).trans (f12 b hb)))
  have g8 : ∀ b, b < sz + 12 → b ≠ o → h16 b = h8 b := fun b q hb => (g11 b (by omega) hb).trans ((f11 b (by omega) (by omega)).trans ((f10 b (by omega)).trans (f9 b hb)))
  have g5 : ∀ b, b < sz + 5 → b ≠ o → h16 b = h5 b := fun b q hb => (g8 b (by omega) hb).trans ((f8 b (by omega) (by omega)).trans ((f7 b (by omega)).trans (f6 b hb)))
  have g2 : ∀ b, b < sz + 4 → b ≠ o → h16 b = h2 b := fun b q hb => (g5 b (by omega) hb).trans ((f5 b (by omega)).trans ((f4 b (by omega)).trans (f3 b hb)))
  have g0 : ∀ b, b < sz → b ≠ o → h16 b = h b := fun b q hb => (g2 b (by omega) hb).trans ((f2 b (by omega) (by omega)).trans (f1 b (by omega)))
  refine v_vret M dX6_init_64 (by omega) (by omega) ?_
  refine ⟨rfl, rfl, g0, fun LN PI PR PB mf SN SI SR SB i s => ⟨x_l0 sz o, x_O0 sz, x_D0 sz, sz + 4, (s_G S).2.2.1, sz + 16, (s_G S).2.2.1, fun _ => 0, fun _ => 0, fun _ => 0, .null, ?_⟩⟩
  refine ⟨fun t ht => ?_, ?_, ?_, k16, if_pos rfl, fun b hb => hb.elim, Or.inl ⟨rfl, rfl⟩⟩
  · unfold x_is at ht
    rcases (by omega : t = 0 ∨ t = 1 ∨ t = 5) with rfl | rfl | rfl
    · have hr : ∀ b, r_own K0 (sz + 12) (fun k => sz + 13 + r_ix K0 k) b → sz + 12 ≤ b ∧ b < sz + 16 := fun b hb => by
        have := r_own_rg hb
        have e3 : (K0.filterMap id).length = 3 := rfl
        omega
      refine ⟨O11.kept (fun b hb => ?_), fun b hb => ?_⟩
      · have := hr b hb
        exact g11 b (by omega) (by omega)
      · have := hr b hb
        unfold x_l0
        rw [if_neg (by omega), if_neg (by omega), if_neg (by omega), if_neg (by omega), if_pos (by omega)]
    · have hr : ∀ b, r_own K1 sz (fun k => sz + 1 + r_ix K1 k) b → sz ≤ b ∧ b < sz + 4 := fun b hb => by
        have := r_own_rg hb
        have e3 : (K1.filterMap id).length = 3 := rfl
        omega
      refine ⟨O2.kept (fun b hb => ?_), fun b hb => ?_⟩
      · have := hr b hb
        exact g2 b (by omega) (by omega)
      · have := hr b hb
        unfold x_l0
        rw [if_neg (by omega), if_pos (by omega)]
    · have hr : ∀ b, r_own (K5 0) (sz + 5) (fun k => sz + 6 + r_ix (K5 0) k) b → sz + 5 ≤ b ∧ b < sz + 12 := fun b hb => by
        have := r_own_rg hb
        have e3 : ((K5 0).filterMap id).length = 6 := rfl
        omega
      refine ⟨O8.kept (fun b hb => ?_), fun b hb => ?_⟩
      · have := hr b hb
        exact g8 b (by omega) (by omega)
      · have := hr b hb
        unfold x_l0
        rw [if_neg (by omega), if_neg (by omega), if_neg (by omega), if_pos (by omega)]
  · obtain ⟨mc, q1, q2, q3⟩ := O5
    refine ⟨⟨mc, (g5 (sz + 4) (by omega) (by omega)).trans q1, q2, Or.inl ⟨rfl, rfl⟩⟩, ?_, fun _ => rfl, fun q => absurd rfl q⟩
    unfold x_l0
    rw [if_neg (by omega), if_neg (by omega), if_pos (by omega)]
  · obtain ⟨mc, q1, q2, q3⟩ := O14
    refine ⟨⟨mc, (g14 (sz + 16) (by omega)).trans q1, q2, Or.inl ⟨rfl, rfl⟩⟩, Nat.zero_le 8, ?_, fun _ => rfl, fun q => absurd rfl q, fun u hu => absurd hu (by omega)⟩
    unfold x_l0
    rw [if_neg (by omega), if_neg (by omega), if_neg (by omega), if_neg (by omega), if_neg (by omega)]
/-- the world with the reference's cells beside it -/
theorem x_X.grow {G : b_G} {o6 : Nat} {L n : Nat} {I : Nat → Nat → Int} {A : Nat → Nat → Nat → Int} {nf : Nat} {LN : Nat → Nat} {PI PR PB : Nat → Nat → Int} {hn : Bool} {mf : Nat} {SN : Nat → Nat} {SI SR SB : Nat → Nat → Int} {i s : Nat → Int} {h h1 : b_H} {sz s1 : Nat} {P7 : Nat → Prop} (hX : x_X G o6 (fun _ => False) L n I A nf LN PI PR PB hn mf SN SI SR SB i s h sz) (hd : ∀ b, h b ≠ none → b < sz) (hq : ∀ b, b < sz → h1 b = h b) (hP : ∀ b, P7 b → sz ≤ b ∧ b < s1) : x_X G o6 P7 L n I A nf LN PI PR PB hn mf SN SI SR SB i s h1 s1 := by
  obtain ⟨lb, O, D, ol, al, fo, fa, pt, RA, RB, nv, hW, hL, hF, h6, hl6, h7, hN⟩ := hX
  obtain ⟨lb2, hlb2⟩ : ∃ f : Nat → Nat, f = (fun b => if b < sz then lb b else 7) := ⟨_, rfl⟩
  have hl2 : ∀ b, h b ≠ none → lb2 b = lb b := fun b hb => by rw [hlb2]; exact if_pos (hd b hb)
  have he2 : ∀ b, h b ≠ none → h1 b = h b := fun b hb => hq b (hd b hb)
  have h6n : h o6 ≠ none := by rw [h6]; exact fun e => by cases e
  refine ⟨lb2, O, D, ol, al, fo, fa, pt, RA, RB, nv, hW.kept2 (fun b hb _ => ⟨he2 b hb, hl2 b hb⟩), hL.kept2 (fun b hb q => ⟨he2 b hb, (hl2 b hb).trans q⟩), hF.kept2 (fun b hb q => ⟨he2 b hb, (hl2 b hb).trans q⟩) (Nat.le_refl n) (fun _ _ => rfl), (he2 o6 h6n).trans h6, (hl2 o6 h6n).trans hl6, fun b hb => ?_, ?_⟩
  · have := hP b hb
    refine ⟨?_, this.2⟩
    rw [hlb2]
    exact if_neg (by omega)
  · rcases hN with q | ⟨q, o2, sa, pr, pa, qt, QA, QB, w1, w2, w3⟩
    · exact Or.inl q
    · refine Or.inr ⟨q, o2, sa, pr, pa, qt, QA, QB, w1, w2.kept2 (fun b hb q => ⟨he2 b hb, (hl2 b hb).trans q⟩) (Nat.le_refl n) (fun _ _ => rfl), ?_⟩
      have n1 : h o2 ≠ none := by rw [w3.1]; exact fun e => by cases e
      have n2 : h sa ≠ none := by rw [w3.2.1]; exact fun e => by cases e
      exact ⟨(he2 o2 n1).trans w3.1, (he2 sa n2).trans w3.2.1, w3.2.2.1, (hl2 o2 n1).trans w3.2.2.2.1, (hl2 sa n2).trans w3.2.2.2.2⟩
