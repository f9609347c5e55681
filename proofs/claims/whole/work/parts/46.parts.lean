/-! the planner: the parts of a programme -/
def t_iv (i : Nat → Int) (a : Nat → Nat → Int) (b t nu st : Int) : Nat → Int := (fun k => if k = 1 then nu else if k = 2 then b else if k = 3 then q_ms (i 6) (i 7) b t else if k = 4 then st else if k = 5 then max 1 (q_hd (i 6) (i 7) b t) else if k = 8 then t_ex (fun j => (bI (i 11 / 2 ^ (q_rx (i 4).toNat (a 8) (a 9) (a 12) (i 10) b j).toNat % 2 = 1))) (q_ln a b) else 0)
theorem q_lm_1' {f : Nat → Int} {s : Int} {n : Nat} (h : ∀ j, j < n → 1 ≤ f j) : ∀ m : Nat, m ≤ n → 1 ≤ q_lm f s m
  | 0, _ => by rw [q_lm]; omega
  | m + 1, hm => by
    have h1 := q_lm_1' (s := s) h m (by omega)
    have h2 := h m (by omega)
    rw [q_lm]
    split <;> omega
theorem q_ln_ok {i : Nat → Int} {a : Nat → Nat → Int} (hJ : q_J i a) {b : Int} (hb : 1 ≤ b ∧ b ≤ 400) (h17 : ¬ a 13 b.toNat = 17) : 1 ≤ a 13 b.toNat ∧ a 13 b.toNat ≤ 16 ∧ (q_ln a b : Int) = a 13 b.toNat := by
  obtain ⟨hI, hB1, hE2, hX2, hDD⟩ := id hJ
  obtain ⟨hIb, hIe, hIx, hIsf, hImd, hIbt, hInx, hIfw, hIln⟩ := id hI
  have h1 := hIln b.toNat
  have h2 := hDD.2 b hb.1 (by omega)
  have h3 : 1 ≤ a 13 b.toNat := by
    rw [h2]
    refine q_lm_1' (n := (i 4).toNat) ?_ _ (Nat.le_refl _)
    intro j hj
    show 1 ≤ a 12 (b.toNat * 8 + j)
    have := hDD.1 b j hb.1 hb.2 (Or.inl (by omega)) (by omega) (by omega)
    rw [show (b * 8 + (j : Int)).toNat = b.toNat * 8 + j by omega] at this
    rw [this]
    unfold q_ff
    have hq := q_lm_bd (f := fun k => a 12 ((b - a 8 (j : Int).toNat).toNat * 8 + k)) (fun k => hIfw _) (a 9 (j : Int).toNat) (i 4).toNat
    split
    · omega
    · split
      · split <;> omega
      · omega
  refine ⟨h3, by omega, ?_⟩
  unfold q_ln
  rw [if_neg h17]
  omega
theorem t_I_new {i : Nat → Int} {a : Nat → Nat → Int} (hJ : q_J i a) {b t nu st : Int} (hb : 1 ≤ b ∧ b ≤ 400) (h17 : ¬ a 13 b.toNat = 17) (ht : 0 ≤ t ∧ t ≤ 100000) (hnu : 0 ≤ nu ∧ nu ≤ 11) (hst : 0 ≤ st ∧ st ≤ 6) {R B : Nat → Int} (hR : ∀ j, j < q_ln a b → R j = q_rx (i 4).toNat (a 8) (a 9) (a 12) (i 10) b j) (hB : ∀ j, j < q_ln a b → B j = a 8 (q_rx (i 4).toNat (a 8) (a 9) (a 12) (i 10) b j).toNat) : t_I (q_ln a b) (t_iv i a b t nu st) R B := by
  obtain ⟨hl1, hl2, hl3⟩ := q_ln_ok hJ hb h17
  have hok := q_st_ok hJ hb hl2
  obtain ⟨hI, hB1, hE2, hX2, hDD⟩ := id hJ
  obtain ⟨hIb, hIe, hIx, ⟨hs1, hs2, hs3⟩, hImd, hIbt, hInx, hIfw, hIln⟩ := id hI
  have hhd := q_hd_bd (s := i 6) (f := i 7) (b := b) (t := t) (by omega) (by omega) (by omega) (by omega) (by omega) (by omega)
  have hge : b ≤ q_hd (i 6) (i 7) b t := by
    have h1 : 600 * b / 240 ≤ 600 * b / i 7 := b_div_le (by omega) hs3 (by omega)
    unfold q_hd
    omega
  have hms := q_ms_bd2 (s := i 6) (f := i 7) (b := b) (t := t) hs1 hs2 (by omega) (by omega) ht.1 ht.2
  have hex := t_ex_bd (c := fun j => (bI (i 11 / 2 ^ (q_rx (i 4).toNat (a 8) (a 9) (a 12) (i 10) b j).toNat % 2 = 1))) (n := q_ln a b) (fun j _ => bI_01 _)
  have hpw : (2 : Int) ^ q_ln a b ≤ 65536 := by
    have key : ∀ k : Fin 17, (2 : Int) ^ k.val ≤ 65536 := by decide +kernel
    exact key ⟨q_ln a b, by omega⟩
  refine ⟨⟨by omega, by omega⟩, hb, ⟨?_, ?_⟩, ⟨hex.1, ?_⟩, fun j hj => ?_, fun j hj => ?_, fun j _ => ?_, hnu, ?_, ?_⟩
  · show b ≤ max 1 (q_hd (i 6) (i 7) b t); omega
  · show max 1 (q_hd (i 6) (i 7) b t) ≤ 240000; omega
  · show t_ex _ _ < 65536; omega
  · have := hok j (by omega)
    rw [hB j hj]
    exact ⟨hB1 _ (by omega), (hIbt _).2⟩
  · have := hok j (by omega)
    rw [hR j hj]; omega
  · omega
  · show zb (q_ms (i 6) (i 7) b t); unfold zb; omega
  · show zb st; unfold zb; omega

set_option maxHeartbeats 4000000 in
theorem l_X5_parts {S : b_S} {l : Launch} {G : b_G} {i : Nat → Int} {a : Nat → Nat → Int} {hB : b_H} {sz0 St lo : Nat} {lb : Nat → Nat} {L n : Nat} {O : Nat → Nat} {D : Nat → Nat → Nat} {I : Nat → Nat → Int} {A : Nat → Nat → Nat → Int} {ol al : Nat} {post : Option Value → b_H → Nat → Prop} (M : b_M S l G RX5 cX5_parts 9 (some (.object "java/util/ArrayList")) "parts" 9 340 33 8395 hB sz0 post) (hWB : x_W lb L n O D I A hB) (hPB : p_L G lb n O ol al hB) (hJP : ∀ p, p < n → q_J (I (p + 20)) (A (p + 20))) (hkey : ∀ p, p < n → 0 ≤ I (p + 20) 0 ∧ I (p + 20) 0 ≤ 11) (hth : ∀ p, p < n → I (p + 20) 2 = 0 ∨ I (p + 20) 2 = 1) (hn12 : n ≤ 12) {ch : Nat → Nat} {cf : Nat → Int} {ca : Nat} (hcaB : hB ca = some (b_iA St cf)) (hcf : ∀ s, s < St → cf s = (ch s : Int)) (hch : ∀ s, s < St → ch s < n) (hbt : ∀ s, s < St → (1 ≤ a 5 (s * 12 + ch s) ∧ a 5 (s * 12 + ch s) ≤ 400) ∧ ¬ A (ch s + 20) 13 (a 5 (s * 12 + ch s)).toNat = 17) (hat : ∀ s, s < St → 0 ≤ a 4 s ∧ a 4 s ≤ 100000) (hSt8 : St ≤ 8) (hi2 : i 2 = (St : Int)) (hdom : ∀ b, hB b ≠ none → b < sz0) (hloe : lo = sz0) (hOB : r_O (K5 L) 5 (O 5) (D 5) i a hB) (P : ∀ (h : b_H) (sz fa : Nat) (pt RA RB : Nat → Nat) (PR PB : Nat → Nat → Int), sz0 < sz → (∀ b, b < sz0 → h b = hB b) → j_L G lo fa St pt h → (St = 0 → fa = G.2.2.1) → (St ≠ 0 → sz0 < fa ∧ fa < sz) → (∀ j, j < St → t_O (pt j) (O (ch j + 20)) (RA j) (RB j) ((fun s => q_ln (A (ch s + 20)) (a 5 (s * 12 + ch s))) j) ((fun s => t_iv (I (ch s + 20)) (A (ch s + 20)) (a 5 (s * 12 + ch s)) (a 4 s) (ch s : Int) (p_st (I (ch s + 20) 0) (I ((if s + 1 < St then ch (s + 1) else ch s) + 20) 0))) j) (PR j) (PB j) h ∧ (∀ k, k < q_ln (A (ch j + 20)) (a 5 (j * 12 + ch j)) → PR j k = q_rx (I (ch j + 20) 4).toNat (A (ch j + 20) 8) (A (ch j + 20) 9) (A (ch j + 20) 12) (I (ch j + 20) 10) (a 5 (j * 12 + ch j)) k) ∧ (∀ k, k < q_ln (A (ch j + 20)) (a 5 (j * 12 + ch j)) → PB j k = A (ch j + 20) 8 (q_rx (I (ch j + 20) 4).toNat (A (ch j + 20) 8) (A (ch j + 20) 9) (A (ch j + 20) 12) (I (ch j + 20) 10) (a 5 (j * 12 + ch j)) k).toNat) ∧ (sz0 < pt j ∧ pt j < sz) ∧ (sz0 < RA j ∧ RA j < sz) ∧ (sz0 < RB j ∧ RB j < sz) ∧ pt j ≠ fa ∧ RA j ≠ fa ∧ RB j ≠ fa) → post (some (.ref lo)) h sz) : ∀ (d : Nat) (h : b_H) (sz kk nn fa : Nat) (pt RA RB : Nat → Nat) (PR PB : Nat → Nat → Int) (x : Int) (x5 x6 x7 x8 : Option Value), (((St : Int) - x).toNat = d) → (0 ≤ x) → (x ≤ St) → (sz0 < sz) → (kk ≤ 1 + 4 * x.toNat) → (nn ≤ 3 + 1049 * x.toNat) → (∀ b, b < sz0 → h b = hB b) → (j_L G lo fa x.toNat pt h) → (x.toNat = 0 → fa = G.2.2.1) → (x.toNat ≠ 0 → sz0 < fa ∧ fa < sz) → (∀ j, j < x.toNat → t_O (pt j) (O (ch j + 20)) (RA j) (RB j) ((fun s => q_ln (A (ch s + 20)) (a 5 (s * 12 + ch s))) j) ((fun s => t_iv (I (ch s + 20)) (A (ch s + 20)) (a 5 (s * 12 + ch s)) (a 4 s) (ch s : Int) (p_st (I (ch s + 20) 0) (I ((if s + 1 < St then ch (s + 1) else ch s) + 20) 0))) j) (PR j) (PB j) h ∧ (∀ k, k < q_ln (A (ch j + 20)) (a 5 (j * 12 + ch j)) → PR j k = q_rx (I (ch j + 20) 4).toNat (A (ch j + 20) 8) (A (ch j + 20) 9) (A (ch j + 20) 12) (I (ch j + 20) 10) (a 5 (j * 12 + ch j)) k) ∧ (∀ k, k < q_ln (A (ch j + 20)) (a 5 (j * 12 + ch j)) → PB j k = A (ch j + 20) 8 (q_rx (I (ch j + 20) 4).toNat (A (ch j + 20) 8) (A (ch j + 20) 9) (A (ch j + 20) 12) (I (ch j + 20) 10) (a 5 (j * 12 + ch j)) k).toNat) ∧ (sz0 < pt j ∧ pt j < sz) ∧ (sz0 < RA j ∧ RA j < sz) ∧ (sz0 < RB j ∧ RB j < sz) ∧ pt j ≠ fa ∧ RA j ≠ fa ∧ RB j ≠ fa) → V S kk nn h sz 11 [some (.ref (O 5)), some (.ref ol), some (.ref ca), some (.ref lo), some (.int (zI x)), x5, x6, x7, x8] [] := by
  have hc := M.2.2.2.1
  have ho : s_own S = RX5 := M.2.2.1
  have hFr : (s_R S).frames = 9 := by rw [M.2.2.2.2.2.2.2.1]
  have hLo : (s_R S).locals = 340 := by rw [M.2.2.2.2.2.2.2.1]
  have hCe : (s_R S).cells = 33 := by rw [M.2.2.2.2.2.2.2.1]
  have hSl : (s_R S).slots = 8395 := by rw [M.2.2.2.2.2.2.2.1]
  intro d
  induction d using Nat.strongRecOn with
  | ind d ih =>
    intro h sz kk nn fa pt RA RB PR PB x x5 x6 x7 x8 hd h0 h1 hs0 hkk hnn hfr hjl hz0 hfas hps
    have hG : s_G S = G := M.2.1
    subst hG
    have hG0 : True := trivial
    have hlt4 : ∀ p, p < n → ∀ b, r_own K4 (O (p + 20)) (D (p + 20)) b → b < sz0 := fun p hp b hb => (hWB.pc hp).lt hdom b hb
    have hpcs : ∀ h' : b_H, (∀ b, b < sz0 → h' b = hB b) → ∀ p, p < n → r_O K4 4 (O (p + 20)) (D (p + 20)) (I (p + 20)) (A (p + 20)) h' := fun h' hf p hp => (hWB.pc hp).kept (fun b hb => hf b (hlt4 p hp b hb))
    have hpls : ∀ h' : b_H, (∀ b, b < sz0 → h' b = hB b) → p_L (s_G S) lb n O ol al h' := fun h' hf => by
      obtain ⟨⟨mc, q1, q2, q3⟩, g3, g4, g5⟩ := id hPB
      refine ⟨⟨mc, (hf ol (hdom ol (by rw [q1]; exact fun e => by cases e))).trans q1, q2, ?_⟩, g3, g4, g5⟩
      rcases q3 with q | ⟨cap, f, u1, u2⟩
      · exact Or.inl q
      · exact Or.inr ⟨cap, f, (hf al (hdom al (by rw [u1]; exact fun e => by cases e))).trans u1, u2⟩
    have hOs : ∀ h' : b_H, (∀ b, b < sz0 → h' b = hB b) → r_O (K5 L) 5 (O 5) (D 5) i a h' := fun h' hf => hOB.kept (fun b hb => hf b (hOB.lt hdom b hb))
    have hO := hOs h hfr
    have hpl := hpls h hfr
    have hca := (hfr ca (hdom ca (by rw [hcaB]; exact fun e => by cases e))).trans hcaB
    obtain ⟨mc, hjo, -⟩ := id hpl.1
    obtain ⟨mcl, hlo0, hln, hlq⟩ := id hjl
    have hcl3' : ∀ {h3 : b_H} {b : Nat} {y : b_X}, (∀ b y, h b = some y → h3 b = some y) → h b = some y → h3 b = some y := fun f g => f _ _ g
    have hfan : x.toNat ≠ 0 ∨ h fa ≠ none → ∃ y, h fa = some y := fun hq => by
      cases hy : h fa with
      | some y => exact ⟨y, rfl⟩
      | none =>
        rcases hq with q | q
        · rcases hlq with u | ⟨cap, f, u1, u2⟩
          · exact absurd u.1 q
          · rw [u1] at hy; cases hy
        · exact absurd hy q
    clear hlq
    have hi := hO.2.2.2.1
    have ha := hO.2.2.2.2
    refine v_iload hc dX5_parts_11 rfl ?_
    refine v_aload_n hc dX5_parts_13 rfl ?_
    refine z_ilen hc dX5_parts_14 hca ?_
    refine z_icmp_ge (tgt := 171) hc dX5_parts_15 (by decide) (by first | assumption | exact hi _ | exact ha _ _ | (unfold zb; omega)) (by first | assumption | exact hi _ | exact ha _ _ | (unfold zb; omega)) (fun c_1 => ?_) (fun c_1 => ?_)
    · refine v_aload_n hc dX5_parts_171 rfl ?_
      refine v_aret M rfl (Or.inl ⟨_, rfl⟩) (Or.inr ⟨_, rfl⟩) dX5_parts_172 (by omega) (by omega) ?_
      exact P h sz fa pt RA RB PR PB (by omega) hfr (by rw [show St = x.toNat by omega]; exact hjl) (fun q => hz0 (by omega)) (fun q => hfas (by omega)) (fun j hj => hps j (by omega))
    · refine v_iload hc dX5_parts_18 rfl ?_
      refine v_aload_n hc dX5_parts_20 rfl ?_
      refine r_get hc ho dX5_parts_21 F_X5_49 hO rfl ?_
      refine z_icmp_ge (tgt := 171) hc dX5_parts_24 (by decide) (by first | assumption | exact hi _ | exact ha _ _ | (unfold zb; omega)) (by first | assumption | exact hi _ | exact ha _ _ | (unfold zb; omega)) (fun c_2 => ?_) (fun c_2 => ?_)
      · refine v_aload_n hc dX5_parts_171 rfl ?_
        refine v_aret M rfl (Or.inl ⟨_, rfl⟩) (Or.inr ⟨_, rfl⟩) dX5_parts_172 (by omega) (by omega) ?_
        exact P h sz fa pt RA RB PR PB (by omega) hfr (by rw [show St = x.toNat by omega]; exact hjl) (fun q => hz0 (by omega)) (fun q => hfas (by omega)) (fun j hj => hps j (by omega))
      · have hcx0 : x.toNat < St := by omega
        have hcx1 := hch x.toNat hcx0
        have hbb : 1 ≤ a 5 (x.toNat * 12 + ch x.toNat) ∧ a 5 (x.toNat * 12 + ch x.toNat) ≤ 400 := (hbt x.toNat hcx0).1
        have hb17 := (hbt x.toNat hcx0).2
        refine v_aload_n hc dX5_parts_27 rfl ?_
        refine v_iload hc dX5_parts_28 rfl ?_
        refine z_iald hc dX5_parts_30 hca (by omega) (by omega) (by omega) ?_
        rw [hcf x.toNat hcx0]
        refine v_istore hc dX5_parts_31 (Nat.le_of_ble_eq_true rfl) ?_
        refine v_iload hc dX5_parts_33 rfl ?_
        refine z_iconst hc dX5_parts_35 ?_
        refine z_iadd hc dX5_parts_36 ?_
        refine v_aload_n hc dX5_parts_37 rfl ?_
        refine z_ilen hc dX5_parts_38 hca ?_
        refine z_icmp_ge (tgt := 51) hc dX5_parts_39 (by decide) (by first | assumption | exact hi _ | exact ha _ _ | (unfold zb; omega)) (by first | assumption | exact hi _ | exact ha _ _ | (unfold zb; omega)) (fun c_3 => ?_) (fun c_3 => ?_)
        · skip
          refine v_iload hc dX5_parts_51 rfl ?_
          have hqn := hcx1
          have hqe : (if x.toNat + 1 < St then ch (x.toNat + 1) else ch x.toNat) = ch x.toNat := by rw [if_neg (by omega)]
          have hpc := hpcs h hfr (ch x.toNat) hcx1
          have hpc2 := hpcs h hfr (ch x.toNat) (by omega)
          refine v_istore hc dX5_parts_53 (Nat.le_of_ble_eq_true rfl) ?_
          refine v_iload hc dX5_parts_55 rfl ?_
          refine z_iconst hc dX5_parts_57 ?_
          refine v_aload_n hc dX5_parts_58 rfl ?_
          refine v_callV (As := []) hc ho dX5_parts_59 KV_X5_51 KB_Jx4a65c_size_8abf5 hjo rfl rfl (c_Jx4a65c_size_8abf5 _ _ hpl.1) rfl (Nat.le_of_ble_eq_true rfl) ⟨by omega, by omega⟩ ⟨by omega, by omega⟩ (fun r_ h_ sz_ q_ z_ => ?_)
          obtain ⟨rfl, eh_, es_⟩ := q_
          have eh_ := eh_.symm
          subst eh_
          have es_ := es_.symm
          subst es_
          refine z_iconst hc dX5_parts_62 ?_
          refine z_isub hc dX5_parts_63 ?_
          refine v_callSN (As := [.int (zI (ch x.toNat : Int)), .int (zI 0), .int (zI ((n : Int) - 1))]) hc ho dX5_parts_64 KSN_X5_139 KB_X6_within (c_X6_within _ _ (x := (ch x.toNat : Int)) (y := 0) (z := (n : Int) - 1) (by unfold zb; omega) (by unfold zb; omega) (by unfold zb; omega)) rfl (Nat.le_of_ble_eq_true rfl) ⟨by omega, by omega⟩ ⟨by omega, by omega⟩ (fun r_ h_ sz_ q_ z_ => ?_)
          obtain ⟨rfl, eh_, es_⟩ := q_
          have eh_ := eh_.symm
          subst eh_
          have es_ := es_.symm
          subst es_
          have hb01 := bI_or (0 ≤ (ch x.toNat : Int) ∧ (ch x.toNat : Int) ≤ (n : Int) - 1)
          generalize bI (0 ≤ (ch x.toNat : Int) ∧ (ch x.toNat : Int) ≤ (n : Int) - 1) = bp at hb01 ⊢
          refine z_if_eq (tgt := 85) hc dX5_parts_67 (by decide) (by first | assumption | exact hi _ | exact ha _ _ | (unfold zb; omega)) (fun c_4 => absurd c_4 (by omega)) (fun c_4 => ?_)
          refine v_iload hc dX5_parts_70 rfl ?_
          refine z_iconst hc dX5_parts_72 ?_
          refine v_aload_n hc dX5_parts_73 rfl ?_
          refine v_callV (As := []) hc ho dX5_parts_74 KV_X5_51 KB_Jx4a65c_size_8abf5 hjo rfl rfl (c_Jx4a65c_size_8abf5 _ _ hpl.1) rfl (Nat.le_of_ble_eq_true rfl) ⟨by omega, by omega⟩ ⟨by omega, by omega⟩ (fun r_ h_ sz_ q_ z_ => ?_)
          obtain ⟨rfl, eh_, es_⟩ := q_
          have eh_ := eh_.symm
          subst eh_
          have es_ := es_.symm
          subst es_
          refine z_iconst hc dX5_parts_77 ?_
          refine z_isub hc dX5_parts_78 ?_
          refine v_callSN (As := [.int (zI (ch x.toNat : Int)), .int (zI 0), .int (zI ((n : Int) - 1))]) hc ho dX5_parts_79 KSN_X5_139 KB_X6_within (c_X6_within _ _ (x := (ch x.toNat : Int)) (y := 0) (z := (n : Int) - 1) (by unfold zb; omega) (by unfold zb; omega) (by unfold zb; omega)) rfl (Nat.le_of_ble_eq_true rfl) ⟨by omega, by omega⟩ ⟨by omega, by omega⟩ (fun r_ h_ sz_ q_ z_ => ?_)
          obtain ⟨rfl, eh_, es_⟩ := q_
          have eh_ := eh_.symm
          subst eh_
          have es_ := es_.symm
          subst es_
          have hb02 := bI_or (0 ≤ (ch x.toNat : Int) ∧ (ch x.toNat : Int) ≤ (n : Int) - 1)
          generalize bI (0 ≤ (ch x.toNat : Int) ∧ (ch x.toNat : Int) ≤ (n : Int) - 1) = bp2 at hb02 ⊢
          refine z_if_ne (tgt := 87) hc dX5_parts_82 (by decide) (by first | assumption | exact hi _ | exact ha _ _ | (unfold zb; omega)) (fun c_5 => ?_) (fun c_5 => absurd c_5 (by omega))
          refine v_aload_n hc dX5_parts_87 rfl ?_
          refine v_iload hc dX5_parts_88 rfl ?_
          refine v_callV (As := [.int (zI (ch x.toNat : Int))]) hc ho dX5_parts_90 KV_X5_87 KB_Jx4a65c_get_915e3 hjo rfl rfl (c_Jx4a65c_get_915e3 _ _ hpl.1 (x := (ch x.toNat : Int)) (by omega)) rfl (Nat.le_of_ble_eq_true rfl) ⟨by omega, by omega⟩ ⟨by omega, by omega⟩ (fun r_ h_ sz_ q_ z_ => ?_)
          obtain ⟨rfl, eh_, es_⟩ := q_
          have eh_ := eh_.symm
          subst eh_
          have es_ := es_.symm
          subst es_
          rw [Int.toNat_natCast]
          refine v_cast hc ho dX5_parts_93 rfl CLk_X5_91 hpc.1 ?_
          refine r_get hc ho dX5_parts_96 F_X5_103 hpc rfl ?_
          refine v_aload_n hc dX5_parts_99 rfl ?_
          refine v_iload hc dX5_parts_100 rfl ?_
          refine v_callV (As := [.int (zI (ch x.toNat : Int))]) hc ho dX5_parts_102 KV_X5_87 KB_Jx4a65c_get_915e3 hjo rfl rfl (c_Jx4a65c_get_915e3 _ _ hpl.1 (x := (ch x.toNat : Int)) (by omega)) rfl (Nat.le_of_ble_eq_true rfl) ⟨by omega, by omega⟩ ⟨by omega, by omega⟩ (fun r_ h_ sz_ q_ z_ => ?_)
          obtain ⟨rfl, eh_, es_⟩ := q_
          have eh_ := eh_.symm
          subst eh_
          have es_ := es_.symm
          subst es_
          rw [Int.toNat_natCast]
          refine v_cast hc ho dX5_parts_105 rfl CLk_X5_91 hpc2.1 ?_
          refine r_get hc ho dX5_parts_108 F_X5_103 hpc2 rfl ?_
          refine v_callSN (As := [.int (zI (I (ch x.toNat + 20) 0)), .int (zI (I (ch x.toNat + 20) 0))]) hc ho dX5_parts_111 KSN_X5_106 KB_X6_fifthsBetween (c_X6_fifthsBetween _ _ (x := I (ch x.toNat + 20) 0) (y := I (ch x.toNat + 20) 0) (hkey _ (by omega)) (hkey _ (by omega))) rfl (Nat.le_of_ble_eq_true rfl) ⟨by omega, by omega⟩ ⟨by omega, by omega⟩ (fun r_ h_ sz_ q_ z_ => ?_)
          obtain ⟨rfl, eh_, es_⟩ := q_
          have eh_ := eh_.symm
          subst eh_
          have es_ := es_.symm
          subst es_
          have hsb := p_st_bd (I (ch x.toNat + 20) 0) (I (ch x.toNat + 20) 0)
          obtain ⟨sv, hsv⟩ : ∃ v, p_st (I (ch x.toNat + 20) 0) (I (ch x.toNat + 20) 0) = v := ⟨_, rfl⟩
          rw [hsv] at hsb ⊢
          refine v_istore hc dX5_parts_114 (Nat.le_of_ble_eq_true rfl) ?_
          refine v_aload_n hc dX5_parts_116 rfl ?_
          refine r_getA hc ho dX5_parts_117 F_X5_22 hO rfl ?_
          refine v_iload hc dX5_parts_120 rfl ?_
          refine z_bipush hc dX5_parts_122 (by decide) ?_
          refine z_imul hc dX5_parts_124 ?_
          refine v_iload hc dX5_parts_125 rfl ?_
          refine z_iadd hc dX5_parts_127 ?_
          refine r_iald hc dX5_parts_128 hO 5 rfl (by decide) (by omega) (by omega) ?_
          rw [show (x * 12 + (ch x.toNat : Int)).toNat = x.toNat * 12 + ch x.toNat by omega]
          refine v_istore hc dX5_parts_129 (Nat.le_of_ble_eq_true rfl) ?_
          refine v_dom (fun hdm => ?_)
          refine v_aload_n hc dX5_parts_131 rfl ?_
          refine x_new hc ho dX5_parts_132 NW_X5_147 (by omega) (by omega) (fun h1 hnp e2 => ?_)
          have hcl : ∀ b y, h b = some y → h1 b = some y := fun b y hb => (e2 b (by have := hdm b (by rw [hb]; exact fun e => by cases e); omega)).trans hb
          have hpc := (hpcs h1 (fun b hb => (e2 b (by omega)).trans (hfr b hb))) (ch x.toNat) hcx1
          have hpl : p_L (s_G S) lb n O ol al h1 := hpls h1 (fun b hb => (e2 b (by omega)).trans (hfr b hb))
          obtain ⟨mc1, hjo, -⟩ := id hpl.1
          have hO : r_O (K5 L) 5 (O 5) (D 5) i a h1 := hOs h1 (fun b hb => (e2 b (by omega)).trans (hfr b hb))
          refine v_dup hc dX5_parts_135 rfl ?_
          refine v_aload_n hc dX5_parts_136 rfl ?_
          refine v_iload hc dX5_parts_137 rfl ?_
          refine v_callV (As := [.int (zI (ch x.toNat : Int))]) hc ho dX5_parts_139 KV_X5_87 KB_Jx4a65c_get_915e3 hjo rfl rfl (c_Jx4a65c_get_915e3 _ _ hpl.1 (x := (ch x.toNat : Int)) (by omega)) rfl (Nat.le_of_ble_eq_true rfl) ⟨by omega, by omega⟩ ⟨by omega, by omega⟩ (fun r_ h_ sz_ q_ z_ => ?_)
          obtain ⟨rfl, eh_, es_⟩ := q_
          have eh_ := eh_.symm
          subst eh_
          have es_ := es_.symm
          subst es_
          rw [Int.toNat_natCast]
          refine v_cast hc ho dX5_parts_142 rfl CLk_X5_91 hpc.1 ?_
          refine v_iload hc dX5_parts_145 rfl ?_
          refine v_iload hc dX5_parts_147 rfl ?_
          refine v_aload_n hc dX5_parts_149 rfl ?_
          refine r_getA hc ho dX5_parts_150 F_X5_18 hO rfl ?_
          refine v_iload hc dX5_parts_153 rfl ?_
          refine r_iald hc dX5_parts_155 hO 4 rfl (by decide) (by omega) (by omega) ?_
          refine v_iload hc dX5_parts_156 rfl ?_
          refine v_callI (As := [.ref (O (ch x.toNat + 20)), .int (zI (ch x.toNat : Int)), .int (zI (a 5 (x.toNat * 12 + ch x.toNat))), .int (zI (a 4 x.toNat)), .int (zI sv)]) hc ho dX5_parts_158 KI_X5_149 KB_X3_init (c_X3_init _ _ hpc (hJP _ hcx1) hnp (by omega) (fun b hb => ⟨by have := hlt4 (ch x.toNat) hcx1 b hb; omega, by have := hlt4 (ch x.toNat) hcx1 b hb; omega⟩) (nu := (ch x.toNat : Int)) (b := a 5 (x.toNat * 12 + ch x.toNat)) (t := a 4 x.toNat) (st := sv) (by omega) hbb (hat x.toNat (by omega)) (by unfold zb; omega) (by have := q_ln_ok (hJP _ hcx1) hbb hb17; omega)) rfl (Nat.le_of_ble_eq_true rfl) ⟨by omega, by omega⟩ ⟨by omega, by omega⟩ (fun r3_ h3 sz3 q_ z_ => ?_)
          obtain ⟨rfl, rfl, ⟨R3, B3, hT3, hR3, hB3⟩, hfr3⟩ := q_
          have hcl3 : ∀ b y, h b = some y → h3 b = some y := fun b y hb => (hfr3 b (by have := hdm b (by rw [hb]; exact fun e => by cases e); omega) (by have := hdm b (by rw [hb]; exact fun e => by cases e); omega)).trans (hcl b y hb)
          have hjl3 : j_L (s_G S) lo fa x.toNat pt h3 := hjl.kept ((hcl3' hcl3 hlo0).trans hlo0.symm) (fun hq => by obtain ⟨y, hy⟩ := hfan hq; exact (hcl3 _ _ hy).trans hy.symm)
          obtain ⟨mc3, hlo3, -⟩ := id hjl3
          refine v_callV (As := [.ref sz]) hc ho dX5_parts_161 KV_X5_152 KB_Jx4a65c_add_9ea2d hlo3 rfl rfl (c_Jx4a65c_add_9ea2d _ _ hjl3 (v := sz) hz0 (by omega) (by omega) (ci := 3) rfl CA3 (by decide) (fun j hj => by obtain ⟨q1, -⟩ := hps j hj; exact ⟨_, hcl3 _ _ q1.1⟩) hT3.1 (by omega)) rfl (Nat.le_of_ble_eq_true rfl) ⟨by omega, by omega⟩ ⟨by omega, by omega⟩ (fun r4_ h4 sz4 q_ z_ => ?_)
          obtain ⟨rfl, fa4, hq4, hj4, hfr4⟩ := q_
          refine v_pop hc dX5_parts_164 rfl ?_
          refine z_iinc hc dX5_parts_165 rfl ?_
          refine v_goto (tgt := 11) hc dX5_parts_168 (by decide) ?_
          have hx1 : (x + 1).toNat = x.toNat + 1 := by omega
          have hszs : sz + 3 ≤ sz4 ∧ sz4 ≤ sz + 4 := by omega
          have hf4 : ∀ b, b < sz → b ≠ lo → b ≠ fa4 → h4 b = h b := fun b q1 q2 q3 => ((hfr4 b q2 q3).trans (hfr3 b (by omega) (by omega))).trans (e2 b (by omega))
          have hfa4 : sz0 < fa4 ∧ fa4 < sz4 ∧ (fa4 = fa ∧ x.toNat ≠ 0 ∨ fa4 = sz + 3) := by
            rcases hq4 with ⟨q1, q2, q3⟩ | ⟨q1, q2⟩
            · have := hfas q3; omega
            · omega
          refine ih _ (by omega) h4 sz4 _ _ fa4 (b_up pt x.toNat sz) (b_up RA x.toNat (sz + 1)) (b_up RB x.toNat (sz + 2)) (b_up PR x.toNat R3) (b_up PB x.toNat B3) _ _ _ _ _ rfl (by omega) (by omega) (by omega) (by omega) (by omega) (fun b hb => (hf4 b (by omega) (by omega) (by omega)).trans (hfr b hb)) (by rw [hx1]; exact hj4) (fun q => by omega) (fun _ => by omega) (fun j hj => ?_)
          by_cases e : j = x.toNat
          · rw [e, b_up_eq, b_up_eq, b_up_eq, b_up_eq, b_up_eq]
            refine ⟨⟨(hfr4 sz (by omega) (by omega)).trans ?_, (hfr4 _ (by omega) (by omega)).trans hT3.2.1, (hfr4 _ (by omega) (by omega)).trans hT3.2.2⟩, hR3, hB3, by omega, by omega, by omega, by omega, by omega, by omega⟩
            show h3 sz = some (b_ob 3 (t_fs _ _ _ (t_iv _ _ _ _ _ (p_st _ (I ((if x.toNat + 1 < St then ch (x.toNat + 1) else ch x.toNat) + 20) 0)))))
            rw [hqe, hsv]
            exact hT3.1
          · rw [b_up_ne _ _ e, b_up_ne _ _ e, b_up_ne _ _ e, b_up_ne _ _ e, b_up_ne _ _ e]
            obtain ⟨p1, p2, p3, p4, p5, p6, p7, p8, p9⟩ := hps j (by omega)
            exact ⟨p1.kept (hf4 _ (by omega) (by omega) (by omega)) (hf4 _ (by omega) (by omega) (by omega)) (hf4 _ (by omega) (by omega) (by omega)), p2, p3, by omega, by omega, by omega, by omega, by omega, by omega⟩
        · skip
          refine v_aload_n hc dX5_parts_42 rfl ?_
          refine v_iload hc dX5_parts_43 rfl ?_
          refine z_iconst hc dX5_parts_45 ?_
          refine z_iadd hc dX5_parts_46 ?_
          refine z_iald hc dX5_parts_47 hca (by omega) (by omega) (by omega) ?_
          skip
          refine v_goto (tgt := 53) hc dX5_parts_48 (by decide) ?_
          rw [hcf (x + 1).toNat (by omega)]
          have hqn := hch (x + 1).toNat (by omega)
          have hqe : (if x.toNat + 1 < St then ch (x.toNat + 1) else ch x.toNat) = ch (x + 1).toNat := by rw [if_pos (by omega), show x.toNat + 1 = (x + 1).toNat by omega]
          have hpc := hpcs h hfr (ch x.toNat) hcx1
          have hpc2 := hpcs h hfr (ch (x + 1).toNat) (by omega)
          refine v_istore hc dX5_parts_53 (Nat.le_of_ble_eq_true rfl) ?_
          refine v_iload hc dX5_parts_55 rfl ?_
          refine z_iconst hc dX5_parts_57 ?_
          refine v_aload_n hc dX5_parts_58 rfl ?_
          refine v_callV (As := []) hc ho dX5_parts_59 KV_X5_51 KB_Jx4a65c_size_8abf5 hjo rfl rfl (c_Jx4a65c_size_8abf5 _ _ hpl.1) rfl (Nat.le_of_ble_eq_true rfl) ⟨by omega, by omega⟩ ⟨by omega, by omega⟩ (fun r_ h_ sz_ q_ z_ => ?_)
          obtain ⟨rfl, eh_, es_⟩ := q_
          have eh_ := eh_.symm
          subst eh_
          have es_ := es_.symm
          subst es_
          refine z_iconst hc dX5_parts_62 ?_
          refine z_isub hc dX5_parts_63 ?_
          refine v_callSN (As := [.int (zI (ch x.toNat : Int)), .int (zI 0), .int (zI ((n : Int) - 1))]) hc ho dX5_parts_64 KSN_X5_139 KB_X6_within (c_X6_within _ _ (x := (ch x.toNat : Int)) (y := 0) (z := (n : Int) - 1) (by unfold zb; omega) (by unfold zb; omega) (by unfold zb; omega)) rfl (Nat.le_of_ble_eq_true rfl) ⟨by omega, by omega⟩ ⟨by omega, by omega⟩ (fun r_ h_ sz_ q_ z_ => ?_)
          obtain ⟨rfl, eh_, es_⟩ := q_
          have eh_ := eh_.symm
          subst eh_
          have es_ := es_.symm
          subst es_
          have hb01 := bI_or (0 ≤ (ch x.toNat : Int) ∧ (ch x.toNat : Int) ≤ (n : Int) - 1)
          generalize bI (0 ≤ (ch x.toNat : Int) ∧ (ch x.toNat : Int) ≤ (n : Int) - 1) = bp at hb01 ⊢
          refine z_if_eq (tgt := 85) hc dX5_parts_67 (by decide) (by first | assumption | exact hi _ | exact ha _ _ | (unfold zb; omega)) (fun c_6 => absurd c_6 (by omega)) (fun c_6 => ?_)
          refine v_iload hc dX5_parts_70 rfl ?_
          refine z_iconst hc dX5_parts_72 ?_
          refine v_aload_n hc dX5_parts_73 rfl ?_
          refine v_callV (As := []) hc ho dX5_parts_74 KV_X5_51 KB_Jx4a65c_size_8abf5 hjo rfl rfl (c_Jx4a65c_size_8abf5 _ _ hpl.1) rfl (Nat.le_of_ble_eq_true rfl) ⟨by omega, by omega⟩ ⟨by omega, by omega⟩ (fun r_ h_ sz_ q_ z_ => ?_)
          obtain ⟨rfl, eh_, es_⟩ := q_
          have eh_ := eh_.symm
          subst eh_
          have es_ := es_.symm
          subst es_
          refine z_iconst hc dX5_parts_77 ?_
          refine z_isub hc dX5_parts_78 ?_
          refine v_callSN (As := [.int (zI (ch (x + 1).toNat : Int)), .int (zI 0), .int (zI ((n : Int) - 1))]) hc ho dX5_parts_79 KSN_X5_139 KB_X6_within (c_X6_within _ _ (x := (ch (x + 1).toNat : Int)) (y := 0) (z := (n : Int) - 1) (by unfold zb; omega) (by unfold zb; omega) (by unfold zb; omega)) rfl (Nat.le_of_ble_eq_true rfl) ⟨by omega, by omega⟩ ⟨by omega, by omega⟩ (fun r_ h_ sz_ q_ z_ => ?_)
          obtain ⟨rfl, eh_, es_⟩ := q_
          have eh_ := eh_.symm
          subst eh_
          have es_ := es_.symm
          subst es_
          have hb02 := bI_or (0 ≤ (ch (x + 1).toNat : Int) ∧ (ch (x + 1).toNat : Int) ≤ (n : Int) - 1)
          generalize bI (0 ≤ (ch (x + 1).toNat : Int) ∧ (ch (x + 1).toNat : Int) ≤ (n : Int) - 1) = bp2 at hb02 ⊢
          refine z_if_ne (tgt := 87) hc dX5_parts_82 (by decide) (by first | assumption | exact hi _ | exact ha _ _ | (unfold zb; omega)) (fun c_7 => ?_) (fun c_7 => absurd c_7 (by omega))
          refine v_aload_n hc dX5_parts_87 rfl ?_
          refine v_iload hc dX5_parts_88 rfl ?_
          refine v_callV (As := [.int (zI (ch x.toNat : Int))]) hc ho dX5_parts_90 KV_X5_87 KB_Jx4a65c_get_915e3 hjo rfl rfl (c_Jx4a65c_get_915e3 _ _ hpl.1 (x := (ch x.toNat : Int)) (by omega)) rfl (Nat.le_of_ble_eq_true rfl) ⟨by omega, by omega⟩ ⟨by omega, by omega⟩ (fun r_ h_ sz_ q_ z_ => ?_)
          obtain ⟨rfl, eh_, es_⟩ := q_
          have eh_ := eh_.symm
          subst eh_
          have es_ := es_.symm
          subst es_
          rw [Int.toNat_natCast]
          refine v_cast hc ho dX5_parts_93 rfl CLk_X5_91 hpc.1 ?_
          refine r_get hc ho dX5_parts_96 F_X5_103 hpc rfl ?_
          refine v_aload_n hc dX5_parts_99 rfl ?_
          refine v_iload hc dX5_parts_100 rfl ?_
          refine v_callV (As := [.int (zI (ch (x + 1).toNat : Int))]) hc ho dX5_parts_102 KV_X5_87 KB_Jx4a65c_get_915e3 hjo rfl rfl (c_Jx4a65c_get_915e3 _ _ hpl.1 (x := (ch (x + 1).toNat : Int)) (by omega)) rfl (Nat.le_of_ble_eq_true rfl) ⟨by omega, by omega⟩ ⟨by omega, by omega⟩ (fun r_ h_ sz_ q_ z_ => ?_)
          obtain ⟨rfl, eh_, es_⟩ := q_
          have eh_ := eh_.symm
          subst eh_
          have es_ := es_.symm
          subst es_
          rw [Int.toNat_natCast]
          refine v_cast hc ho dX5_parts_105 rfl CLk_X5_91 hpc2.1 ?_
          refine r_get hc ho dX5_parts_108 F_X5_103 hpc2 rfl ?_
          refine v_callSN (As := [.int (zI (I (ch x.toNat + 20) 0)), .int (zI (I (ch (x + 1).toNat + 20) 0))]) hc ho dX5_parts_111 KSN_X5_106 KB_X6_fifthsBetween (c_X6_fifthsBetween _ _ (x := I (ch x.toNat + 20) 0) (y := I (ch (x + 1).toNat + 20) 0) (hkey _ (by omega)) (hkey _ (by omega))) rfl (Nat.le_of_ble_eq_true rfl) ⟨by omega, by omega⟩ ⟨by omega, by omega⟩ (fun r_ h_ sz_ q_ z_ => ?_)
          obtain ⟨rfl, eh_, es_⟩ := q_
          have eh_ := eh_.symm
          subst eh_
          have es_ := es_.symm
          subst es_
          have hsb := p_st_bd (I (ch x.toNat + 20) 0) (I (ch (x + 1).toNat + 20) 0)
          obtain ⟨sv, hsv⟩ : ∃ v, p_st (I (ch x.toNat + 20) 0) (I (ch (x + 1).toNat + 20) 0) = v := ⟨_, rfl⟩
          rw [hsv] at hsb ⊢
          refine v_istore hc dX5_parts_114 (Nat.le_of_ble_eq_true rfl) ?_
          refine v_aload_n hc dX5_parts_116 rfl ?_
          refine r_getA hc ho dX5_parts_117 F_X5_22 hO rfl ?_
          refine v_iload hc dX5_parts_120 rfl ?_
          refine z_bipush hc dX5_parts_122 (by decide) ?_
          refine z_imul hc dX5_parts_124 ?_
          refine v_iload hc dX5_parts_125 rfl ?_
          refine z_iadd hc dX5_parts_127 ?_
          refine r_iald hc dX5_parts_128 hO 5 rfl (by decide) (by omega) (by omega) ?_
          rw [show (x * 12 + (ch x.toNat : Int)).toNat = x.toNat * 12 + ch x.toNat by omega]
          refine v_istore hc dX5_parts_129 (Nat.le_of_ble_eq_true rfl) ?_
          refine v_dom (fun hdm => ?_)
          refine v_aload_n hc dX5_parts_131 rfl ?_
          refine x_new hc ho dX5_parts_132 NW_X5_147 (by omega) (by omega) (fun h1 hnp e2 => ?_)
          have hcl : ∀ b y, h b = some y → h1 b = some y := fun b y hb => (e2 b (by have := hdm b (by rw [hb]; exact fun e => by cases e); omega)).trans hb
          have hpc := (hpcs h1 (fun b hb => (e2 b (by omega)).trans (hfr b hb))) (ch x.toNat) hcx1
          have hpl : p_L (s_G S) lb n O ol al h1 := hpls h1 (fun b hb => (e2 b (by omega)).trans (hfr b hb))
          obtain ⟨mc1, hjo, -⟩ := id hpl.1
          have hO : r_O (K5 L) 5 (O 5) (D 5) i a h1 := hOs h1 (fun b hb => (e2 b (by omega)).trans (hfr b hb))
          refine v_dup hc dX5_parts_135 rfl ?_
          refine v_aload_n hc dX5_parts_136 rfl ?_
          refine v_iload hc dX5_parts_137 rfl ?_
          refine v_callV (As := [.int (zI (ch x.toNat : Int))]) hc ho dX5_parts_139 KV_X5_87 KB_Jx4a65c_get_915e3 hjo rfl rfl (c_Jx4a65c_get_915e3 _ _ hpl.1 (x := (ch x.toNat : Int)) (by omega)) rfl (Nat.le_of_ble_eq_true rfl) ⟨by omega, by omega⟩ ⟨by omega, by omega⟩ (fun r_ h_ sz_ q_ z_ => ?_)
          obtain ⟨rfl, eh_, es_⟩ := q_
          have eh_ := eh_.symm
          subst eh_
          have es_ := es_.symm
          subst es_
          rw [Int.toNat_natCast]
          refine v_cast hc ho dX5_parts_142 rfl CLk_X5_91 hpc.1 ?_
          refine v_iload hc dX5_parts_145 rfl ?_
          refine v_iload hc dX5_parts_147 rfl ?_
          refine v_aload_n hc dX5_parts_149 rfl ?_
          refine r_getA hc ho dX5_parts_150 F_X5_18 hO rfl ?_
          refine v_iload hc dX5_parts_153 rfl ?_
          refine r_iald hc dX5_parts_155 hO 4 rfl (by decide) (by omega) (by omega) ?_
          refine v_iload hc dX5_parts_156 rfl ?_
          refine v_callI (As := [.ref (O (ch x.toNat + 20)), .int (zI (ch x.toNat : Int)), .int (zI (a 5 (x.toNat * 12 + ch x.toNat))), .int (zI (a 4 x.toNat)), .int (zI sv)]) hc ho dX5_parts_158 KI_X5_149 KB_X3_init (c_X3_init _ _ hpc (hJP _ hcx1) hnp (by omega) (fun b hb => ⟨by have := hlt4 (ch x.toNat) hcx1 b hb; omega, by have := hlt4 (ch x.toNat) hcx1 b hb; omega⟩) (nu := (ch x.toNat : Int)) (b := a 5 (x.toNat * 12 + ch x.toNat)) (t := a 4 x.toNat) (st := sv) (by omega) hbb (hat x.toNat (by omega)) (by unfold zb; omega) (by have := q_ln_ok (hJP _ hcx1) hbb hb17; omega)) rfl (Nat.le_of_ble_eq_true rfl) ⟨by omega, by omega⟩ ⟨by omega, by omega⟩ (fun r3_ h3 sz3 q_ z_ => ?_)
          obtain ⟨rfl, rfl, ⟨R3, B3, hT3, hR3, hB3⟩, hfr3⟩ := q_
          have hcl3 : ∀ b y, h b = some y → h3 b = some y := fun b y hb => (hfr3 b (by have := hdm b (by rw [hb]; exact fun e => by cases e); omega) (by have := hdm b (by rw [hb]; exact fun e => by cases e); omega)).trans (hcl b y hb)
          have hjl3 : j_L (s_G S) lo fa x.toNat pt h3 := hjl.kept ((hcl3' hcl3 hlo0).trans hlo0.symm) (fun hq => by obtain ⟨y, hy⟩ := hfan hq; exact (hcl3 _ _ hy).trans hy.symm)
          obtain ⟨mc3, hlo3, -⟩ := id hjl3
          refine v_callV (As := [.ref sz]) hc ho dX5_parts_161 KV_X5_152 KB_Jx4a65c_add_9ea2d hlo3 rfl rfl (c_Jx4a65c_add_9ea2d _ _ hjl3 (v := sz) hz0 (by omega) (by omega) (ci := 3) rfl CA3 (by decide) (fun j hj => by obtain ⟨q1, -⟩ := hps j hj; exact ⟨_, hcl3 _ _ q1.1⟩) hT3.1 (by omega)) rfl (Nat.le_of_ble_eq_true rfl) ⟨by omega, by omega⟩ ⟨by omega, by omega⟩ (fun r4_ h4 sz4 q_ z_ => ?_)
          obtain ⟨rfl, fa4, hq4, hj4, hfr4⟩ := q_
          refine v_pop hc dX5_parts_164 rfl ?_
          refine z_iinc hc dX5_parts_165 rfl ?_
          refine v_goto (tgt := 11) hc dX5_parts_168 (by decide) ?_
          have hx1 : (x + 1).toNat = x.toNat + 1 := by omega
          have hszs : sz + 3 ≤ sz4 ∧ sz4 ≤ sz + 4 := by omega
          have hf4 : ∀ b, b < sz → b ≠ lo → b ≠ fa4 → h4 b = h b := fun b q1 q2 q3 => ((hfr4 b q2 q3).trans (hfr3 b (by omega) (by omega))).trans (e2 b (by omega))
          have hfa4 : sz0 < fa4 ∧ fa4 < sz4 ∧ (fa4 = fa ∧ x.toNat ≠ 0 ∨ fa4 = sz + 3) := by
            rcases hq4 with ⟨q1, q2, q3⟩ | ⟨q1, q2⟩
            · have := hfas q3; omega
            · omega
          refine ih _ (by omega) h4 sz4 _ _ fa4 (b_up pt x.toNat sz) (b_up RA x.toNat (sz + 1)) (b_up RB x.toNat (sz + 2)) (b_up PR x.toNat R3) (b_up PB x.toNat B3) _ _ _ _ _ rfl (by omega) (by omega) (by omega) (by omega) (by omega) (fun b hb => (hf4 b (by omega) (by omega) (by omega)).trans (hfr b hb)) (by rw [hx1]; exact hj4) (fun q => by omega) (fun _ => by omega) (fun j hj => ?_)
          by_cases e : j = x.toNat
          · rw [e, b_up_eq, b_up_eq, b_up_eq, b_up_eq, b_up_eq]
            refine ⟨⟨(hfr4 sz (by omega) (by omega)).trans ?_, (hfr4 _ (by omega) (by omega)).trans hT3.2.1, (hfr4 _ (by omega) (by omega)).trans hT3.2.2⟩, hR3, hB3, by omega, by omega, by omega, by omega, by omega, by omega⟩
            show h3 sz = some (b_ob 3 (t_fs _ _ _ (t_iv _ _ _ _ _ (p_st _ (I ((if x.toNat + 1 < St then ch (x.toNat + 1) else ch x.toNat) + 20) 0)))))
            rw [hqe, hsv]
            exact hT3.1
          · rw [b_up_ne _ _ e, b_up_ne _ _ e, b_up_ne _ _ e, b_up_ne _ _ e, b_up_ne _ _ e]
            obtain ⟨p1, p2, p3, p4, p5, p6, p7, p8, p9⟩ := hps j (by omega)
            exact ⟨p1.kept (hf4 _ (by omega) (by omega) (by omega)) (hf4 _ (by omega) (by omega) (by omega)) (hf4 _ (by omega) (by omega) (by omega)), p2, p3, by omega, by omega, by omega, by omega, by omega, by omega⟩
set_option maxHeartbeats 4000000 in
theorem c_X5_parts (l : Launch) (G : b_G) {i : Nat → Int} {a : Nat → Nat → Int} {h : b_H} {sz St : Nat} {lb : Nat → Nat} {L n : Nat} {O : Nat → Nat} {D : Nat → Nat → Nat} {I : Nat → Nat → Int} {A : Nat → Nat → Nat → Int} {ol al : Nat} (hWB : x_W lb L n O D I A h) (hPB : p_L G lb n O ol al h) (hJP : ∀ p, p < n → q_J (I (p + 20)) (A (p + 20))) (hkey : ∀ p, p < n → 0 ≤ I (p + 20) 0 ∧ I (p + 20) 0 ≤ 11) (hth : ∀ p, p < n → I (p + 20) 2 = 0 ∨ I (p + 20) 2 = 1) (hn12 : n ≤ 12) {ch : Nat → Nat} {cf : Nat → Int} {ca : Nat} (hca : h ca = some (b_iA St cf)) (hcf : ∀ s, s < St → cf s = (ch s : Int)) (hch : ∀ s, s < St → ch s < n) (hbt : ∀ s, s < St → (1 ≤ a 5 (s * 12 + ch s) ∧ a 5 (s * 12 + ch s) ≤ 400) ∧ ¬ A (ch s + 20) 13 (a 5 (s * 12 + ch s)).toNat = 17) (hat : ∀ s, s < St → 0 ≤ a 4 s ∧ a 4 s ≤ 100000) (hSt8 : St ≤ 8) (hi2 : i 2 = (St : Int)) (hO : r_O (K5 L) 5 (O 5) (D 5) i a h) : Con l G yX5_parts cX5_parts 9 (some (.object "java/util/ArrayList")) 9 340 33 8395 [.ref (O 5), .ref ol, .ref ca] h sz (fun r h2 s2 => r = some (.ref sz) ∧ ∃ (fa : Nat) (pt RA RB : Nat → Nat) (PR PB : Nat → Nat → Int), sz < s2 ∧ j_L G sz fa St pt h2 ∧ (St = 0 → fa = G.2.2.1) ∧ (St ≠ 0 → sz < fa ∧ fa < s2) ∧ (∀ j, j < St → t_O (pt j) (O (ch j + 20)) (RA j) (RB j) ((fun s => q_ln (A (ch s + 20)) (a 5 (s * 12 + ch s))) j) ((fun s => t_iv (I (ch s + 20)) (A (ch s + 20)) (a 5 (s * 12 + ch s)) (a 4 s) (ch s : Int) (p_st (I (ch s + 20) 0) (I ((if s + 1 < St then ch (s + 1) else ch s) + 20) 0))) j) (PR j) (PB j) h2 ∧ (∀ k, k < q_ln (A (ch j + 20)) (a 5 (j * 12 + ch j)) → PR j k = q_rx (I (ch j + 20) 4).toNat (A (ch j + 20) 8) (A (ch j + 20) 9) (A (ch j + 20) 12) (I (ch j + 20) 10) (a 5 (j * 12 + ch j)) k) ∧ (∀ k, k < q_ln (A (ch j + 20)) (a 5 (j * 12 + ch j)) → PB j k = A (ch j + 20) 8 (q_rx (I (ch j + 20) 4).toNat (A (ch j + 20) 8) (A (ch j + 20) 9) (A (ch j + 20) 12) (I (ch j + 20) 10) (a 5 (j * 12 + ch j)) k).toNat) ∧ (sz < pt j ∧ pt j < s2) ∧ (sz < RA j ∧ RA j < s2) ∧ (sz < RB j ∧ RB j < s2) ∧ pt j ≠ fa ∧ RA j ≠ fa ∧ RB j ≠ fa) ∧ ∀ b, b < sz → h2 b = h b) := by
  refine Con.ofK (by decide +kernel) rfl rfl ?_
  intro S M
  have hc := M.2.2.2.1
  have ho : s_own S = RX5 := M.2.2.1
  have hFr : (s_R S).frames = 9 := by rw [M.2.2.2.2.2.2.2.1]
  have hLo : (s_R S).locals = 340 := by rw [M.2.2.2.2.2.2.2.1]
  have hCe : (s_R S).cells = 33 := by rw [M.2.2.2.2.2.2.2.1]
  have hSl : (s_R S).slots = 8395 := by rw [M.2.2.2.2.2.2.2.1]
  have hG : s_G S = G := M.2.1
  refine v_dom (fun hdom => ?_)
  refine x_new hc ho dX5_parts_0 NW_X5_52 (by omega) (by omega) (fun h1 e1 e2 => ?_)
  refine v_dup hc dX5_parts_3 rfl ?_
  refine v_callI (As := []) hc ho dX5_parts_4 KI_X5_146 KB_Jx4a65c_init_da8c8 (c_Jx4a65c_init_da8c8 _ _ (e := fun _ => 0) e1) rfl (Nat.le_of_ble_eq_true rfl) ⟨by omega, by omega⟩ ⟨by omega, by omega⟩ (fun r1_ h2 sz1 q_ z_ => ?_)
  obtain ⟨rfl, rfl, hj2, hfr2⟩ := q_
  rw [hG] at hj2
  refine v_astore_n hc dX5_parts_7 (Nat.le_of_ble_eq_true rfl) ?_
  refine z_iconst hc dX5_parts_8 ?_
  refine v_istore hc dX5_parts_9 (Nat.le_of_ble_eq_true rfl) ?_
  exact l_X5_parts M hWB hPB hJP hkey hth hn12 hca hcf hch hbt hat hSt8 hi2 hdom rfl hO (fun h3 sz3 fa3 pt3 RA3 RB3 PR3 PB3 q1 q2 q3 q4 q5 q6 => ⟨rfl, fa3, pt3, RA3, RB3, PR3, PB3, q1, q3, q4, q5, q6, q2⟩) _ h2 (sz + 1) _ _ _ (fun _ => 0) (fun _ => 0) (fun _ => 0) (fun _ _ => 0) (fun _ _ => 0) _ _ _ _ _ rfl (by omega) (by omega) (by omega) (by show (1 : Nat) ≤ 1 + 4 * 0; omega) (by show (3 : Nat) ≤ 3 + 1049 * 0; omega) (fun b hb => (hfr2 b (by omega)).trans (e2 b (by omega))) hj2 (fun _ => rfl) (fun q => absurd rfl q) (fun j hj => absurd hj (by show ¬ j < 0; omega))
