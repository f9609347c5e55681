/-! a piece: the blocks of a way, and a new piece -/
theorem r_O.setA {K : r_K} {ci o : Nat} {ad : Nat → Nat} {i : Nat → Int} {a : Nat → Nat → Int} {h h1 : b_H} (hO : r_O K ci o ad i a h) {f n : Nat} {g : Nat → Int} (hk : K[f]? = some (some (false, n))) (g1 : h1 (ad f) = some (b_iA n g)) (g2 : ∀ b, b ≠ ad f → h1 b = h b) (hg : ∀ j, zb (g j)) : r_O K ci o ad i (b_up a f g) h1 := by
  have hne := hO.ne hk
  obtain ⟨q1, q2, q3, q4, q5⟩ := hO
  refine ⟨(g2 o (Ne.symm hne)).trans q1, fun k z m hm => ?_, q3, q4, fun k j => ?_⟩
  · by_cases e : k = f
    · subst e
      rw [hk] at hm
      cases hm
      rw [b_up_eq]
      exact g1
    · rw [b_up_ne _ _ e]
      exact (g2 _ (fun q => e (q3 _ _ _ _ hm hk q))).trans (q2 k z m hm)
  · by_cases e : k = f
    · rw [e, b_up_eq]; exact hg j
    · rw [b_up_ne _ _ e]; exact q5 k j
/-- along a way: the set of the blocks that may come, and the beats left -/
def q_st (nb : Nat) (B N F : Nat → Int) (s b : Int) : Nat → Int × Int
  | 0 => (s, b)
  | k + 1 => (N (q_lx (fun j => F ((q_st nb B N F s b k).2.toNat * 8 + j)) (q_st nb B N F s b k).1 nb).toNat, (q_st nb B N F s b k).2 - B (q_lx (fun j => F ((q_st nb B N F s b k).2.toNat * 8 + j)) (q_st nb B N F s b k).1 nb).toNat)
def q_rx (nb : Nat) (B N F : Nat → Int) (s b : Int) (k : Nat) : Int := q_lx (fun j => F ((q_st nb B N F s b k).2.toNat * 8 + j)) (q_st nb B N F s b k).1 nb
theorem q_st_ok {i : Nat → Int} {a : Nat → Nat → Int} (hJ : q_J i a) {b : Int} (hb : 1 ≤ b ∧ b ≤ 400) (hL : a 13 b.toNat ≤ 16) : ∀ k : Nat, (k : Int) < a 13 b.toNat → (1 ≤ (q_st (i 4).toNat (a 8) (a 9) (a 12) (i 10) b k).2 ∧ (q_st (i 4).toNat (a 8) (a 9) (a 12) (i 10) b k).2 ≤ 400) ∧ (0 ≤ (q_st (i 4).toNat (a 8) (a 9) (a 12) (i 10) b k).1 ∧ (q_st (i 4).toNat (a 8) (a 9) (a 12) (i 10) b k).1 ≤ 255) ∧ q_lm (fun j => a 12 ((q_st (i 4).toNat (a 8) (a 9) (a 12) (i 10) b k).2.toNat * 8 + j)) (q_st (i 4).toNat (a 8) (a 9) (a 12) (i 10) b k).1 (i 4).toNat = a 13 b.toNat - k ∧ 0 ≤ q_rx (i 4).toNat (a 8) (a 9) (a 12) (i 10) b k ∧ q_rx (i 4).toNat (a 8) (a 9) (a 12) (i 10) b k < i 4 := by
  obtain ⟨hI, hB1, hE2, hX2, hDD⟩ := id hJ
  obtain ⟨hIb, hIe, hIx, hIsf, hImd, hIbt, hInx, hIfw, hIln⟩ := id hI
  have fin : ∀ (s r v : Int), q_lm (fun j => a 12 (r.toNat * 8 + j)) s (i 4).toNat = v → v ≤ 16 → 0 ≤ q_lx (fun j => a 12 (r.toNat * 8 + j)) s (i 4).toNat ∧ q_lx (fun j => a 12 (r.toNat * 8 + j)) s (i 4).toNat < i 4 ∧ a 12 (r.toNat * 8 + (q_lx (fun j => a 12 (r.toNat * 8 + j)) s (i 4).toNat).toNat) = v := by
    intro s r v hv h16
    have h1 := q_lx_lm (fun j => a 12 (r.toNat * 8 + j)) s (i 4).toNat
    have h2 := q_lx_bd (fun j => a 12 (r.toNat * 8 + j)) s (i 4).toNat
    have h3 : 0 ≤ q_lx (fun j => a 12 (r.toNat * 8 + j)) s (i 4).toNat := by
      rcases Int.lt_or_le (q_lx (fun j => a 12 (r.toNat * 8 + j)) s (i 4).toNat) 0 with q | q
      · have := h1.1 q; omega
      · exact q
    have h4 := h1.2 h3
    refine ⟨h3, ?_, h4.trans hv⟩
    rcases h2 with q | q
    · omega
    · have : q_lx (fun j => a 12 (r.toNat * 8 + j)) s (i 4).toNat = -1 := by rw [q]; rfl
      omega
  intro k
  induction k with
  | zero =>
    intro hk
    have h1 : q_lm (fun j => a 12 (b.toNat * 8 + j)) (i 10) (i 4).toNat = a 13 b.toNat := (hDD.2 b hb.1 (by omega)).symm
    have h2 := fin _ _ _ h1 hL
    exact ⟨hb, hIe, by rw [q_st]; rw [h1]; omega, h2.1, h2.2.1⟩
  | succ k ih =>
    intro hk
    obtain ⟨h1, h2, h3, h4, h5⟩ := ih (by omega)
    have h6 := fin _ _ _ h3 (by omega)
    have h7 := h6.2.2
    have e1 : (q_st (i 4).toNat (a 8) (a 9) (a 12) (i 10) b k).2.toNat * 8 + (q_lx (fun j => a 12 ((q_st (i 4).toNat (a 8) (a 9) (a 12) (i 10) b k).2.toNat * 8 + j)) (q_st (i 4).toNat (a 8) (a 9) (a 12) (i 10) b k).1 (i 4).toNat).toNat = ((q_st (i 4).toNat (a 8) (a 9) (a 12) (i 10) b k).2 * 8 + q_lx (fun j => a 12 ((q_st (i 4).toNat (a 8) (a 9) (a 12) (i 10) b k).2.toNat * 8 + j)) (q_st (i 4).toNat (a 8) (a 9) (a 12) (i 10) b k).1 (i 4).toNat).toNat := by
      have := h6.1
      omega
    rw [e1, hDD.1 _ _ h1.1 h1.2 (Or.inl (by omega)) h6.1 h6.2.1] at h7
    unfold q_ff at h7
    rw [q_st]
    show (1 ≤ _ - _ ∧ _) ∧ _
    split at h7
    · omega
    · split at h7
      · split at h7 <;> omega
      · have h8 : q_lm (fun j => a 12 (((q_st (i 4).toNat (a 8) (a 9) (a 12) (i 10) b k).2 - a 8 (q_lx (fun j => a 12 ((q_st (i 4).toNat (a 8) (a 9) (a 12) (i 10) b k).2.toNat * 8 + j)) (q_st (i 4).toNat (a 8) (a 9) (a 12) (i 10) b k).1 (i 4).toNat).toNat).toNat * 8 + j)) (a 9 (q_lx (fun j => a 12 ((q_st (i 4).toNat (a 8) (a 9) (a 12) (i 10) b k).2.toNat * 8 + j)) (q_st (i 4).toNat (a 8) (a 9) (a 12) (i 10) b k).1 (i 4).toNat).toNat) (i 4).toNat = a 13 b.toNat - (k + 1 : Nat) := by omega
        have h9 := fin _ _ _ h8 (by omega)
        have hB := hIbt (q_lx (fun j => a 12 ((q_st (i 4).toNat (a 8) (a 9) (a 12) (i 10) b k).2.toNat * 8 + j)) (q_st (i 4).toNat (a 8) (a 9) (a 12) (i 10) b k).1 (i 4).toNat).toNat
        exact ⟨⟨by omega, by omega⟩, hInx _, h8, h9.1, h9.2.1⟩
/-- how many blocks the row of a way has -/
def q_ln (a : Nat → Nat → Int) (b : Int) : Nat := if a 13 b.toNat = 17 then 0 else (a 13 b.toNat).toNat

set_option maxHeartbeats 4000000 in
theorem l_X4_wayFor {S : b_S} {l : Launch} {G : b_G} {o : Nat} {ad : Nat → Nat} {i : Nat → Int} {a : Nat → Nat → Int} {hB : b_H} {sz : Nat} {post : Option Value → b_H → Nat → Prop} (M : b_M S l G RX4 cX4_wayFor 7 (some (.array .int)) "wayFor" 2 48 1 17 hB sz post) (hJ : q_J i a) {b : Int} (hb : 1 ≤ b ∧ b ≤ 400) (hown : ∀ b, r_own K4 o ad b → b ≠ sz) {n1 : Nat} (hn1 : n1 ≤ 17) {x2 : Option Value} (P : ∀ (h : b_H) (f : Nat → Int), h sz = some (b_iA (q_ln a b) f) → (∀ b, b ≠ sz → h b = hB b) → (∀ j, j < q_ln a b → f j = (q_rx (i 4).toNat (a 8) (a 9) (a 12) (i 10) b j)) → post (some (.ref sz)) h (sz + 1)) : ∀ (d : Nat) (h : b_H) (f : Nat → Int) (s c x : Int), (((q_ln a b : Int) - x).toNat = d) → (0 ≤ x) → (x ≤ q_ln a b) → (r_O K4 4 o ad i a h) → (h sz = some (b_iA (q_ln a b) f)) → (∀ b, b ≠ sz → h b = hB b) → (∀ j : Nat, (j : Int) < x → f j = (q_rx (i 4).toNat (a 8) (a 9) (a 12) (i 10) b j)) → (s = (q_st (i 4).toNat (a 8) (a 9) (a 12) (i 10) b x.toNat).1 ∧ c = (q_st (i 4).toNat (a 8) (a 9) (a 12) (i 10) b x.toNat).2) → V S 1 n1 h (sz + 1) 32 [some (.ref o), some (.int (zI b)), x2, some (.ref sz), some (.int (zI s)), some (.int (zI c)), some (.int (zI x))] [] := by
  have hc := M.2.2.2.1
  have ho : s_own S = RX4 := M.2.2.1
  have hFr : (s_R S).frames = 2 := by rw [M.2.2.2.2.2.2.2.1]
  have hLo : (s_R S).locals = 48 := by rw [M.2.2.2.2.2.2.2.1]
  have hCe : (s_R S).cells = 1 := by rw [M.2.2.2.2.2.2.2.1]
  have hSl : (s_R S).slots = 17 := by rw [M.2.2.2.2.2.2.2.1]
  intro d
  induction d using Nat.strongRecOn with
  | ind d ih =>
    intro h f s c x hd h0 h1 hO hA hfr hf hsc
    have hi := hO.2.2.2.1
    have ha := hO.2.2.2.2
    obtain ⟨hI, hB1, hE2, hX2, hDD⟩ := id hJ
    obtain ⟨hIb, hIe, hIx, hIsf, hImd, hIbt, hInx, hIfw, hIln⟩ := id hI
    have hl13 := hIln b.toNat
    have hln : q_ln a b ≤ 16 ∧ (x < q_ln a b → a 13 b.toNat ≤ 16 ∧ (x.toNat : Int) < a 13 b.toNat) := by
      unfold q_ln
      split <;> omega
    refine v_iload hc dX4_wayFor_32 rfl ?_
    refine v_aload_n hc dX4_wayFor_34 rfl ?_
    refine z_ilen hc dX4_wayFor_35 hA ?_
    refine z_icmp_ge (tgt := 80) hc dX4_wayFor_36 (by decide) (by first | assumption | exact hi _ | exact ha _ _ | (unfold zb; omega)) (by first | assumption | exact hi _ | exact ha _ _ | (unfold zb; omega)) (fun c_1 => ?_) (fun c_1 => ?_)
    · refine v_aload_n hc dX4_wayFor_80 rfl ?_
      refine v_aret M rfl (Or.inr ⟨_, rfl⟩) (Or.inr ⟨_, rfl⟩) dX4_wayFor_81 (by omega) (by omega) ?_
      exact P h f hA hfr (fun j hj => hf j (by omega))
    · refine v_aload_n hc dX4_wayFor_39 rfl ?_
      refine v_iload hc dX4_wayFor_40 rfl ?_
      obtain ⟨hk1, hk2, hk3, hk4, hk5⟩ := q_st_ok hJ hb (by omega) x.toNat (by omega)
      have hsb : 0 ≤ s ∧ s ≤ 255 := by rw [hsc.1]; exact hk2
      have hcb : 1 ≤ c ∧ c ≤ 400 := by rw [hsc.2]; exact hk1
      obtain ⟨u, hue⟩ : ∃ u, u = (q_rx (i 4).toNat (a 8) (a 9) (a 12) (i 10) b x.toNat) := ⟨_, rfl⟩
      rw [← hue] at hk4 hk5
      have hxe : q_lx (fun j => a 12 (c.toNat * 8 + j)) s (i 4).toNat = u := by rw [hue, q_rx, ← hsc.1, ← hsc.2]
      refine v_aload_n hc dX4_wayFor_42 rfl ?_
      refine v_iload hc dX4_wayFor_43 rfl ?_
      refine v_iload hc dX4_wayFor_45 rfl ?_
      refine v_callV (As := [.int (zI s), .int (zI c)]) hc ho dX4_wayFor_47 KV_X4_76 KB_X4_leader hO.1 rfl rfl (c_X4_leader _ _ hO hI (s := s) (b := c) hsb hcb) rfl (Nat.le_of_ble_eq_true rfl) ⟨by omega, by omega⟩ ⟨by omega, by omega⟩ (fun r_ h_ sz_ q_ z_ => ?_)
      obtain ⟨rfl, eh_, es_⟩ := q_
      have eh_ := eh_.symm
      subst eh_
      have es_ := es_.symm
      subst es_
      rw [hxe]
      refine x_iast hc dX4_wayFor_50 hA (by omega) (by omega) (by omega) (fun h1 e1 e2 => ?_)
      have hO := hO.kept (fun b hb => e2 b (hown b hb))
      have hA := e1
      refine v_iload hc dX4_wayFor_51 rfl ?_
      refine v_aload_n hc dX4_wayFor_53 rfl ?_
      refine v_aload_n hc dX4_wayFor_54 rfl ?_
      refine v_iload hc dX4_wayFor_55 rfl ?_
      refine z_iald hc dX4_wayFor_57 hA (by omega) (by omega) (by omega) ?_
      rw [b_up_eq]
      refine v_callV (As := [.int (zI u)]) hc ho dX4_wayFor_58 KV_X4_79 KB_X4_beatsOf hO.1 rfl rfl (c_X4_beatsOf _ _ hO hI (x := u) (by unfold zb; omega)) rfl (Nat.le_of_ble_eq_true rfl) ⟨by omega, by omega⟩ ⟨by omega, by omega⟩ (fun r_ h_ sz_ q_ z_ => ?_)
      obtain ⟨rfl, eh_, es_⟩ := q_
      have eh_ := eh_.symm
      subst eh_
      have es_ := es_.symm
      subst es_
      refine z_isub hc dX4_wayFor_61 ?_
      refine v_istore hc dX4_wayFor_62 (Nat.le_of_ble_eq_true rfl) ?_
      refine v_aload_n hc dX4_wayFor_64 rfl ?_
      refine v_aload_n hc dX4_wayFor_65 rfl ?_
      refine v_iload hc dX4_wayFor_66 rfl ?_
      refine z_iald hc dX4_wayFor_68 hA (by omega) (by omega) (by omega) ?_
      rw [b_up_eq]
      refine v_callV (As := [.int (zI u)]) hc ho dX4_wayFor_69 KV_X4_82 KB_X4_nextOf hO.1 rfl rfl (c_X4_nextOf _ _ hO hI (x := u) (by unfold zb; omega)) rfl (Nat.le_of_ble_eq_true rfl) ⟨by omega, by omega⟩ ⟨by omega, by omega⟩ (fun r_ h_ sz_ q_ z_ => ?_)
      obtain ⟨rfl, eh_, es_⟩ := q_
      have eh_ := eh_.symm
      subst eh_
      have es_ := es_.symm
      subst es_
      refine v_istore hc dX4_wayFor_72 (Nat.le_of_ble_eq_true rfl) ?_
      refine z_iinc hc dX4_wayFor_74 rfl ?_
      refine v_goto (tgt := 32) hc dX4_wayFor_77 (by decide) ?_
      refine ih _ (by omega) h1 _ _ _ _ rfl (by omega) (by omega) hO hA (fun b hb => (e2 b hb).trans (hfr b hb)) (fun j hj => ?_) ⟨?_, ?_⟩
      · by_cases q : j = x.toNat
        · rw [q, b_up_eq, hue]
        · rw [b_up_ne _ _ q]; exact hf j (by omega)
      · rw [show (x + 1).toNat = x.toNat + 1 by omega, q_st, if_pos (by omega), hue]; rfl
      · rw [show (x + 1).toNat = x.toNat + 1 by omega, q_st, if_pos (by omega), hue, hsc.2]; rfl
set_option maxHeartbeats 4000000 in
theorem c_X4_wayFor (l : Launch) (G : b_G) {o : Nat} {ad : Nat → Nat} {i : Nat → Int} {a : Nat → Nat → Int} {h : b_H} {sz : Nat} (hO : r_O K4 4 o ad i a h) (hJ : q_J i a) {b : Int} (hb : 1 ≤ b ∧ b ≤ 400) : Con l G yX4_wayFor cX4_wayFor 7 (some (.array .int)) 2 48 1 17 [.ref o, .int (zI b)] h sz (fun r h2 s2 => r = some (.ref sz) ∧ s2 = sz + 1 ∧ (∃ f : Nat → Int, h2 sz = some (b_iA (q_ln a b) f) ∧ ∀ j, j < q_ln a b → f j = (q_rx (i 4).toNat (a 8) (a 9) (a 12) (i 10) b j)) ∧ ∀ b, b ≠ sz → h2 b = h b) := by
  refine Con.ofK (by decide +kernel) rfl rfl ?_
  intro S M
  have hc := M.2.2.2.1
  have ho : s_own S = RX4 := M.2.2.1
  have hFr : (s_R S).frames = 2 := by rw [M.2.2.2.2.2.2.2.1]
  have hLo : (s_R S).locals = 48 := by rw [M.2.2.2.2.2.2.2.1]
  have hCe : (s_R S).cells = 1 := by rw [M.2.2.2.2.2.2.2.1]
  have hSl : (s_R S).slots = 17 := by rw [M.2.2.2.2.2.2.2.1]
  have hi := hO.2.2.2.1
  have ha := hO.2.2.2.2
  obtain ⟨hI, hB1, hE2, hX2, hDD⟩ := id hJ
  obtain ⟨hIb, hIe, hIx, hIsf, hImd, hIbt, hInx, hIfw, hIln⟩ := id hI
  refine v_aload_n hc dX4_wayFor_0 rfl ?_
  refine v_iload_n hc dX4_wayFor_1 rfl ?_
  refine v_callV (As := [.int (zI b)]) hc ho dX4_wayFor_2 KV_X4_72 KB_X4_wayLength hO.1 rfl rfl (c_X4_wayLength _ _ hO hI (x := b) (by unfold zb; omega)) rfl (Nat.le_of_ble_eq_true rfl) ⟨by omega, by omega⟩ ⟨by omega, by omega⟩ (fun r_ h_ sz_ q_ z_ => ?_)
  obtain ⟨rfl, eh_, es_⟩ := q_
  have eh_ := eh_.symm
  subst eh_
  have es_ := es_.symm
  subst es_
  rw [if_pos (show 1 ≤ b ∧ b ≤ 400 from hb)]
  have hl13 := hIln b.toNat
  have hln : q_ln a b ≤ 16 := by unfold q_ln; split <;> omega
  refine v_istore_n hc dX4_wayFor_5 (Nat.le_of_ble_eq_true rfl) ?_
  refine v_iload_n hc dX4_wayFor_6 rfl ?_
  refine z_bipush hc dX4_wayFor_7 (by decide) ?_
  refine z_icmp_ne (tgt := 16) hc dX4_wayFor_9 (by decide) (by first | assumption | exact hi _ | exact ha _ _ | (unfold zb; omega)) (by first | assumption | exact hi _ | exact ha _ _ | (unfold zb; omega)) (fun c_1 => ?_) (fun c_1 => ?_)
  · have hlz : a 13 b.toNat = (q_ln a b : Int) := by rw [q_ln, if_neg (by omega)]; omega
    refine v_iload_n hc dX4_wayFor_16 rfl ?_
    rw [hlz]
    refine v_dom (fun hdom => ?_)
    refine x_newI hc dX4_wayFor_17 (N := q_ln a b) rfl (by omega) (by omega) (by omega) (fun h1 e1 e2 => ?_)
    have hown : ∀ b, r_own K4 o ad b → b ≠ sz := fun b hb q => by have := hO.lt hdom b hb; omega
    have hO := hO.kept (fun b hb => e2 b (hown b hb))
    refine v_astore_n hc dX4_wayFor_19 (Nat.le_of_ble_eq_true rfl) ?_
    refine v_aload_n hc dX4_wayFor_20 rfl ?_
    refine r_get hc ho dX4_wayFor_21 F_X4_59 hO rfl ?_
    refine v_istore hc dX4_wayFor_24 (Nat.le_of_ble_eq_true rfl) ?_
    refine v_iload_n hc dX4_wayFor_26 rfl ?_
    refine v_istore hc dX4_wayFor_27 (Nat.le_of_ble_eq_true rfl) ?_
    refine z_iconst hc dX4_wayFor_29 ?_
    refine v_istore hc dX4_wayFor_30 (Nat.le_of_ble_eq_true rfl) ?_
    exact l_X4_wayFor M hJ hb hown (by omega) (fun h2 f2 g1 g2 g3 => ⟨rfl, rfl, ⟨f2, g1, g3⟩, g2⟩) _ h1 _ _ _ _ rfl (by omega) (by omega) hO e1 e2 (fun j hj => by omega) ⟨rfl, rfl⟩
  · have hlz : (0 : Int) = (q_ln a b : Int) := by rw [q_ln, if_pos (by omega)]; rfl
    refine z_iconst hc dX4_wayFor_12 ?_
    refine v_goto (tgt := 17) hc dX4_wayFor_13 (by decide) ?_
    rw [hlz]
    refine v_dom (fun hdom => ?_)
    refine x_newI hc dX4_wayFor_17 (N := q_ln a b) rfl (by omega) (by omega) (by omega) (fun h1 e1 e2 => ?_)
    have hown : ∀ b, r_own K4 o ad b → b ≠ sz := fun b hb q => by have := hO.lt hdom b hb; omega
    have hO := hO.kept (fun b hb => e2 b (hown b hb))
    refine v_astore_n hc dX4_wayFor_19 (Nat.le_of_ble_eq_true rfl) ?_
    refine v_aload_n hc dX4_wayFor_20 rfl ?_
    refine r_get hc ho dX4_wayFor_21 F_X4_59 hO rfl ?_
    refine v_istore hc dX4_wayFor_24 (Nat.le_of_ble_eq_true rfl) ?_
    refine v_iload_n hc dX4_wayFor_26 rfl ?_
    refine v_istore hc dX4_wayFor_27 (Nat.le_of_ble_eq_true rfl) ?_
    refine z_iconst hc dX4_wayFor_29 ?_
    refine v_istore hc dX4_wayFor_30 (Nat.le_of_ble_eq_true rfl) ?_
    exact l_X4_wayFor M hJ hb hown (by omega) (fun h2 f2 g1 g2 g3 => ⟨rfl, rfl, ⟨f2, g1, g3⟩, g2⟩) _ h1 _ _ _ _ rfl (by omega) (by omega) hO e1 e2 (fun j hj => by omega) ⟨rfl, rfl⟩
set_option maxHeartbeats 4000000 in
theorem c_X4_init (l : Launch) (G : b_G) {o : Nat} {h : b_H} {sz : Nat} {x y z t u v : Int} (hob : h o = some (b_ob 4 [.int 0, .int 0, .int 0, .int 0, .int 0, .int 0, .int 0, .int 0, .null, .null, .int 0, .int 0, .null, .null])) (ho2 : o < sz) (hx : 0 ≤ x ∧ x ≤ 11) (hy : 1 ≤ y ∧ y ≤ 63) (hz : 30 ≤ z ∧ z ≤ t ∧ t ≤ 240) (hth : u = 0 ∨ u = 1) (hv : 0 ≤ v ∧ v ≤ 999) : Con l G yX4_init cX4_init 7 none 1 23 4 3700 [.ref o, .int (zI x), .int (zI y), .int (zI z), .int (zI t), .int (zI u), .int (zI v)] h sz (fun r h2 s2 => r = none ∧ s2 = sz + 4 ∧ (∃ a : Nat → Nat → Int, r_O K4 4 o (fun k => sz + r_ix K4 k) (fun k => if k = 0 then x else if k = 1 then y else if k = 2 then u else if k = 3 then v else if k = 6 then z else if k = 7 then t else 0) a h2 ∧ q_J (fun k => if k = 0 then x else if k = 1 then y else if k = 2 then u else if k = 3 then v else if k = 6 then z else if k = 7 then t else 0) a) ∧ ∀ b, b < sz → b ≠ o → h2 b = h b) := by
  refine Con.ofK (by decide +kernel) rfl rfl ?_
  intro S M
  have hc := M.2.2.2.1
  have ho : s_own S = RX4 := M.2.2.1
  have hFr : (s_R S).frames = 1 := by rw [M.2.2.2.2.2.2.2.1]
  have hLo : (s_R S).locals = 23 := by rw [M.2.2.2.2.2.2.2.1]
  have hCe : (s_R S).cells = 4 := by rw [M.2.2.2.2.2.2.2.1]
  have hSl : (s_R S).slots = 3700 := by rw [M.2.2.2.2.2.2.2.1]
  have hnm : s_nm S = "<init>" := M.2.2.2.2.2.2.1
  have hM : r_Mk 4 o sz h [.int 0, .int 0, .int 0, .int 0, .int 0, .int 0, .int 0, .int 0, .null, .null, .int 0, .int 0, .null, .null] [] h := ⟨hob, fun j x hj => by simp at hj, fun _ _ _ => rfl⟩
  refine v_aload_n hc dX4_init_0 rfl ?_
  refine v_obj hc ho dX4_init_1 OI_X4_3 (by omega) (by rw [hLo]; exact Nat.le_of_ble_eq_true rfl) ?_
  refine v_aload_n hc dX4_init_4 rfl ?_
  refine z_bipush hc dX4_init_5 (by decide) ?_
  refine k_newI hc dX4_init_7 hM ho2 rfl (N := 8) rfl (by decide) (by omega) (by omega) (fun hh hM => ?_)
  replace hM : r_Mk 4 o sz h [.int 0, .int 0, .int 0, .int 0, .int 0, .int 0, .int 0, .int 0, .null, .null, .int 0, .int 0, .null, .null] [b_iA 8 (fun _ => 0)] hh := hM
  refine k_putF hc ho hnm dX4_init_9 F_X4_9 hM ho2 rfl ⟨rfl, rfl⟩ (fun hh hM => ?_)
  replace hM : r_Mk 4 o sz h [.int 0, .int 0, .int 0, .int 0, .int 0, .int 0, .int 0, .int 0, .ref sz, .null, .int 0, .int 0, .null, .null] [b_iA 8 (fun _ => 0)] hh := hM
  refine v_aload_n hc dX4_init_12 rfl ?_
  refine z_bipush hc dX4_init_13 (by decide) ?_
  refine k_newI hc dX4_init_15 hM ho2 rfl (N := 8) rfl (by decide) (by omega) (by omega) (fun hh hM => ?_)
  replace hM : r_Mk 4 o sz h [.int 0, .int 0, .int 0, .int 0, .int 0, .int 0, .int 0, .int 0, .ref sz, .null, .int 0, .int 0, .null, .null] [b_iA 8 (fun _ => 0), b_iA 8 (fun _ => 0)] hh := hM
  refine k_putF hc ho hnm dX4_init_17 F_X4_15 hM ho2 rfl ⟨rfl, rfl⟩ (fun hh hM => ?_)
  replace hM : r_Mk 4 o sz h [.int 0, .int 0, .int 0, .int 0, .int 0, .int 0, .int 0, .int 0, .ref sz, .ref (sz + 1), .int 0, .int 0, .null, .null] [b_iA 8 (fun _ => 0), b_iA 8 (fun _ => 0)] hh := hM
  refine v_aload_n hc dX4_init_20 rfl ?_
  refine z_sipush hc dX4_init_21 (by decide) ?_
  refine k_newI hc dX4_init_24 hM ho2 rfl (N := 3208) rfl (by decide) (by omega) (by omega) (fun hh hM => ?_)
  replace hM : r_Mk 4 o sz h [.int 0, .int 0, .int 0, .int 0, .int 0, .int 0, .int 0, .int 0, .ref sz, .ref (sz + 1), .int 0, .int 0, .null, .null] [b_iA 8 (fun _ => 0), b_iA 8 (fun _ => 0), b_iA 3208 (fun _ => 0)] hh := hM
  refine k_putF hc ho hnm dX4_init_26 F_X4_18 hM ho2 rfl ⟨rfl, rfl⟩ (fun hh hM => ?_)
  replace hM : r_Mk 4 o sz h [.int 0, .int 0, .int 0, .int 0, .int 0, .int 0, .int 0, .int 0, .ref sz, .ref (sz + 1), .int 0, .int 0, .ref (sz + 2), .null] [b_iA 8 (fun _ => 0), b_iA 8 (fun _ => 0), b_iA 3208 (fun _ => 0)] hh := hM
  refine v_aload_n hc dX4_init_29 rfl ?_
  refine z_sipush hc dX4_init_30 (by decide) ?_
  refine k_newI hc dX4_init_33 hM ho2 rfl (N := 401) rfl (by decide) (by omega) (by omega) (fun hh hM => ?_)
  replace hM : r_Mk 4 o sz h [.int 0, .int 0, .int 0, .int 0, .int 0, .int 0, .int 0, .int 0, .ref sz, .ref (sz + 1), .int 0, .int 0, .ref (sz + 2), .null] [b_iA 8 (fun _ => 0), b_iA 8 (fun _ => 0), b_iA 3208 (fun _ => 0), b_iA 401 (fun _ => 0)] hh := hM
  refine k_putF hc ho hnm dX4_init_35 F_X4_21 hM ho2 rfl ⟨rfl, rfl⟩ (fun hh hM => ?_)
  replace hM : r_Mk 4 o sz h [.int 0, .int 0, .int 0, .int 0, .int 0, .int 0, .int 0, .int 0, .ref sz, .ref (sz + 1), .int 0, .int 0, .ref (sz + 2), .ref (sz + 3)] [b_iA 8 (fun _ => 0), b_iA 8 (fun _ => 0), b_iA 3208 (fun _ => 0), b_iA 401 (fun _ => 0)] hh := hM
  refine v_aload_n hc dX4_init_38 rfl ?_
  refine v_iload_n hc dX4_init_39 rfl ?_
  refine k_putF hc ho hnm dX4_init_40 F_X4_24 hM ho2 rfl ⟨rfl, rfl⟩ (fun hh hM => ?_)
  replace hM : r_Mk 4 o sz h [.int (zI x), .int 0, .int 0, .int 0, .int 0, .int 0, .int 0, .int 0, .ref sz, .ref (sz + 1), .int 0, .int 0, .ref (sz + 2), .ref (sz + 3)] [b_iA 8 (fun _ => 0), b_iA 8 (fun _ => 0), b_iA 3208 (fun _ => 0), b_iA 401 (fun _ => 0)] hh := hM
  refine v_aload_n hc dX4_init_43 rfl ?_
  refine v_iload_n hc dX4_init_44 rfl ?_
  refine k_putF hc ho hnm dX4_init_45 F_X4_28 hM ho2 rfl ⟨rfl, rfl⟩ (fun hh hM => ?_)
  replace hM : r_Mk 4 o sz h [.int (zI x), .int (zI y), .int 0, .int 0, .int 0, .int 0, .int 0, .int 0, .ref sz, .ref (sz + 1), .int 0, .int 0, .ref (sz + 2), .ref (sz + 3)] [b_iA 8 (fun _ => 0), b_iA 8 (fun _ => 0), b_iA 3208 (fun _ => 0), b_iA 401 (fun _ => 0)] hh := hM
  refine v_aload_n hc dX4_init_48 rfl ?_
  refine z_iconst hc dX4_init_49 ?_
  refine v_iload_n hc dX4_init_50 rfl ?_
  refine z_max hc ho dX4_init_51 MM_X4_31 (by unfold zb; omega) (by unfold zb; omega) (by omega) (by rw [hLo]; exact Nat.le_of_ble_eq_true rfl) (by omega) (by omega) ?_
  rw [show max 1 z = z by omega]
  refine k_putF hc ho hnm dX4_init_54 F_X4_37 hM ho2 rfl ⟨rfl, rfl⟩ (fun hh hM => ?_)
  replace hM : r_Mk 4 o sz h [.int (zI x), .int (zI y), .int 0, .int 0, .int 0, .int 0, .int (zI z), .int 0, .ref sz, .ref (sz + 1), .int 0, .int 0, .ref (sz + 2), .ref (sz + 3)] [b_iA 8 (fun _ => 0), b_iA 8 (fun _ => 0), b_iA 3208 (fun _ => 0), b_iA 401 (fun _ => 0)] hh := hM
  refine v_aload_n hc dX4_init_57 rfl ?_
  refine z_iconst hc dX4_init_58 ?_
  refine v_iload hc dX4_init_59 rfl ?_
  refine z_max hc ho dX4_init_61 MM_X4_31 (by unfold zb; omega) (by unfold zb; omega) (by omega) (by rw [hLo]; exact Nat.le_of_ble_eq_true rfl) (by omega) (by omega) ?_
  rw [show max 1 t = t by omega]
  refine k_putF hc ho hnm dX4_init_64 F_X4_40 hM ho2 rfl ⟨rfl, rfl⟩ (fun hh hM => ?_)
  replace hM : r_Mk 4 o sz h [.int (zI x), .int (zI y), .int 0, .int 0, .int 0, .int 0, .int (zI z), .int (zI t), .ref sz, .ref (sz + 1), .int 0, .int 0, .ref (sz + 2), .ref (sz + 3)] [b_iA 8 (fun _ => 0), b_iA 8 (fun _ => 0), b_iA 3208 (fun _ => 0), b_iA 401 (fun _ => 0)] hh := hM
  refine v_aload_n hc dX4_init_67 rfl ?_
  refine v_iload hc dX4_init_68 rfl ?_
  refine k_putF hc ho hnm dX4_init_70 F_X4_43 hM ho2 rfl ⟨by rcases hth with q | q <;> rw [q] <;> rfl, by rcases hth with q | q <;> rw [q] <;> rfl⟩ (fun hh hM => ?_)
  replace hM : r_Mk 4 o sz h [.int (zI x), .int (zI y), .int (zI u), .int 0, .int 0, .int 0, .int (zI z), .int (zI t), .ref sz, .ref (sz + 1), .int 0, .int 0, .ref (sz + 2), .ref (sz + 3)] [b_iA 8 (fun _ => 0), b_iA 8 (fun _ => 0), b_iA 3208 (fun _ => 0), b_iA 401 (fun _ => 0)] hh := hM
  refine v_aload_n hc dX4_init_73 rfl ?_
  refine v_iload hc dX4_init_74 rfl ?_
  refine k_putF hc ho hnm dX4_init_76 F_X4_47 hM ho2 rfl ⟨rfl, rfl⟩ (fun hh hM => ?_)
  replace hM : r_Mk 4 o sz h [.int (zI x), .int (zI y), .int (zI u), .int (zI v), .int 0, .int 0, .int (zI z), .int (zI t), .ref sz, .ref (sz + 1), .int 0, .int 0, .ref (sz + 2), .ref (sz + 3)] [b_iA 8 (fun _ => 0), b_iA 8 (fun _ => 0), b_iA 3208 (fun _ => 0), b_iA 401 (fun _ => 0)] hh := hM
  refine v_aload_n hc dX4_init_79 rfl ?_
  have hD0 := hM.done (K := K4) (i := fun k => if k = 0 then x else if k = 1 then y else if k = 2 then u else if k = 3 then v else if k = 6 then z else if k = 7 then t else 0) (fun k => by show zb _; unfold zb; (repeat' split) <;> omega) rfl rfl
  have hLn : hh (sz + 3) = some (b_iA 401 (fun _ => 0)) := hM.2.1 3 _ rfl
  refine v_get hc ho dX4_init_80 F_X4_21 hM.1 rfl ?_
  refine z_bipush hc dX4_init_83 (by decide) ?_
  refine v_callS (As := [.ref (sz + 3), .int (zI 17)]) hc ho dX4_init_85 KS_X4_50 KB_J7_fill_53178 (c_J7_fill_53178 _ _ hLn (by omega) (v := 17)) rfl (Nat.le_of_ble_eq_true rfl) ⟨by omega, by omega⟩ ⟨by omega, by omega⟩ (fun r_ h_ sz_ q_ z_ => ?_)
  obtain ⟨rfl, rfl, g1, g2⟩ := q_
  refine v_vret M dX4_init_88 (by omega) (by omega) ?_
  have hD1 := hD0.setA (f := 13) (n := 401) (g := fun j => if (j : Int) < ((401 : Nat) : Int) then 17 else 0) rfl g1 g2 (fun j => by unfold zb; split <;> omega)
  refine ⟨rfl, rfl, ⟨_, hD1, ?_⟩, fun b hb hb2 => (g2 b (by omega)).trans (hM.2.2 b hb hb2)⟩
  have e13 : ∀ k, k ≠ 13 → b_up (fun (_ _ : Nat) => (0 : Int)) 13 (fun j => if (j : Int) < ((401 : Nat) : Int) then 17 else 0) k = fun _ => 0 := fun k hk => b_up_ne _ _ hk
  refine ⟨⟨by show (0 : Int) ≤ 0 ∧ (0 : Int) ≤ 8; omega, by show (0 : Int) ≤ 0 ∧ (0 : Int) ≤ 255; omega, by show (0 : Int) ≤ 0 ∧ (0 : Int) ≤ 255; omega, by show 30 ≤ z ∧ z ≤ t ∧ t ≤ 240; omega, by show 0 ≤ y ∧ y ≤ 63; omega, fun j => by rw [e13 8 (by decide)]; show (0 : Int) ≤ 0 ∧ (0 : Int) ≤ 64; omega, fun j => by rw [e13 9 (by decide)]; show (0 : Int) ≤ 0 ∧ (0 : Int) ≤ 255; omega, fun j => by rw [e13 12 (by decide)]; show (0 : Int) ≤ 0 ∧ (0 : Int) ≤ 17; omega, fun j => by rw [b_up_eq]; split <;> omega⟩, fun j hj => ?_, by show (0 : Int) < 2 ^ 0; omega, by show (0 : Int) < 2 ^ 0; omega, fun b' x' g1 g2 g3 g4 g5 => ?_, fun b' g1 g2 => ?_⟩
  · exact absurd hj (by show ¬ (j : Int) < 0; omega)
  · exact absurd g5 (by show ¬ x' < 0; omega)
  · rw [b_up_eq, if_pos (by omega)]; rfl
