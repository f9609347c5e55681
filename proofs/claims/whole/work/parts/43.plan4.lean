/-! the planner: bits; all that a search needs -/
theorem c_nt_s (I : Nat → Nat → Int) (p : Nat) : c_nt I (p + 1) = (c_nt I p && decide (I (p + 20) 2 = 0)) := by
  unfold c_nt
  rw [w_an, Bool.not_or]
  by_cases q : I (p + 20) 2 = 0
  · rw [decide_eq_true q, decide_eq_false (by omega)]; rfl
  · rw [decide_eq_false q, decide_eq_true q]; rfl
set_option maxHeartbeats 4000000 in
theorem l_X5_shareBits {S : b_S} {l : Launch} {G : b_G} {i0 : Nat → Int} {a0 : Nat → Nat → Int} {hB : b_H} {sz : Nat} {lb : Nat → Nat} {L n : Nat} {O : Nat → Nat} {D : Nat → Nat → Nat} {I : Nat → Nat → Int} {A : Nat → Nat → Nat → Int} {ol al : Nat} {post : Option Value → b_H → Nat → Prop} (M : b_M S l G RX5 cX5_shareBits 4 none "shareBits" 3 64 0 0 hB sz post) (hWB : x_W lb L n O D I A hB) (hPB : p_L G lb n O ol al hB) (hJP : ∀ p, p < n → q_J (I (p + 20)) (A (p + 20))) (hkey : ∀ p, p < n → 0 ≤ I (p + 20) 0 ∧ I (p + 20) 0 ≤ 11) (hth : ∀ p, p < n → I (p + 20) 2 = 0 ∨ I (p + 20) 2 = 1) (hn12 : n ≤ 12) (hi3 : i0 3 = (n : Int)) (hi2 : 0 ≤ i0 2 ∧ i0 2 ≤ 8) (P : ∀ (h : b_H) (i : Nat → Int) (a : Nat → Nat → Int), r_O (K5 L) 5 (O 5) (D 5) i a h → (∀ b, ¬ r_own (K5 L) (O 5) (D 5) b → h b = hB b) → i 9 = 2 ^ c_bn (c_us I (a0 5) (i0 2).toNat) n → i 10 = bI (c_nt I n = true) → (∀ k, k ≠ 9 → k ≠ 10 → i k = i0 k) → (∀ k, k ≠ 8 → a k = a0 k) → (∀ j : Nat, (j : Int) < n → a 8 j = (if (c_us I (a0 5) (i0 2).toNat) j then 2 ^ c_bn (c_us I (a0 5) (i0 2).toNat) j else 0)) → post none h sz) : ∀ (d : Nat) (h : b_H) (i : Nat → Int) (a : Nat → Nat → Int) (x : Int) (x3 : Option Value), (((n : Int) - x).toNat = d) → (0 ≤ x) → (x ≤ n) → (r_O (K5 L) 5 (O 5) (D 5) i a h) → (∀ b, ¬ r_own (K5 L) (O 5) (D 5) b → h b = hB b) → (i 9 = 2 ^ c_bn (c_us I (a0 5) (i0 2).toNat) x.toNat) → (i 10 = bI (c_nt I x.toNat = true)) → (∀ k, k ≠ 9 → k ≠ 10 → i k = i0 k) → (∀ k, k ≠ 8 → a k = a0 k) → (∀ j : Nat, (j : Int) < x → a 8 j = (if (c_us I (a0 5) (i0 2).toNat) j then 2 ^ c_bn (c_us I (a0 5) (i0 2).toNat) j else 0)) → V S 0 0 h sz 12 [some (.ref (O 5)), some (.ref ol), some (.int (zI x)), x3] [] := by
  have hc := M.2.2.2.1
  have ho : s_own S = RX5 := M.2.2.1
  have hFr : (s_R S).frames = 3 := by rw [M.2.2.2.2.2.2.2.1]
  have hLo : (s_R S).locals = 64 := by rw [M.2.2.2.2.2.2.2.1]
  have hCe : (s_R S).cells = 0 := by rw [M.2.2.2.2.2.2.2.1]
  have hSl : (s_R S).slots = 0 := by rw [M.2.2.2.2.2.2.2.1]
  intro d
  induction d using Nat.strongRecOn with
  | ind d ih =>
    intro h i a x x3 hd h0 h1 hO hfr h9 h10 hEi hE hbits
    have hG : s_G S = G := M.2.1
    subst hG
    have hi := hO.2.2.2.1
    have ha := hO.2.2.2.2
    have hpl := hPB.keptB hWB hfr
    obtain ⟨mc, hjo, -⟩ := id hpl.1
    have e3 := hEi 3 (by decide) (by decide)
    have e2 := hEi 2 (by decide) (by decide)
    have hten : i 10 = 1 ∧ c_nt I x.toNat = true ∨ i 10 = 0 ∧ ¬ c_nt I x.toNat = true := by rw [h10]; exact bI_or _
    refine v_iload_n hc dX5_shareBits_12 rfl ?_
    refine v_aload_n hc dX5_shareBits_13 rfl ?_
    refine r_get hc ho dX5_shareBits_14 F_X5_56 hO rfl ?_
    refine z_icmp_ge (tgt := 105) hc dX5_shareBits_17 (by decide) (by first | assumption | exact hi _ | exact ha _ _ | (unfold zb; omega)) (by first | assumption | exact hi _ | exact ha _ _ | (unfold zb; omega)) (fun c_1 => ?_) (fun c_1 => ?_)
    · refine v_vret M dX5_shareBits_105 (by omega) (by omega) ?_
      exact P h i a hO hfr (by rw [h9, show x.toNat = n by omega]) (by have := hten; rw [show x.toNat = n by omega] at this; rcases this with q | q; rw [q.1, bI, if_pos q.2]; rw [q.1, bI, if_neg q.2]) hEi hE (fun j hj => hbits j (by omega))
    · have hpc := hWB.pcB hfr (p := x.toNat) (by omega)
      have hthx := hth x.toNat (by omega)
      have hbn := c_bn_le (c_us I (a0 5) (i0 2).toNat) x.toNat
      have hpw := c_pw (k := c_bn (c_us I (a0 5) (i0 2).toNat) x.toNat) (by omega)
      refine v_aload_n hc dX5_shareBits_20 rfl ?_
      refine v_iload_n hc dX5_shareBits_21 rfl ?_
      refine v_callV (As := [.int (zI x)]) hc ho dX5_shareBits_22 KV_X5_87 KB_Jx4a65c_get_915e3 hjo rfl rfl (c_Jx4a65c_get_915e3 _ _ hpl.1 (x := x) (by omega)) rfl (Nat.le_of_ble_eq_true rfl) ⟨by omega, by omega⟩ ⟨by omega, by omega⟩ (fun r_ h_ sz_ q_ z_ => ?_)
      obtain ⟨rfl, eh_, es_⟩ := q_
      have eh_ := eh_.symm
      subst eh_
      have es_ := es_.symm
      subst es_
      refine v_cast hc ho dX5_shareBits_25 rfl CLk_X5_91 hpc.1 ?_
      refine r_get hc ho dX5_shareBits_28 F_X5_117 hpc rfl ?_
      refine z_if_ne (tgt := 38) hc dX5_shareBits_31 (by decide) (by first | assumption | exact hi _ | exact ha _ _ | (unfold zb; omega)) (fun c_2 => ?_) (fun c_2 => ?_)
      · refine z_iconst hc dX5_shareBits_38 ?_
        refine v_istore_n hc dX5_shareBits_39 (Nat.le_of_ble_eq_true rfl) ?_
        skip
        refine v_aload_n hc dX5_shareBits_40 rfl ?_
        refine r_getA hc ho dX5_shareBits_41 F_X5_31 hO rfl ?_
        refine v_iload_n hc dX5_shareBits_44 rfl ?_
        refine z_iconst hc dX5_shareBits_45 ?_
        refine r_iastf hc dX5_shareBits_46 hO hfr 8 rfl (by decide) (by omega) (by omega) (by first | assumption | exact hi _ | exact ha _ _ | (unfold zb; omega)) (fun h a_3 g_3 k_3 hO hfr => ?_)
        have ha := hO.2.2.2.2
        have ha := hO.2.2.2.2
        have hE1 : ∀ k, k ≠ 8 → a_3 k = a0 k := fun k hk => (k_3 k hk).trans (hE k hk)
        refine v_iload_n hc dX5_shareBits_47 rfl ?_
        skip
        refine z_if_eq (tgt := 79) hc dX5_shareBits_48 (by decide) (by first | assumption | exact hi _ | exact ha _ _ | (unfold zb; omega)) (fun c_4 => ?_) (fun c_4 => absurd c_4 (by decide))
        skip
        refine v_aload_n hc dX5_shareBits_79 rfl ?_
        refine v_aload_n hc dX5_shareBits_80 rfl ?_
        refine r_get hc ho dX5_shareBits_81 F_X5_113 hO rfl ?_
        refine z_if_eq (tgt := 95) hc dX5_shareBits_84 (by decide) (by first | assumption | exact hi _ | exact ha _ _ | (unfold zb; omega)) (fun c_5 => ?_) (fun c_5 => ?_)
        · skip
          refine z_iconst hc dX5_shareBits_95 ?_
          refine r_putZf hc ho dX5_shareBits_96 F_X5_113 hO hfr rfl (by omega) (fun h i_6 g_6 k_6 hO hfr => ?_)
          have hi := hO.2.2.2.1
          refine z_iinc hc dX5_shareBits_99 rfl ?_
          refine v_goto (tgt := 12) hc dX5_shareBits_102 (by decide) ?_
          have hus : (c_us I (a0 5) (i0 2).toNat) x.toNat = false := by
            show (decide (I (x.toNat + 20) 2 = 0) && (w_an (fun s : Nat => decide (¬ a0 5 (s * 12 + x.toNat) = -2)) (i0 2).toNat)) = false
            rw [decide_eq_false (by omega)]; rfl
          have hx1 : (x + 1).toNat = x.toNat + 1 := by omega
          refine ih _ (by omega) h i_6 a_3 _ _ rfl (by omega) (by omega) hO hfr ?_ ?_ (fun k k9 k10 => (k_6 k k10).trans (hEi k k9 k10)) ?_ ?_
          · rw [hx1, c_bn, hus, if_neg (by decide), Nat.add_zero, ← h9, k_6 9 (by decide)]
          · rw [g_6, bI, if_neg]
            rw [hx1, c_nt_s, Bool.and_eq_true, decide_eq_true_eq]
            intro qq
            rcases hten with q | q
            · omega
            · exact q.2 qq.1
          · exact hE1
          · intro j hj
            rw [g_3]
            by_cases e : j = x.toNat
            · rw [e, b_up_eq, hus, if_neg (by decide)]
            · rw [b_up_ne _ _ e]; exact hbits j (by omega)
        · refine v_iload_n hc dX5_shareBits_87 rfl ?_
          refine z_if_eq (tgt := 95) hc dX5_shareBits_88 (by decide) (by first | assumption | exact hi _ | exact ha _ _ | (unfold zb; omega)) (fun c_7 => ?_) (fun c_7 => absurd c_7 (by decide))
          skip
          refine z_iconst hc dX5_shareBits_95 ?_
          refine r_putZf hc ho dX5_shareBits_96 F_X5_113 hO hfr rfl (by omega) (fun h i_8 g_8 k_8 hO hfr => ?_)
          have hi := hO.2.2.2.1
          refine z_iinc hc dX5_shareBits_99 rfl ?_
          refine v_goto (tgt := 12) hc dX5_shareBits_102 (by decide) ?_
          have hus : (c_us I (a0 5) (i0 2).toNat) x.toNat = false := by
            show (decide (I (x.toNat + 20) 2 = 0) && (w_an (fun s : Nat => decide (¬ a0 5 (s * 12 + x.toNat) = -2)) (i0 2).toNat)) = false
            rw [decide_eq_false (by omega)]; rfl
          have hx1 : (x + 1).toNat = x.toNat + 1 := by omega
          refine ih _ (by omega) h i_8 a_3 _ _ rfl (by omega) (by omega) hO hfr ?_ ?_ (fun k k9 k10 => (k_8 k k10).trans (hEi k k9 k10)) ?_ ?_
          · rw [hx1, c_bn, hus, if_neg (by decide), Nat.add_zero, ← h9, k_8 9 (by decide)]
          · rw [g_8, bI, if_neg]
            rw [hx1, c_nt_s, Bool.and_eq_true, decide_eq_true_eq]
            intro qq
            rcases hten with q | q
            · omega
            · exact q.2 qq.1
          · exact hE1
          · intro j hj
            rw [g_3]
            by_cases e : j = x.toNat
            · rw [e, b_up_eq, hus, if_neg (by decide)]
            · rw [b_up_ne _ _ e]; exact hbits j (by omega)
      · refine z_iconst hc dX5_shareBits_34 ?_
        refine v_goto (tgt := 39) hc dX5_shareBits_35 (by decide) ?_
        refine v_istore_n hc dX5_shareBits_39 (Nat.le_of_ble_eq_true rfl) ?_
        skip
        refine v_aload_n hc dX5_shareBits_40 rfl ?_
        refine r_getA hc ho dX5_shareBits_41 F_X5_31 hO rfl ?_
        refine v_iload_n hc dX5_shareBits_44 rfl ?_
        refine z_iconst hc dX5_shareBits_45 ?_
        refine r_iastf hc dX5_shareBits_46 hO hfr 8 rfl (by decide) (by omega) (by omega) (by first | assumption | exact hi _ | exact ha _ _ | (unfold zb; omega)) (fun h a_9 g_9 k_9 hO hfr => ?_)
        have ha := hO.2.2.2.2
        have ha := hO.2.2.2.2
        have hE1 : ∀ k, k ≠ 8 → a_9 k = a0 k := fun k hk => (k_9 k hk).trans (hE k hk)
        refine v_iload_n hc dX5_shareBits_47 rfl ?_
        skip
        refine z_if_eq (tgt := 79) hc dX5_shareBits_48 (by decide) (by first | assumption | exact hi _ | exact ha _ _ | (unfold zb; omega)) (fun c_10 => absurd c_10 (by decide)) (fun c_10 => ?_)
        refine v_aload_n hc dX5_shareBits_51 rfl ?_
        refine v_iload_n hc dX5_shareBits_52 rfl ?_
        refine v_callV (As := [.int (zI x)]) hc ho dX5_shareBits_53 KV_X5_120 KB_X5_canBePlayed hO.1 rfl rfl (c_X5_canBePlayed _ _ hO (by omega) (p := x) (by omega)) rfl (Nat.le_of_ble_eq_true rfl) ⟨by omega, by omega⟩ ⟨by omega, by omega⟩ (fun r_ h_ sz_ q_ z_ => ?_)
        obtain ⟨rfl, eh_, es_⟩ := q_
        have eh_ := eh_.symm
        subst eh_
        have es_ := es_.symm
        subst es_
        have hcan : w_an (fun s : Nat => decide (¬ a_9 5 (s * 12 + x.toNat) = -2)) (i 2).toNat = (w_an (fun s : Nat => decide (¬ a0 5 (s * 12 + x.toNat) = -2)) (i0 2).toNat) := by rw [hE1 5 (by decide), hEi 2 (by decide) (by decide)]
        rw [hcan]
        have hb01 := bI_or ((w_an (fun s : Nat => decide (¬ a0 5 (s * 12 + x.toNat) = -2)) (i0 2).toNat) = true)
        generalize bI ((w_an (fun s : Nat => decide (¬ a0 5 (s * 12 + x.toNat) = -2)) (i0 2).toNat) = true) = bp at hb01 ⊢
        refine z_if_eq (tgt := 79) hc dX5_shareBits_56 (by decide) (by first | assumption | exact hi _ | exact ha _ _ | (unfold zb; omega)) (fun c_11 => ?_) (fun c_11 => ?_)
        · skip
          refine v_aload_n hc dX5_shareBits_79 rfl ?_
          refine v_aload_n hc dX5_shareBits_80 rfl ?_
          refine r_get hc ho dX5_shareBits_81 F_X5_113 hO rfl ?_
          refine z_if_eq (tgt := 95) hc dX5_shareBits_84 (by decide) (by first | assumption | exact hi _ | exact ha _ _ | (unfold zb; omega)) (fun c_12 => ?_) (fun c_12 => ?_)
          · skip
            refine z_iconst hc dX5_shareBits_95 ?_
            refine r_putZf hc ho dX5_shareBits_96 F_X5_113 hO hfr rfl (by omega) (fun h i_13 g_13 k_13 hO hfr => ?_)
            have hi := hO.2.2.2.1
            refine z_iinc hc dX5_shareBits_99 rfl ?_
            refine v_goto (tgt := 12) hc dX5_shareBits_102 (by decide) ?_
            have hus : (c_us I (a0 5) (i0 2).toNat) x.toNat = false := by
              show (decide (I (x.toNat + 20) 2 = 0) && (w_an (fun s : Nat => decide (¬ a0 5 (s * 12 + x.toNat) = -2)) (i0 2).toNat)) = false
              rw [Bool.and_eq_false_iff]
              right
              rcases hb01 with q | q
              · omega
              · exact Bool.eq_false_iff.mpr q.2
            have hx1 : (x + 1).toNat = x.toNat + 1 := by omega
            refine ih _ (by omega) h i_13 a_9 _ _ rfl (by omega) (by omega) hO hfr ?_ ?_ (fun k k9 k10 => (k_13 k k10).trans (hEi k k9 k10)) ?_ ?_
            · rw [hx1, c_bn, hus, if_neg (by decide), Nat.add_zero, ← h9, k_13 9 (by decide)]
            · rw [g_13, bI, if_neg]
              rw [hx1, c_nt_s, Bool.and_eq_true, decide_eq_true_eq]
              intro qq
              rcases hten with q | q
              · omega
              · exact q.2 qq.1
            · exact hE1
            · intro j hj
              rw [g_9]
              by_cases e : j = x.toNat
              · rw [e, b_up_eq, hus, if_neg (by decide)]
              · rw [b_up_ne _ _ e]; exact hbits j (by omega)
          · refine v_iload_n hc dX5_shareBits_87 rfl ?_
            refine z_if_eq (tgt := 95) hc dX5_shareBits_88 (by decide) (by first | assumption | exact hi _ | exact ha _ _ | (unfold zb; omega)) (fun c_14 => absurd c_14 (by decide)) (fun c_14 => ?_)
            skip
            refine z_iconst hc dX5_shareBits_91 ?_
            refine v_goto (tgt := 96) hc dX5_shareBits_92 (by decide) ?_
            refine r_putZf hc ho dX5_shareBits_96 F_X5_113 hO hfr rfl (by omega) (fun h i_15 g_15 k_15 hO hfr => ?_)
            have hi := hO.2.2.2.1
            refine z_iinc hc dX5_shareBits_99 rfl ?_
            refine v_goto (tgt := 12) hc dX5_shareBits_102 (by decide) ?_
            have hus : (c_us I (a0 5) (i0 2).toNat) x.toNat = false := by
              show (decide (I (x.toNat + 20) 2 = 0) && (w_an (fun s : Nat => decide (¬ a0 5 (s * 12 + x.toNat) = -2)) (i0 2).toNat)) = false
              rw [Bool.and_eq_false_iff]
              right
              rcases hb01 with q | q
              · omega
              · exact Bool.eq_false_iff.mpr q.2
            have hx1 : (x + 1).toNat = x.toNat + 1 := by omega
            refine ih _ (by omega) h i_15 a_9 _ _ rfl (by omega) (by omega) hO hfr ?_ ?_ (fun k k9 k10 => (k_15 k k10).trans (hEi k k9 k10)) ?_ ?_
            · rw [hx1, c_bn, hus, if_neg (by decide), Nat.add_zero, ← h9, k_15 9 (by decide)]
            · rw [g_15, bI, if_pos]
              rw [hx1, c_nt_s, Bool.and_eq_true, decide_eq_true_eq]
              exact ⟨by rcases hten with q | q; exact q.2; omega, by omega⟩
            · exact hE1
            · intro j hj
              rw [g_9]
              by_cases e : j = x.toNat
              · rw [e, b_up_eq, hus, if_neg (by decide)]
              · rw [b_up_ne _ _ e]; exact hbits j (by omega)
        · skip
          refine v_aload_n hc dX5_shareBits_59 rfl ?_
          refine r_getA hc ho dX5_shareBits_60 F_X5_31 hO rfl ?_
          refine v_iload_n hc dX5_shareBits_63 rfl ?_
          refine v_aload_n hc dX5_shareBits_64 rfl ?_
          refine r_get hc ho dX5_shareBits_65 F_X5_110 hO rfl ?_
          refine r_iastf hc dX5_shareBits_68 hO hfr 8 rfl (by decide) (by omega) (by omega) (by first | assumption | exact hi _ | exact ha _ _ | (unfold zb; omega)) (fun h a_16 g_16 k_16 hO hfr => ?_)
          have ha := hO.2.2.2.2
          skip
          refine v_aload_n hc dX5_shareBits_69 rfl ?_
          refine v_dup hc dX5_shareBits_70 rfl ?_
          refine r_get hc ho dX5_shareBits_71 F_X5_110 hO rfl ?_
          refine z_iconst hc dX5_shareBits_74 ?_
          refine z_imul hc dX5_shareBits_75 ?_
          skip
          refine r_putIf hc ho dX5_shareBits_76 F_X5_110 hO hfr rfl (by first | assumption | exact hi _ | exact ha _ _ | (unfold zb; omega)) (fun h i_17 g_17 k_17 hO hfr => ?_)
          have hi := hO.2.2.2.1
          have hi := hO.2.2.2.1
          have h10q := k_17 10 (by decide)
          refine v_aload_n hc dX5_shareBits_79 rfl ?_
          refine v_aload_n hc dX5_shareBits_80 rfl ?_
          refine r_get hc ho dX5_shareBits_81 F_X5_113 hO rfl ?_
          refine z_if_eq (tgt := 95) hc dX5_shareBits_84 (by decide) (by first | assumption | exact hi _ | exact ha _ _ | (unfold zb; omega)) (fun c_18 => ?_) (fun c_18 => ?_)
          · skip
            refine z_iconst hc dX5_shareBits_95 ?_
            refine r_putZf hc ho dX5_shareBits_96 F_X5_113 hO hfr rfl (by omega) (fun h i_19 g_19 k_19 hO hfr => ?_)
            have hi := hO.2.2.2.1
            refine z_iinc hc dX5_shareBits_99 rfl ?_
            refine v_goto (tgt := 12) hc dX5_shareBits_102 (by decide) ?_
            have hus : (c_us I (a0 5) (i0 2).toNat) x.toNat = true := by
              show (decide (I (x.toNat + 20) 2 = 0) && (w_an (fun s : Nat => decide (¬ a0 5 (s * 12 + x.toNat) = -2)) (i0 2).toNat)) = true
              rw [Bool.and_eq_true, decide_eq_true_eq]
              exact ⟨by omega, by rcases hb01 with q | q; exact q.2; omega⟩
            have hx1 : (x + 1).toNat = x.toNat + 1 := by omega
            refine ih _ (by omega) h i_19 a_16 _ _ rfl (by omega) (by omega) hO hfr ?_ ?_ (fun k k9 k10 => (k_19 k k10).trans ((k_17 k k9).trans (hEi k k9 k10))) ?_ ?_
            · rw [hx1, c_bn, hus, if_pos rfl, Int.pow_succ, ← h9, k_19 9 (by decide), g_17]
            · rw [g_19, bI, if_neg]
              rw [hx1, c_nt_s, Bool.and_eq_true, decide_eq_true_eq]
              intro qq
              rcases hten with q | q
              · omega
              · exact q.2 qq.1
            · intro k hk
              rw [k_16 k hk]; exact hE1 k hk
            · intro j hj
              rw [g_16, g_9]
              by_cases e : j = x.toNat
              · rw [e, b_up_eq, hus, if_pos rfl, h9]
              · rw [b_up_ne _ _ e, b_up_ne _ _ e]; exact hbits j (by omega)
          · refine v_iload_n hc dX5_shareBits_87 rfl ?_
            refine z_if_eq (tgt := 95) hc dX5_shareBits_88 (by decide) (by first | assumption | exact hi _ | exact ha _ _ | (unfold zb; omega)) (fun c_20 => absurd c_20 (by decide)) (fun c_20 => ?_)
            skip
            refine z_iconst hc dX5_shareBits_91 ?_
            refine v_goto (tgt := 96) hc dX5_shareBits_92 (by decide) ?_
            refine r_putZf hc ho dX5_shareBits_96 F_X5_113 hO hfr rfl (by omega) (fun h i_21 g_21 k_21 hO hfr => ?_)
            have hi := hO.2.2.2.1
            refine z_iinc hc dX5_shareBits_99 rfl ?_
            refine v_goto (tgt := 12) hc dX5_shareBits_102 (by decide) ?_
            have hus : (c_us I (a0 5) (i0 2).toNat) x.toNat = true := by
              show (decide (I (x.toNat + 20) 2 = 0) && (w_an (fun s : Nat => decide (¬ a0 5 (s * 12 + x.toNat) = -2)) (i0 2).toNat)) = true
              rw [Bool.and_eq_true, decide_eq_true_eq]
              exact ⟨by omega, by rcases hb01 with q | q; exact q.2; omega⟩
            have hx1 : (x + 1).toNat = x.toNat + 1 := by omega
            refine ih _ (by omega) h i_21 a_16 _ _ rfl (by omega) (by omega) hO hfr ?_ ?_ (fun k k9 k10 => (k_21 k k10).trans ((k_17 k k9).trans (hEi k k9 k10))) ?_ ?_
            · rw [hx1, c_bn, hus, if_pos rfl, Int.pow_succ, ← h9, k_21 9 (by decide), g_17]
            · rw [g_21, bI, if_pos]
              rw [hx1, c_nt_s, Bool.and_eq_true, decide_eq_true_eq]
              exact ⟨by rcases hten with q | q; exact q.2; omega, by omega⟩
            · intro k hk
              rw [k_16 k hk]; exact hE1 k hk
            · intro j hj
              rw [g_16, g_9]
              by_cases e : j = x.toNat
              · rw [e, b_up_eq, hus, if_pos rfl, h9]
              · rw [b_up_ne _ _ e, b_up_ne _ _ e]; exact hbits j (by omega)
set_option maxHeartbeats 4000000 in
theorem c_X5_shareBits (l : Launch) (G : b_G) {i : Nat → Int} {a : Nat → Nat → Int} {h : b_H} {sz : Nat} {lb : Nat → Nat} {L n : Nat} {O : Nat → Nat} {D : Nat → Nat → Nat} {I : Nat → Nat → Int} {A : Nat → Nat → Nat → Int} {ol al : Nat} (hWB : x_W lb L n O D I A h) (hPB : p_L G lb n O ol al h) (hJP : ∀ p, p < n → q_J (I (p + 20)) (A (p + 20))) (hkey : ∀ p, p < n → 0 ≤ I (p + 20) 0 ∧ I (p + 20) 0 ≤ 11) (hth : ∀ p, p < n → I (p + 20) 2 = 0 ∨ I (p + 20) 2 = 1) (hn12 : n ≤ 12) (hO : r_O (K5 L) 5 (O 5) (D 5) i a h) (hi3 : i 3 = (n : Int)) (hi2 : 0 ≤ i 2 ∧ i 2 ≤ 8) : Con l G yX5_shareBits cX5_shareBits 4 none 3 64 0 0 [.ref (O 5), .ref ol] h sz (p_wr (K5 L) 5 (O 5) (D 5) h sz (fun r i2 a2 => r = none ∧ i2 9 = 2 ^ c_bn (c_us I (a 5) (i 2).toNat) n ∧ i2 10 = bI (c_nt I n = true) ∧ (∀ k, k ≠ 9 → k ≠ 10 → i2 k = i k) ∧ (∀ k, k ≠ 8 → a2 k = a k) ∧ ∀ j : Nat, j < n → a2 8 j = (if (c_us I (a 5) (i 2).toNat) j then 2 ^ c_bn (c_us I (a 5) (i 2).toNat) j else 0))) := by
  refine Con.ofK (by decide +kernel) rfl rfl ?_
  intro S M
  have hc := M.2.2.2.1
  have ho : s_own S = RX5 := M.2.2.1
  have hFr : (s_R S).frames = 3 := by rw [M.2.2.2.2.2.2.2.1]
  have hLo : (s_R S).locals = 64 := by rw [M.2.2.2.2.2.2.2.1]
  have hCe : (s_R S).cells = 0 := by rw [M.2.2.2.2.2.2.2.1]
  have hSl : (s_R S).slots = 0 := by rw [M.2.2.2.2.2.2.2.1]
  have hfr : ∀ b, ¬ r_own (K5 L) (O 5) (D 5) b → h b = h b := fun _ _ => rfl
  have hi := hO.2.2.2.1
  refine v_aload_n hc dX5_shareBits_0 rfl ?_
  refine z_iconst hc dX5_shareBits_1 ?_
  refine r_putIf hc ho dX5_shareBits_2 F_X5_110 hO hfr rfl (by first | assumption | exact hi _ | exact ha _ _ | (unfold zb; omega)) (fun h i_1 g_1 k_1 hO hfr => ?_)
  have hi := hO.2.2.2.1
  refine v_aload_n hc dX5_shareBits_5 rfl ?_
  refine z_iconst hc dX5_shareBits_6 ?_
  refine r_putZf hc ho dX5_shareBits_7 F_X5_113 hO hfr rfl (by omega) (fun h i_2 g_2 k_2 hO hfr => ?_)
  have hi := hO.2.2.2.1
  refine z_iconst hc dX5_shareBits_10 ?_
  refine v_istore_n hc dX5_shareBits_11 (Nat.le_of_ble_eq_true rfl) ?_
  exact l_X5_shareBits M hWB hPB hJP hkey hth hn12 (i0 := i) (a0 := a) hi3 hi2 (fun h2 i2 a2 r1 r2 r3 r4 r5 r6 r7 => ⟨rfl, i2, a2, ⟨rfl, r3, r4, r5, r6, fun j hj => r7 j (by omega)⟩, r1, r2⟩) _ h i_2 a _ _ rfl (by omega) (by omega) hO hfr (by rw [k_2 9 (by decide), g_1]; rfl) (by rw [g_2]; rfl) (fun k k9 k10 => (k_2 k k10).trans (k_1 k k9)) (fun _ _ => rfl) (fun j hj => by omega)
