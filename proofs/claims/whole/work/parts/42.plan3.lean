/-! the planner: what it takes from film and pieces -/
def p_L (G : b_G) (lb : Nat → Nat) (n : Nat) (O : Nat → Nat) (ol al : Nat) (h : b_H) : Prop := j_L G ol al n (fun p => O (p + 20)) h ∧ lb ol = 10 ∧ (n = 0 → al = G.2.2.1) ∧ (n ≠ 0 → lb al = 10)
theorem p_L.kept {G : b_G} {lb : Nat → Nat} {n : Nat} {O : Nat → Nat} {ol al : Nat} {h h1 : b_H} (hF : p_L G lb n O ol al h) (hq : ∀ b, lb b = 10 → h1 b = h b) : p_L G lb n O ol al h1 := by
  obtain ⟨g1, g3, g4, g5⟩ := hF
  refine ⟨?_, g3, g4, g5⟩
  by_cases e : n = 0
  · obtain ⟨mc, q1, q2, q3⟩ := g1
    exact ⟨mc, (hq ol g3).trans q1, q2, Or.inl ⟨e, g4 e⟩⟩
  · exact g1.kept (hq ol g3) (fun _ => hq al (g5 e))
section XB
variable {G : b_G} {lb : Nat → Nat} {L n : Nat} {O : Nat → Nat} {D : Nat → Nat → Nat} {I : Nat → Nat → Int} {A : Nat → Nat → Nat → Int} {ol al : Nat} {h hB : b_H}
theorem x_is_5 : x_is n 5 := Or.inr (Or.inr (Or.inl rfl))
theorem x_is_1 : x_is n 1 := Or.inr (Or.inl rfl)
theorem x_is_0 : x_is n 0 := Or.inl rfl
theorem x_W.no5 (hW : x_W lb L n O D I A hB) {b : Nat} (hb : lb b ≠ 5) : ¬ r_own (K5 L) (O 5) (D 5) b := hW.lab x_is_5 hb
theorem x_W.pcB (hW : x_W lb L n O D I A hB) (hfr : ∀ b, ¬ r_own (K5 L) (O 5) (D 5) b → h b = hB b) {p : Nat} (hp : p < n) : r_O K4 4 (O (p + 20)) (D (p + 20)) (I (p + 20)) (A (p + 20)) h := (hW.pc hp).kept (fun b hb => hfr b (hW.no5 (by rw [(hW _ (x_is_p hp)).2 b hb]; omega)))
theorem p_L.keptB (hL : p_L G lb n O ol al hB) (hW : x_W lb L n O D I A hB) (hfr : ∀ b, ¬ r_own (K5 L) (O 5) (D 5) b → h b = hB b) : p_L G lb n O ol al h := hL.kept (fun b hb => hfr b (hW.no5 (by omega)))
end XB
/-- beats and misfit of piece j for a stretch of mood mo and t tenths -/
def c_fb (I : Nat → Nat → Int) (A : Nat → Nat → Nat → Int) (mo t : Int) (j : Nat) : Int := if (0 ≤ mo ∧ mo ≤ 5) ∧ I (j + 20) 1 / 2 ^ mo.toNat % 2 = 1 then q_bt (fun b => ¬ A (j + 20) 13 b = 17) (fun b => q_ms (I (j + 20) 6) (I (j + 20) 7) b t) 400 else -2
def c_fm (I : Nat → Nat → Int) (A : Nat → Nat → Nat → Int) (mo t : Int) (j : Nat) : Int := if c_fb I A mo t j = -2 then -2 else q_ms (I (j + 20) 6) (I (j + 20) 7) (c_fb I A mo t j) t
/-- the cost of a join -/
def c_jc (I : Nat → Nat → Int) (w mst : Int) (p q : Nat) : Int := if mst < p_st (I (p + 20) 0) (I (q + 20) 0) then 1048575 else p_st (I (p + 20) 0) (I (q + 20) 0) * w
theorem p_st_bd (x y : Int) : 0 ≤ p_st x y ∧ p_st x y ≤ 6 := by
  unfold p_st
  split <;> omega
theorem q_ms_bd2 {s f b t : Int} (hs : 30 ≤ s) (hsf : s ≤ f) (hb : 0 ≤ b) (hb2 : b ≤ 400) (ht : 0 ≤ t) (ht2 : t ≤ 100000) : 0 ≤ q_ms s f b t ∧ q_ms s f b t ≤ 100000 := by
  have h1 : 600 * b / s ≤ 600 * b / 30 := b_div_le (by omega) hs (by omega)
  have h2 : 600 * b / f ≤ 600 * b / 30 := b_div_le (by omega) (by omega) (by omega)
  have h3 : 0 ≤ 600 * b / s := Int.ediv_nonneg (by omega) (by omega)
  have h4 : 0 ≤ 600 * b / f := Int.ediv_nonneg (by omega) (by omega)
  unfold q_ms q_hd
  generalize 600 * b / s = x at *
  generalize 600 * b / f = y at *
  split <;> omega

set_option maxHeartbeats 4000000 in
theorem l_X5_fitPieces {S : b_S} {l : Launch} {G : b_G} {i : Nat → Int} {a0 : Nat → Nat → Int} {hB : b_H} {sz : Nat} {lb : Nat → Nat} {L n : Nat} {O : Nat → Nat} {D : Nat → Nat → Nat} {I : Nat → Nat → Int} {A : Nat → Nat → Nat → Int} {ol al : Nat} {post : Option Value → b_H → Nat → Prop} (M : b_M S l G RX5 cX5_fitPieces 7 none "fitPieces" 4 90 0 0 hB sz post) (hWB : x_W lb L n O D I A hB) (hPB : p_L G lb n O ol al hB) (hJP : ∀ p, p < n → q_J (I (p + 20)) (A (p + 20))) (hkey : ∀ p, p < n → 0 ≤ I (p + 20) 0 ∧ I (p + 20) 0 ≤ 11) (hth : ∀ p, p < n → I (p + 20) 2 = 0 ∨ I (p + 20) 2 = 1) (hn12 : n ≤ 12) {s mo t : Int} (hs : 0 ≤ s ∧ s ≤ 7) (hmo : 0 ≤ mo ∧ mo ≤ 5) (ht : 0 ≤ t ∧ t ≤ 100000) (hi3 : i 3 = (n : Int)) (P : ∀ (h : b_H) (a : Nat → Nat → Int), r_O (K5 L) 5 (O 5) (D 5) i a h → (∀ b, ¬ r_own (K5 L) (O 5) (D 5) b → h b = hB b) → (∀ j : Nat, (j : Int) < n → a 5 (s.toNat * 12 + j) = c_fb I A mo t j ∧ a 6 (s.toNat * 12 + j) = c_fm I A mo t j) → (∀ k, k ≠ 5 → k ≠ 6 → a k = a0 k) → (∀ j : Nat, ¬ (s.toNat * 12 ≤ j ∧ (j : Int) < s * 12 + n) → a 5 j = a0 5 j ∧ a 6 j = a0 6 j) → post none h sz) : ∀ (d : Nat) (h : b_H) (a : Nat → Nat → Int) (x : Int) (x5 x6 : Option Value), (((n : Int) - x).toNat = d) → (0 ≤ x) → (x ≤ n) → (r_O (K5 L) 5 (O 5) (D 5) i a h) → (∀ b, ¬ r_own (K5 L) (O 5) (D 5) b → h b = hB b) → (a 4 s.toNat = t) → (∀ j : Nat, (j : Int) < x → a 5 (s.toNat * 12 + j) = c_fb I A mo t j ∧ a 6 (s.toNat * 12 + j) = c_fm I A mo t j) → (∀ k, k ≠ 5 → k ≠ 6 → a k = a0 k) → (∀ j : Nat, ¬ (s.toNat * 12 ≤ j ∧ (j : Int) < s * 12 + x) → a 5 j = a0 5 j ∧ a 6 j = a0 6 j) → V S 0 0 h sz 3 [some (.ref (O 5)), some (.int (zI s)), some (.int (zI mo)), some (.ref ol), some (.int (zI x)), x5, x6] [] := by
  have hc := M.2.2.2.1
  have ho : s_own S = RX5 := M.2.2.1
  have hFr : (s_R S).frames = 4 := by rw [M.2.2.2.2.2.2.2.1]
  have hLo : (s_R S).locals = 90 := by rw [M.2.2.2.2.2.2.2.1]
  have hCe : (s_R S).cells = 0 := by rw [M.2.2.2.2.2.2.2.1]
  have hSl : (s_R S).slots = 0 := by rw [M.2.2.2.2.2.2.2.1]
  intro d
  induction d using Nat.strongRecOn with
  | ind d ih =>
    intro h a x x5 x6 hd h0 h1 hO hfr hat hdone hE hout
    have hG : s_G S = G := M.2.1
    subst hG
    have hi := hO.2.2.2.1
    have ha := hO.2.2.2.2
    have hpl := hPB.keptB hWB hfr
    obtain ⟨mc, hjo, -⟩ := id hpl.1
    refine v_iload hc dX5_fitPieces_3 rfl ?_
    refine v_aload_n hc dX5_fitPieces_5 rfl ?_
    refine r_get hc ho dX5_fitPieces_6 F_X5_56 hO rfl ?_
    refine z_icmp_ge (tgt := 107) hc dX5_fitPieces_9 (by decide) (by first | assumption | exact hi _ | exact ha _ _ | (unfold zb; omega)) (by first | assumption | exact hi _ | exact ha _ _ | (unfold zb; omega)) (fun c_1 => ?_) (fun c_1 => ?_)
    · refine v_vret M dX5_fitPieces_107 (by omega) (by omega) ?_
      exact P h a hO hfr (fun j hj => hdone j (by omega)) hE (fun j hj => hout j (by omega))
    · have hpc := hWB.pcB hfr (p := x.toNat) (by omega)
      have hJx := hJP x.toNat (by omega)
      obtain ⟨hq6, hq7, hq8⟩ := id hJx.1.2.2.2.1
      refine v_aload_n hc dX5_fitPieces_12 rfl ?_
      refine v_iload hc dX5_fitPieces_13 rfl ?_
      refine v_callV (As := [.int (zI x)]) hc ho dX5_fitPieces_15 KV_X5_87 KB_Jx4a65c_get_915e3 hjo rfl rfl (c_Jx4a65c_get_915e3 _ _ hpl.1 (x := x) (by omega)) rfl (Nat.le_of_ble_eq_true rfl) ⟨by omega, by omega⟩ ⟨by omega, by omega⟩ (fun r_ h_ sz_ q_ z_ => ?_)
      obtain ⟨rfl, eh_, es_⟩ := q_
      have eh_ := eh_.symm
      subst eh_
      have es_ := es_.symm
      subst es_
      refine v_cast hc ho dX5_fitPieces_18 rfl CLk_X5_91 hpc.1 ?_
      refine v_astore hc dX5_fitPieces_21 (Nat.le_of_ble_eq_true rfl) ?_
      refine v_aload hc dX5_fitPieces_23 rfl ?_
      refine v_iload_n hc dX5_fitPieces_25 rfl ?_
      refine v_callV (As := [.int (zI mo)]) hc ho dX5_fitPieces_26 KV_X5_93 KB_X4_hasMood hpc.1 rfl rfl (c_X4_hasMood _ _ hpc hJx.1 (x := mo) (by unfold zb; omega)) rfl (Nat.le_of_ble_eq_true rfl) ⟨by omega, by omega⟩ ⟨by omega, by omega⟩ (fun r_ h_ sz_ q_ z_ => ?_)
      obtain ⟨rfl, eh_, es_⟩ := q_
      have eh_ := eh_.symm
      subst eh_
      have es_ := es_.symm
      subst es_
      have hb01 := bI_or ((0 ≤ mo ∧ mo ≤ 5) ∧ I (x.toNat + 20) 1 / 2 ^ mo.toNat % 2 = 1)
      generalize bI ((0 ≤ mo ∧ mo ≤ 5) ∧ I (x.toNat + 20) 1 / 2 ^ mo.toNat % 2 = 1) = bp at hb01 ⊢
      refine z_if_eq (tgt := 46) hc dX5_fitPieces_29 (by decide) (by first | assumption | exact hi _ | exact ha _ _ | (unfold zb; omega)) (fun c_2 => ?_) (fun c_2 => ?_)
      · skip
        refine z_bipush hc dX5_fitPieces_46 (by decide) ?_
        have hbe : (-2 : Int) = c_fb I A mo t x.toNat := by rw [c_fb, if_neg (by omega)]
        rw [hbe]
        obtain ⟨bb, hbb⟩ : ∃ v, c_fb I A mo t x.toNat = v := ⟨_, rfl⟩
        rw [hbb]
        have hbd : bb = -2 ∨ (1 ≤ bb ∧ bb ≤ 400) := by
          rw [← hbb, c_fb]
          split
          · exact q_bt_bd _ _ 400
          · exact Or.inl rfl
        refine v_istore hc dX5_fitPieces_48 (Nat.le_of_ble_eq_true rfl) ?_
        refine v_aload_n hc dX5_fitPieces_50 rfl ?_
        refine r_getA hc ho dX5_fitPieces_51 F_X5_22 hO rfl ?_
        refine v_iload_n hc dX5_fitPieces_54 rfl ?_
        refine z_bipush hc dX5_fitPieces_55 (by decide) ?_
        refine z_imul hc dX5_fitPieces_57 ?_
        refine v_iload hc dX5_fitPieces_58 rfl ?_
        refine z_iadd hc dX5_fitPieces_60 ?_
        refine v_iload hc dX5_fitPieces_61 rfl ?_
        refine r_iastf hc dX5_fitPieces_63 hO hfr 5 rfl (by decide) (by omega) (by omega) (by first | assumption | exact hi _ | exact ha _ _ | (unfold zb; omega)) (fun h a_3 g_3 k_3 hO hfr => ?_)
        have ha := hO.2.2.2.2
        have ha := hO.2.2.2.2
        refine v_aload_n hc dX5_fitPieces_64 rfl ?_
        refine r_getA hc ho dX5_fitPieces_65 F_X5_25 hO rfl ?_
        refine v_iload_n hc dX5_fitPieces_68 rfl ?_
        refine z_bipush hc dX5_fitPieces_69 (by decide) ?_
        refine z_imul hc dX5_fitPieces_71 ?_
        refine v_iload hc dX5_fitPieces_72 rfl ?_
        refine z_iadd hc dX5_fitPieces_74 ?_
        refine v_iload hc dX5_fitPieces_75 rfl ?_
        refine z_bipush hc dX5_fitPieces_77 (by decide) ?_
        refine z_icmp_ne (tgt := 87) hc dX5_fitPieces_79 (by decide) (by first | assumption | exact hi _ | exact ha _ _ | (unfold zb; omega)) (by first | assumption | exact hi _ | exact ha _ _ | (unfold zb; omega)) (fun c_4 => ?_) (fun c_4 => ?_)
        · have hpc := hWB.pcB hfr (p := x.toNat) (by omega)
          refine v_aload hc dX5_fitPieces_87 rfl ?_
          refine v_iload hc dX5_fitPieces_89 rfl ?_
          refine v_aload_n hc dX5_fitPieces_91 rfl ?_
          refine r_getA hc ho dX5_fitPieces_92 F_X5_18 hO rfl ?_
          refine v_iload_n hc dX5_fitPieces_95 rfl ?_
          refine r_iald hc dX5_fitPieces_96 hO 4 rfl (by decide) (by omega) (by omega) ?_
          rw [k_3 4 (by decide), hat]
          refine v_callV (As := [.int (zI bb), .int (zI t)]) hc ho dX5_fitPieces_97 KV_X5_100 KB_X4_misses hpc.1 rfl rfl (c_X4_misses _ _ hpc hJx.1 (b := bb) (t := t) (by omega) ht) rfl (Nat.le_of_ble_eq_true rfl) ⟨by omega, by omega⟩ ⟨by omega, by omega⟩ (fun r_ h_ sz_ q_ z_ => ?_)
          obtain ⟨rfl, eh_, es_⟩ := q_
          have eh_ := eh_.symm
          subst eh_
          have es_ := es_.symm
          subst es_
          have hme : q_ms (I (x.toNat + 20) 6) (I (x.toNat + 20) 7) bb t = c_fm I A mo t x.toNat := by rw [c_fm, hbb, if_neg (by omega)]
          rw [hme]
          have hmb : -2 ≤ c_fm I A mo t x.toNat ∧ c_fm I A mo t x.toNat ≤ 100000 := by
            rw [c_fm, hbb]
            split
            · omega
            · have := q_ms_bd2 (s := I (x.toNat + 20) 6) (f := I (x.toNat + 20) 7) (b := bb) (t := t) hq6 hq7 (by omega) (by omega) ht.1 ht.2
              omega
          refine r_iastf hc dX5_fitPieces_100 hO hfr 6 rfl (by decide) (by omega) (by omega) (by first | assumption | exact hi _ | exact ha _ _ | (unfold zb; omega)) (fun h a_5 g_5 k_5 hO hfr => ?_)
          have ha := hO.2.2.2.2
          have ha := hO.2.2.2.2
          refine z_iinc hc dX5_fitPieces_101 rfl ?_
          refine v_goto (tgt := 3) hc dX5_fitPieces_104 (by decide) ?_
          have hxe : (s * 12 + x).toNat = s.toNat * 12 + x.toNat := by omega
          refine ih _ (by omega) h a_5 _ _ _ rfl (by omega) (by omega) hO hfr (by rw [k_5 4 (by decide), k_3 4 (by decide)]; exact hat) (fun j hj => ?_) (fun k k5 k6 => ?_) (fun j hj => ?_)
          · rw [g_5, k_5 5 (by decide), g_3, hxe]
            by_cases q : j = x.toNat
            · rw [q, b_up_eq, b_up_eq, hbb]; exact ⟨rfl, rfl⟩
            · rw [b_up_ne _ _ (by omega), b_up_ne _ _ (by omega), k_3 6 (by decide)]; exact hdone j (by omega)
          · rw [k_5 k k6, k_3 k k5]; exact hE k k5 k6
          · rw [g_5, k_5 5 (by decide), g_3, hxe]
            rw [b_up_ne _ _ (by omega), b_up_ne _ _ (by omega), k_3 6 (by decide)]
            exact hout j (by omega)
        · skip
          refine z_bipush hc dX5_fitPieces_82 (by decide) ?_
          refine v_goto (tgt := 100) hc dX5_fitPieces_84 (by decide) ?_
          have hme : (-2 : Int) = c_fm I A mo t x.toNat := by rw [c_fm, hbb, if_pos (by omega)]
          rw [hme]
          have hmb : -2 ≤ c_fm I A mo t x.toNat ∧ c_fm I A mo t x.toNat ≤ 100000 := by
            rw [c_fm, hbb]
            split
            · omega
            · have := q_ms_bd2 (s := I (x.toNat + 20) 6) (f := I (x.toNat + 20) 7) (b := bb) (t := t) hq6 hq7 (by omega) (by omega) ht.1 ht.2
              omega
          refine r_iastf hc dX5_fitPieces_100 hO hfr 6 rfl (by decide) (by omega) (by omega) (by first | assumption | exact hi _ | exact ha _ _ | (unfold zb; omega)) (fun h a_6 g_6 k_6 hO hfr => ?_)
          have ha := hO.2.2.2.2
          have ha := hO.2.2.2.2
          refine z_iinc hc dX5_fitPieces_101 rfl ?_
          refine v_goto (tgt := 3) hc dX5_fitPieces_104 (by decide) ?_
          have hxe : (s * 12 + x).toNat = s.toNat * 12 + x.toNat := by omega
          refine ih _ (by omega) h a_6 _ _ _ rfl (by omega) (by omega) hO hfr (by rw [k_6 4 (by decide), k_3 4 (by decide)]; exact hat) (fun j hj => ?_) (fun k k5 k6 => ?_) (fun j hj => ?_)
          · rw [g_6, k_6 5 (by decide), g_3, hxe]
            by_cases q : j = x.toNat
            · rw [q, b_up_eq, b_up_eq, hbb]; exact ⟨rfl, rfl⟩
            · rw [b_up_ne _ _ (by omega), b_up_ne _ _ (by omega), k_3 6 (by decide)]; exact hdone j (by omega)
          · rw [k_6 k k6, k_3 k k5]; exact hE k k5 k6
          · rw [g_6, k_6 5 (by decide), g_3, hxe]
            rw [b_up_ne _ _ (by omega), b_up_ne _ _ (by omega), k_3 6 (by decide)]
            exact hout j (by omega)
      · skip
        refine v_aload hc dX5_fitPieces_32 rfl ?_
        refine v_aload_n hc dX5_fitPieces_34 rfl ?_
        refine r_getA hc ho dX5_fitPieces_35 F_X5_18 hO rfl ?_
        refine v_iload_n hc dX5_fitPieces_38 rfl ?_
        refine r_iald hc dX5_fitPieces_39 hO 4 rfl (by decide) (by omega) (by omega) ?_
        rw [show s.toNat = s.toNat from rfl, hat]
        refine v_callV (As := [.int (zI t)]) hc ho dX5_fitPieces_40 KV_X5_97 KB_X4_bestBeats hpc.1 rfl rfl (c_X4_bestBeats _ _ hpc hJx.1 (t := t) ht) rfl (Nat.le_of_ble_eq_true rfl) ⟨by omega, by omega⟩ ⟨by omega, by omega⟩ (fun r_ h_ sz_ q_ z_ => ?_)
        obtain ⟨rfl, eh_, es_⟩ := q_
        have eh_ := eh_.symm
        subst eh_
        have es_ := es_.symm
        subst es_
        refine v_goto (tgt := 48) hc dX5_fitPieces_43 (by decide) ?_
        have hbe : (q_bt (fun b => ¬ A (x.toNat + 20) 13 b = 17) (fun b => q_ms (I (x.toNat + 20) 6) (I (x.toNat + 20) 7) b t) 400) = c_fb I A mo t x.toNat := by rw [c_fb, if_pos (by omega)]
        rw [hbe]
        obtain ⟨bb, hbb⟩ : ∃ v, c_fb I A mo t x.toNat = v := ⟨_, rfl⟩
        rw [hbb]
        have hbd : bb = -2 ∨ (1 ≤ bb ∧ bb ≤ 400) := by
          rw [← hbb, c_fb]
          split
          · exact q_bt_bd _ _ 400
          · exact Or.inl rfl
        refine v_istore hc dX5_fitPieces_48 (Nat.le_of_ble_eq_true rfl) ?_
        refine v_aload_n hc dX5_fitPieces_50 rfl ?_
        refine r_getA hc ho dX5_fitPieces_51 F_X5_22 hO rfl ?_
        refine v_iload_n hc dX5_fitPieces_54 rfl ?_
        refine z_bipush hc dX5_fitPieces_55 (by decide) ?_
        refine z_imul hc dX5_fitPieces_57 ?_
        refine v_iload hc dX5_fitPieces_58 rfl ?_
        refine z_iadd hc dX5_fitPieces_60 ?_
        refine v_iload hc dX5_fitPieces_61 rfl ?_
        refine r_iastf hc dX5_fitPieces_63 hO hfr 5 rfl (by decide) (by omega) (by omega) (by first | assumption | exact hi _ | exact ha _ _ | (unfold zb; omega)) (fun h a_7 g_7 k_7 hO hfr => ?_)
        have ha := hO.2.2.2.2
        have ha := hO.2.2.2.2
        refine v_aload_n hc dX5_fitPieces_64 rfl ?_
        refine r_getA hc ho dX5_fitPieces_65 F_X5_25 hO rfl ?_
        refine v_iload_n hc dX5_fitPieces_68 rfl ?_
        refine z_bipush hc dX5_fitPieces_69 (by decide) ?_
        refine z_imul hc dX5_fitPieces_71 ?_
        refine v_iload hc dX5_fitPieces_72 rfl ?_
        refine z_iadd hc dX5_fitPieces_74 ?_
        refine v_iload hc dX5_fitPieces_75 rfl ?_
        refine z_bipush hc dX5_fitPieces_77 (by decide) ?_
        refine z_icmp_ne (tgt := 87) hc dX5_fitPieces_79 (by decide) (by first | assumption | exact hi _ | exact ha _ _ | (unfold zb; omega)) (by first | assumption | exact hi _ | exact ha _ _ | (unfold zb; omega)) (fun c_8 => ?_) (fun c_8 => ?_)
        · have hpc := hWB.pcB hfr (p := x.toNat) (by omega)
          refine v_aload hc dX5_fitPieces_87 rfl ?_
          refine v_iload hc dX5_fitPieces_89 rfl ?_
          refine v_aload_n hc dX5_fitPieces_91 rfl ?_
          refine r_getA hc ho dX5_fitPieces_92 F_X5_18 hO rfl ?_
          refine v_iload_n hc dX5_fitPieces_95 rfl ?_
          refine r_iald hc dX5_fitPieces_96 hO 4 rfl (by decide) (by omega) (by omega) ?_
          rw [k_7 4 (by decide), hat]
          refine v_callV (As := [.int (zI bb), .int (zI t)]) hc ho dX5_fitPieces_97 KV_X5_100 KB_X4_misses hpc.1 rfl rfl (c_X4_misses _ _ hpc hJx.1 (b := bb) (t := t) (by omega) ht) rfl (Nat.le_of_ble_eq_true rfl) ⟨by omega, by omega⟩ ⟨by omega, by omega⟩ (fun r_ h_ sz_ q_ z_ => ?_)
          obtain ⟨rfl, eh_, es_⟩ := q_
          have eh_ := eh_.symm
          subst eh_
          have es_ := es_.symm
          subst es_
          have hme : q_ms (I (x.toNat + 20) 6) (I (x.toNat + 20) 7) bb t = c_fm I A mo t x.toNat := by rw [c_fm, hbb, if_neg (by omega)]
          rw [hme]
          have hmb : -2 ≤ c_fm I A mo t x.toNat ∧ c_fm I A mo t x.toNat ≤ 100000 := by
            rw [c_fm, hbb]
            split
            · omega
            · have := q_ms_bd2 (s := I (x.toNat + 20) 6) (f := I (x.toNat + 20) 7) (b := bb) (t := t) hq6 hq7 (by omega) (by omega) ht.1 ht.2
              omega
          refine r_iastf hc dX5_fitPieces_100 hO hfr 6 rfl (by decide) (by omega) (by omega) (by first | assumption | exact hi _ | exact ha _ _ | (unfold zb; omega)) (fun h a_9 g_9 k_9 hO hfr => ?_)
          have ha := hO.2.2.2.2
          have ha := hO.2.2.2.2
          refine z_iinc hc dX5_fitPieces_101 rfl ?_
          refine v_goto (tgt := 3) hc dX5_fitPieces_104 (by decide) ?_
          have hxe : (s * 12 + x).toNat = s.toNat * 12 + x.toNat := by omega
          refine ih _ (by omega) h a_9 _ _ _ rfl (by omega) (by omega) hO hfr (by rw [k_9 4 (by decide), k_7 4 (by decide)]; exact hat) (fun j hj => ?_) (fun k k5 k6 => ?_) (fun j hj => ?_)
          · rw [g_9, k_9 5 (by decide), g_7, hxe]
            by_cases q : j = x.toNat
            · rw [q, b_up_eq, b_up_eq, hbb]; exact ⟨rfl, rfl⟩
            · rw [b_up_ne _ _ (by omega), b_up_ne _ _ (by omega), k_7 6 (by decide)]; exact hdone j (by omega)
          · rw [k_9 k k6, k_7 k k5]; exact hE k k5 k6
          · rw [g_9, k_9 5 (by decide), g_7, hxe]
            rw [b_up_ne _ _ (by omega), b_up_ne _ _ (by omega), k_7 6 (by decide)]
            exact hout j (by omega)
        · skip
          refine z_bipush hc dX5_fitPieces_82 (by decide) ?_
          refine v_goto (tgt := 100) hc dX5_fitPieces_84 (by decide) ?_
          have hme : (-2 : Int) = c_fm I A mo t x.toNat := by rw [c_fm, hbb, if_pos (by omega)]
          rw [hme]
          have hmb : -2 ≤ c_fm I A mo t x.toNat ∧ c_fm I A mo t x.toNat ≤ 100000 := by
            rw [c_fm, hbb]
            split
            · omega
            · have := q_ms_bd2 (s := I (x.toNat + 20) 6) (f := I (x.toNat + 20) 7) (b := bb) (t := t) hq6 hq7 (by omega) (by omega) ht.1 ht.2
              omega
          refine r_iastf hc dX5_fitPieces_100 hO hfr 6 rfl (by decide) (by omega) (by omega) (by first | assumption | exact hi _ | exact ha _ _ | (unfold zb; omega)) (fun h a_10 g_10 k_10 hO hfr => ?_)
          have ha := hO.2.2.2.2
          have ha := hO.2.2.2.2
          refine z_iinc hc dX5_fitPieces_101 rfl ?_
          refine v_goto (tgt := 3) hc dX5_fitPieces_104 (by decide) ?_
          have hxe : (s * 12 + x).toNat = s.toNat * 12 + x.toNat := by omega
          refine ih _ (by omega) h a_10 _ _ _ rfl (by omega) (by omega) hO hfr (by rw [k_10 4 (by decide), k_7 4 (by decide)]; exact hat) (fun j hj => ?_) (fun k k5 k6 => ?_) (fun j hj => ?_)
          · rw [g_10, k_10 5 (by decide), g_7, hxe]
            by_cases q : j = x.toNat
            · rw [q, b_up_eq, b_up_eq, hbb]; exact ⟨rfl, rfl⟩
            · rw [b_up_ne _ _ (by omega), b_up_ne _ _ (by omega), k_7 6 (by decide)]; exact hdone j (by omega)
          · rw [k_10 k k6, k_7 k k5]; exact hE k k5 k6
          · rw [g_10, k_10 5 (by decide), g_7, hxe]
            rw [b_up_ne _ _ (by omega), b_up_ne _ _ (by omega), k_7 6 (by decide)]
            exact hout j (by omega)
set_option maxHeartbeats 4000000 in
theorem c_X5_fitPieces (l : Launch) (G : b_G) {i : Nat → Int} {a : Nat → Nat → Int} {h : b_H} {sz : Nat} {lb : Nat → Nat} {L n : Nat} {O : Nat → Nat} {D : Nat → Nat → Nat} {I : Nat → Nat → Int} {A : Nat → Nat → Nat → Int} {ol al : Nat} (hWB : x_W lb L n O D I A h) (hPB : p_L G lb n O ol al h) (hJP : ∀ p, p < n → q_J (I (p + 20)) (A (p + 20))) (hkey : ∀ p, p < n → 0 ≤ I (p + 20) 0 ∧ I (p + 20) 0 ≤ 11) (hth : ∀ p, p < n → I (p + 20) 2 = 0 ∨ I (p + 20) 2 = 1) (hn12 : n ≤ 12) (hO : r_O (K5 L) 5 (O 5) (D 5) i a h) {s mo : Int} (hs : 0 ≤ s ∧ s ≤ 7) (hmo : 0 ≤ mo ∧ mo ≤ 5) (ht : 0 ≤ a 4 s.toNat ∧ a 4 s.toNat ≤ 100000) (hi3 : i 3 = (n : Int)) : Con l G yX5_fitPieces cX5_fitPieces 7 none 4 90 0 0 [.ref (O 5), .int (zI s), .int (zI mo), .ref ol] h sz (p_wr (K5 L) 5 (O 5) (D 5) h sz (fun r i2 a2 => r = none ∧ i2 = i ∧ (∀ j : Nat, (j : Int) < n → a2 5 (s.toNat * 12 + j) = c_fb I A mo (a 4 s.toNat) j ∧ a2 6 (s.toNat * 12 + j) = c_fm I A mo (a 4 s.toNat) j) ∧ (∀ k, k ≠ 5 → k ≠ 6 → a2 k = a k) ∧ (∀ j : Nat, ¬ (s.toNat * 12 ≤ j ∧ (j : Int) < s * 12 + n) → a2 5 j = a 5 j ∧ a2 6 j = a 6 j))) := by
  refine Con.ofK (by decide +kernel) rfl rfl ?_
  intro S M
  have hc := M.2.2.2.1
  have ho : s_own S = RX5 := M.2.2.1
  have hFr : (s_R S).frames = 4 := by rw [M.2.2.2.2.2.2.2.1]
  have hLo : (s_R S).locals = 90 := by rw [M.2.2.2.2.2.2.2.1]
  have hCe : (s_R S).cells = 0 := by rw [M.2.2.2.2.2.2.2.1]
  have hSl : (s_R S).slots = 0 := by rw [M.2.2.2.2.2.2.2.1]
  refine z_iconst hc dX5_fitPieces_0 ?_
  refine v_istore hc dX5_fitPieces_1 (Nat.le_of_ble_eq_true rfl) ?_
  exact l_X5_fitPieces M hWB hPB hJP hkey hth hn12 (a0 := a) (t := a 4 s.toNat) hs hmo ht hi3 (fun h2 a2 q1 q2 q3 q4 q5 => ⟨rfl, i, a2, ⟨rfl, rfl, q3, q4, q5⟩, q1, q2⟩) _ h a _ _ _ rfl (by omega) (by omega) hO (fun _ _ => rfl) rfl (fun j hj => by omega) (fun _ _ _ => rfl) (fun j hj => ⟨rfl, rfl⟩)
set_option maxHeartbeats 4000000 in
theorem l_X5_weighJoins12 {S : b_S} {l : Launch} {G : b_G} {i : Nat → Int} {a0 : Nat → Nat → Int} {hB : b_H} {sz : Nat} {lb : Nat → Nat} {L n : Nat} {O : Nat → Nat} {D : Nat → Nat → Nat} {I : Nat → Nat → Int} {A : Nat → Nat → Nat → Int} {ol al : Nat} {post : Option Value → b_H → Nat → Prop} (M : b_M S l G RX5 cX5_weighJoins 5 none "weighJoins" 3 64 0 0 hB sz post) (hWB : x_W lb L n O D I A hB) (hPB : p_L G lb n O ol al hB) (hJP : ∀ p, p < n → q_J (I (p + 20)) (A (p + 20))) (hkey : ∀ p, p < n → 0 ≤ I (p + 20) 0 ∧ I (p + 20) 0 ≤ 11) (hth : ∀ p, p < n → I (p + 20) 2 = 0 ∨ I (p + 20) 2 = 1) (hn12 : n ≤ 12) (hi3 : i 3 = (n : Int)) (hi0 : 0 ≤ i 0 ∧ i 0 ≤ 99) (hi1 : 0 ≤ i 1 ∧ i 1 ≤ 6) {x : Int} (hx : 0 ≤ x ∧ x < n) (P85 : ∀ (z : Int) (h : b_H) (a : Nat → Nat → Int) (x4 : Option Value), r_O (K5 L) 5 (O 5) (D 5) i a h → (∀ b, ¬ r_own (K5 L) (O 5) (D 5) b → h b = hB b) → (∀ p q : Nat, p < n → q < n → ((p : Int) < x ∨ ((p : Int) = x ∧ (q : Int) < z)) → a 7 (p * 12 + q) = c_jc I (i 0) (i 1) p q) → (∀ k, k ≠ 7 → a k = a0 k) → (∀ j, 0 ≤ a 7 j ∧ (a 7 j ≤ 594 ∨ a 7 j = 1048575)) → (n : Int) ≤ z → V S 0 0 h sz 85 [some (.ref (O 5)), some (.ref ol), some (.int (zI x)), some (.int (zI z)), x4] []) : ∀ (d : Nat) (h : b_H) (a : Nat → Nat → Int) (z : Int) (x4 : Option Value), (((n : Int) - z).toNat = d) → (0 ≤ z) → (z ≤ n) → (r_O (K5 L) 5 (O 5) (D 5) i a h) → (∀ b, ¬ r_own (K5 L) (O 5) (D 5) b → h b = hB b) → (∀ p q : Nat, p < n → q < n → ((p : Int) < x ∨ ((p : Int) = x ∧ (q : Int) < z)) → a 7 (p * 12 + q) = c_jc I (i 0) (i 1) p q) → (∀ k, k ≠ 7 → a k = a0 k) → (∀ j, 0 ≤ a 7 j ∧ (a 7 j ≤ 594 ∨ a 7 j = 1048575)) → V S 0 0 h sz 12 [some (.ref (O 5)), some (.ref ol), some (.int (zI x)), some (.int (zI z)), x4] [] := by
  have hc := M.2.2.2.1
  have ho : s_own S = RX5 := M.2.2.1
  have hFr : (s_R S).frames = 3 := by rw [M.2.2.2.2.2.2.2.1]
  have hLo : (s_R S).locals = 64 := by rw [M.2.2.2.2.2.2.2.1]
  have hCe : (s_R S).cells = 0 := by rw [M.2.2.2.2.2.2.2.1]
  have hSl : (s_R S).slots = 0 := by rw [M.2.2.2.2.2.2.2.1]
  intro d
  induction d using Nat.strongRecOn with
  | ind d ih =>
    intro h a z x4 hd h0 h1 hO hfr hJD hJE hJ7
    have hG : s_G S = G := M.2.1
    subst hG
    have hi := hO.2.2.2.1
    have ha := hO.2.2.2.2
    have hpl := hPB.keptB hWB hfr
    obtain ⟨mc, hjo, -⟩ := id hpl.1
    refine v_iload_n hc dX5_weighJoins_12 rfl ?_
    refine v_aload_n hc dX5_weighJoins_13 rfl ?_
    refine r_get hc ho dX5_weighJoins_14 F_X5_56 hO rfl ?_
    refine z_icmp_ge (tgt := 85) hc dX5_weighJoins_17 (by decide) (by first | assumption | exact hi _ | exact ha _ _ | (unfold zb; omega)) (by first | assumption | exact hi _ | exact ha _ _ | (unfold zb; omega)) (fun c_1 => ?_) (fun c_1 => ?_)
    · exact P85 z h a _ hO hfr hJD hJE hJ7 (by omega)
    · have hpc := hWB.pcB hfr (p := x.toNat) (by omega)
      have hpc2 := hWB.pcB hfr (p := z.toNat) (by omega)
      have hsb := p_st_bd (I (x.toNat + 20) 0) (I (z.toNat + 20) 0)
      refine v_aload_n hc dX5_weighJoins_20 rfl ?_
      refine v_iload_n hc dX5_weighJoins_21 rfl ?_
      refine v_callV (As := [.int (zI x)]) hc ho dX5_weighJoins_22 KV_X5_87 KB_Jx4a65c_get_915e3 hjo rfl rfl (c_Jx4a65c_get_915e3 _ _ hpl.1 (x := x) (by omega)) rfl (Nat.le_of_ble_eq_true rfl) ⟨by omega, by omega⟩ ⟨by omega, by omega⟩ (fun r_ h_ sz_ q_ z_ => ?_)
      obtain ⟨rfl, eh_, es_⟩ := q_
      have eh_ := eh_.symm
      subst eh_
      have es_ := es_.symm
      subst es_
      refine v_cast hc ho dX5_weighJoins_25 rfl CLk_X5_91 hpc.1 ?_
      refine r_get hc ho dX5_weighJoins_28 F_X5_103 hpc rfl ?_
      refine v_aload_n hc dX5_weighJoins_31 rfl ?_
      refine v_iload_n hc dX5_weighJoins_32 rfl ?_
      refine v_callV (As := [.int (zI z)]) hc ho dX5_weighJoins_33 KV_X5_87 KB_Jx4a65c_get_915e3 hjo rfl rfl (c_Jx4a65c_get_915e3 _ _ hpl.1 (x := z) (by omega)) rfl (Nat.le_of_ble_eq_true rfl) ⟨by omega, by omega⟩ ⟨by omega, by omega⟩ (fun r_ h_ sz_ q_ z_ => ?_)
      obtain ⟨rfl, eh_, es_⟩ := q_
      have eh_ := eh_.symm
      subst eh_
      have es_ := es_.symm
      subst es_
      refine v_cast hc ho dX5_weighJoins_36 rfl CLk_X5_91 hpc2.1 ?_
      refine r_get hc ho dX5_weighJoins_39 F_X5_103 hpc2 rfl ?_
      refine v_callSN (As := [.int (zI (I (x.toNat + 20) 0)), .int (zI (I (z.toNat + 20) 0))]) hc ho dX5_weighJoins_42 KSN_X5_106 KB_X6_fifthsBetween (c_X6_fifthsBetween _ _ (x := I (x.toNat + 20) 0) (y := I (z.toNat + 20) 0) (hkey _ (by omega)) (hkey _ (by omega))) rfl (Nat.le_of_ble_eq_true rfl) ⟨by omega, by omega⟩ ⟨by omega, by omega⟩ (fun r_ h_ sz_ q_ z_ => ?_)
      obtain ⟨rfl, eh_, es_⟩ := q_
      have eh_ := eh_.symm
      subst eh_
      have es_ := es_.symm
      subst es_
      refine v_istore hc dX5_weighJoins_45 (Nat.le_of_ble_eq_true rfl) ?_
      refine v_aload_n hc dX5_weighJoins_47 rfl ?_
      refine r_getA hc ho dX5_weighJoins_48 F_X5_28 hO rfl ?_
      refine v_iload_n hc dX5_weighJoins_51 rfl ?_
      refine z_bipush hc dX5_weighJoins_52 (by decide) ?_
      refine z_imul hc dX5_weighJoins_54 ?_
      refine v_iload_n hc dX5_weighJoins_55 rfl ?_
      refine z_iadd hc dX5_weighJoins_56 ?_
      refine v_iload hc dX5_weighJoins_57 rfl ?_
      refine v_aload_n hc dX5_weighJoins_59 rfl ?_
      refine r_get hc ho dX5_weighJoins_60 F_X5_15 hO rfl ?_
      refine z_icmp_le (tgt := 71) hc dX5_weighJoins_63 (by decide) (by first | assumption | exact hi _ | exact ha _ _ | (unfold zb; omega)) (by first | assumption | exact hi _ | exact ha _ _ | (unfold zb; omega)) (fun c_2 => ?_) (fun c_2 => ?_)
      · have hmul : 0 ≤ (p_st (I (x.toNat + 20) 0) (I (z.toNat + 20) 0)) * i 0 ∧ (p_st (I (x.toNat + 20) 0) (I (z.toNat + 20) 0)) * i 0 ≤ 6 * 99 := ⟨Int.mul_nonneg (by omega) (by omega), Int.mul_le_mul (by omega) (by omega) (by omega) (by omega)⟩
        refine v_iload hc dX5_weighJoins_71 rfl ?_
        refine v_aload_n hc dX5_weighJoins_73 rfl ?_
        refine r_get hc ho dX5_weighJoins_74 F_X5_9 hO rfl ?_
        refine z_imul hc dX5_weighJoins_77 ?_
        have hje : (p_st (I (x.toNat + 20) 0) (I (z.toNat + 20) 0)) * i 0 = c_jc I (i 0) (i 1) x.toNat z.toNat := by rw [c_jc, if_neg (by omega)]
        have hjb : 0 ≤ c_jc I (i 0) (i 1) x.toNat z.toNat ∧ (c_jc I (i 0) (i 1) x.toNat z.toNat ≤ 594 ∨ c_jc I (i 0) (i 1) x.toNat z.toNat = 1048575) := by rw [← hje]; omega
        rw [hje]
        refine r_iastf hc dX5_weighJoins_78 hO hfr 7 rfl (by decide) (by omega) (by omega) (by first | assumption | exact hi _ | exact ha _ _ | (unfold zb; omega)) (fun h a_3 g_3 k_3 hO hfr => ?_)
        have ha := hO.2.2.2.2
        refine z_iinc hc dX5_weighJoins_79 rfl ?_
        refine v_goto (tgt := 12) hc dX5_weighJoins_82 (by decide) ?_
        have hxe : (x * 12 + z).toNat = x.toNat * 12 + z.toNat := by omega
        refine ih _ (by omega) h a_3 _ _ rfl (by omega) (by omega) hO hfr (fun p q hp hq hpq => ?_) (fun k hk => (k_3 k hk).trans (hJE k hk)) (fun j => ?_)
        · rw [g_3, hxe]
          by_cases e : p = x.toNat ∧ q = z.toNat
          · rw [e.1, e.2, b_up_eq]
          · rw [b_up_ne _ _ (by omega)]; exact hJD p q hp hq (by omega)
        · rw [g_3]
          by_cases e : j = (x * 12 + z).toNat
          · rw [e, b_up_eq]; exact hjb
          · rw [b_up_ne _ _ e]; exact hJ7 j
      · skip
        refine z_ldc hc ho dX5_weighJoins_66 K_X5_109 ?_
        refine v_goto (tgt := 78) hc dX5_weighJoins_68 (by decide) ?_
        have hje : (1048575 : Int) = c_jc I (i 0) (i 1) x.toNat z.toNat := by rw [c_jc, if_pos (by omega)]
        have hjb : 0 ≤ c_jc I (i 0) (i 1) x.toNat z.toNat ∧ (c_jc I (i 0) (i 1) x.toNat z.toNat ≤ 594 ∨ c_jc I (i 0) (i 1) x.toNat z.toNat = 1048575) := by rw [← hje]; omega
        rw [hje]
        refine r_iastf hc dX5_weighJoins_78 hO hfr 7 rfl (by decide) (by omega) (by omega) (by first | assumption | exact hi _ | exact ha _ _ | (unfold zb; omega)) (fun h a_4 g_4 k_4 hO hfr => ?_)
        have ha := hO.2.2.2.2
        refine z_iinc hc dX5_weighJoins_79 rfl ?_
        refine v_goto (tgt := 12) hc dX5_weighJoins_82 (by decide) ?_
        have hxe : (x * 12 + z).toNat = x.toNat * 12 + z.toNat := by omega
        refine ih _ (by omega) h a_4 _ _ rfl (by omega) (by omega) hO hfr (fun p q hp hq hpq => ?_) (fun k hk => (k_4 k hk).trans (hJE k hk)) (fun j => ?_)
        · rw [g_4, hxe]
          by_cases e : p = x.toNat ∧ q = z.toNat
          · rw [e.1, e.2, b_up_eq]
          · rw [b_up_ne _ _ (by omega)]; exact hJD p q hp hq (by omega)
        · rw [g_4]
          by_cases e : j = (x * 12 + z).toNat
          · rw [e, b_up_eq]; exact hjb
          · rw [b_up_ne _ _ e]; exact hJ7 j
set_option maxHeartbeats 4000000 in
theorem l_X5_weighJoins {S : b_S} {l : Launch} {G : b_G} {i : Nat → Int} {a0 : Nat → Nat → Int} {hB : b_H} {sz : Nat} {lb : Nat → Nat} {L n : Nat} {O : Nat → Nat} {D : Nat → Nat → Nat} {I : Nat → Nat → Int} {A : Nat → Nat → Nat → Int} {ol al : Nat} {post : Option Value → b_H → Nat → Prop} (M : b_M S l G RX5 cX5_weighJoins 5 none "weighJoins" 3 64 0 0 hB sz post) (hWB : x_W lb L n O D I A hB) (hPB : p_L G lb n O ol al hB) (hJP : ∀ p, p < n → q_J (I (p + 20)) (A (p + 20))) (hkey : ∀ p, p < n → 0 ≤ I (p + 20) 0 ∧ I (p + 20) 0 ≤ 11) (hth : ∀ p, p < n → I (p + 20) 2 = 0 ∨ I (p + 20) 2 = 1) (hn12 : n ≤ 12) (hi3 : i 3 = (n : Int)) (hi0 : 0 ≤ i 0 ∧ i 0 ≤ 99) (hi1 : 0 ≤ i 1 ∧ i 1 ≤ 6) (P : ∀ (h : b_H) (a : Nat → Nat → Int), r_O (K5 L) 5 (O 5) (D 5) i a h → (∀ b, ¬ r_own (K5 L) (O 5) (D 5) b → h b = hB b) → (∀ p q : Nat, p < n → q < n → a 7 (p * 12 + q) = c_jc I (i 0) (i 1) p q) → (∀ k, k ≠ 7 → a k = a0 k) → (∀ j, 0 ≤ a 7 j ∧ (a 7 j ≤ 594 ∨ a 7 j = 1048575)) → post none h sz) : ∀ (d : Nat) (h : b_H) (a : Nat → Nat → Int) (x : Int) (x3 x4 : Option Value), (((n : Int) - x).toNat = d) → (0 ≤ x) → (x ≤ n) → (r_O (K5 L) 5 (O 5) (D 5) i a h) → (∀ b, ¬ r_own (K5 L) (O 5) (D 5) b → h b = hB b) → (∀ p q : Nat, p < n → q < n → ((p : Int) < x ∨ ((p : Int) = x ∧ (q : Int) < 0)) → a 7 (p * 12 + q) = c_jc I (i 0) (i 1) p q) → (∀ k, k ≠ 7 → a k = a0 k) → (∀ j, 0 ≤ a 7 j ∧ (a 7 j ≤ 594 ∨ a 7 j = 1048575)) → V S 0 0 h sz 2 [some (.ref (O 5)), some (.ref ol), some (.int (zI x)), x3, x4] [] := by
  have hc := M.2.2.2.1
  have ho : s_own S = RX5 := M.2.2.1
  have hFr : (s_R S).frames = 3 := by rw [M.2.2.2.2.2.2.2.1]
  have hLo : (s_R S).locals = 64 := by rw [M.2.2.2.2.2.2.2.1]
  have hCe : (s_R S).cells = 0 := by rw [M.2.2.2.2.2.2.2.1]
  have hSl : (s_R S).slots = 0 := by rw [M.2.2.2.2.2.2.2.1]
  intro d
  induction d using Nat.strongRecOn with
  | ind d ih =>
    intro h a x x3 x4 hd h0 h1 hO hfr hJD hJE hJ7
    have hG : s_G S = G := M.2.1
    subst hG
    have hi := hO.2.2.2.1
    have ha := hO.2.2.2.2
    have hpl := hPB.keptB hWB hfr
    obtain ⟨mc, hjo, -⟩ := id hpl.1
    refine v_iload_n hc dX5_weighJoins_2 rfl ?_
    refine v_aload_n hc dX5_weighJoins_3 rfl ?_
    refine r_get hc ho dX5_weighJoins_4 F_X5_56 hO rfl ?_
    refine z_icmp_ge (tgt := 91) hc dX5_weighJoins_7 (by decide) (by first | assumption | exact hi _ | exact ha _ _ | (unfold zb; omega)) (by first | assumption | exact hi _ | exact ha _ _ | (unfold zb; omega)) (fun c_1 => ?_) (fun c_1 => ?_)
    · refine v_vret M dX5_weighJoins_91 (by omega) (by omega) ?_
      exact P h a hO hfr (fun p q hp hq => hJD p q hp hq (by omega)) hJE hJ7
    · refine z_iconst hc dX5_weighJoins_10 ?_
      refine v_istore_n hc dX5_weighJoins_11 (Nat.le_of_ble_eq_true rfl) ?_
      refine l_X5_weighJoins12 M hWB hPB hJP hkey hth hn12 hi3 hi0 hi1 (by omega) (fun z1 h1 a1 x41 hO hfr hJD1 hJE1 hJ71 hz1 => ?_) _ h a 0 _ rfl (by omega) (by omega) hO hfr (fun p q hp hq hpq => hJD p q hp hq (by omega)) hJE hJ7
      refine z_iinc hc dX5_weighJoins_85 rfl ?_
      refine v_goto (tgt := 2) hc dX5_weighJoins_88 (by decide) ?_
      exact ih _ (by omega) h1 a1 _ _ _ rfl (by omega) (by omega) hO hfr (fun p q hp hq hpq => hJD1 p q hp hq (by omega)) hJE1 hJ71
set_option maxHeartbeats 4000000 in
theorem c_X5_weighJoins (l : Launch) (G : b_G) {i : Nat → Int} {a : Nat → Nat → Int} {h : b_H} {sz : Nat} {lb : Nat → Nat} {L n : Nat} {O : Nat → Nat} {D : Nat → Nat → Nat} {I : Nat → Nat → Int} {A : Nat → Nat → Nat → Int} {ol al : Nat} (hWB : x_W lb L n O D I A h) (hPB : p_L G lb n O ol al h) (hJP : ∀ p, p < n → q_J (I (p + 20)) (A (p + 20))) (hkey : ∀ p, p < n → 0 ≤ I (p + 20) 0 ∧ I (p + 20) 0 ≤ 11) (hth : ∀ p, p < n → I (p + 20) 2 = 0 ∨ I (p + 20) 2 = 1) (hn12 : n ≤ 12) (hO : r_O (K5 L) 5 (O 5) (D 5) i a h) (hi3 : i 3 = (n : Int)) (hi0 : 0 ≤ i 0 ∧ i 0 ≤ 99) (hi1 : 0 ≤ i 1 ∧ i 1 ≤ 6) (hJ7 : ∀ j, 0 ≤ a 7 j ∧ (a 7 j ≤ 594 ∨ a 7 j = 1048575)) : Con l G yX5_weighJoins cX5_weighJoins 5 none 3 64 0 0 [.ref (O 5), .ref ol] h sz (p_wr (K5 L) 5 (O 5) (D 5) h sz (fun r i2 a2 => r = none ∧ i2 = i ∧ (∀ p q : Nat, p < n → q < n → a2 7 (p * 12 + q) = c_jc I (i 0) (i 1) p q) ∧ (∀ k, k ≠ 7 → a2 k = a k) ∧ ∀ j, 0 ≤ a2 7 j ∧ (a2 7 j ≤ 594 ∨ a2 7 j = 1048575))) := by
  refine Con.ofK (by decide +kernel) rfl rfl ?_
  intro S M
  have hc := M.2.2.2.1
  have ho : s_own S = RX5 := M.2.2.1
  have hFr : (s_R S).frames = 3 := by rw [M.2.2.2.2.2.2.2.1]
  have hLo : (s_R S).locals = 64 := by rw [M.2.2.2.2.2.2.2.1]
  have hCe : (s_R S).cells = 0 := by rw [M.2.2.2.2.2.2.2.1]
  have hSl : (s_R S).slots = 0 := by rw [M.2.2.2.2.2.2.2.1]
  refine z_iconst hc dX5_weighJoins_0 ?_
  refine v_istore_n hc dX5_weighJoins_1 (Nat.le_of_ble_eq_true rfl) ?_
  exact l_X5_weighJoins M hWB hPB hJP hkey hth hn12 (a0 := a) hi3 hi0 hi1 (fun h2 a2 q1 q2 q3 q4 q5 => ⟨rfl, i, a2, ⟨rfl, rfl, q3, q4, q5⟩, q1, q2⟩) _ h a _ _ _ rfl (by omega) (by omega) hO (fun _ _ => rfl) (fun p q hp hq hpq => by omega) (fun _ _ => rfl) hJ7
/-- which pieces are used up, how many below p -/
def c_us (I : Nat → Nat → Int) (a5 : Nat → Int) (St : Nat) (p : Nat) : Bool := decide (I (p + 20) 2 = 0) && w_an (fun s : Nat => decide (¬ a5 (s * 12 + p) = -2)) St
def c_bn (us : Nat → Bool) : Nat → Nat
  | 0 => 0
  | p + 1 => c_bn us p + (if us p then 1 else 0)
theorem c_bn_le (us : Nat → Bool) : ∀ p : Nat, c_bn us p ≤ p
  | 0 => Nat.le_refl 0
  | p + 1 => by
    have := c_bn_le us p
    rw [c_bn]
    split <;> omega
def c_nt (I : Nat → Nat → Int) (p : Nat) : Bool := !w_an (fun q => decide (¬ I (q + 20) 2 = 0)) p
