/-! a piece: its ways -/
theorem q_lm_cong {f g : Nat → Int} {s : Int} : ∀ {n : Nat}, (∀ j, j < n → f j = g j) → q_lm f s n = q_lm g s n
  | 0, _ => rfl
  | n + 1, h => by
    rw [q_lm, q_lm, q_lm_cong (fun j hj => h j (by omega)), h n (by omega)]
theorem q_lx_cong {f g : Nat → Int} {s : Int} : ∀ {n : Nat}, (∀ j, j < n → f j = g j) → q_lx f s n = q_lx g s n
  | 0, _ => rfl
  | n + 1, h => by
    rw [q_lx, q_lx, q_lx_cong (fun j hj => h j (by omega)), q_lm_cong (fun j hj => h j (by omega)), h n (by omega)]
theorem q_ff_cong {nb : Nat} {B N : Nat → Int} {X : Int} {F F' : Nat → Int} {x : Nat} {b : Int} (hn : nb ≤ 8) (hB : 1 ≤ B x) (h : ∀ j : Nat, (j : Int) < b * 8 → F j = F' j) : q_ff nb B N X F x b = q_ff nb B N X F' x b := by
  unfold q_ff
  split
  · rfl
  · split
    · rfl
    · rw [q_lm_cong (fun j hj => h _ (by omega))]
theorem q_ff_bd {nb : Nat} {B N : Nat → Int} {X : Int} {F : Nat → Int} (hF : ∀ j, 0 ≤ F j ∧ F j ≤ 17) (x : Nat) (b : Int) : 0 ≤ q_ff nb B N X F x b ∧ q_ff nb B N X F x b ≤ 17 := by
  unfold q_ff
  have h := q_lm_bd (f := fun j => F ((b - B x).toNat * 8 + j)) (fun j => hF _) (N x) nb
  split
  · omega
  · split
    · split <;> omega
    · omega
/-- the tables of the ways, up to b beats and block x -/
def q_D (i : Nat → Int) (B N F L : Nat → Int) (b x : Int) : Prop := (∀ b' x' : Int, 1 ≤ b' → b' ≤ 400 → (b' < b ∨ (b' = b ∧ x' < x)) → 0 ≤ x' → x' < i 4 → F (b' * 8 + x').toNat = q_ff (i 4).toNat B N (i 11) F x'.toNat b') ∧ (∀ b' : Int, 1 ≤ b' → b' < b → L b'.toNat = q_lm (fun j => F (b'.toNat * 8 + j)) (i 10) (i 4).toNat)
theorem q_D_put {i : Nat → Int} {B N F L : Nat → Int} {b x : Int} (hn : 0 ≤ i 4 ∧ i 4 ≤ 8) (hB : ∀ j : Nat, (j : Int) < i 4 → 1 ≤ B j) (hb : 1 ≤ b) (hx : 0 ≤ x) (hx2 : x < i 4) (h : q_D i B N F L b x) : q_D i B N (b_up F (b * 8 + x).toNat (q_ff (i 4).toNat B N (i 11) F x.toNat b)) L b (x + 1) := by
  refine ⟨fun b' x' h1 h2 h3 h4 h5 => ?_, fun b' h1 h2 => ?_⟩
  · have hc : q_ff (i 4).toNat B N (i 11) (b_up F (b * 8 + x).toNat (q_ff (i 4).toNat B N (i 11) F x.toNat b)) x'.toNat b' = q_ff (i 4).toNat B N (i 11) F x'.toNat b' := by
      refine q_ff_cong (by omega) (hB _ (by omega)) (fun j hj => b_up_ne _ _ ?_)
      omega
    rw [hc]
    by_cases e : b' = b ∧ x' = x
    · obtain ⟨rfl, rfl⟩ := e
      rw [b_up_eq]
    · rw [b_up_ne _ _ (by omega)]
      exact h.1 b' x' h1 h2 (by omega) h4 h5
  · rw [h.2 b' h1 h2]
    exact q_lm_cong (fun j hj => (b_up_ne _ _ (by omega)).symm)

set_option maxHeartbeats 4000000 in
theorem l_X4_findWays_11 {S : b_S} {l : Launch} {G : b_G} {o : Nat} {ad : Nat → Nat} {i : Nat → Int} {a0 : Nat → Nat → Int} {hB : b_H} {sz : Nat} {post : Option Value → b_H → Nat → Prop} (M : b_M S l G RX4 cX4_findWays 3 none "findWays" 4 94 0 0 hB sz post) (hB1 : ∀ j : Nat, (j : Int) < i 4 → 1 ≤ a0 8 j) {b : Int} (hb : 1 ≤ b ∧ b ≤ 400) (P42 : ∀ (h : b_H) (a : Nat → Nat → Int), r_O K4 4 o ad i a h → q_I i a → (∀ b, ¬ r_own K4 o ad b → h b = hB b) → (∀ k, k ≠ 12 → k ≠ 13 → a k = a0 k) → q_D i (a0 8) (a0 9) (a 12) (a 13) b (i 4) → V S 0 0 h sz 42 [some (.ref o), some (.int (zI b)), some (.int (zI (i 4)))] []) : ∀ (d : Nat) (h : b_H) (a : Nat → Nat → Int) (x : Int), ((i 4 - x).toNat = d) → (0 ≤ x) → (x ≤ i 4) → (r_O K4 4 o ad i a h) → (q_I i a) → (∀ b, ¬ r_own K4 o ad b → h b = hB b) → (∀ k, k ≠ 12 → k ≠ 13 → a k = a0 k) → (q_D i (a0 8) (a0 9) (a 12) (a 13) b x) → V S 0 0 h sz 11 [some (.ref o), some (.int (zI b)), some (.int (zI x))] [] := by
  have hc := M.2.2.2.1
  have ho : s_own S = RX4 := M.2.2.1
  have hFr : (s_R S).frames = 4 := by rw [M.2.2.2.2.2.2.2.1]
  have hLo : (s_R S).locals = 94 := by rw [M.2.2.2.2.2.2.2.1]
  have hCe : (s_R S).cells = 0 := by rw [M.2.2.2.2.2.2.2.1]
  have hSl : (s_R S).slots = 0 := by rw [M.2.2.2.2.2.2.2.1]
  intro d
  induction d using Nat.strongRecOn with
  | ind d ih =>
    intro h a x hd h0 h1 hO hI hfr hE hD
    have hi := hO.2.2.2.1
    have ha := hO.2.2.2.2
    obtain ⟨hIb, hIe, hIx, hIsf, hImd, hIbt, hInx, hIfw, hIln⟩ := id hI
    have e8 := hE 8 (by decide) (by decide)
    have e9 := hE 9 (by decide) (by decide)
    refine v_iload_n hc dX4_findWays_11 rfl ?_
    refine v_aload_n hc dX4_findWays_12 rfl ?_
    refine r_get hc ho dX4_findWays_13 F_X4_56 hO rfl ?_
    refine z_icmp_ge (tgt := 42) hc dX4_findWays_16 (by decide) (by first | assumption | exact hi _ | exact ha _ _ | (unfold zb; omega)) (by first | assumption | exact hi _ | exact ha _ _ | (unfold zb; omega)) (fun c_1 => ?_) (fun c_1 => ?_)
    · rw [show x = i 4 by omega] at hD ⊢
      exact P42 h a hO hI hfr hE hD
    · refine v_aload_n hc dX4_findWays_19 rfl ?_
      refine r_getA hc ho dX4_findWays_20 F_X4_18 hO rfl ?_
      refine v_iload_n hc dX4_findWays_23 rfl ?_
      refine z_bipush hc dX4_findWays_24 (by decide) ?_
      refine z_imul hc dX4_findWays_26 ?_
      refine v_iload_n hc dX4_findWays_27 rfl ?_
      refine z_iadd hc dX4_findWays_28 ?_
      refine v_aload_n hc dX4_findWays_29 rfl ?_
      refine v_iload_n hc dX4_findWays_30 rfl ?_
      refine v_iload_n hc dX4_findWays_31 rfl ?_
      refine v_callV (As := [.int (zI x), .int (zI b)]) hc ho dX4_findWays_32 KV_X4_85 KB_X4_fewestFrom hO.1 rfl rfl (c_X4_fewestFrom _ _ hO hI (x := x) (b := b) (by omega) (by omega)) rfl (Nat.le_of_ble_eq_true rfl) ⟨by omega, by omega⟩ ⟨by omega, by omega⟩ (fun r_ h_ sz_ q_ z_ => ?_)
      obtain ⟨rfl, rfl, rfl⟩ := q_
      have hvb := q_ff_bd (nb := (i 4).toNat) (B := a 8) (N := a 9) (X := i 11) (F := a 12) hIfw x.toNat b
      refine r_iast hc dX4_findWays_35 hO hfr 12 rfl (by decide) (by omega) (by omega) (by first | assumption | exact hi _ | exact ha _ _ | (unfold zb; omega)) (fun h hO hfr => ?_)
      have ha := hO.2.2.2.2
      refine z_iinc hc dX4_findWays_36 rfl ?_
      refine v_goto (tgt := 11) hc dX4_findWays_39 (by decide) ?_
      have hu : ∀ k, k ≠ 12 → r_up a 12 (b * 8 + x).toNat (q_ff (i 4).toNat (a 8) (a 9) (i 11) (a 12) x.toNat b) k = a k := fun k hk => b_up_ne _ _ hk
      have hu2 : r_up a 12 (b * 8 + x).toNat (q_ff (i 4).toNat (a 8) (a 9) (i 11) (a 12) x.toNat b) 12 = b_up (a 12) (b * 8 + x).toNat (q_ff (i 4).toNat (a 8) (a 9) (i 11) (a 12) x.toNat b) := b_up_eq _ _ _
      refine ih _ (by omega) h _ _ rfl (by omega) (by omega) hO ?_ hfr (fun k h1 h2 => (hu k h1).trans (hE k h1 h2)) ?_
      · refine ⟨hIb, hIe, hIx, hIsf, hImd, by rw [hu 8 (by decide)]; exact hIbt, by rw [hu 9 (by decide)]; exact hInx, fun j => ?_, by rw [hu 13 (by decide)]; exact hIln⟩
        rw [hu2]
        by_cases q : j = (b * 8 + x).toNat
        · rw [q, b_up_eq]; exact hvb
        · rw [b_up_ne _ _ q]; exact hIfw j
      · rw [hu2, hu 13 (by decide), e8, e9]
        exact q_D_put hIb hB1 (by omega) (by omega) (by omega) hD
set_option maxHeartbeats 4000000 in
theorem l_X4_findWays_2 {S : b_S} {l : Launch} {G : b_G} {o : Nat} {ad : Nat → Nat} {i : Nat → Int} {a0 : Nat → Nat → Int} {hB : b_H} {sz : Nat} {post : Option Value → b_H → Nat → Prop} (M : b_M S l G RX4 cX4_findWays 3 none "findWays" 4 94 0 0 hB sz post) (hB1 : ∀ j : Nat, (j : Int) < i 4 → 1 ≤ a0 8 j) (P : ∀ (h : b_H) (a : Nat → Nat → Int), r_O K4 4 o ad i a h → q_I i a → (∀ b, ¬ r_own K4 o ad b → h b = hB b) → (∀ k, k ≠ 12 → k ≠ 13 → a k = a0 k) → q_D i (a0 8) (a0 9) (a 12) (a 13) 401 0 → post none h sz) : ∀ (d : Nat) (h : b_H) (a : Nat → Nat → Int) (b : Int) (x2 : Option Value), ((401 - b).toNat = d) → (1 ≤ b) → (b ≤ 401) → (r_O K4 4 o ad i a h) → (q_I i a) → (∀ b, ¬ r_own K4 o ad b → h b = hB b) → (∀ k, k ≠ 12 → k ≠ 13 → a k = a0 k) → (q_D i (a0 8) (a0 9) (a 12) (a 13) b 0) → V S 0 0 h sz 2 [some (.ref o), some (.int (zI b)), x2] [] := by
  have hc := M.2.2.2.1
  have ho : s_own S = RX4 := M.2.2.1
  have hFr : (s_R S).frames = 4 := by rw [M.2.2.2.2.2.2.2.1]
  have hLo : (s_R S).locals = 94 := by rw [M.2.2.2.2.2.2.2.1]
  have hCe : (s_R S).cells = 0 := by rw [M.2.2.2.2.2.2.2.1]
  have hSl : (s_R S).slots = 0 := by rw [M.2.2.2.2.2.2.2.1]
  intro d
  induction d using Nat.strongRecOn with
  | ind d ih =>
    intro h a b x2 hd h0 h1 hO hI hfr hE hD
    have hi := hO.2.2.2.1
    have ha := hO.2.2.2.2
    obtain ⟨hIb, hIe, hIx, hIsf, hImd, hIbt, hInx, hIfw, hIln⟩ := id hI
    have e8 := hE 8 (by decide) (by decide)
    have e9 := hE 9 (by decide) (by decide)
    refine v_iload_n hc dX4_findWays_2 rfl ?_
    refine z_sipush hc dX4_findWays_3 (by decide) ?_
    refine z_icmp_gt (tgt := 63) hc dX4_findWays_6 (by decide) (by first | assumption | exact hi _ | exact ha _ _ | (unfold zb; omega)) (by first | assumption | exact hi _ | exact ha _ _ | (unfold zb; omega)) (fun c_1 => ?_) (fun c_1 => ?_)
    · refine v_vret M dX4_findWays_63 (by omega) (by omega) ?_
      exact P h a hO hI hfr hE (by rw [show b = 401 by omega] at hD; exact hD)
    · refine z_iconst hc dX4_findWays_9 ?_
      refine v_istore_n hc dX4_findWays_10 (Nat.le_of_ble_eq_true rfl) ?_
      refine l_X4_findWays_11 M hB1 (b := b) (by omega) (fun h a hO hI hfr hE hD => ?_) _ h a _ rfl (by omega) (by omega) hO hI hfr hE ⟨fun b' x' g1 g2 g3 g4 g5 => hD.1 b' x' g1 g2 (by omega) g4 g5, hD.2⟩
      have hi := hO.2.2.2.1
      have ha := hO.2.2.2.2
      obtain ⟨hIb, hIe, hIx, hIsf, hImd, hIbt, hInx, hIfw, hIln⟩ := id hI
      refine v_aload_n hc dX4_findWays_42 rfl ?_
      refine r_getA hc ho dX4_findWays_43 F_X4_21 hO rfl ?_
      refine v_iload_n hc dX4_findWays_46 rfl ?_
      refine v_aload_n hc dX4_findWays_47 rfl ?_
      refine v_aload_n hc dX4_findWays_48 rfl ?_
      refine r_get hc ho dX4_findWays_49 F_X4_59 hO rfl ?_
      refine v_iload_n hc dX4_findWays_52 rfl ?_
      refine v_callV (As := [.int (zI (i 10)), .int (zI b)]) hc ho dX4_findWays_53 KV_X4_88 KB_X4_fewestAmong hO.1 rfl rfl (c_X4_fewestAmong _ _ hO hI (s := i 10) (b := b) (by omega) (by omega)) rfl (Nat.le_of_ble_eq_true rfl) ⟨by omega, by omega⟩ ⟨by omega, by omega⟩ (fun r_ h_ sz_ q_ z_ => ?_)
      obtain ⟨rfl, rfl, rfl⟩ := q_
      have hvb := q_lm_bd (f := fun j => a 12 (b.toNat * 8 + j)) (fun j => hIfw _) (i 10) (i 4).toNat
      refine r_iast hc dX4_findWays_56 hO hfr 13 rfl (by decide) (by omega) (by omega) (by first | assumption | exact hi _ | exact ha _ _ | (unfold zb; omega)) (fun h hO hfr => ?_)
      have ha := hO.2.2.2.2
      refine z_iinc hc dX4_findWays_57 rfl ?_
      refine v_goto (tgt := 2) hc dX4_findWays_60 (by decide) ?_
      have hu : ∀ k, k ≠ 13 → r_up a 13 b.toNat (q_lm (fun j => a 12 (b.toNat * 8 + j)) (i 10) (i 4).toNat) k = a k := fun k hk => b_up_ne _ _ hk
      have hu2 : r_up a 13 b.toNat (q_lm (fun j => a 12 (b.toNat * 8 + j)) (i 10) (i 4).toNat) 13 = b_up (a 13) b.toNat (q_lm (fun j => a 12 (b.toNat * 8 + j)) (i 10) (i 4).toNat) := b_up_eq _ _ _
      refine ih _ (by omega) h _ _ _ rfl (by omega) (by omega) hO ?_ hfr (fun k h1 h2 => (hu k h2).trans (hE k h1 h2)) ?_
      · refine ⟨hIb, hIe, hIx, hIsf, hImd, by rw [hu 8 (by decide)]; exact hIbt, by rw [hu 9 (by decide)]; exact hInx, by rw [hu 12 (by decide)]; exact hIfw, fun j => ?_⟩
        rw [hu2]
        by_cases q : j = b.toNat
        · rw [q, b_up_eq]; exact hvb
        · rw [b_up_ne _ _ q]; exact hIln j
      · rw [hu2, hu 12 (by decide)]
        refine ⟨fun b' x' g1 g2 g3 g4 g5 => hD.1 b' x' g1 g2 (by omega) g4 g5, fun b' g1 g2 => ?_⟩
        by_cases q : b' = b
        · subst q; rw [b_up_eq]
        · rw [b_up_ne _ _ (by omega)]; exact hD.2 b' g1 (by omega)
set_option maxHeartbeats 4000000 in
theorem c_X4_findWays (l : Launch) (G : b_G) {o : Nat} {ad : Nat → Nat} {i : Nat → Int} {a : Nat → Nat → Int} {h : b_H} {sz : Nat} (hO : r_O K4 4 o ad i a h) (hI : q_I i a) (hB1 : ∀ j : Nat, (j : Int) < i 4 → 1 ≤ a 8 j) : Con l G yX4_findWays cX4_findWays 3 none 4 94 0 0 [.ref o] h sz (p_wr K4 4 o ad h sz (fun r i2 a2 => r = none ∧ i2 = i ∧ q_I i2 a2 ∧ (∀ k, k ≠ 12 → k ≠ 13 → a2 k = a k) ∧ q_D i (a 8) (a 9) (a2 12) (a2 13) 401 0)) := by
  refine Con.ofK (by decide +kernel) rfl rfl ?_
  intro S M
  have hc := M.2.2.2.1
  have ho : s_own S = RX4 := M.2.2.1
  have hFr : (s_R S).frames = 4 := by rw [M.2.2.2.2.2.2.2.1]
  have hLo : (s_R S).locals = 94 := by rw [M.2.2.2.2.2.2.2.1]
  have hCe : (s_R S).cells = 0 := by rw [M.2.2.2.2.2.2.2.1]
  have hSl : (s_R S).slots = 0 := by rw [M.2.2.2.2.2.2.2.1]
  have hi := hO.2.2.2.1
  have ha := hO.2.2.2.2
  obtain ⟨hIb, hIe, hIx, hIsf, hImd, hIbt, hInx, hIfw, hIln⟩ := id hI
  have hfr : ∀ b, ¬ r_own K4 o ad b → h b = h b := fun _ _ => rfl
  refine z_iconst hc dX4_findWays_0 ?_
  refine v_istore_n hc dX4_findWays_1 (Nat.le_of_ble_eq_true rfl) ?_
  exact l_X4_findWays_2 M hB1 (fun h a hO hI hfr hE hD => ⟨rfl, i, a, ⟨rfl, rfl, hI, hE, hD⟩, hO, hfr⟩) _ h a _ _ rfl (by omega) (by omega) hO hI hfr (fun _ _ _ => rfl) ⟨fun b1 x1 g1 g2 g3 g4 g5 => by omega, fun b1 g1 g2 => by omega⟩
