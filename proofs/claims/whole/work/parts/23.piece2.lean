/-! a piece: its ways -/
theorem q_lm_cong {f g : Nat → Int} {s : Int} : ∀ {n : Nat}, (∀ j, j < n → f j = g j) → q_lm f s n = q_lm g s n
  | 0, _ => rfl
  | n + 1, h => by
    rw [q_lm, q_lm, q_lm_cong (fun j hj => h j (by omega)), h n (by omega)]
theorem q_lx_cong {f g : Nat → Int} {s : Int} : ∀ {n : Nat}, (∀ j, j < n → f j = g j) → q_lx f s n = q_lx g s n
  | 0, _ => rfl
  | n + 1, h => by
    rw [q_lx, q_lx, q_lx_cong (fun j hj => h j (by omega)), q_lm_cong (fun j hj => h j (by omega)), h n (by omega)]
theorem q_ff_cong {nb : Nat} {B N : Nat → Int} {X : Int} {F F' : Nat → Int} {x : Nat} {b : Int} (hn : nb ≤ 8) (hB : 1 ≤ B x) (h : ∀ j : Nat, (j : Int) < b * 8 → F j = F' j) : q_ff nb B N X F x b = q_ff nb B N X F' x b := by
  unfold q_ff
  split
  · rfl
  · split
    · rfl
    · rw [q_lm_cong (fun j hj => h _ (by omega))]
theorem q_ff_bd {nb : Nat} {B N : Nat → Int} {X : Int} {F : Nat → Int} (hF : ∀ j, 0 ≤ F j ∧ F j ≤ 17) (x : Nat) (b : Int) : 0 ≤ q_ff nb B N X F x b ∧ q_ff nb B N X F x b ≤ 17 := by
  unfold q_ff
  have h := q_lm_bd (f := fun j => F ((b - B x).toNat * 8 + j)) (fun j => hF _) (N x) nb
  split
  · omega
  · split
    · split <;> omega
    · omega
/-- the tables of the ways, up to b beats and block x -/
def q_D (i : Nat → Int) (B N F L : Nat → Int) (b x : Int) : Prop := (∀ b' x' : Int, 1 ≤ b' → b' ≤ 400 → (b' < b ∨ (b' = b ∧ x' < x)) → 0 ≤ x' → x' < i 4 → F (b' * 8 + x').toNat = q_ff (i 4).toNat B N (i 11) F x'.toNat b') ∧ (∀ b' : Int, 1 ≤ b' → b' < b → L b'.toNat = q_lm (fun j => F (b'.toNat * 8 + j)) (i 10) (i 4).toNat)
theorem q_D_put {i : Nat → Int} {B N F L : Nat → Int} {b x : Int} (hn : 0 ≤ i 4 ∧ i 4 ≤ 8) (hB : ∀ j : Nat, (j : Int) < i 4 → 1 ≤ B j) (hb : 1 ≤ b) (hx : 0 ≤ x) (hx2 : x < i 4) (h : q_D i B N F L b x) : q_D i B N (b_up F (b * 8 + x).toNat (q_ff (i 4).toNat B N (i 11) F x.toNat b)) L b (x + 1) := by
  refine ⟨fun b' x' h1 h2 h3 h4 h5 => ?_, fun b' h1 h2 => ?_⟩
  · have hc : q_ff (i 4).toNat B N (i 11) (b_up F (b * 8 + x).toNat (q_ff (i 4).toNat B N (i 11) F x.toNat b)) x'.toNat b' = q_ff (i 4).toNat B N (i 11) F x'.toNat b' := by
      refine q_ff_cong (by omega) (hB _ (by omega)) (fun j hj => b_up_ne _ _ ?_)
      omega
    rw [hc]
    by_cases e : b' = b ∧ x' = x
    · obtain ⟨rfl, rfl⟩ := e
      rw [b_up_eq]
    · rw [b_up_ne _ _ (by omega)]
      exact h.1 b' x' h1 h2 (by omega) h4 h5
  · rw [h.2 b' h1 h2]
    exact q_lm_cong (fun j hj => (b_up_ne _ _ (by omega)).symm)

set_option maxHeartbeats 4000000 in
theorem l_X4_findWays_11 {S : b_S} {l : Launch} {G : b_G} {o : Nat} {ad : Nat → Nat} {i : Nat → Int} {a0 : Nat → Nat → Int} {hB : b_H} {sz : Nat} {post : Option Value → b_H → Nat → Prop} (M : b_M S l G RX4 cX4_findWays 3 none "findWays" 4 94 0 0 hB sz post) (hB1 : ∀ j : Nat, (j : Int) < i 4 → 1 ≤ a0 8 j) {b : Int} (hb : 1 ≤ b ∧ b ≤ 400) (P42 : ∀ (h : b_H) (a : Nat → Nat → Int), r_O K4 4 o ad i a h → q_I i a → (∀ b, ¬ r_own K4 o ad b → h b = hB b) → (∀ k, k ≠ 12 → k ≠ 13 → a k = a0 k) → q_D i (a0 8) (a0 9) (a 12) (a 13) b (i 4) → V S 0 0 h sz 42 [some (.ref o), some (.int (zI b)), some (.int (zI (i 4)))] []) : ∀ (d : Nat) (h : b_H) (a : Nat → Nat → Int) (x : Int), ((i 4 - x).toNat = d) → (0 ≤ x) → (x ≤ i 4) → (r_O K4 4 o ad i a h) → (q_I i a) → (∀ b, ¬ r_own K4 o ad b → h b = hB b) → (∀ k, k ≠ 12 → k ≠ 13 → a k = a0 k) → (q_D i (a0 8) (a0 9) (a 12) (a 13) b x) → V S 0 0 h sz 11 [some (.ref o), some (.int (zI b)), some (.int (zI x))] [] := by
  have hc := M.2.2.2.1
  have ho : s_own S = RX4 := M.2.2.1
  have hFr : (s_R S).frames = 4 := by rw [M.2.2.2.2.2.2.2.1]
  have hLo : (s_R S).locals = 94 := by rw [M.2.2.2.2.2.2.2.1]
  have hCe : (s_R S).cells = 0 := by rw [M.2.2.2.2.2.2.2.1]
  have hSl : (s_R S).slots = 0 := by rw [M.2.2.2.2.2.2.2.1]
  intro d
  induction d using Nat.strongRecOn with
  | ind d ih =>
    intro h a x hd h0 h1 hO hI hfr hE hD
    have hi := hO.2.2.2.1
    have ha := hO.2.2.2.2
    obtain ⟨hIb, hIe, hIx, hIsf, hImd, hIbt, hInx, hIfw, hIln⟩ := id hI
    have e8 := hE 8 (by decide) (by decide)
    have e9 := hE 9 (by decide) (by decide)
    refine v_iload_n hc dX4_findWays_11 rfl ?_
    refine v_aload_n hc dX4_findWays_12 rfl ?_
    refine r_get hc ho dX4_findWays_13 F_X4_56 hO rfl ?_
    refine z_icmp_ge (tgt := 42) hc dX4_findWays_16 (by decide) (by first | assumption | exact hi _ | exact ha _ _ | (unfold zb; omega)) (by first | assumption | exact hi _ | exact ha _ _ | (unfold zb; omega)) (fun c_1 => ?_) (fun c_1 => ?_)
    · rw [show x = i 4 by omega] at hD ⊢
      exact P42 h a hO hI hfr hE hD
    · refine v_aload_n hc dX4_findWays_19 rfl ?_
      refine r_getA hc ho dX4_findWays_20 F_X4_18 hO rfl ?_
      refine v_iload_n hc dX4_findWays_23 rfl ?_
      refine z_bipush hc dX4_findWays_24 (by decide) ?_
      refine z_imul hc dX4_findWays_26 ?_
      refine v_iload_n hc dX4_findWays_27 rfl ?_
      refine z_iadd hc dX4_findWays_28 ?_
      refine v_aload_n hc dX4_findWays_29 rfl ?_
      refine v_iload_n hc dX4_findWays_30 rfl ?_
      refine v_iload_n hc dX4_findWays_31 rfl ?_
      refine v_callV (As := [.int (zI x), .int (zI b)]) hc ho dX4_findWays_32 KV_X4_85 KB_X4_fewestFrom hO.1 rfl rfl (c_X4_fewestFrom _ _ hO hI (x := x) (b := b) (by omega) (by omega)) rfl (Nat.le_of_ble_eq_true rfl) ⟨by omega, by omega⟩ ⟨by omega, by omega⟩ (fun r_ h_ sz_ q_ z_ => ?_)
      obtain ⟨rfl, rfl, rfl⟩ := q_
      have hvb := q_ff_bd (nb := (i 4).toNat) (B := a 8) (N := a 9) (X := i 11) (F := a 12) hIfw x.toNat b
      refine r_iast hc dX4_findWays_35 hO hfr 12 rfl (by decide) (by omega) (by omega) (by first | assumption | exact hi _ | exact ha _ _ | (unfold zb; omega)) (fun h hO hfr => ?_)
      have ha := hO.2.2.2.2
      refine z_iinc hc dX4_findWays_36 rfl ?_
      refine v_goto (tgt := 11) hc dX4_findWays_39 (by decide) ?_
      have hu : ∀ k, k ≠ 12 → r_up a 12 (b * 8 + x).toNat (q_ff (i 4).toNat (a 8) (a 9) (i 11) (a 12) x.toNat b) k = a k := fun k hk => b_up_ne _ _ hk
      have hu2 : r_up a 12 (b * 8 + x).toNat (q_ff (i 4).toNat (a 8) (a 9) (i 11) (a 12) x.toNat b) 12 = b_up (a 12) (b * 8 + x).toNat (q_ff (i 4).toNat (a 8) (a 9) (i 11) (a 12) x.toNat b) := b_up_eq _ _ _
      refine ih _ (by omega) h _ _ rfl (by omega) (by omega) hO ?_ hfr (fun k h1 h2 => (hu k h1).trans (hE k h1 h2)) ?_
      · refine ⟨hIb, hIe, hIx, hIsf, hImd, by rw [hu 8 (by decide)]; exact hIbt, by rw [hu 9 (by decide)]; exact hInx, fun j => ?_, by rw [hu 13 (by decide)]; exact hIln⟩
        rw [hu2]
        by_cases q : j = (b * 8 + x).toNat
        · rw [q, b_up_eq]; exact hvb
        · rw [b_up_ne _ _ q]; exact hIfw j
      · rw [hu2, hu 13 (by decide), e8, e9]
        exact q_D_put hIb hB1 (by omega) (by omega) (by omega) hD
set_option maxHeartbeats 4000000 in
theorem l_X4_findWays_2 {S : b_S} {l : Launch} {G : b_G} {o : Nat} {ad : Nat → Nat} {i : Nat → Int} {a0 : Nat → Nat → Int} {hB : b_H} {sz : Nat} {post : Option Value → b_H → Nat → Prop} (M : b_M S l G RX4 cX4_findWays 3 none "findWays" 4 94 0 0 hB sz post) (hB1 : ∀ j : Nat, (j : Int) < i 4 → 1 ≤ a0 8 j) (P : ∀ (h : b_H) (a : Nat → Nat → Int), r_O K4 4 o ad i a h → q_I i a → (∀ b, ¬ r_own K4 o ad b → h b = hB b) → (∀ k, k ≠ 12 → k ≠ 13 → a k = a0 k) → q_D i (a0 8) (a0 9) (a 12) (a 13) 401 0 → post none h sz) : ∀ (d : Nat) (h : b_H) (a : Nat → Nat → Int) (b : Int) (x2 : Option Value), ((401 - b).toNat = d) → (1 ≤ b) → (b ≤ 401) → (r_O K4 4 o ad i a h) → (q_I i a) → (∀ b, ¬ r_own K4 o ad b → h b = hB b) → (∀ k, k ≠ 12 → k ≠ 13 → a k = a0 k) → (q_D i (a0 8) (a0 9) (a 12) (a 13) b 0) → V S 0 0 h sz 2 [some (.ref o), some (.int (zI b)), x2] [] := by
  have hc := M.2.2.2.1
  have ho : s_own S = RX4 := M.2.2.1
  have hFr : (s_R S).frames = 4 := by rw [M.2.2.2.2.2.2.2.1]
  have hLo : (s_R S).locals = 94 := by rw [M.2.2.2.2.2.2.2.1]
  have hCe : (s_R S).cells = 0 := by rw [M.2.2.2.2.2.2.2.1]
  have hSl : (s_R S).slots = 0 := by rw [M.2.2.2.2.2.2.2.1]
  intro d
  induction d using Nat.strongRecOn with
  | ind d ih =>
    intro h a b x2 hd h0 h1 hO hI hfr hE hD
    have hi := hO.2.2.2.1
    have ha := hO.2.2.2.2
    obtain ⟨hIb, hIe, hIx, hIsf, hImd, hIbt, hInx, hIfw, hIln⟩ := id hI
    have e8 := hE 8 (by decide) (by decide)
    have e9 := hE 9 (by decide) (by decide)
    refine v_iload_n hc dX4_findWays_2 rfl ?_
    refine z_sipush hc dX4_findWays_3 (by decide) ?_
    refine z_icmp_gt (tgt := 63) hc dX4_findWays_6 (by decide) (by first | assumption | exact hi _ | exact ha _ _ | (unfold zb; omega)) (by first | assumption | exact hi _ | exact ha _ _ | (unfold zb; omega)) (fun c_1 => ?_) (fun c_1 => ?_)
    · refine v_vret M dX4_findWays_63 (by omega) (by omega) ?_
      exact P h a hO hI hfr hE (by rw [show b = 401 by omega] at hD; exact hD)
    · refine z_iconst hc dX4_findWays_9 ?_
      refine v_istore_n hc dX4_findWays_10 (Nat.le_of_ble_eq_true rfl) ?_
      refine l_X4_findWays_11 M hB1 (b := b) (by omega) (fun h a hO hI hfr hE hD => ?_) _ h a _ rfl (by omega) (by omega) hO hI hfr hE ⟨fun b' x' g1 g2 g3 g4 g5 => hD.1 b' x' g1 g2 (by omega) g4 g5, hD.2⟩
      have hi := hO.2.2.2.1
      have ha := hO.2.2.2.2
      obtain ⟨hIb, hIe, hIx, hIsf, hImd, hIbt, hInx, hIfw, hIln⟩ := id hI
      refine v_aload_n hc dX4_findWays_42 rfl ?_
      refine r_getA hc ho dX4_findWays_43 F_X4_21 hO rfl ?_
      refine v_iload_n hc dX4_findWays_46 rfl ?_
      refine v_aload_n hc dX4_findWays_47 rfl ?_
      refine v_aload_n hc dX4_findWays_48 rfl ?_
      refine r_get hc ho dX4_findWays_49 F_X4_59 hO rfl ?_
      refine v_iload_n hc dX4_findWays_52 rfl ?_
      refine v_callV (As := [.int (zI (i 10)), .int (zI b)]) hc ho dX4_findWays_53 KV_X4_88 KB_X4_fewestAmong hO.1 rfl rfl (c_X4_fewestAmong _ _ hO hI (s := i 10) (b := b) (by omega) (by omega)) rfl (Nat.le_of_ble_eq_true rfl) ⟨by omega, by omega⟩ ⟨by omega, by omega⟩ (fun r_ h_ sz_ q_ z_ => ?_)
      obtain ⟨rfl, rfl, rfl⟩ := q_
      have hvb := q_lm_bd (f := fun j => a 12 (b.toNat * 8 + j)) (fun j => hIfw _) (i 10) (i 4).toNat
      refine r_iast hc dX4_findWays_56 hO hfr 13 rfl (by decide) (by omega) (by omega) (by first | assumption | exact hi _ | exact ha _ _ | (unfold zb; omega)) (fun h hO hfr => ?_)
      have ha := hO.2.2.2.2
      refine z_iinc hc dX4_findWays_57 rfl ?_
      refine v_goto (tgt := 2) hc dX4_findWays_60 (by decide) ?_
      have hu : ∀ k, k ≠ 13 → r_up a 13 b.toNat (q_lm (fun j => a 12 (b.toNat * 8 + j)) (i 10) (i 4).toNat) k = a k := fun k hk => b_up_ne _ _ hk
      have hu2 : r_up a 13 b.toNat (q_lm (fun j => a 12 (b.toNat * 8 + j)) (i 10) (i 4).toNat) 13 = b_up (a 13) b.toNat (q_lm (fun j => a 12 (b.toNat * 8 + j)) (i 10) (i 4).toNat) := b_up_eq _ _ _
      refine ih _ (by omega) h _ _ _ rfl (by omega) (by omega) hO ?_ hfr (fun k h1 h2 => (hu k h2).trans (hE k h1 h2)) ?_
      · refine ⟨hIb, hIe, hIx, hIsf, hImd, by rw [hu 8 (by decide)]; exact hIbt, by rw [hu 9 (by decide)]; exact hInx, by rw [hu 12 (by decide)]; exact hIfw, fun j => ?_⟩
        rw [hu2]
        by_cases q : j = b.toNat
        · rw [q, b_up_eq]; exact hvb
        · rw [b_up_ne _ _ q]; exact hIln j
      · rw [hu2, hu 12 (by decide)]
        refine ⟨fun b' x' g1 g2 g3 g4 g5 => hD.1 b' x' g1 g2 (by omega) g4 g5, fun b' g1 g2 => ?_⟩
        by_cases q : b' = b
        · subst q; rw [b_up_eq]
        · rw [b_up_ne _ _ (by omega)]; exact hD.2 b' g1 (by omega)
set_option maxHeartbeats 4000000 in
theorem c_X4_findWays (l : Launch) (G : b_G) {o : Nat} {ad : Nat → Nat} {i : Nat → Int} {a : Nat → Nat → Int} {h : b_H} {sz : Nat} (hO : r_O K4 4 o ad i a h) (hI : q_I i a) (hB1 : ∀ j : Nat, (j : Int) < i 4 → 1 ≤ a 8 j) : Con l G yX4_findWays cX4_findWays 3 none 4 94 0 0 [.ref o] h sz (p_wr K4 4 o ad h sz (fun r i2 a2 => r = none ∧ i2 = i ∧ q_I i2 a2 ∧ (∀ k, k ≠ 12 → k ≠ 13 → a2 k = a k) ∧ q_D i (a 8) (a 9) (a2 12) (a2 13) 401 0)) := by
  refine Con.ofK (by decide +kernel) rfl rfl ?_
  intro S M
  have hc := M.2.2.2.1
  have ho : s_own S = RX4 := M.2.2.1
  have hFr : (s_R S).frames = 4 := by rw [M.2.2.2.2.2.2.2.1]
  have hLo : (s_R S).locals = 94 := by rw [M.2.2.2.2.2.2.2.1]
  have hCe : (s_R S).cells = 0 := by rw [M.2.2.2.2.2.2.2.1]
  have hSl : (s_R S).slots = 0 := by rw [M.2.2.2.2.2.2.2.1]
  have hi := hO.2.2.2.1
  have ha := hO.2.2.2.2
  obtain ⟨hIb, hIe, hIx, hIsf, hImd, hIbt, hInx, hIfw, hIln⟩ := id hI
  have hfr : ∀ b, ¬ r_own K4 o ad b → h b = h b := fun _ _ => rfl
  refine z_iconst hc dX4_findWays_0 ?_
  refine v_istore_n hc dX4_findWays_1 (Nat.le_of_ble_eq_true rfl) ?_
  exact l_X4_findWays_2 M hB1 (fun h a hO hI hfr hE hD => ⟨rfl, i, a, ⟨rfl, rfl, hI, hE, hD⟩, hO, hfr⟩) _ h a _ _ rfl (by omega) (by omega) hO hI hfr (fun _ _ _ => rfl) ⟨fun b1 x1 g1 g2 g3 g4 g5 => by omega, fun b1 g1 g2 => by omega⟩
theorem zI_or2 {e : Int} {n : Int} (he : 0 ≤ e) (hn : 0 ≤ n) (hn2 : n < 8) (h : e < 2 ^ n.toNat) : zI e ||| zI (1 * 2 ^ n.toNat) = zI (e + 2 ^ n.toNat) := by
  obtain ⟨m, rfl⟩ : ∃ m : Nat, n = m := ⟨n.toNat, by omega⟩
  obtain ⟨x, rfl⟩ : ∃ x : Nat, e = x := ⟨e.toNat, by omega⟩
  have key : ∀ m : Fin 8, ∀ x : Fin 256, x.val < 2 ^ m.val → Int32.ofInt ((x.val : Nat) : Int) ||| Int32.ofInt (1 * 2 ^ m.val) = Int32.ofInt (((x.val : Nat) : Int) + 2 ^ m.val) := by decide +kernel
  rw [Int.toNat_natCast] at h ⊢
  have hx : x < 2 ^ m := by exact_mod_cast h
  have hp : 2 ^ m ≤ 2 ^ 7 := Nat.pow_le_pow_right (by omega) (by omega)
  exact key ⟨m, by omega⟩ ⟨x, by omega⟩ hx
theorem q_pw {n : Int} (h0 : 0 ≤ n) (h1 : n < 8) : (1 : Int) ≤ 2 ^ n.toNat ∧ (2 : Int) ^ n.toNat ≤ 128 ∧ (2 : Int) ^ (n + 1).toNat = 2 * 2 ^ n.toNat := by
  obtain ⟨m, rfl⟩ : ∃ m : Nat, n = m := ⟨n.toNat, by omega⟩
  have key : ∀ m : Fin 8, (1 : Int) ≤ 2 ^ m.val ∧ (2 : Int) ^ m.val ≤ 128 ∧ (2 : Int) ^ (m.val + 1) = 2 * 2 ^ m.val := by decide +kernel
  have := key ⟨m, by omega⟩
  rw [show ((m : Int) + 1).toNat = m + 1 by omega, Int.toNat_natCast]
  exact this
/-- what a piece keeps: bounds, every block has beats, the sets are of its blocks, the tables are right -/
def q_J (i : Nat → Int) (a : Nat → Nat → Int) : Prop := q_I i a ∧ (∀ j : Nat, (j : Int) < i 4 → 1 ≤ a 8 j) ∧ i 10 < 2 ^ (i 4).toNat ∧ i 11 < 2 ^ (i 4).toNat ∧ q_D i (a 8) (a 9) (a 12) (a 13) 401 0

theorem q_o2 {e n v : Int} (q : n = v) (he : 0 ≤ e) (hn : 0 ≤ v) (hn2 : v < 8) (h : e < 2 ^ v.toNat) : zI e ||| zI (1 * 2 ^ n.toNat) = zI (e + 2 ^ v.toNat) := by
  rw [q]; exact zI_or2 he hn hn2 h
theorem q_s2 {x n v : Int} (q : n = v) (hx : 0 ≤ x) (h0 : 0 ≤ v) (h1 : v < 32) (h2 : x * 2 ^ v.toNat < 4294967296) : zI x <<< (zI n &&& 31) = zI (x * 2 ^ n.toNat) := by
  rw [q]; exact zI_shl hx h0 h1 h2

set_option maxHeartbeats 4000000 in
theorem c_X4_add (l : Launch) (G : b_G) {o : Nat} {ad : Nat → Nat} {i : Nat → Int} {a : Nat → Nat → Int} {h : b_H} {sz : Nat} (hO : r_O K4 4 o ad i a h) (hJ : q_J i a) {x c u : Int} (hx : 1 ≤ x ∧ x ≤ 64) (hcc : 0 ≤ c ∧ c ≤ 3) (hu : 0 ≤ u ∧ u ≤ 255) : Con l G yX4_add cX4_add 4 (some .int) 5 116 0 0 [.ref o, .int (zI x), .int (zI c), .int (zI u)] h sz (p_wr K4 4 o ad h sz (fun r i2 a2 => (i 4 = 8 ∧ r = some (.int (zI (-3))) ∧ i2 = i ∧ a2 = a) ∨ (i 4 < 8 ∧ r = some (.int (zI (i 4))) ∧ i2 4 = i 4 + 1 ∧ i2 10 = i 10 + c / 2 * 2 ^ (i 4).toNat ∧ i2 11 = i 11 + c % 2 * 2 ^ (i 4).toNat ∧ (∀ k, k ≠ 4 → k ≠ 10 → k ≠ 11 → i2 k = i k) ∧ a2 8 = b_up (a 8) (i 4).toNat x ∧ a2 9 = b_up (a 9) (i 4).toNat u ∧ (∀ j : Nat, (j : Int) < i 4 + 1 → 1 ≤ a2 8 j) ∧ q_I i2 a2 ∧ q_D i2 (b_up (a 8) (i 4).toNat x) (b_up (a 9) (i 4).toNat u) (a2 12) (a2 13) 401 0))) := by
  refine Con.ofK (by decide +kernel) rfl rfl ?_
  intro S M
  have hc := M.2.2.2.1
  have ho : s_own S = RX4 := M.2.2.1
  have hFr : (s_R S).frames = 5 := by rw [M.2.2.2.2.2.2.2.1]
  have hLo : (s_R S).locals = 116 := by rw [M.2.2.2.2.2.2.2.1]
  have hCe : (s_R S).cells = 0 := by rw [M.2.2.2.2.2.2.2.1]
  have hSl : (s_R S).slots = 0 := by rw [M.2.2.2.2.2.2.2.1]
  have hi := hO.2.2.2.1
  have ha := hO.2.2.2.2
  obtain ⟨hI, hB1, hE2, hX2, hDD⟩ := id hJ
  obtain ⟨hIb, hIe, hIx, hIsf, hImd, hIbt, hInx, hIfw, hIln⟩ := id hI
  have hfr : ∀ b, ¬ r_own K4 o ad b → h b = h b := fun _ _ => rfl
  refine v_aload_n hc dX4_add_0 rfl ?_
  refine r_get hc ho dX4_add_1 F_X4_56 hO rfl ?_
  refine z_bipush hc dX4_add_4 (by decide) ?_
  refine z_icmp_lt (tgt := 12) hc dX4_add_6 (by decide) (by first | assumption | exact hi _ | exact ha _ _ | (unfold zb; omega)) (by first | assumption | exact hi _ | exact ha _ _ | (unfold zb; omega)) (fun c_1 => ?_) (fun c_1 => ?_)
  · have hpw := q_pw (n := i 4) (by omega) (by omega)
    refine v_aload_n hc dX4_add_12 rfl ?_
    refine r_getA hc ho dX4_add_13 F_X4_9 hO rfl ?_
    refine v_aload_n hc dX4_add_16 rfl ?_
    refine r_get hc ho dX4_add_17 F_X4_56 hO rfl ?_
    refine v_iload_n hc dX4_add_20 rfl ?_
    refine r_iast hc dX4_add_21 hO hfr 8 rfl (by decide) (by omega) (by omega) (by first | assumption | exact hi _ | exact ha _ _ | (unfold zb; omega)) (fun h hO hfr => ?_)
    have ha := hO.2.2.2.2
    refine v_aload_n hc dX4_add_22 rfl ?_
    refine r_getA hc ho dX4_add_23 F_X4_15 hO rfl ?_
    refine v_aload_n hc dX4_add_26 rfl ?_
    refine r_get hc ho dX4_add_27 F_X4_56 hO rfl ?_
    refine v_iload_n hc dX4_add_30 rfl ?_
    refine r_iast hc dX4_add_31 hO hfr 9 rfl (by decide) (by omega) (by omega) (by first | assumption | exact hi _ | exact ha _ _ | (unfold zb; omega)) (fun h hO hfr => ?_)
    have ha := hO.2.2.2.2
    refine v_iload_n hc dX4_add_32 rfl ?_
    refine z_iconst hc dX4_add_33 ?_
    refine v_iand hc dX4_add_34 (zI_and2 (by omega) (by omega)) ?_
    refine z_if_eq (tgt := 53) hc dX4_add_35 (by decide) (by first | assumption | exact hi _ | exact ha _ _ | (unfold zb; omega)) (fun c_2 => ?_) (fun c_2 => ?_)
    · refine v_iload_n hc dX4_add_53 rfl ?_
      refine z_iconst hc dX4_add_54 ?_
      refine v_iand hc dX4_add_55 (zI_and1 (by omega) (by omega)) ?_
      refine z_if_eq (tgt := 74) hc dX4_add_56 (by decide) (by first | assumption | exact hi _ | exact ha _ _ | (unfold zb; omega)) (fun c_3 => ?_) (fun c_3 => ?_)
      · refine v_aload_n hc dX4_add_74 rfl ?_
        refine v_dup hc dX4_add_75 rfl ?_
        refine r_get hc ho dX4_add_76 F_X4_56 hO rfl ?_
        refine z_iconst hc dX4_add_79 ?_
        refine z_iadd hc dX4_add_80 ?_
        refine r_putIf hc ho dX4_add_81 F_X4_56 hO hfr rfl (by first | assumption | exact hi _ | exact ha _ _ | (unfold zb; omega)) (fun h i_4 g_4 k_4 hO hfr => ?_)
        have hi := hO.2.2.2.1
        have e_4_1 := k_4 1 (by decide)
        have e_4_6 := k_4 6 (by decide)
        have e_4_7 := k_4 7 (by decide)
        have e_4_10 := k_4 10 (by decide)
        have e_4_11 := k_4 11 (by decide)
        have hU8 : (r_up (r_up a 8 (i 4).toNat x) 9 (i 4).toNat u) 8 = b_up (a 8) (i 4).toNat x := by simp [r_up, b_up]
        have hU9 : (r_up (r_up a 8 (i 4).toNat x) 9 (i 4).toNat u) 9 = b_up (a 9) (i 4).toNat u := by simp [r_up, b_up]
        have hUk : ∀ k, k ≠ 8 → k ≠ 9 → (r_up (r_up a 8 (i 4).toNat x) 9 (i 4).toNat u) k = a k := fun k h1 h2 => by simp [r_up, b_up, h1, h2]
        have hBn : ∀ j : Nat, (j : Int) < i 4 + 1 → 1 ≤ (r_up (r_up a 8 (i 4).toNat x) 9 (i 4).toNat u) 8 j := fun j hj => by
          rw [hU8]; by_cases q : j = (i 4).toNat
          · rw [q, b_up_eq]; omega
          · rw [b_up_ne _ _ q]; exact hB1 j (by omega)
        have hb8 : ∀ j, 0 ≤ (r_up (r_up a 8 (i 4).toNat x) 9 (i 4).toNat u) 8 j ∧ (r_up (r_up a 8 (i 4).toNat x) 9 (i 4).toNat u) 8 j ≤ 64 := fun j => by
          rw [hU8]; by_cases q : j = (i 4).toNat
          · rw [q, b_up_eq]; omega
          · rw [b_up_ne _ _ q]; exact hIbt j
        have hb9 : ∀ j, 0 ≤ (r_up (r_up a 8 (i 4).toNat x) 9 (i 4).toNat u) 9 j ∧ (r_up (r_up a 8 (i 4).toNat x) 9 (i 4).toNat u) 9 j ≤ 255 := fun j => by
          rw [hU9]; by_cases q : j = (i 4).toNat
          · rw [q, b_up_eq]; omega
          · rw [b_up_ne _ _ q]; exact hInx j
        have hb12 : ∀ j, 0 ≤ (r_up (r_up a 8 (i 4).toNat x) 9 (i 4).toNat u) 12 j ∧ (r_up (r_up a 8 (i 4).toNat x) 9 (i 4).toNat u) 12 j ≤ 17 := fun j => by rw [hUk 12 (by decide) (by decide)]; exact hIfw j
        have hb13 : ∀ j, 0 ≤ (r_up (r_up a 8 (i 4).toNat x) 9 (i 4).toNat u) 13 j ∧ (r_up (r_up a 8 (i 4).toNat x) 9 (i 4).toNat u) 13 j ≤ 17 := fun j => by rw [hUk 13 (by decide) (by decide)]; exact hIln j
        refine v_aload_n hc dX4_add_84 rfl ?_
        refine v_callV (As := []) hc ho dX4_add_85 KV_X4_65 KB_X4_findWays hO.1 rfl rfl (c_X4_findWays _ _ hO (⟨by omega, by omega, by omega, by omega, by omega, hb8, hb9, hb12, hb13⟩ : q_I i_4 (r_up (r_up a 8 (i 4).toNat x) 9 (i 4).toNat u)) (fun j hj => hBn j (by omega))) rfl (Nat.le_of_ble_eq_true rfl) ⟨by omega, by omega⟩ ⟨by omega, by omega⟩ (fun r_ h_ sz_ q_ z_ => ?_)
        obtain ⟨rfl, i3, a3, ⟨rfl, rfl, hI3, hE3, hD3⟩, hO3, hfr3⟩ := q_
        have hfr := fun b hb => (hfr3 b hb).trans (hfr b hb)
        have hO := hO3
        refine v_aload_n hc dX4_add_88 rfl ?_
        refine r_get hc ho dX4_add_89 F_X4_56 hO rfl ?_
        refine z_iconst hc dX4_add_92 ?_
        refine z_isub hc dX4_add_93 ?_
        refine z_iret M dX4_add_94 (by omega) (by omega) ?_
        refine ⟨rfl, _, _, Or.inr ⟨by omega, ?_, by omega, ?_, ?_, ?_, ?_, ?_, ?_, hI3, ?_⟩, hO, hfr⟩
        · congr 3; omega
        · first | (rw [show c / 2 = 0 by omega]; omega) | (rw [show c / 2 = 1 by omega]; omega)
        · first | (rw [show c % 2 = 0 by omega]; omega) | (rw [show c % 2 = 1 by omega]; omega)
        · intro k h1 h2 h3; simp only [k_4 k h1]
        · rw [hE3 8 (by decide) (by decide), hU8]
        · rw [hE3 9 (by decide) (by decide), hU9]
        · rw [hE3 8 (by decide) (by decide)]; exact hBn
        · rw [hU8, hU9] at hD3; exact hD3
      · refine v_aload_n hc dX4_add_59 rfl ?_
        refine v_dup hc dX4_add_60 rfl ?_
        refine r_get hc ho dX4_add_61 F_X4_62 hO rfl ?_
        refine z_iconst hc dX4_add_64 ?_
        refine v_aload_n hc dX4_add_65 rfl ?_
        refine r_get hc ho dX4_add_66 F_X4_56 hO rfl ?_
        refine v_ishl hc dX4_add_69 (q_s2 (v := i 4) (by omega) (by omega) (by omega) (by omega) (by omega)) ?_
        refine v_ior hc dX4_add_70 (q_o2 (v := i 4) (by omega) (by omega) (by omega) (by omega) (by omega)) ?_
        refine r_putIf hc ho dX4_add_71 F_X4_62 hO hfr rfl (by first | assumption | exact hi _ | exact ha _ _ | (unfold zb; omega)) (fun h i_5 g_5 k_5 hO hfr => ?_)
        have hi := hO.2.2.2.1
        have e_5_1 := k_5 1 (by decide)
        have e_5_4 := k_5 4 (by decide)
        have e_5_6 := k_5 6 (by decide)
        have e_5_7 := k_5 7 (by decide)
        have e_5_10 := k_5 10 (by decide)
        refine v_aload_n hc dX4_add_74 rfl ?_
        refine v_dup hc dX4_add_75 rfl ?_
        refine r_get hc ho dX4_add_76 F_X4_56 hO rfl ?_
        refine z_iconst hc dX4_add_79 ?_
        refine z_iadd hc dX4_add_80 ?_
        refine r_putIf hc ho dX4_add_81 F_X4_56 hO hfr rfl (by first | assumption | exact hi _ | exact ha _ _ | (unfold zb; omega)) (fun h i_6 g_6 k_6 hO hfr => ?_)
        have hi := hO.2.2.2.1
        have e_6_1 := k_6 1 (by decide)
        have e_6_6 := k_6 6 (by decide)
        have e_6_7 := k_6 7 (by decide)
        have e_6_10 := k_6 10 (by decide)
        have e_6_11 := k_6 11 (by decide)
        have hU8 : (r_up (r_up a 8 (i 4).toNat x) 9 (i 4).toNat u) 8 = b_up (a 8) (i 4).toNat x := by simp [r_up, b_up]
        have hU9 : (r_up (r_up a 8 (i 4).toNat x) 9 (i 4).toNat u) 9 = b_up (a 9) (i 4).toNat u := by simp [r_up, b_up]
        have hUk : ∀ k, k ≠ 8 → k ≠ 9 → (r_up (r_up a 8 (i 4).toNat x) 9 (i 4).toNat u) k = a k := fun k h1 h2 => by simp [r_up, b_up, h1, h2]
        have hBn : ∀ j : Nat, (j : Int) < i 4 + 1 → 1 ≤ (r_up (r_up a 8 (i 4).toNat x) 9 (i 4).toNat u) 8 j := fun j hj => by
          rw [hU8]; by_cases q : j = (i 4).toNat
          · rw [q, b_up_eq]; omega
          · rw [b_up_ne _ _ q]; exact hB1 j (by omega)
        have hb8 : ∀ j, 0 ≤ (r_up (r_up a 8 (i 4).toNat x) 9 (i 4).toNat u) 8 j ∧ (r_up (r_up a 8 (i 4).toNat x) 9 (i 4).toNat u) 8 j ≤ 64 := fun j => by
          rw [hU8]; by_cases q : j = (i 4).toNat
          · rw [q, b_up_eq]; omega
          · rw [b_up_ne _ _ q]; exact hIbt j
        have hb9 : ∀ j, 0 ≤ (r_up (r_up a 8 (i 4).toNat x) 9 (i 4).toNat u) 9 j ∧ (r_up (r_up a 8 (i 4).toNat x) 9 (i 4).toNat u) 9 j ≤ 255 := fun j => by
          rw [hU9]; by_cases q : j = (i 4).toNat
          · rw [q, b_up_eq]; omega
          · rw [b_up_ne _ _ q]; exact hInx j
        have hb12 : ∀ j, 0 ≤ (r_up (r_up a 8 (i 4).toNat x) 9 (i 4).toNat u) 12 j ∧ (r_up (r_up a 8 (i 4).toNat x) 9 (i 4).toNat u) 12 j ≤ 17 := fun j => by rw [hUk 12 (by decide) (by decide)]; exact hIfw j
        have hb13 : ∀ j, 0 ≤ (r_up (r_up a 8 (i 4).toNat x) 9 (i 4).toNat u) 13 j ∧ (r_up (r_up a 8 (i 4).toNat x) 9 (i 4).toNat u) 13 j ≤ 17 := fun j => by rw [hUk 13 (by decide) (by decide)]; exact hIln j
        refine v_aload_n hc dX4_add_84 rfl ?_
        refine v_callV (As := []) hc ho dX4_add_85 KV_X4_65 KB_X4_findWays hO.1 rfl rfl (c_X4_findWays _ _ hO (⟨by omega, by omega, by omega, by omega, by omega, hb8, hb9, hb12, hb13⟩ : q_I i_6 (r_up (r_up a 8 (i 4).toNat x) 9 (i 4).toNat u)) (fun j hj => hBn j (by omega))) rfl (Nat.le_of_ble_eq_true rfl) ⟨by omega, by omega⟩ ⟨by omega, by omega⟩ (fun r_ h_ sz_ q_ z_ => ?_)
        obtain ⟨rfl, i3, a3, ⟨rfl, rfl, hI3, hE3, hD3⟩, hO3, hfr3⟩ := q_
        have hfr := fun b hb => (hfr3 b hb).trans (hfr b hb)
        have hO := hO3
        refine v_aload_n hc dX4_add_88 rfl ?_
        refine r_get hc ho dX4_add_89 F_X4_56 hO rfl ?_
        refine z_iconst hc dX4_add_92 ?_
        refine z_isub hc dX4_add_93 ?_
        refine z_iret M dX4_add_94 (by omega) (by omega) ?_
        refine ⟨rfl, _, _, Or.inr ⟨by omega, ?_, by omega, ?_, ?_, ?_, ?_, ?_, ?_, hI3, ?_⟩, hO, hfr⟩
        · congr 3; omega
        · first | (rw [show c / 2 = 0 by omega]; omega) | (rw [show c / 2 = 1 by omega]; omega)
        · first | (rw [show c % 2 = 0 by omega]; omega) | (rw [show c % 2 = 1 by omega]; omega)
        · intro k h1 h2 h3; simp only [k_5 k h3, k_6 k h1]
        · rw [hE3 8 (by decide) (by decide), hU8]
        · rw [hE3 9 (by decide) (by decide), hU9]
        · rw [hE3 8 (by decide) (by decide)]; exact hBn
        · rw [hU8, hU9] at hD3; exact hD3
    · refine v_aload_n hc dX4_add_38 rfl ?_
      refine v_dup hc dX4_add_39 rfl ?_
      refine r_get hc ho dX4_add_40 F_X4_59 hO rfl ?_
      refine z_iconst hc dX4_add_43 ?_
      refine v_aload_n hc dX4_add_44 rfl ?_
      refine r_get hc ho dX4_add_45 F_X4_56 hO rfl ?_
      refine v_ishl hc dX4_add_48 (q_s2 (v := i 4) (by omega) (by omega) (by omega) (by omega) (by omega)) ?_
      refine v_ior hc dX4_add_49 (q_o2 (v := i 4) (by omega) (by omega) (by omega) (by omega) (by omega)) ?_
      refine r_putIf hc ho dX4_add_50 F_X4_59 hO hfr rfl (by first | assumption | exact hi _ | exact ha _ _ | (unfold zb; omega)) (fun h i_7 g_7 k_7 hO hfr => ?_)
      have hi := hO.2.2.2.1
      have e_7_1 := k_7 1 (by decide)
      have e_7_4 := k_7 4 (by decide)
      have e_7_6 := k_7 6 (by decide)
      have e_7_7 := k_7 7 (by decide)
      have e_7_11 := k_7 11 (by decide)
      refine v_iload_n hc dX4_add_53 rfl ?_
      refine z_iconst hc dX4_add_54 ?_
      refine v_iand hc dX4_add_55 (zI_and1 (by omega) (by omega)) ?_
      refine z_if_eq (tgt := 74) hc dX4_add_56 (by decide) (by first | assumption | exact hi _ | exact ha _ _ | (unfold zb; omega)) (fun c_8 => ?_) (fun c_8 => ?_)
      · refine v_aload_n hc dX4_add_74 rfl ?_
        refine v_dup hc dX4_add_75 rfl ?_
        refine r_get hc ho dX4_add_76 F_X4_56 hO rfl ?_
        refine z_iconst hc dX4_add_79 ?_
        refine z_iadd hc dX4_add_80 ?_
        refine r_putIf hc ho dX4_add_81 F_X4_56 hO hfr rfl (by first | assumption | exact hi _ | exact ha _ _ | (unfold zb; omega)) (fun h i_9 g_9 k_9 hO hfr => ?_)
        have hi := hO.2.2.2.1
        have e_9_1 := k_9 1 (by decide)
        have e_9_6 := k_9 6 (by decide)
        have e_9_7 := k_9 7 (by decide)
        have e_9_10 := k_9 10 (by decide)
        have e_9_11 := k_9 11 (by decide)
        have hU8 : (r_up (r_up a 8 (i 4).toNat x) 9 (i 4).toNat u) 8 = b_up (a 8) (i 4).toNat x := by simp [r_up, b_up]
        have hU9 : (r_up (r_up a 8 (i 4).toNat x) 9 (i 4).toNat u) 9 = b_up (a 9) (i 4).toNat u := by simp [r_up, b_up]
        have hUk : ∀ k, k ≠ 8 → k ≠ 9 → (r_up (r_up a 8 (i 4).toNat x) 9 (i 4).toNat u) k = a k := fun k h1 h2 => by simp [r_up, b_up, h1, h2]
        have hBn : ∀ j : Nat, (j : Int) < i 4 + 1 → 1 ≤ (r_up (r_up a 8 (i 4).toNat x) 9 (i 4).toNat u) 8 j := fun j hj => by
          rw [hU8]; by_cases q : j = (i 4).toNat
          · rw [q, b_up_eq]; omega
          · rw [b_up_ne _ _ q]; exact hB1 j (by omega)
        have hb8 : ∀ j, 0 ≤ (r_up (r_up a 8 (i 4).toNat x) 9 (i 4).toNat u) 8 j ∧ (r_up (r_up a 8 (i 4).toNat x) 9 (i 4).toNat u) 8 j ≤ 64 := fun j => by
          rw [hU8]; by_cases q : j = (i 4).toNat
          · rw [q, b_up_eq]; omega
          · rw [b_up_ne _ _ q]; exact hIbt j
        have hb9 : ∀ j, 0 ≤ (r_up (r_up a 8 (i 4).toNat x) 9 (i 4).toNat u) 9 j ∧ (r_up (r_up a 8 (i 4).toNat x) 9 (i 4).toNat u) 9 j ≤ 255 := fun j => by
          rw [hU9]; by_cases q : j = (i 4).toNat
          · rw [q, b_up_eq]; omega
          · rw [b_up_ne _ _ q]; exact hInx j
        have hb12 : ∀ j, 0 ≤ (r_up (r_up a 8 (i 4).toNat x) 9 (i 4).toNat u) 12 j ∧ (r_up (r_up a 8 (i 4).toNat x) 9 (i 4).toNat u) 12 j ≤ 17 := fun j => by rw [hUk 12 (by decide) (by decide)]; exact hIfw j
        have hb13 : ∀ j, 0 ≤ (r_up (r_up a 8 (i 4).toNat x) 9 (i 4).toNat u) 13 j ∧ (r_up (r_up a 8 (i 4).toNat x) 9 (i 4).toNat u) 13 j ≤ 17 := fun j => by rw [hUk 13 (by decide) (by decide)]; exact hIln j
        refine v_aload_n hc dX4_add_84 rfl ?_
        refine v_callV (As := []) hc ho dX4_add_85 KV_X4_65 KB_X4_findWays hO.1 rfl rfl (c_X4_findWays _ _ hO (⟨by omega, by omega, by omega, by omega, by omega, hb8, hb9, hb12, hb13⟩ : q_I i_9 (r_up (r_up a 8 (i 4).toNat x) 9 (i 4).toNat u)) (fun j hj => hBn j (by omega))) rfl (Nat.le_of_ble_eq_true rfl) ⟨by omega, by omega⟩ ⟨by omega, by omega⟩ (fun r_ h_ sz_ q_ z_ => ?_)
        obtain ⟨rfl, i3, a3, ⟨rfl, rfl, hI3, hE3, hD3⟩, hO3, hfr3⟩ := q_
        have hfr := fun b hb => (hfr3 b hb).trans (hfr b hb)
        have hO := hO3
        refine v_aload_n hc dX4_add_88 rfl ?_
        refine r_get hc ho dX4_add_89 F_X4_56 hO rfl ?_
        refine z_iconst hc dX4_add_92 ?_
        refine z_isub hc dX4_add_93 ?_
        refine z_iret M dX4_add_94 (by omega) (by omega) ?_
        refine ⟨rfl, _, _, Or.inr ⟨by omega, ?_, by omega, ?_, ?_, ?_, ?_, ?_, ?_, hI3, ?_⟩, hO, hfr⟩
        · congr 3; omega
        · first | (rw [show c / 2 = 0 by omega]; omega) | (rw [show c / 2 = 1 by omega]; omega)
        · first | (rw [show c % 2 = 0 by omega]; omega) | (rw [show c % 2 = 1 by omega]; omega)
        · intro k h1 h2 h3; simp only [k_7 k h2, k_9 k h1]
        · rw [hE3 8 (by decide) (by decide), hU8]
        · rw [hE3 9 (by decide) (by decide), hU9]
        · rw [hE3 8 (by decide) (by decide)]; exact hBn
        · rw [hU8, hU9] at hD3; exact hD3
      · refine v_aload_n hc dX4_add_59 rfl ?_
        refine v_dup hc dX4_add_60 rfl ?_
        refine r_get hc ho dX4_add_61 F_X4_62 hO rfl ?_
        refine z_iconst hc dX4_add_64 ?_
        refine v_aload_n hc dX4_add_65 rfl ?_
        refine r_get hc ho dX4_add_66 F_X4_56 hO rfl ?_
        refine v_ishl hc dX4_add_69 (q_s2 (v := i 4) (by omega) (by omega) (by omega) (by omega) (by omega)) ?_
        refine v_ior hc dX4_add_70 (q_o2 (v := i 4) (by omega) (by omega) (by omega) (by omega) (by omega)) ?_
        refine r_putIf hc ho dX4_add_71 F_X4_62 hO hfr rfl (by first | assumption | exact hi _ | exact ha _ _ | (unfold zb; omega)) (fun h i_10 g_10 k_10 hO hfr => ?_)
        have hi := hO.2.2.2.1
        have e_10_1 := k_10 1 (by decide)
        have e_10_4 := k_10 4 (by decide)
        have e_10_6 := k_10 6 (by decide)
        have e_10_7 := k_10 7 (by decide)
        have e_10_10 := k_10 10 (by decide)
        refine v_aload_n hc dX4_add_74 rfl ?_
        refine v_dup hc dX4_add_75 rfl ?_
        refine r_get hc ho dX4_add_76 F_X4_56 hO rfl ?_
        refine z_iconst hc dX4_add_79 ?_
        refine z_iadd hc dX4_add_80 ?_
        refine r_putIf hc ho dX4_add_81 F_X4_56 hO hfr rfl (by first | assumption | exact hi _ | exact ha _ _ | (unfold zb; omega)) (fun h i_11 g_11 k_11 hO hfr => ?_)
        have hi := hO.2.2.2.1
        have e_11_1 := k_11 1 (by decide)
        have e_11_6 := k_11 6 (by decide)
        have e_11_7 := k_11 7 (by decide)
        have e_11_10 := k_11 10 (by decide)
        have e_11_11 := k_11 11 (by decide)
        have hU8 : (r_up (r_up a 8 (i 4).toNat x) 9 (i 4).toNat u) 8 = b_up (a 8) (i 4).toNat x := by simp [r_up, b_up]
        have hU9 : (r_up (r_up a 8 (i 4).toNat x) 9 (i 4).toNat u) 9 = b_up (a 9) (i 4).toNat u := by simp [r_up, b_up]
        have hUk : ∀ k, k ≠ 8 → k ≠ 9 → (r_up (r_up a 8 (i 4).toNat x) 9 (i 4).toNat u) k = a k := fun k h1 h2 => by simp [r_up, b_up, h1, h2]
        have hBn : ∀ j : Nat, (j : Int) < i 4 + 1 → 1 ≤ (r_up (r_up a 8 (i 4).toNat x) 9 (i 4).toNat u) 8 j := fun j hj => by
          rw [hU8]; by_cases q : j = (i 4).toNat
          · rw [q, b_up_eq]; omega
          · rw [b_up_ne _ _ q]; exact hB1 j (by omega)
        have hb8 : ∀ j, 0 ≤ (r_up (r_up a 8 (i 4).toNat x) 9 (i 4).toNat u) 8 j ∧ (r_up (r_up a 8 (i 4).toNat x) 9 (i 4).toNat u) 8 j ≤ 64 := fun j => by
          rw [hU8]; by_cases q : j = (i 4).toNat
          · rw [q, b_up_eq]; omega
          · rw [b_up_ne _ _ q]; exact hIbt j
        have hb9 : ∀ j, 0 ≤ (r_up (r_up a 8 (i 4).toNat x) 9 (i 4).toNat u) 9 j ∧ (r_up (r_up a 8 (i 4).toNat x) 9 (i 4).toNat u) 9 j ≤ 255 := fun j => by
          rw [hU9]; by_cases q : j = (i 4).toNat
          · rw [q, b_up_eq]; omega
          · rw [b_up_ne _ _ q]; exact hInx j
        have hb12 : ∀ j, 0 ≤ (r_up (r_up a 8 (i 4).toNat x) 9 (i 4).toNat u) 12 j ∧ (r_up (r_up a 8 (i 4).toNat x) 9 (i 4).toNat u) 12 j ≤ 17 := fun j => by rw [hUk 12 (by decide) (by decide)]; exact hIfw j
        have hb13 : ∀ j, 0 ≤ (r_up (r_up a 8 (i 4).toNat x) 9 (i 4).toNat u) 13 j ∧ (r_up (r_up a 8 (i 4).toNat x) 9 (i 4).toNat u) 13 j ≤ 17 := fun j => by rw [hUk 13 (by decide) (by decide)]; exact hIln j
        refine v_aload_n hc dX4_add_84 rfl ?_
        refine v_callV (As := []) hc ho dX4_add_85 KV_X4_65 KB_X4_findWays hO.1 rfl rfl (c_X4_findWays _ _ hO (⟨by omega, by omega, by omega, by omega, by omega, hb8, hb9, hb12, hb13⟩ : q_I i_11 (r_up (r_up a 8 (i 4).toNat x) 9 (i 4).toNat u)) (fun j hj => hBn j (by omega))) rfl (Nat.le_of_ble_eq_true rfl) ⟨by omega, by omega⟩ ⟨by omega, by omega⟩ (fun r_ h_ sz_ q_ z_ => ?_)
        obtain ⟨rfl, i3, a3, ⟨rfl, rfl, hI3, hE3, hD3⟩, hO3, hfr3⟩ := q_
        have hfr := fun b hb => (hfr3 b hb).trans (hfr b hb)
        have hO := hO3
        refine v_aload_n hc dX4_add_88 rfl ?_
        refine r_get hc ho dX4_add_89 F_X4_56 hO rfl ?_
        refine z_iconst hc dX4_add_92 ?_
        refine z_isub hc dX4_add_93 ?_
        refine z_iret M dX4_add_94 (by omega) (by omega) ?_
        refine ⟨rfl, _, _, Or.inr ⟨by omega, ?_, by omega, ?_, ?_, ?_, ?_, ?_, ?_, hI3, ?_⟩, hO, hfr⟩
        · congr 3; omega
        · first | (rw [show c / 2 = 0 by omega]; omega) | (rw [show c / 2 = 1 by omega]; omega)
        · first | (rw [show c % 2 = 0 by omega]; omega) | (rw [show c % 2 = 1 by omega]; omega)
        · intro k h1 h2 h3; simp only [k_7 k h2, k_10 k h3, k_11 k h1]
        · rw [hE3 8 (by decide) (by decide), hU8]
        · rw [hE3 9 (by decide) (by decide), hU9]
        · rw [hE3 8 (by decide) (by decide)]; exact hBn
        · rw [hU8, hU9] at hD3; exact hD3
  · refine z_bipush hc dX4_add_9 (by decide) ?_
    refine z_iret M dX4_add_11 (by omega) (by omega) ?_
    exact ⟨rfl, _, _, Or.inl ⟨by omega, rfl, rfl, rfl⟩, hO, hfr⟩
