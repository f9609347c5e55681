/-! the night -/
theorem b_up_self {α : Type} (f : Nat → α) (i : Nat) : b_up f i (f i) = f := by
  funext j
  by_cases e : j = i
  · rw [e, b_up_eq]
  · rw [b_up_ne _ _ e]
/-- the plays of piece p are one more -/
def n_pl (I : Nat → Nat → Int) (p : Int) : Nat → Nat → Int := b_up I (p.toNat + 20) (b_up (I (p.toNat + 20)) 5 (I (p.toNat + 20) 5 + 1))
theorem n_A.pl {G : b_G} {lb : Nat → Nat} {L n : Nat} {O : Nat → Nat} {D : Nat → Nat → Nat} {I : Nat → Nat → Int} {A : Nat → Nat → Nat → Int} {fo fa nf : Nat} {pt RA RB LN : Nat → Nat} {PI PR PB : Nat → Nat → Int} {o sa : Nat} {pv : Value} {i s : Nat → Int} {h h1 : b_H} (hA : n_A G lb L n O D I A fo fa nf pt RA RB LN PI PR PB o sa pv i s h) {p : Nat} (hp : p < n) {v : Nat → Int} (hO : r_O K4 4 (O (p + 20)) (D (p + 20)) v (A (p + 20)) h1) (hq : ∀ b, ¬ r_own K4 (O (p + 20)) (D (p + 20)) b → h1 b = h b) : n_A G lb L n O D (b_up I (p + 20) v) A fo fa nf pt RA RB LN PI PR PB o sa pv i s h1 := by
  obtain ⟨hW, hF, g1, g2, g3, g4, g5⟩ := hA
  have hl : ∀ b, lb b ≠ p + 20 → h1 b = h b := fun b hb => hq b (hW.lab (x_is_p hp) hb)
  have hW1 := hW.put (x_is_p hp) hO hq
  rw [b_up_self] at hW1
  exact ⟨hW1, hF.kept (fun b hb => hl b (by omega)), (hl o (by omega)).trans g1, (hl sa (by omega)).trans g2, g3, g4, g5⟩
/-- all slots but these are as they were -/
def n_ck (i i2 : Nat → Int) (l : List Nat) : Prop := ∀ k, k ∉ l → i2 k = i k
/-- beats done -/
def n_dn (PI : Nat → Nat → Int) (i : Nat → Int) : Int := (i 7 - i 4) * PI (i 3).toNat 2 / PI (i 3).toNat 5
/-- what comes when the block that is played has ended -/
def n_tn (nf : Nat) (LN : Nat → Nat) (PI PB : Nat → Nat → Int) (s : Nat → Int) (I : Nat → Nat → Int) (i : Nat → Int) (I2 : Nat → Nat → Int) (i2 : Nat → Int) : Prop :=
  ((i 3 < i 10 ∧ PI (i 3).toNat 8 / 2 ^ (i 5).toNat % 2 = 1) ∧ i2 3 = i 3 + 1 ∧ i2 9 = i 9 + (i 7 - s (i 3 + 1).toNat) ∧ i2 4 = i 7 ∧ i2 5 = 0 ∧ i2 6 = PB (i 3 + 1).toNat 0 ∧ n_ck i i2 [3, 4, 5, 6, 9] ∧ I2 = n_pl I (PI (i 3 + 1).toNat 1)) ∨
  (¬ (i 3 < i 10 ∧ PI (i 3).toNat 8 / 2 ^ (i 5).toNat % 2 = 1) ∧ I2 = I ∧ ((i 5 + 1 < LN (i 3).toNat ∧ i2 5 = i 5 + 1 ∧ i2 6 = i 6 + PB (i 3).toNat (i 5 + 1).toNat ∧ n_ck i i2 [5, 6]) ∨ (¬ i 5 + 1 < LN (i 3).toNat ∧ (nf : Int) ≤ i 3 + 1 ∧ i2 11 = 1 ∧ n_ck i i2 [11]) ∨ (¬ i 5 + 1 < LN (i 3).toNat ∧ i 3 + 1 < nf ∧ i2 8 = i 8 + 1 ∧ i2 6 = i 6 + PB (i 3).toNat (i 5).toNat ∧ n_ck i i2 [6, 8])))
/-- a tenth goes by -/
def n_tk (nf : Nat) (LN : Nat → Nat) (PI PB : Nat → Nat → Int) (s : Nat → Int) (I : Nat → Nat → Int) (i : Nat → Int) (I2 : Nat → Nat → Int) (i2 : Nat → Int) : Prop :=
  ∃ i1 : Nat → Int, i1 7 = i 7 + 1 ∧ n_ck i i1 [7] ∧ ((n_dn PI i1 < i1 6 ∧ I2 = I ∧ i2 = i1) ∨ (i1 6 ≤ n_dn PI i1 ∧ n_tn nf LN PI PB s I i1 I2 i2))
/-- so many tenths, but none behind the end -/
def n_rn (nf : Nat) (LN : Nat → Nat) (PI PB : Nat → Nat → Int) (s : Nat → Int) : Nat → (Nat → Nat → Int) → (Nat → Int) → (Nat → Nat → Int) → (Nat → Int) → Prop
  | 0, I, i, I2, i2 => I2 = I ∧ i2 = i
  | m + 1, I, i, I2, i2 => (¬ i 11 = 0 ∧ I2 = I ∧ i2 = i) ∨ (i 11 = 0 ∧ ∃ I1 i1, n_tk nf LN PI PB s I i I1 i1 ∧ n_rn nf LN PI PB s m I1 i1 I2 i2)
/-- what holds of a night -/
def n_I (nf : Nat) (LN : Nat → Nat) (PI : Nat → Nat → Int) (i s : Nat → Int) : Prop :=
  (1 ≤ nf ∧ nf ≤ 8) ∧ (0 ≤ i 3 ∧ i 3 < nf) ∧ (0 ≤ i 4 ∧ i 4 ≤ i 7 ∧ i 7 ≤ 400000) ∧ (0 ≤ i 5 ∧ i 5 < LN (i 3).toNat) ∧ (i 11 = 0 → n_dn PI i < i 6) ∧ (1 ≤ i 6 ∧ i 6 ≤ i 7 - i 4 + 64) ∧ (0 ≤ i 8 ∧ i 8 ≤ i 7) ∧ (0 ≤ i 9 ∧ i 9 ≤ i 3 * 400000) ∧ (0 ≤ i 10 ∧ i 10 < nf) ∧ (i 11 = 0 ∨ i 11 = 1) ∧ (i 12 = 0 ∨ i 12 = 1) ∧ (∀ j, 0 ≤ s j ∧ s j ≤ i 7)
/-- the same, for the turn of a state whose block has ended -/
def n_J (nf : Nat) (LN : Nat → Nat) (PI : Nat → Nat → Int) (i s : Nat → Int) : Prop :=
  (1 ≤ nf ∧ nf ≤ 8) ∧ (0 ≤ i 3 ∧ i 3 < nf) ∧ (0 ≤ i 4 ∧ i 4 ≤ i 7 ∧ i 7 ≤ 400000) ∧ (0 ≤ i 5 ∧ i 5 < LN (i 3).toNat) ∧ (1 ≤ i 6 ∧ i 6 ≤ i 7 - i 4 + 64) ∧ (0 ≤ i 8 ∧ i 8 ≤ i 7) ∧ (0 ≤ i 9 ∧ i 9 ≤ i 3 * 400000) ∧ (0 ≤ i 10 ∧ i 10 < nf) ∧ (i 11 = 0 ∨ i 11 = 1) ∧ (i 12 = 0 ∨ i 12 = 1) ∧ (∀ j, 0 ≤ s j ∧ s j ≤ i 7)
theorem n_dn_bd {b T x : Int} (hb : 1 ≤ b) (hT : b ≤ T) (hx : 0 ≤ x) : 0 ≤ x * b / T ∧ x * b / T ≤ x ∧ (x + 1) * b / T ≤ x * b / T + 1 := by
  have h0 : 0 ≤ x * b := Int.mul_nonneg hx (by omega)
  refine ⟨Int.ediv_nonneg h0 (by omega), ?_, ?_⟩
  · have h1 : x * b ≤ x * T := Int.mul_le_mul_of_nonneg_left hT hx
    have h2 := Int.ediv_le_ediv (c := T) (by omega) h1
    rw [Int.mul_ediv_cancel x (by omega)] at h2
    exact h2
  · have h1 : (x + 1) * b ≤ x * b + 1 * T := by
      rw [Int.add_mul]; omega
    have h2 := Int.ediv_le_ediv (c := T) (by omega) h1
    rw [Int.add_mul_ediv_right _ _ (by omega)] at h2
    exact h2

set_option maxHeartbeats 4000000 in
theorem c_X2_beatsDone (l : Launch) (G : b_G) {h : b_H} {sz : Nat} {lb : Nat → Nat} {L n : Nat} {O : Nat → Nat} {D : Nat → Nat → Nat} {I : Nat → Nat → Int} {A : Nat → Nat → Nat → Int} {fo fa nf : Nat} {pt RA RB LN : Nat → Nat} {PI PR PB : Nat → Nat → Int} {o sa : Nat} {i s : Nat → Int} {k : Nat} (hA : n_A G lb L n O D I A fo fa nf pt RA RB LN PI PR PB o sa (.ref (pt k)) i s h) (hk : k < nf) (hk3 : i 3 = (k : Int)) (hx : 0 ≤ i 7 - i 4 ∧ i 7 - i 4 ≤ 400000) : Con l G yX2_beatsDone cX2_beatsDone 1 (some .int) 1 21 0 0 [.ref o] h sz (p_ro (some (.int (zI (n_dn PI i)))) h sz) := by
  refine Con.ofK (by decide +kernel) rfl rfl ?_
  intro S M
  have hc := M.2.2.2.1
  have ho : s_own S = RX2 := M.2.2.1
  have hFr : (s_R S).frames = 1 := by rw [M.2.2.2.2.2.2.2.1]
  have hLo : (s_R S).locals = 21 := by rw [M.2.2.2.2.2.2.2.1]
  have hCe : (s_R S).cells = 0 := by rw [M.2.2.2.2.2.2.2.1]
  have hSl : (s_R S).slots = 0 := by rw [M.2.2.2.2.2.2.2.1]
  have hG : s_G S = G := M.2.1
  subst hG
  have hfr : n_fr lb n h h := fun _ _ _ => rfl
  obtain ⟨hti0, hti2, hti5, hti8, htiB, htiR, htix, hti1, hti3, hti4⟩ := id (hA.2.1.2.2.2.2.2 _ hk).2.1
  refine v_aload_n hc dX2_beatsDone_0 rfl ?_
  refine v_get hc ho dX2_beatsDone_1 F_X2_23 hA.2.2.1 rfl ?_
  refine v_aload_n hc dX2_beatsDone_4 rfl ?_
  refine v_get hc ho dX2_beatsDone_5 F_X2_39 hA.2.2.1 rfl ?_
  refine v_aload_n hc dX2_beatsDone_8 rfl ?_
  refine v_get hc ho dX2_beatsDone_9 F_X2_42 hA.2.2.1 rfl ?_
  refine z_isub hc dX2_beatsDone_12 ?_
  refine v_callV (As := [.int (zI (i 7 - i 4))]) hc ho dX2_beatsDone_13 KV_X2_69 KB_X3_beatsAfter (hA.2.1.2.2.2.2.2 _ hk).1.1 rfl rfl (c_X3_beatsAfter _ _ (hA.2.1.2.2.2.2.2 _ hk).1 (hA.2.1.2.2.2.2.2 _ hk).2.1 (x := i 7 - i 4) hx) rfl (Nat.le_of_ble_eq_true rfl) ⟨by omega, by omega⟩ ⟨by omega, by omega⟩ (fun r_ h_ sz_ q_ z_ => ?_)
  obtain ⟨rfl, eh_, es_⟩ := q_
  have eh_ := eh_.symm
  subst eh_
  have es_ := es_.symm
  subst es_
  refine z_iret M dX2_beatsDone_16 (by omega) (by omega) ?_
  exact ⟨by rw [n_dn, hk3, Int.toNat_natCast], rfl, rfl⟩
set_option maxHeartbeats 4000000 in
theorem c_X2_hasEnded (l : Launch) (G : b_G) {h : b_H} {sz : Nat} {lb : Nat → Nat} {L n : Nat} {O : Nat → Nat} {D : Nat → Nat → Nat} {I : Nat → Nat → Int} {A : Nat → Nat → Nat → Int} {fo fa nf : Nat} {pt RA RB LN : Nat → Nat} {PI PR PB : Nat → Nat → Int} {o sa : Nat} {i s : Nat → Int} {pv : Value} (hA : n_A G lb L n O D I A fo fa nf pt RA RB LN PI PR PB o sa pv i s h) (he : i 11 = 0 ∨ i 11 = 1) : Con l G yX2_hasEnded cX2_hasEnded 1 (some .boolean) 0 0 0 0 [.ref o] h sz (p_ro (some (.int (zI (i 11)))) h sz) := by
  refine Con.ofK (by decide +kernel) rfl rfl ?_
  intro S M
  have hc := M.2.2.2.1
  have ho : s_own S = RX2 := M.2.2.1
  have hFr : (s_R S).frames = 0 := by rw [M.2.2.2.2.2.2.2.1]
  have hLo : (s_R S).locals = 0 := by rw [M.2.2.2.2.2.2.2.1]
  have hCe : (s_R S).cells = 0 := by rw [M.2.2.2.2.2.2.2.1]
  have hSl : (s_R S).slots = 0 := by rw [M.2.2.2.2.2.2.2.1]
  have hG : s_G S = G := M.2.1
  subst hG
  refine v_aload_n hc dX2_hasEnded_0 rfl ?_
  refine v_get hc ho dX2_hasEnded_1 F_X2_55 hA.2.2.1 rfl ?_
  refine z_zret M (by omega) dX2_hasEnded_4 (by omega) (by omega) ?_
  exact ⟨rfl, rfl, rfl⟩
set_option maxHeartbeats 4000000 in
theorem c_X2_enter (l : Launch) (G : b_G) {h : b_H} {sz : Nat} {lb : Nat → Nat} {L n : Nat} {O : Nat → Nat} {D : Nat → Nat → Nat} {I : Nat → Nat → Int} {A : Nat → Nat → Nat → Int} {fo fa nf : Nat} {pt RA RB LN : Nat → Nat} {PI PR PB : Nat → Nat → Int} {o sa : Nat} {i s : Nat → Int} {pv : Value} {k : Nat} (hA : n_A G lb L n O D I A fo fa nf pt RA RB LN PI PR PB o sa pv i s h) (hk : k < nf) (hpb : 0 ≤ I ((PI k 1).toNat + 20) 5 ∧ I ((PI k 1).toNat + 20) 5 ≤ 2000000000) (hz7 : zb (i 7))  : Con l G yX2_enter cX2_enter 2 none 2 42 0 0 [.ref o, .ref (pt k)] h sz (fun r h2 s2 => r = none ∧ s2 = sz ∧ ∃ i2, n_A G lb L n O D (n_pl I (PI k 1)) A fo fa nf pt RA RB LN PI PR PB o sa (.ref (pt k)) i2 s h2 ∧ i2 4 = i 7 ∧ i2 5 = 0 ∧ i2 6 = PB k 0 ∧ n_ck i i2 [4, 5, 6] ∧ n_fr lb n h2 h) := by
  refine Con.ofK (by decide +kernel) rfl rfl ?_
  intro S M
  have hc := M.2.2.2.1
  have ho : s_own S = RX2 := M.2.2.1
  have hFr : (s_R S).frames = 2 := by rw [M.2.2.2.2.2.2.2.1]
  have hLo : (s_R S).locals = 42 := by rw [M.2.2.2.2.2.2.2.1]
  have hCe : (s_R S).cells = 0 := by rw [M.2.2.2.2.2.2.2.1]
  have hSl : (s_R S).slots = 0 := by rw [M.2.2.2.2.2.2.2.1]
  have hG : s_G S = G := M.2.1
  subst hG
  have hfr : n_fr lb n h h := fun _ _ _ => rfl
  obtain ⟨hti0, hti2, hti5, hti8, htiB, htiR, htix, hti1, hti3, hti4⟩ := id (hA.2.1.2.2.2.2.2 _ hk).2.1
  refine v_aload_n hc dX2_enter_0 rfl ?_
  refine v_aload_n hc dX2_enter_1 rfl ?_
  refine x_put hc ho dX2_enter_2 F_X2_23 hA.2.2.1 rfl ⟨rfl, rfl⟩ (fun h1 e1 e2 => ?_)
  have hfr : n_fr lb n h1 h := fun b q1 q2 => e2 b (fun q => q1 (by rw [q]; exact hA.2.2.2.2.2.1))
  replace hA := hA.on (pv2 := .ref (pt k)) e1 e2
  refine v_aload_n hc dX2_enter_5 rfl ?_
  refine v_get hc ho dX2_enter_6 F_X2_23 hA.2.2.1 rfl ?_
  refine v_get hc ho dX2_enter_9 F_X2_27 (hA.2.1.2.2.2.2.2 _ hk).1.1 rfl ?_
  refine v_dup hc dX2_enter_12 rfl ?_
  have hpl := hpb
  refine r_get hc ho dX2_enter_13 F_X2_33 (hA.1.pc (hA.2.1.2.2.2.2.2 _ hk).2.2.1) rfl ?_
  refine z_iconst hc dX2_enter_16 ?_
  refine z_iadd hc dX2_enter_17 ?_
  refine r_putI hc ho dX2_enter_18 F_X2_33 (hA.1.pc (hA.2.1.2.2.2.2.2 _ hk).2.2.1) (fun _ _ => rfl) rfl (by unfold zb; omega) (fun h2 hO2 hq2 => ?_)
  replace hfr : n_fr lb n h2 h := fun b q1 q2 => (hq2 b (fun q => q2 (by have := (hA.1 _ (x_is_p (hA.2.1.2.2.2.2.2 _ hk).2.2.1)).2 b q; have := (hA.2.1.2.2.2.2.2 _ hk).2.2.1; omega))).trans (hfr b q1 q2)
  replace hA := hA.pl (hA.2.1.2.2.2.2.2 _ hk).2.2.1 hO2 hq2
  refine v_aload_n hc dX2_enter_21 rfl ?_
  refine v_aload_n hc dX2_enter_22 rfl ?_
  refine v_get hc ho dX2_enter_23 F_X2_39 hA.2.2.1 rfl ?_
  refine n_putf hc ho dX2_enter_26 F_X2_42 hA hfr (by decide) (by decide) ⟨rfl, rfl⟩ (fun h i_1 g_1 k_1 hA hfr => ?_)
  have hk_1 := fun u (hu : u ≠ 4) => k_1 u hu
  have k_1_3 := k_1 3 (by decide)
  have k_1_5 := k_1 5 (by decide)
  have k_1_6 := k_1 6 (by decide)
  have k_1_7 := k_1 7 (by decide)
  have k_1_8 := k_1 8 (by decide)
  have k_1_9 := k_1 9 (by decide)
  have k_1_10 := k_1 10 (by decide)
  have k_1_11 := k_1 11 (by decide)
  have k_1_12 := k_1 12 (by decide)
  refine v_aload_n hc dX2_enter_29 rfl ?_
  refine z_iconst hc dX2_enter_30 ?_
  refine n_putf hc ho dX2_enter_31 F_X2_45 hA hfr (by decide) (by decide) ⟨rfl, rfl⟩ (fun h i_2 g_2 k_2 hA hfr => ?_)
  have hk_2 := fun u (hu : u ≠ 5) => k_2 u hu
  have k_2_3 := k_2 3 (by decide)
  have k_2_4 := k_2 4 (by decide)
  have k_2_6 := k_2 6 (by decide)
  have k_2_7 := k_2 7 (by decide)
  have k_2_8 := k_2 8 (by decide)
  have k_2_9 := k_2 9 (by decide)
  have k_2_10 := k_2 10 (by decide)
  have k_2_11 := k_2 11 (by decide)
  have k_2_12 := k_2 12 (by decide)
  refine v_aload_n hc dX2_enter_34 rfl ?_
  refine v_aload_n hc dX2_enter_35 rfl ?_
  refine v_get hc ho dX2_enter_36 F_X2_23 hA.2.2.1 rfl ?_
  refine z_iconst hc dX2_enter_39 ?_
  refine v_callV (As := [.int (zI 0)]) hc ho dX2_enter_40 KV_X2_48 KB_X3_beatsAt (hA.2.1.2.2.2.2.2 _ hk).1.1 rfl rfl (c_X3_beatsAt _ _ (hA.2.1.2.2.2.2.2 _ hk).1 (hA.2.1.2.2.2.2.2 _ hk).2.1 (x := 0) (by unfold zb; omega)) rfl (Nat.le_of_ble_eq_true rfl) ⟨by omega, by omega⟩ ⟨by omega, by omega⟩ (fun r_ h_ sz_ q_ z_ => ?_)
  obtain ⟨rfl, eh_, es_⟩ := q_
  have eh_ := eh_.symm
  subst eh_
  have es_ := es_.symm
  subst es_
  rw [if_pos (show (0 : Int) ≤ 0 ∧ (0 : Int) < (LN k : Int) by omega)]
  refine n_putf hc ho dX2_enter_43 F_X2_52 hA hfr (by decide) (by decide) ⟨rfl, rfl⟩ (fun h i_3 g_3 k_3 hA hfr => ?_)
  have hk_3 := fun u (hu : u ≠ 6) => k_3 u hu
  have k_3_3 := k_3 3 (by decide)
  have k_3_4 := k_3 4 (by decide)
  have k_3_5 := k_3 5 (by decide)
  have k_3_7 := k_3 7 (by decide)
  have k_3_8 := k_3 8 (by decide)
  have k_3_9 := k_3 9 (by decide)
  have k_3_10 := k_3 10 (by decide)
  have k_3_11 := k_3 11 (by decide)
  have k_3_12 := k_3 12 (by decide)
  refine v_vret M dX2_enter_46 (by omega) (by omega) ?_
  exact ⟨rfl, rfl, i_3, hA, by omega, by omega, g_3, fun u hu => by simp only [List.mem_cons, List.not_mem_nil, or_false, not_or] at hu; rw [k_3 u (by omega), k_2 u (by omega), k_1 u (by omega)], hfr⟩
set_option maxHeartbeats 4000000 in
theorem c_X2_takeCue (l : Launch) (G : b_G) {h : b_H} {sz : Nat} {lb : Nat → Nat} {L n : Nat} {O : Nat → Nat} {D : Nat → Nat → Nat} {I : Nat → Nat → Int} {A : Nat → Nat → Nat → Int} {fo fa nf : Nat} {pt RA RB LN : Nat → Nat} {PI PR PB : Nat → Nat → Int} {o sa : Nat} {i s : Nat → Int} {k : Nat} (hA : n_A G lb L n O D I A fo fa nf pt RA RB LN PI PR PB o sa (.ref (pt k)) i s h) (hk : k < nf) (hk3 : i 3 = (k : Int)) (hk1 : k + 1 < nf) (hN : n_J nf LN PI i s) (hpb : ∀ p, 0 ≤ I (p + 20) 5 ∧ I (p + 20) 5 ≤ 2000000000)  : Con l G yX2_takeCue cX2_takeCue 2 none 3 64 0 0 [.ref o] h sz (fun r h2 s2 => r = none ∧ s2 = sz ∧ ∃ i2, n_A G lb L n O D (n_pl I (PI (k + 1) 1)) A fo fa nf pt RA RB LN PI PR PB o sa (.ref (pt (k + 1))) i2 s h2 ∧ i2 3 = i 3 + 1 ∧ i2 9 = i 9 + (i 7 - s (i 3 + 1).toNat) ∧ i2 4 = i 7 ∧ i2 5 = 0 ∧ i2 6 = PB (i 3 + 1).toNat 0 ∧ n_ck i i2 [3, 4, 5, 6, 9] ∧ n_fr lb n h2 h) := by
  refine Con.ofK (by decide +kernel) rfl rfl ?_
  intro S M
  have hc := M.2.2.2.1
  have ho : s_own S = RX2 := M.2.2.1
  have hFr : (s_R S).frames = 3 := by rw [M.2.2.2.2.2.2.2.1]
  have hLo : (s_R S).locals = 64 := by rw [M.2.2.2.2.2.2.2.1]
  have hCe : (s_R S).cells = 0 := by rw [M.2.2.2.2.2.2.2.1]
  have hSl : (s_R S).slots = 0 := by rw [M.2.2.2.2.2.2.2.1]
  have hG : s_G S = G := M.2.1
  subst hG
  have hfr : n_fr lb n h h := fun _ _ _ => rfl
  obtain ⟨hti0, hti2, hti5, hti8, htiB, htiR, htix, hti1, hti3, hti4⟩ := id (hA.2.1.2.2.2.2.2 _ hk).2.1
  obtain ⟨mc, hjo, -⟩ := id hA.2.1.1
  obtain ⟨hn1, hn2, hn3, hn4, hn6, hn7, hn8, hn9, hn10, hn11, hn12⟩ := id hN
  rw [show (i 3).toNat = k by omega] at hn4
  have hpb := hpb (PI (k + 1) 1).toNat
  have hs1 := hn12 (i 3 + 1).toNat
  refine v_aload_n hc dX2_takeCue_0 rfl ?_
  refine v_get hc ho dX2_takeCue_1 F_X2_75 hA.2.2.1 rfl ?_
  refine z_iconst hc dX2_takeCue_4 ?_
  refine z_iadd hc dX2_takeCue_5 ?_
  refine v_istore_n hc dX2_takeCue_6 (Nat.le_of_ble_eq_true rfl) ?_
  refine v_iload_n hc dX2_takeCue_7 rfl ?_
  refine v_aload_n hc dX2_takeCue_8 rfl ?_
  refine v_get hc ho dX2_takeCue_9 F_X2_15 hA.2.2.1 rfl ?_
  refine v_callV (As := []) hc ho dX2_takeCue_12 KV_X2_88 KB_Jx4a65c_size_8abf5 hjo rfl rfl (c_Jx4a65c_size_8abf5 _ _ hA.2.1.1) rfl (Nat.le_of_ble_eq_true rfl) ⟨by omega, by omega⟩ ⟨by omega, by omega⟩ (fun r_ h_ sz_ q_ z_ => ?_)
  obtain ⟨rfl, eh_, es_⟩ := q_
  have eh_ := eh_.symm
  subst eh_
  have es_ := es_.symm
  subst es_
  refine z_icmp_ge (tgt := 27) hc dX2_takeCue_15 (by decide) (by first | assumption | exact hi _ | exact ha _ _ | (unfold zb; omega)) (by first | assumption | exact hi _ | exact ha _ _ | (unfold zb; omega)) (fun c_1 => absurd c_1 (by omega)) (fun c_1 => ?_)
  refine v_iload_n hc dX2_takeCue_18 rfl ?_
  refine v_aload_n hc dX2_takeCue_19 rfl ?_
  refine v_get hc ho dX2_takeCue_20 F_X2_9 hA.2.2.1 rfl ?_
  refine z_ilen hc dX2_takeCue_23 hA.2.2.2.1 ?_
  refine z_icmp_lt (tgt := 28) hc dX2_takeCue_24 (by decide) (by first | assumption | exact hi _ | exact ha _ _ | (unfold zb; omega)) (by first | assumption | exact hi _ | exact ha _ _ | (unfold zb; omega)) (fun c_2 => ?_) (fun c_2 => absurd c_2 (by omega))
  refine v_aload_n hc dX2_takeCue_28 rfl ?_
  refine v_iload_n hc dX2_takeCue_29 rfl ?_
  refine n_putf hc ho dX2_takeCue_30 F_X2_75 hA hfr (by decide) (by decide) ⟨rfl, rfl⟩ (fun h i_3 g_3 k_3 hA hfr => ?_)
  have hk_3 := fun u (hu : u ≠ 3) => k_3 u hu
  have k_3_4 := k_3 4 (by decide)
  have k_3_5 := k_3 5 (by decide)
  have k_3_6 := k_3 6 (by decide)
  have k_3_7 := k_3 7 (by decide)
  have k_3_8 := k_3 8 (by decide)
  have k_3_9 := k_3 9 (by decide)
  have k_3_10 := k_3 10 (by decide)
  have k_3_11 := k_3 11 (by decide)
  have k_3_12 := k_3 12 (by decide)
  refine v_aload_n hc dX2_takeCue_33 rfl ?_
  refine v_dup hc dX2_takeCue_34 rfl ?_
  refine v_get hc ho dX2_takeCue_35 F_X2_96 hA.2.2.1 rfl ?_
  refine v_aload_n hc dX2_takeCue_38 rfl ?_
  refine v_get hc ho dX2_takeCue_39 F_X2_39 hA.2.2.1 rfl ?_
  refine v_aload_n hc dX2_takeCue_42 rfl ?_
  refine v_get hc ho dX2_takeCue_43 F_X2_9 hA.2.2.1 rfl ?_
  refine v_iload_n hc dX2_takeCue_46 rfl ?_
  refine z_iald hc dX2_takeCue_47 hA.2.2.2.1 (by omega) (by omega) (by omega) ?_
  refine z_isub hc dX2_takeCue_48 ?_
  refine z_iadd hc dX2_takeCue_49 ?_
  refine n_putf hc ho dX2_takeCue_50 F_X2_96 hA hfr (by decide) (by decide) ⟨rfl, rfl⟩ (fun h i_4 g_4 k_4 hA hfr => ?_)
  have hk_4 := fun u (hu : u ≠ 9) => k_4 u hu
  have k_4_3 := k_4 3 (by decide)
  have k_4_4 := k_4 4 (by decide)
  have k_4_5 := k_4 5 (by decide)
  have k_4_6 := k_4 6 (by decide)
  have k_4_7 := k_4 7 (by decide)
  have k_4_8 := k_4 8 (by decide)
  have k_4_10 := k_4 10 (by decide)
  have k_4_11 := k_4 11 (by decide)
  have k_4_12 := k_4 12 (by decide)
  obtain ⟨mc, hjo, -⟩ := id hA.2.1.1
  refine v_aload_n hc dX2_takeCue_53 rfl ?_
  refine v_aload_n hc dX2_takeCue_54 rfl ?_
  refine v_get hc ho dX2_takeCue_55 F_X2_15 hA.2.2.1 rfl ?_
  refine v_iload_n hc dX2_takeCue_58 rfl ?_
  skip
  refine v_callV (As := [.int (zI (i 3 + 1))]) hc ho dX2_takeCue_59 KV_X2_99 KB_Jx4a65c_get_915e3 hjo rfl rfl (c_Jx4a65c_get_915e3 _ _ hA.2.1.1 (x := i 3 + 1) (by omega)) rfl (Nat.le_of_ble_eq_true rfl) ⟨by omega, by omega⟩ ⟨by omega, by omega⟩ (fun r_ h_ sz_ q_ z_ => ?_)
  obtain ⟨rfl, eh_, es_⟩ := q_
  have eh_ := eh_.symm
  subst eh_
  have es_ := es_.symm
  subst es_
  rw [show (i 3 + 1).toNat = k + 1 by omega]
  refine v_cast hc ho dX2_takeCue_62 rfl CLk_X2_28 (hA.2.1.2.2.2.2.2 _ hk1).1.1 ?_
  refine v_callV (As := [.ref (pt (k + 1))]) hc ho dX2_takeCue_65 KV_X2_19 KB_X2_enter hA.2.2.1 rfl rfl (c_X2_enter _ _ hA hk1 hpb (by unfold zb; omega)) rfl (Nat.le_of_ble_eq_true rfl) ⟨by omega, by omega⟩ ⟨by omega, by omega⟩ (fun r_ h_ sz_ q_ z_ => ?_)
  obtain ⟨rfl, es_, i9, hA9, g4, g5, g6, gck, hfr9⟩ := q_
  have es_ := es_.symm
  subst es_
  refine v_vret M dX2_takeCue_68 (by omega) (by omega) ?_
  refine ⟨rfl, rfl, i9, hA9, ?_, ?_, ?_, g5, ?_, fun u hu => ?_, fun b q1 q2 => (hfr9 b q1 q2).trans (hfr b q1 q2)⟩
  · rw [gck 3 (by decide)]; omega
  · rw [gck 9 (by decide)]; omega
  · omega
  · rw [g6, show (i 3 + 1).toNat = k + 1 by omega]
  · simp only [List.mem_cons, List.not_mem_nil, or_false, not_or] at hu
    rw [gck u (by simp only [List.mem_cons, List.not_mem_nil, or_false, not_or]; omega), k_4 u (by omega), k_3 u (by omega)]
set_option maxHeartbeats 4000000 in
theorem c_X2_turn (l : Launch) (G : b_G) {h : b_H} {sz : Nat} {lb : Nat → Nat} {L n : Nat} {O : Nat → Nat} {D : Nat → Nat → Nat} {I : Nat → Nat → Int} {A : Nat → Nat → Nat → Int} {fo fa nf : Nat} {pt RA RB LN : Nat → Nat} {PI PR PB : Nat → Nat → Int} {o sa : Nat} {i s : Nat → Int} {k : Nat} (hA : n_A G lb L n O D I A fo fa nf pt RA RB LN PI PR PB o sa (.ref (pt k)) i s h) (hk : k < nf) (hk3 : i 3 = (k : Int)) (hN : n_J nf LN PI i s) (hpb : ∀ p, 0 ≤ I (p + 20) 5 ∧ I (p + 20) 5 ≤ 2000000000)  : Con l G yX2_turn cX2_turn 1 none 4 85 0 0 [.ref o] h sz (fun r h2 s2 => r = none ∧ s2 = sz ∧ ∃ I2 i2, n_A G lb L n O D I2 A fo fa nf pt RA RB LN PI PR PB o sa (.ref (pt (i2 3).toNat)) i2 s h2 ∧ n_tn nf LN PI PB s I i I2 i2 ∧ n_fr lb n h2 h) := by
  refine Con.ofK (by decide +kernel) rfl rfl ?_
  intro S M
  have hc := M.2.2.2.1
  have ho : s_own S = RX2 := M.2.2.1
  have hFr : (s_R S).frames = 4 := by rw [M.2.2.2.2.2.2.2.1]
  have hLo : (s_R S).locals = 85 := by rw [M.2.2.2.2.2.2.2.1]
  have hCe : (s_R S).cells = 0 := by rw [M.2.2.2.2.2.2.2.1]
  have hSl : (s_R S).slots = 0 := by rw [M.2.2.2.2.2.2.2.1]
  have hG : s_G S = G := M.2.1
  subst hG
  have hfr : n_fr lb n h h := fun _ _ _ => rfl
  obtain ⟨hti0, hti2, hti5, hti8, htiB, htiR, htix, hti1, hti3, hti4⟩ := id (hA.2.1.2.2.2.2.2 _ hk).2.1
  obtain ⟨mc, hjo, -⟩ := id hA.2.1.1
  obtain ⟨hn1, hn2, hn3, hn4, hn6, hn7, hn8, hn9, hn10, hn11, hn12⟩ := id hN
  rw [show (i 3).toNat = k by omega] at hn4
  refine v_aload_n hc dX2_turn_0 rfl ?_
  refine v_get hc ho dX2_turn_1 F_X2_72 hA.2.2.1 rfl ?_
  refine v_aload_n hc dX2_turn_4 rfl ?_
  refine v_get hc ho dX2_turn_5 F_X2_75 hA.2.2.1 rfl ?_
  refine z_icmp_le (tgt := 32) hc dX2_turn_8 (by decide) (by first | assumption | exact hi _ | exact ha _ _ | (unfold zb; omega)) (by first | assumption | exact hi _ | exact ha _ _ | (unfold zb; omega)) (fun c_1 => ?_) (fun c_1 => ?_)
  · refine v_aload_n hc dX2_turn_32 rfl ?_
    refine v_get hc ho dX2_turn_33 F_X2_23 hA.2.2.1 rfl ?_
    refine v_aload_n hc dX2_turn_36 rfl ?_
    refine v_get hc ho dX2_turn_37 F_X2_45 hA.2.2.1 rfl ?_
    refine z_iconst hc dX2_turn_40 ?_
    refine z_iadd hc dX2_turn_41 ?_
    refine v_callV (As := [.int (zI (i 5 + 1))]) hc ho dX2_turn_42 KV_X2_85 KB_X3_hasPlace (hA.2.1.2.2.2.2.2 _ hk).1.1 rfl rfl (c_X3_hasPlace _ _ (hA.2.1.2.2.2.2.2 _ hk).1 (hA.2.1.2.2.2.2.2 _ hk).2.1 (x := i 5 + 1) (by unfold zb; omega)) rfl (Nat.le_of_ble_eq_true rfl) ⟨by omega, by omega⟩ ⟨by omega, by omega⟩ (fun r_ h_ sz_ q_ z_ => ?_)
    obtain ⟨rfl, eh_, es_⟩ := q_
    have eh_ := eh_.symm
    subst eh_
    have es_ := es_.symm
    subst es_
    have hb02 := bI_or (0 ≤ i 5 + 1 ∧ i 5 + 1 < LN k)
    generalize bI (0 ≤ i 5 + 1 ∧ i 5 + 1 < LN k) = bp2 at hb02 ⊢
    refine z_if_eq (tgt := 81) hc dX2_turn_45 (by decide) (by first | assumption | exact hi _ | exact ha _ _ | (unfold zb; omega)) (fun c_2 => ?_) (fun c_2 => ?_)
    · refine v_aload_n hc dX2_turn_81 rfl ?_
      refine v_get hc ho dX2_turn_82 F_X2_75 hA.2.2.1 rfl ?_
      refine z_iconst hc dX2_turn_85 ?_
      refine z_iadd hc dX2_turn_86 ?_
      refine v_aload_n hc dX2_turn_87 rfl ?_
      refine v_get hc ho dX2_turn_88 F_X2_15 hA.2.2.1 rfl ?_
      refine v_callV (As := []) hc ho dX2_turn_91 KV_X2_88 KB_Jx4a65c_size_8abf5 hjo rfl rfl (c_Jx4a65c_size_8abf5 _ _ hA.2.1.1) rfl (Nat.le_of_ble_eq_true rfl) ⟨by omega, by omega⟩ ⟨by omega, by omega⟩ (fun r_ h_ sz_ q_ z_ => ?_)
      obtain ⟨rfl, eh_, es_⟩ := q_
      have eh_ := eh_.symm
      subst eh_
      have es_ := es_.symm
      subst es_
      refine z_icmp_lt (tgt := 105) hc dX2_turn_94 (by decide) (by first | assumption | exact hi _ | exact ha _ _ | (unfold zb; omega)) (by first | assumption | exact hi _ | exact ha _ _ | (unfold zb; omega)) (fun c_3 => ?_) (fun c_3 => ?_)
      · refine v_aload_n hc dX2_turn_105 rfl ?_
        refine v_dup hc dX2_turn_106 rfl ?_
        refine v_get hc ho dX2_turn_107 F_X2_93 hA.2.2.1 rfl ?_
        refine z_iconst hc dX2_turn_110 ?_
        refine z_iadd hc dX2_turn_111 ?_
        refine n_putf hc ho dX2_turn_112 F_X2_93 hA hfr (by decide) (by decide) ⟨rfl, rfl⟩ (fun h i_4 g_4 k_4 hA hfr => ?_)
        have hk_4 := fun u (hu : u ≠ 8) => k_4 u hu
        have k_4_3 := k_4 3 (by decide)
        have k_4_4 := k_4 4 (by decide)
        have k_4_5 := k_4 5 (by decide)
        have k_4_6 := k_4 6 (by decide)
        have k_4_7 := k_4 7 (by decide)
        have k_4_9 := k_4 9 (by decide)
        have k_4_10 := k_4 10 (by decide)
        have k_4_11 := k_4 11 (by decide)
        have k_4_12 := k_4 12 (by decide)
        refine v_aload_n hc dX2_turn_115 rfl ?_
        refine v_dup hc dX2_turn_116 rfl ?_
        refine v_get hc ho dX2_turn_117 F_X2_52 hA.2.2.1 rfl ?_
        refine v_aload_n hc dX2_turn_120 rfl ?_
        refine v_get hc ho dX2_turn_121 F_X2_23 hA.2.2.1 rfl ?_
        refine v_aload_n hc dX2_turn_124 rfl ?_
        refine v_get hc ho dX2_turn_125 F_X2_45 hA.2.2.1 rfl ?_
        refine v_callV (As := [.int (zI (i_4 5))]) hc ho dX2_turn_128 KV_X2_48 KB_X3_beatsAt (hA.2.1.2.2.2.2.2 _ hk).1.1 rfl rfl (c_X3_beatsAt _ _ (hA.2.1.2.2.2.2.2 _ hk).1 (hA.2.1.2.2.2.2.2 _ hk).2.1 (x := i_4 5) (by unfold zb; omega)) rfl (Nat.le_of_ble_eq_true rfl) ⟨by omega, by omega⟩ ⟨by omega, by omega⟩ (fun r_ h_ sz_ q_ z_ => ?_)
        obtain ⟨rfl, eh_, es_⟩ := q_
        have eh_ := eh_.symm
        subst eh_
        have es_ := es_.symm
        subst es_
        rw [if_pos (show 0 ≤ i_4 5 ∧ i_4 5 < (LN k : Int) by omega)]
        have hbb := htiB (i_4 5).toNat (by omega)
        refine z_iadd hc dX2_turn_131 ?_
        refine n_putf hc ho dX2_turn_132 F_X2_52 hA hfr (by decide) (by decide) ⟨rfl, rfl⟩ (fun h i_5 g_5 k_5 hA hfr => ?_)
        have hk_5 := fun u (hu : u ≠ 6) => k_5 u hu
        have k_5_3 := k_5 3 (by decide)
        have k_5_4 := k_5 4 (by decide)
        have k_5_5 := k_5 5 (by decide)
        have k_5_7 := k_5 7 (by decide)
        have k_5_8 := k_5 8 (by decide)
        have k_5_9 := k_5 9 (by decide)
        have k_5_10 := k_5 10 (by decide)
        have k_5_11 := k_5 11 (by decide)
        have k_5_12 := k_5 12 (by decide)
        refine v_vret M dX2_turn_135 (by omega) (by omega) ?_
        refine ⟨rfl, rfl, I, i_5, by rw [show (i_5 3).toNat = k by omega]; exact hA, Or.inr ⟨fun w => ?_, rfl, Or.inr (Or.inr ⟨?_, ?_, ?_, ?_, fun u hu => ?_⟩)⟩, hfr⟩
        · rw [hk3, Int.toNat_natCast] at w; omega
        · rw [hk3, Int.toNat_natCast]; omega
        · omega
        · omega
        · rw [hk3, Int.toNat_natCast]; rw [g_5, show i_4 5 = i 5 by omega, show i_4 6 = i 6 by omega]
        · simp only [List.mem_cons, List.not_mem_nil, or_false, not_or] at hu
          rw [k_5 u (by omega), k_4 u (by omega)]
      · refine v_aload_n hc dX2_turn_97 rfl ?_
        refine z_iconst hc dX2_turn_98 ?_
        refine n_putf hc ho dX2_turn_99 F_X2_55 hA hfr (by decide) (by decide) ⟨rfl, rfl⟩ (fun h i_6 g_6 k_6 hA hfr => ?_)
        have hk_6 := fun u (hu : u ≠ 11) => k_6 u hu
        have k_6_3 := k_6 3 (by decide)
        have k_6_4 := k_6 4 (by decide)
        have k_6_5 := k_6 5 (by decide)
        have k_6_6 := k_6 6 (by decide)
        have k_6_7 := k_6 7 (by decide)
        have k_6_8 := k_6 8 (by decide)
        have k_6_9 := k_6 9 (by decide)
        have k_6_10 := k_6 10 (by decide)
        have k_6_12 := k_6 12 (by decide)
        skip
        refine v_goto (tgt := 135) hc dX2_turn_102 (by decide) ?_
        refine v_vret M dX2_turn_135 (by omega) (by omega) ?_
        refine ⟨rfl, rfl, I, i_6, by rw [show (i_6 3).toNat = k by omega]; exact hA, Or.inr ⟨fun w => ?_, rfl, Or.inr (Or.inl ⟨?_, ?_, ?_, fun u hu => ?_⟩)⟩, hfr⟩
        · rw [hk3, Int.toNat_natCast] at w; omega
        · rw [hk3, Int.toNat_natCast]; omega
        · omega
        · exact g_6
        · simp only [List.mem_cons, List.not_mem_nil, or_false, not_or] at hu
          rw [k_6 u (by omega)]
    · refine v_aload_n hc dX2_turn_48 rfl ?_
      refine v_dup hc dX2_turn_49 rfl ?_
      refine v_get hc ho dX2_turn_50 F_X2_45 hA.2.2.1 rfl ?_
      refine z_iconst hc dX2_turn_53 ?_
      refine z_iadd hc dX2_turn_54 ?_
      refine n_putf hc ho dX2_turn_55 F_X2_45 hA hfr (by decide) (by decide) ⟨rfl, rfl⟩ (fun h i_7 g_7 k_7 hA hfr => ?_)
      have hk_7 := fun u (hu : u ≠ 5) => k_7 u hu
      have k_7_3 := k_7 3 (by decide)
      have k_7_4 := k_7 4 (by decide)
      have k_7_6 := k_7 6 (by decide)
      have k_7_7 := k_7 7 (by decide)
      have k_7_8 := k_7 8 (by decide)
      have k_7_9 := k_7 9 (by decide)
      have k_7_10 := k_7 10 (by decide)
      have k_7_11 := k_7 11 (by decide)
      have k_7_12 := k_7 12 (by decide)
      refine v_aload_n hc dX2_turn_58 rfl ?_
      refine v_dup hc dX2_turn_59 rfl ?_
      refine v_get hc ho dX2_turn_60 F_X2_52 hA.2.2.1 rfl ?_
      refine v_aload_n hc dX2_turn_63 rfl ?_
      refine v_get hc ho dX2_turn_64 F_X2_23 hA.2.2.1 rfl ?_
      refine v_aload_n hc dX2_turn_67 rfl ?_
      refine v_get hc ho dX2_turn_68 F_X2_45 hA.2.2.1 rfl ?_
      refine v_callV (As := [.int (zI (i_7 5))]) hc ho dX2_turn_71 KV_X2_48 KB_X3_beatsAt (hA.2.1.2.2.2.2.2 _ hk).1.1 rfl rfl (c_X3_beatsAt _ _ (hA.2.1.2.2.2.2.2 _ hk).1 (hA.2.1.2.2.2.2.2 _ hk).2.1 (x := i_7 5) (by unfold zb; omega)) rfl (Nat.le_of_ble_eq_true rfl) ⟨by omega, by omega⟩ ⟨by omega, by omega⟩ (fun r_ h_ sz_ q_ z_ => ?_)
      obtain ⟨rfl, eh_, es_⟩ := q_
      have eh_ := eh_.symm
      subst eh_
      have es_ := es_.symm
      subst es_
      rw [if_pos (show 0 ≤ i_7 5 ∧ i_7 5 < (LN k : Int) by omega)]
      have hbb := htiB (i_7 5).toNat (by omega)
      refine z_iadd hc dX2_turn_74 ?_
      refine n_putf hc ho dX2_turn_75 F_X2_52 hA hfr (by decide) (by decide) ⟨rfl, rfl⟩ (fun h i_8 g_8 k_8 hA hfr => ?_)
      have hk_8 := fun u (hu : u ≠ 6) => k_8 u hu
      have k_8_3 := k_8 3 (by decide)
      have k_8_4 := k_8 4 (by decide)
      have k_8_5 := k_8 5 (by decide)
      have k_8_7 := k_8 7 (by decide)
      have k_8_8 := k_8 8 (by decide)
      have k_8_9 := k_8 9 (by decide)
      have k_8_10 := k_8 10 (by decide)
      have k_8_11 := k_8 11 (by decide)
      have k_8_12 := k_8 12 (by decide)
      skip
      refine v_goto (tgt := 135) hc dX2_turn_78 (by decide) ?_
      refine v_vret M dX2_turn_135 (by omega) (by omega) ?_
      refine ⟨rfl, rfl, I, i_8, by rw [show (i_8 3).toNat = k by omega]; exact hA, Or.inr ⟨fun w => ?_, rfl, Or.inl ⟨?_, ?_, ?_, fun u hu => ?_⟩⟩, hfr⟩
      · rw [hk3, Int.toNat_natCast] at w; omega
      · rw [hk3, Int.toNat_natCast]; omega
      · omega
      · rw [hk3, Int.toNat_natCast]; rw [g_8, g_7]; rw [show i_7 6 = i 6 by omega]
      · simp only [List.mem_cons, List.not_mem_nil, or_false, not_or] at hu
        rw [k_8 u (by omega), k_7 u (by omega)]
  · refine v_aload_n hc dX2_turn_11 rfl ?_
    refine v_get hc ho dX2_turn_12 F_X2_23 hA.2.2.1 rfl ?_
    refine v_aload_n hc dX2_turn_15 rfl ?_
    refine v_get hc ho dX2_turn_16 F_X2_45 hA.2.2.1 rfl ?_
    refine v_callV (As := [.int (zI (i 5))]) hc ho dX2_turn_19 KV_X2_78 KB_X3_isExitAt (hA.2.1.2.2.2.2.2 _ hk).1.1 rfl rfl (c_X3_isExitAt _ _ (hA.2.1.2.2.2.2.2 _ hk).1 (hA.2.1.2.2.2.2.2 _ hk).2.1 (x := i 5) (by unfold zb; omega)) rfl (Nat.le_of_ble_eq_true rfl) ⟨by omega, by omega⟩ ⟨by omega, by omega⟩ (fun r_ h_ sz_ q_ z_ => ?_)
    obtain ⟨rfl, eh_, es_⟩ := q_
    have eh_ := eh_.symm
    subst eh_
    have es_ := es_.symm
    subst es_
    have hb01 := bI_or ((0 ≤ i 5 ∧ i 5 < LN k) ∧ PI k 8 / 2 ^ (i 5).toNat % 2 = 1)
    generalize bI ((0 ≤ i 5 ∧ i 5 < LN k) ∧ PI k 8 / 2 ^ (i 5).toNat % 2 = 1) = bp at hb01 ⊢
    refine z_if_eq (tgt := 32) hc dX2_turn_22 (by decide) (by first | assumption | exact hi _ | exact ha _ _ | (unfold zb; omega)) (fun c_9 => ?_) (fun c_9 => ?_)
    · refine v_aload_n hc dX2_turn_32 rfl ?_
      refine v_get hc ho dX2_turn_33 F_X2_23 hA.2.2.1 rfl ?_
      refine v_aload_n hc dX2_turn_36 rfl ?_
      refine v_get hc ho dX2_turn_37 F_X2_45 hA.2.2.1 rfl ?_
      refine z_iconst hc dX2_turn_40 ?_
      refine z_iadd hc dX2_turn_41 ?_
      refine v_callV (As := [.int (zI (i 5 + 1))]) hc ho dX2_turn_42 KV_X2_85 KB_X3_hasPlace (hA.2.1.2.2.2.2.2 _ hk).1.1 rfl rfl (c_X3_hasPlace _ _ (hA.2.1.2.2.2.2.2 _ hk).1 (hA.2.1.2.2.2.2.2 _ hk).2.1 (x := i 5 + 1) (by unfold zb; omega)) rfl (Nat.le_of_ble_eq_true rfl) ⟨by omega, by omega⟩ ⟨by omega, by omega⟩ (fun r_ h_ sz_ q_ z_ => ?_)
      obtain ⟨rfl, eh_, es_⟩ := q_
      have eh_ := eh_.symm
      subst eh_
      have es_ := es_.symm
      subst es_
      have hb02 := bI_or (0 ≤ i 5 + 1 ∧ i 5 + 1 < LN k)
      generalize bI (0 ≤ i 5 + 1 ∧ i 5 + 1 < LN k) = bp2 at hb02 ⊢
      refine z_if_eq (tgt := 81) hc dX2_turn_45 (by decide) (by first | assumption | exact hi _ | exact ha _ _ | (unfold zb; omega)) (fun c_10 => ?_) (fun c_10 => ?_)
      · refine v_aload_n hc dX2_turn_81 rfl ?_
        refine v_get hc ho dX2_turn_82 F_X2_75 hA.2.2.1 rfl ?_
        refine z_iconst hc dX2_turn_85 ?_
        refine z_iadd hc dX2_turn_86 ?_
        refine v_aload_n hc dX2_turn_87 rfl ?_
        refine v_get hc ho dX2_turn_88 F_X2_15 hA.2.2.1 rfl ?_
        refine v_callV (As := []) hc ho dX2_turn_91 KV_X2_88 KB_Jx4a65c_size_8abf5 hjo rfl rfl (c_Jx4a65c_size_8abf5 _ _ hA.2.1.1) rfl (Nat.le_of_ble_eq_true rfl) ⟨by omega, by omega⟩ ⟨by omega, by omega⟩ (fun r_ h_ sz_ q_ z_ => ?_)
        obtain ⟨rfl, eh_, es_⟩ := q_
        have eh_ := eh_.symm
        subst eh_
        have es_ := es_.symm
        subst es_
        refine z_icmp_lt (tgt := 105) hc dX2_turn_94 (by decide) (by first | assumption | exact hi _ | exact ha _ _ | (unfold zb; omega)) (by first | assumption | exact hi _ | exact ha _ _ | (unfold zb; omega)) (fun c_11 => ?_) (fun c_11 => ?_)
        · refine v_aload_n hc dX2_turn_105 rfl ?_
          refine v_dup hc dX2_turn_106 rfl ?_
          refine v_get hc ho dX2_turn_107 F_X2_93 hA.2.2.1 rfl ?_
          refine z_iconst hc dX2_turn_110 ?_
          refine z_iadd hc dX2_turn_111 ?_
          refine n_putf hc ho dX2_turn_112 F_X2_93 hA hfr (by decide) (by decide) ⟨rfl, rfl⟩ (fun h i_12 g_12 k_12 hA hfr => ?_)
          have hk_12 := fun u (hu : u ≠ 8) => k_12 u hu
          have k_12_3 := k_12 3 (by decide)
          have k_12_4 := k_12 4 (by decide)
          have k_12_5 := k_12 5 (by decide)
          have k_12_6 := k_12 6 (by decide)
          have k_12_7 := k_12 7 (by decide)
          have k_12_9 := k_12 9 (by decide)
          have k_12_10 := k_12 10 (by decide)
          have k_12_11 := k_12 11 (by decide)
          have k_12_12 := k_12 12 (by decide)
          refine v_aload_n hc dX2_turn_115 rfl ?_
          refine v_dup hc dX2_turn_116 rfl ?_
          refine v_get hc ho dX2_turn_117 F_X2_52 hA.2.2.1 rfl ?_
          refine v_aload_n hc dX2_turn_120 rfl ?_
          refine v_get hc ho dX2_turn_121 F_X2_23 hA.2.2.1 rfl ?_
          refine v_aload_n hc dX2_turn_124 rfl ?_
          refine v_get hc ho dX2_turn_125 F_X2_45 hA.2.2.1 rfl ?_
          refine v_callV (As := [.int (zI (i_12 5))]) hc ho dX2_turn_128 KV_X2_48 KB_X3_beatsAt (hA.2.1.2.2.2.2.2 _ hk).1.1 rfl rfl (c_X3_beatsAt _ _ (hA.2.1.2.2.2.2.2 _ hk).1 (hA.2.1.2.2.2.2.2 _ hk).2.1 (x := i_12 5) (by unfold zb; omega)) rfl (Nat.le_of_ble_eq_true rfl) ⟨by omega, by omega⟩ ⟨by omega, by omega⟩ (fun r_ h_ sz_ q_ z_ => ?_)
          obtain ⟨rfl, eh_, es_⟩ := q_
          have eh_ := eh_.symm
          subst eh_
          have es_ := es_.symm
          subst es_
          rw [if_pos (show 0 ≤ i_12 5 ∧ i_12 5 < (LN k : Int) by omega)]
          have hbb := htiB (i_12 5).toNat (by omega)
          refine z_iadd hc dX2_turn_131 ?_
          refine n_putf hc ho dX2_turn_132 F_X2_52 hA hfr (by decide) (by decide) ⟨rfl, rfl⟩ (fun h i_13 g_13 k_13 hA hfr => ?_)
          have hk_13 := fun u (hu : u ≠ 6) => k_13 u hu
          have k_13_3 := k_13 3 (by decide)
          have k_13_4 := k_13 4 (by decide)
          have k_13_5 := k_13 5 (by decide)
          have k_13_7 := k_13 7 (by decide)
          have k_13_8 := k_13 8 (by decide)
          have k_13_9 := k_13 9 (by decide)
          have k_13_10 := k_13 10 (by decide)
          have k_13_11 := k_13 11 (by decide)
          have k_13_12 := k_13 12 (by decide)
          refine v_vret M dX2_turn_135 (by omega) (by omega) ?_
          refine ⟨rfl, rfl, I, i_13, by rw [show (i_13 3).toNat = k by omega]; exact hA, Or.inr ⟨fun w => ?_, rfl, Or.inr (Or.inr ⟨?_, ?_, ?_, ?_, fun u hu => ?_⟩)⟩, hfr⟩
          · rw [hk3, Int.toNat_natCast] at w; omega
          · rw [hk3, Int.toNat_natCast]; omega
          · omega
          · omega
          · rw [hk3, Int.toNat_natCast]; rw [g_13, show i_12 5 = i 5 by omega, show i_12 6 = i 6 by omega]
          · simp only [List.mem_cons, List.not_mem_nil, or_false, not_or] at hu
            rw [k_13 u (by omega), k_12 u (by omega)]
        · refine v_aload_n hc dX2_turn_97 rfl ?_
          refine z_iconst hc dX2_turn_98 ?_
          refine n_putf hc ho dX2_turn_99 F_X2_55 hA hfr (by decide) (by decide) ⟨rfl, rfl⟩ (fun h i_14 g_14 k_14 hA hfr => ?_)
          have hk_14 := fun u (hu : u ≠ 11) => k_14 u hu
          have k_14_3 := k_14 3 (by decide)
          have k_14_4 := k_14 4 (by decide)
          have k_14_5 := k_14 5 (by decide)
          have k_14_6 := k_14 6 (by decide)
          have k_14_7 := k_14 7 (by decide)
          have k_14_8 := k_14 8 (by decide)
          have k_14_9 := k_14 9 (by decide)
          have k_14_10 := k_14 10 (by decide)
          have k_14_12 := k_14 12 (by decide)
          skip
          refine v_goto (tgt := 135) hc dX2_turn_102 (by decide) ?_
          refine v_vret M dX2_turn_135 (by omega) (by omega) ?_
          refine ⟨rfl, rfl, I, i_14, by rw [show (i_14 3).toNat = k by omega]; exact hA, Or.inr ⟨fun w => ?_, rfl, Or.inr (Or.inl ⟨?_, ?_, ?_, fun u hu => ?_⟩)⟩, hfr⟩
          · rw [hk3, Int.toNat_natCast] at w; omega
          · rw [hk3, Int.toNat_natCast]; omega
          · omega
          · exact g_14
          · simp only [List.mem_cons, List.not_mem_nil, or_false, not_or] at hu
            rw [k_14 u (by omega)]
      · refine v_aload_n hc dX2_turn_48 rfl ?_
        refine v_dup hc dX2_turn_49 rfl ?_
        refine v_get hc ho dX2_turn_50 F_X2_45 hA.2.2.1 rfl ?_
        refine z_iconst hc dX2_turn_53 ?_
        refine z_iadd hc dX2_turn_54 ?_
        refine n_putf hc ho dX2_turn_55 F_X2_45 hA hfr (by decide) (by decide) ⟨rfl, rfl⟩ (fun h i_15 g_15 k_15 hA hfr => ?_)
        have hk_15 := fun u (hu : u ≠ 5) => k_15 u hu
        have k_15_3 := k_15 3 (by decide)
        have k_15_4 := k_15 4 (by decide)
        have k_15_6 := k_15 6 (by decide)
        have k_15_7 := k_15 7 (by decide)
        have k_15_8 := k_15 8 (by decide)
        have k_15_9 := k_15 9 (by decide)
        have k_15_10 := k_15 10 (by decide)
        have k_15_11 := k_15 11 (by decide)
        have k_15_12 := k_15 12 (by decide)
        refine v_aload_n hc dX2_turn_58 rfl ?_
        refine v_dup hc dX2_turn_59 rfl ?_
        refine v_get hc ho dX2_turn_60 F_X2_52 hA.2.2.1 rfl ?_
        refine v_aload_n hc dX2_turn_63 rfl ?_
        refine v_get hc ho dX2_turn_64 F_X2_23 hA.2.2.1 rfl ?_
        refine v_aload_n hc dX2_turn_67 rfl ?_
        refine v_get hc ho dX2_turn_68 F_X2_45 hA.2.2.1 rfl ?_
        refine v_callV (As := [.int (zI (i_15 5))]) hc ho dX2_turn_71 KV_X2_48 KB_X3_beatsAt (hA.2.1.2.2.2.2.2 _ hk).1.1 rfl rfl (c_X3_beatsAt _ _ (hA.2.1.2.2.2.2.2 _ hk).1 (hA.2.1.2.2.2.2.2 _ hk).2.1 (x := i_15 5) (by unfold zb; omega)) rfl (Nat.le_of_ble_eq_true rfl) ⟨by omega, by omega⟩ ⟨by omega, by omega⟩ (fun r_ h_ sz_ q_ z_ => ?_)
        obtain ⟨rfl, eh_, es_⟩ := q_
        have eh_ := eh_.symm
        subst eh_
        have es_ := es_.symm
        subst es_
        rw [if_pos (show 0 ≤ i_15 5 ∧ i_15 5 < (LN k : Int) by omega)]
        have hbb := htiB (i_15 5).toNat (by omega)
        refine z_iadd hc dX2_turn_74 ?_
        refine n_putf hc ho dX2_turn_75 F_X2_52 hA hfr (by decide) (by decide) ⟨rfl, rfl⟩ (fun h i_16 g_16 k_16 hA hfr => ?_)
        have hk_16 := fun u (hu : u ≠ 6) => k_16 u hu
        have k_16_3 := k_16 3 (by decide)
        have k_16_4 := k_16 4 (by decide)
        have k_16_5 := k_16 5 (by decide)
        have k_16_7 := k_16 7 (by decide)
        have k_16_8 := k_16 8 (by decide)
        have k_16_9 := k_16 9 (by decide)
        have k_16_10 := k_16 10 (by decide)
        have k_16_11 := k_16 11 (by decide)
        have k_16_12 := k_16 12 (by decide)
        skip
        refine v_goto (tgt := 135) hc dX2_turn_78 (by decide) ?_
        refine v_vret M dX2_turn_135 (by omega) (by omega) ?_
        refine ⟨rfl, rfl, I, i_16, by rw [show (i_16 3).toNat = k by omega]; exact hA, Or.inr ⟨fun w => ?_, rfl, Or.inl ⟨?_, ?_, ?_, fun u hu => ?_⟩⟩, hfr⟩
        · rw [hk3, Int.toNat_natCast] at w; omega
        · rw [hk3, Int.toNat_natCast]; omega
        · omega
        · rw [hk3, Int.toNat_natCast]; rw [g_16, g_15]; rw [show i_15 6 = i 6 by omega]
        · simp only [List.mem_cons, List.not_mem_nil, or_false, not_or] at hu
          rw [k_16 u (by omega), k_15 u (by omega)]
    · refine v_aload_n hc dX2_turn_25 rfl ?_
      refine v_callV (As := []) hc ho dX2_turn_26 KV_X2_82 KB_X2_takeCue hA.2.2.1 rfl rfl (c_X2_takeCue _ _ hA hk hk3 (by omega) hN hpb) rfl (Nat.le_of_ble_eq_true rfl) ⟨by omega, by omega⟩ ⟨by omega, by omega⟩ (fun r_ h_ sz_ q_ z_ => ?_)
      obtain ⟨rfl, es_, i9, hA9, g3, g9, g4, g5, g6, gck, hfr9⟩ := q_
      have es_ := es_.symm
      subst es_
      skip
      refine v_goto (tgt := 135) hc dX2_turn_29 (by decide) ?_
      refine v_vret M dX2_turn_135 (by omega) (by omega) ?_
      refine ⟨rfl, rfl, _, i9, by rw [show (i9 3).toNat = k + 1 by omega]; exact hA9, Or.inl ⟨⟨by omega, by rw [hk3, Int.toNat_natCast]; omega⟩, g3, g9, g4, g5, g6, gck, by rw [show (i 3 + 1).toNat = k + 1 by omega]⟩, hfr9⟩
theorem n_tn_ok {nf : Nat} {LN : Nat → Nat} {PI PB : Nat → Nat → Int} {s : Nat → Int} {I : Nat → Nat → Int} {i i1 : Nat → Int} {I2 : Nat → Nat → Int} {i2 : Nat → Int} (hT : ∀ k, k < nf → (1 ≤ LN k ∧ LN k ≤ 16) ∧ (1 ≤ PI k 2 ∧ PI k 2 ≤ 400) ∧ (PI k 2 ≤ PI k 5 ∧ PI k 5 ≤ 240000) ∧ ∀ j, j < LN k → 1 ≤ PB k j ∧ PB k j ≤ 64) (hN : n_I nf LN PI i s) (h11 : i 11 = 0) (h7 : i1 7 = i 7 + 1) (hck : n_ck i i1 [7]) (h7b : i 7 < 400000) : (n_dn PI i1 < i1 6 → n_I nf LN PI i1 s) ∧ (i1 6 ≤ n_dn PI i1 → n_tn nf LN PI PB s I i1 I2 i2 → n_I nf LN PI i2 s ∧ (i2 11 = 0 → n_dn PI i2 < i2 6)) := by
  obtain ⟨hn1, hn2, hn3, hn4, hn5, hn6, hn7, hn8, hn9, hn10, hn11, hn12⟩ := id hN
  have e3 := hck 3 (by decide)
  have e4 := hck 4 (by decide)
  have e5 := hck 5 (by decide)
  have e6 := hck 6 (by decide)
  have e8 := hck 8 (by decide)
  have e9 := hck 9 (by decide)
  have e10 := hck 10 (by decide)
  have e11 := hck 11 (by decide)
  have e12 := hck 12 (by decide)
  obtain ⟨t0, t2, t5, tB⟩ := hT (i 3).toNat (by omega)
  have hd := n_dn_bd (b := PI (i 3).toNat 2) (T := PI (i 3).toNat 5) (x := i 7 - i 4) (by omega) (by omega) (by omega)
  have hd1 : n_dn PI i1 = (i 7 - i 4 + 1) * PI (i 3).toNat 2 / PI (i 3).toNat 5 := by rw [n_dn, e3, e4, h7, show i 7 + 1 - i 4 = i 7 - i 4 + 1 by omega]
  have hd0 : n_dn PI i = (i 7 - i 4) * PI (i 3).toNat 2 / PI (i 3).toNat 5 := rfl
  have hdd := n_dn_bd (b := PI (i 3).toNat 2) (T := PI (i 3).toNat 5) (x := i 7 - i 4 + 1) (by omega) (by omega) (by omega)
  have hlt := hn5 h11
  rw [← hd1] at hd hdd
  rw [← hd0] at hd
  refine ⟨fun q => ⟨hn1, by rw [e3]; exact hn2, by omega, by rw [e3, e5]; exact hn4, fun _ => q, by omega, by omega, by rw [e3, e9]; exact hn8, by omega, by omega, by omega, fun j => ⟨(hn12 j).1, by have := (hn12 j).2; omega⟩⟩, fun q hq => ?_⟩
  have hq6 : n_dn PI i1 = i 6 := by omega
  rcases hq with ⟨⟨g0, -⟩, g3, g9, g4, g5, g6, gck, -⟩ | ⟨-, -, ⟨g0, g5, g6, gck⟩ | ⟨g0, g1, g11, gck⟩ | ⟨g0, g1, g8, g6, gck⟩⟩
  · have f7 := gck 7 (by decide)
    have f8 := gck 8 (by decide)
    have f10 := gck 10 (by decide)
    have f11 := gck 11 (by decide)
    have f12 := gck 12 (by decide)
    obtain ⟨u0, u2, u5, uB⟩ := hT (i1 3 + 1).toNat (by omega)
    have uB0 := uB 0 (by omega)
    have hsj := hn12 (i1 3 + 1).toNat
    have hz : n_dn PI i2 = 0 := by rw [n_dn, g4, f7, Int.sub_self, Int.zero_mul, Int.zero_ediv]
    refine ⟨⟨hn1, by omega, by omega, by rw [g3, g5]; omega, fun _ => by omega, by omega, by omega, by rw [g3]; omega, by omega, by omega, by omega, fun j => ⟨(hn12 j).1, by have := (hn12 j).2; omega⟩⟩, fun _ => by omega⟩
  · have f3 := gck 3 (by decide)
    have f4 := gck 4 (by decide)
    have f7 := gck 7 (by decide)
    have f8 := gck 8 (by decide)
    have f9 := gck 9 (by decide)
    have f10 := gck 10 (by decide)
    have f11 := gck 11 (by decide)
    have f12 := gck 12 (by decide)
    have hsame : n_dn PI i2 = n_dn PI i1 := by rw [n_dn, n_dn, f3, f4, f7]
    rw [e3] at g0 g6
    have hb := tB (i1 5 + 1).toNat (by omega)
    refine ⟨⟨hn1, by omega, by omega, by rw [f3, e3, g5]; omega, fun _ => by omega, by omega, by omega, by rw [f3, e3]; omega, by omega, by omega, by omega, fun j => ⟨(hn12 j).1, by have := (hn12 j).2; omega⟩⟩, fun _ => by omega⟩
  · have f3 := gck 3 (by decide)
    have f4 := gck 4 (by decide)
    have f5 := gck 5 (by decide)
    have f6 := gck 6 (by decide)
    have f7 := gck 7 (by decide)
    have f8 := gck 8 (by decide)
    have f9 := gck 9 (by decide)
    have f10 := gck 10 (by decide)
    have f12 := gck 12 (by decide)
    refine ⟨⟨hn1, by omega, by omega, by rw [f3, e3, f5, e5]; exact hn4, fun _ => by omega, by omega, by omega, by rw [f3, e3]; omega, by omega, by omega, by omega, fun j => ⟨(hn12 j).1, by have := (hn12 j).2; omega⟩⟩, fun _ => by omega⟩
  · have f3 := gck 3 (by decide)
    have f4 := gck 4 (by decide)
    have f5 := gck 5 (by decide)
    have f7 := gck 7 (by decide)
    have f9 := gck 9 (by decide)
    have f10 := gck 10 (by decide)
    have f11 := gck 11 (by decide)
    have f12 := gck 12 (by decide)
    have hsame : n_dn PI i2 = n_dn PI i1 := by rw [n_dn, n_dn, f3, f4, f7]
    rw [e3] at g6
    have hb := tB (i1 5).toNat (by omega)
    refine ⟨⟨hn1, by omega, by omega, by rw [f3, e3, f5, e5]; exact hn4, fun _ => by omega, by omega, by omega, by rw [f3, e3]; omega, by omega, by omega, by omega, fun j => ⟨(hn12 j).1, by have := (hn12 j).2; omega⟩⟩, fun _ => by omega⟩
theorem n_I.J {nf : Nat} {LN : Nat → Nat} {PI : Nat → Nat → Int} {i s : Nat → Int} (hN : n_I nf LN PI i s) : n_J nf LN PI i s := by
  obtain ⟨hn1, hn2, hn3, hn4, hn5, hn6, hn7, hn8, hn9, hn10, hn11, hn12⟩ := id hN
  exact ⟨hn1, hn2, hn3, hn4, hn6, hn7, hn8, hn9, hn10, hn11, hn12⟩
theorem n_I.T {G : b_G} {lb : Nat → Nat} {L n : Nat} {O : Nat → Nat} {D : Nat → Nat → Nat} {I : Nat → Nat → Int} {A : Nat → Nat → Nat → Int} {fo fa nf : Nat} {pt RA RB LN : Nat → Nat} {PI PR PB : Nat → Nat → Int} {o sa : Nat} {pv : Value} {i s : Nat → Int} {h : b_H} (hA : n_A G lb L n O D I A fo fa nf pt RA RB LN PI PR PB o sa pv i s h) : ∀ k, k < nf → (1 ≤ LN k ∧ LN k ≤ 16) ∧ (1 ≤ PI k 2 ∧ PI k 2 ≤ 400) ∧ (PI k 2 ≤ PI k 5 ∧ PI k 5 ≤ 240000) ∧ ∀ j, j < LN k → 1 ≤ PB k j ∧ PB k j ≤ 64 := fun k hk => by
  obtain ⟨hti0, hti2, hti5, hti8, htiB, htiR, htix, hti1, hti3, hti4⟩ := id (hA.2.1.2.2.2.2.2 _ hk).2.1
  exact ⟨hti0, hti2, hti5, htiB⟩

