/-! what a programme gives to one stretch -/
theorem bI_or (p : Prop) [Decidable p] : bI p = 1 ∧ p ∨ bI p = 0 ∧ ¬ p := by
  unfold bI
  by_cases q : p
  · exact Or.inl ⟨if_pos q, q⟩
  · exact Or.inr ⟨if_neg q, q⟩
def t_fs (pc ra rb : Nat) (i : Nat → Int) : List Value := [.ref pc, .int (zI (i 1)), .int (zI (i 2)), .int (zI (i 3)), .int (zI (i 4)), .int (zI (i 5)), .ref ra, .ref rb, .int (zI (i 8))]
def t_O (o pc ra rb len : Nat) (i R B : Nat → Int) (h : b_H) : Prop := h o = some (b_ob 3 (t_fs pc ra rb i)) ∧ h ra = some (b_iA len R) ∧ h rb = some (b_iA len B)
def t_I (len : Nat) (i R B : Nat → Int) : Prop := (1 ≤ len ∧ len ≤ 16) ∧ (1 ≤ i 2 ∧ i 2 ≤ 400) ∧ (i 2 ≤ i 5 ∧ i 5 ≤ 240000) ∧ (0 ≤ i 8 ∧ i 8 < 65536) ∧ (∀ j, j < len → 1 ≤ B j ∧ B j ≤ 64) ∧ (∀ j, j < len → 0 ≤ R j ∧ R j ≤ 7) ∧ (∀ j, j < len → (i 8 / 2 ^ j % 2 = 0 ∨ i 8 / 2 ^ j % 2 = 1)) ∧ (0 ≤ i 1 ∧ i 1 ≤ 11) ∧ zb (i 3) ∧ zb (i 4)
theorem t_O.kept {o pc ra rb len : Nat} {i R B : Nat → Int} {h h1 : b_H} (hO : t_O o pc ra rb len i R B h) (h0 : h1 o = h o) (h2 : h1 ra = h ra) (h3 : h1 rb = h rb) : t_O o pc ra rb len i R B h1 := ⟨h0.trans hO.1, h2.trans hO.2.1, h3.trans hO.2.2⟩
theorem zI_or16 {e : Int} {n : Nat} (he : 0 ≤ e) (hn : n < 31) (h : e < 2 ^ n) : zI e ||| zI (1 * 2 ^ n) = zI (e + 2 ^ n) := by
  obtain ⟨x, rfl⟩ : ∃ x : Nat, e = x := ⟨e.toNat, by omega⟩
  have hx : x < 2 ^ n := by exact_mod_cast h
  have h1 : 2 ^ n ||| x = 2 ^ n + x := by
    have := Nat.two_pow_add_eq_or_of_lt hx 1
    rw [Nat.mul_one] at this
    exact this.symm
  have e1 : zI ((x : Int) + 2 ^ n) = zI ((2 ^ n ||| x : Nat) : Int) := by
    rw [h1]; congr 1; rw [Int.natCast_add, Int.natCast_pow]; exact Int.add_comm _ _
  have e2 : zI (1 * 2 ^ n) = zI ((2 ^ n : Nat) : Int) := by congr 1; rw [Int.one_mul, Int.natCast_pow]; rfl
  rw [e1, e2]
  apply Int32.toBitVec_inj.mp
  simp only [zI, Int32.toBitVec_or]
  show BitVec.ofInt 32 _ ||| BitVec.ofInt 32 _ = BitVec.ofInt 32 _
  rw [BitVec.ofInt_natCast, BitVec.ofInt_natCast, BitVec.ofInt_natCast, BitVec.ofNat_or]
  exact BitVec.or_comm _ _
theorem zI_or0 (e : Int) : zI e ||| zI 0 = zI e := by
  apply Int32.toBitVec_inj.mp
  simp only [zI, Int32.toBitVec_or]
  show BitVec.ofInt 32 _ ||| 0#32 = _
  rw [BitVec.or_zero]
  rfl
/-- bits as a number -/
def t_ex (c : Nat → Int) : Nat → Int
  | 0 => 0
  | n + 1 => t_ex c n + c n * 2 ^ n
theorem t_ex_bd {c : Nat → Int} : ∀ {n : Nat}, (∀ j, j < n → c j = 0 ∨ c j = 1) → 0 ≤ t_ex c n ∧ t_ex c n < 2 ^ n
  | 0, _ => by rw [t_ex]; exact ⟨by omega, by decide⟩
  | n + 1, hc => by
    have h := t_ex_bd (n := n) (fun j hj => hc j (by omega))
    have hp : (2 : Int) ^ (n + 1) = 2 * 2 ^ n := by rw [Int.pow_succ, Int.mul_comm]
    rw [t_ex, hp]
    rcases hc n (by omega) with q | q <;> rw [q] <;> omega
theorem t_ex_bit {c : Nat → Int} : ∀ {n : Nat}, (∀ j, j < n → c j = 0 ∨ c j = 1) → ∀ j, j < n → t_ex c n / 2 ^ j % 2 = c j
  | 0, _, j, hj => by omega
  | n + 1, hc, j, hj => by
    have hb := t_ex_bd (n := n) (fun j hj => hc j (by omega))
    rw [t_ex]
    by_cases e : j = n
    · subst e
      have hp : (0 : Int) < 2 ^ j := Int.pow_pos (by omega)
      rw [Int.add_mul_ediv_right _ _ (by omega), Int.ediv_eq_zero_of_lt hb.1 hb.2]
      rcases hc j (by omega) with q | q <;> rw [q] <;> rfl
    · have ih := t_ex_bit (n := n) (fun j hj => hc j (by omega)) j (by omega)
      obtain ⟨k, rfl⟩ : ∃ k, n = j + (k + 1) := ⟨n - j - 1, by omega⟩
      have hp : (0 : Int) < 2 ^ j := Int.pow_pos (by omega)
      have e2 : c (j + (k + 1)) * 2 ^ (j + (k + 1)) = (c (j + (k + 1)) * 2 ^ k * 2) * 2 ^ j := by
        rw [Int.pow_add, Int.pow_succ]
        simp only [Int.mul_assoc, Int.mul_comm, Int.mul_left_comm]
      rw [e2, Int.add_mul_ediv_right _ _ (by omega)]
      omega

set_option maxHeartbeats 4000000 in
theorem c_X3_hasPlace (l : Launch) (G : b_G) {h : b_H} {sz : Nat} {o pc ra rb len : Nat} {i R B : Nat → Int} (hT : t_O o pc ra rb len i R B h) (hI : t_I len i R B) {x : Int} (hx : zb x) : Con l G yX3_hasPlace cX3_hasPlace 2 (some .boolean) 0 0 0 0 [.ref o, .int (zI x)] h sz (p_ro (some (.int (zI (bI (0 ≤ x ∧ x < len))))) h sz) := by
  refine Con.ofK (by decide +kernel) rfl rfl ?_
  intro S M
  have hc := M.2.2.2.1
  have ho : s_own S = RX3 := M.2.2.1
  have hFr : (s_R S).frames = 0 := by rw [M.2.2.2.2.2.2.2.1]
  have hLo : (s_R S).locals = 0 := by rw [M.2.2.2.2.2.2.2.1]
  have hCe : (s_R S).cells = 0 := by rw [M.2.2.2.2.2.2.2.1]
  have hSl : (s_R S).slots = 0 := by rw [M.2.2.2.2.2.2.2.1]
  obtain ⟨hL, hRA, hRB⟩ := id hT
  obtain ⟨hi0, hi2, hi5, hi8, hiB, hiR, hix, hi1, hi3, hi4⟩ := id hI
  refine v_iload_n hc dX3_hasPlace_0 rfl ?_
  refine z_if_lt (tgt := 17) hc dX3_hasPlace_1 (by decide) (by first | assumption | exact hi _ | exact ha _ _ | (unfold zb; omega)) (fun c_1 => ?_) (fun c_1 => ?_)
  · refine z_iconst hc dX3_hasPlace_17 ?_
    refine z_zret M (by omega) dX3_hasPlace_18 (by omega) (by omega) ?_
    first | exact ⟨by rw [bI, if_pos (by omega)], rfl, rfl⟩ | exact ⟨by rw [bI, if_neg (by omega)], rfl, rfl⟩
  · refine v_iload_n hc dX3_hasPlace_4 rfl ?_
    refine v_aload_n hc dX3_hasPlace_5 rfl ?_
    refine v_get hc ho dX3_hasPlace_6 F_X3_49 hL rfl ?_
    refine z_ilen hc dX3_hasPlace_9 hRA ?_
    refine z_icmp_ge (tgt := 17) hc dX3_hasPlace_10 (by decide) (by first | assumption | exact hi _ | exact ha _ _ | (unfold zb; omega)) (by first | assumption | exact hi _ | exact ha _ _ | (unfold zb; omega)) (fun c_2 => ?_) (fun c_2 => ?_)
    · refine z_iconst hc dX3_hasPlace_17 ?_
      refine z_zret M (by omega) dX3_hasPlace_18 (by omega) (by omega) ?_
      first | exact ⟨by rw [bI, if_pos (by omega)], rfl, rfl⟩ | exact ⟨by rw [bI, if_neg (by omega)], rfl, rfl⟩
    · refine z_iconst hc dX3_hasPlace_13 ?_
      refine v_goto (tgt := 18) hc dX3_hasPlace_14 (by decide) ?_
      refine z_zret M (by omega) dX3_hasPlace_18 (by omega) (by omega) ?_
      first | exact ⟨by rw [bI, if_pos (by omega)], rfl, rfl⟩ | exact ⟨by rw [bI, if_neg (by omega)], rfl, rfl⟩
set_option maxHeartbeats 4000000 in
theorem c_X3_beatsAt (l : Launch) (G : b_G) {h : b_H} {sz : Nat} {o pc ra rb len : Nat} {i R B : Nat → Int} (hT : t_O o pc ra rb len i R B h) (hI : t_I len i R B) {x : Int} (hx : zb x) : Con l G yX3_beatsAt cX3_beatsAt 2 (some .int) 1 21 0 0 [.ref o, .int (zI x)] h sz (p_ro (some (.int (zI (if (0 ≤ x ∧ x < len) then B x.toNat else 0)))) h sz) := by
  refine Con.ofK (by decide +kernel) rfl rfl ?_
  intro S M
  have hc := M.2.2.2.1
  have ho : s_own S = RX3 := M.2.2.1
  have hFr : (s_R S).frames = 1 := by rw [M.2.2.2.2.2.2.2.1]
  have hLo : (s_R S).locals = 21 := by rw [M.2.2.2.2.2.2.2.1]
  have hCe : (s_R S).cells = 0 := by rw [M.2.2.2.2.2.2.2.1]
  have hSl : (s_R S).slots = 0 := by rw [M.2.2.2.2.2.2.2.1]
  obtain ⟨hL, hRA, hRB⟩ := id hT
  obtain ⟨hi0, hi2, hi5, hi8, hiB, hiR, hix, hi1, hi3, hi4⟩ := id hI
  refine v_aload_n hc dX3_beatsAt_0 rfl ?_
  refine v_iload_n hc dX3_beatsAt_1 rfl ?_
  refine v_callV (As := [.int (zI x)]) hc ho dX3_beatsAt_2 KV_X3_67 KB_X3_hasPlace hL rfl rfl (c_X3_hasPlace _ _ hT hI (x := x) hx) rfl (Nat.le_of_ble_eq_true rfl) ⟨by omega, by omega⟩ ⟨by omega, by omega⟩ (fun r_ h_ sz_ q_ z_ => ?_)
  obtain ⟨rfl, eh_, es_⟩ := q_
  have eh_ := eh_.symm
  subst eh_
  have es_ := es_.symm
  subst es_
  have hb01 := bI_or (0 ≤ x ∧ x < len)
  generalize bI (0 ≤ x ∧ x < len) = bp at hb01 ⊢
  refine z_if_eq (tgt := 17) hc dX3_beatsAt_5 (by decide) (by first | assumption | exact hi _ | exact ha _ _ | (unfold zb; omega)) (fun c_1 => ?_) (fun c_1 => ?_)
  · refine z_iconst hc dX3_beatsAt_17 ?_
    refine z_iret M dX3_beatsAt_18 (by omega) (by omega) ?_
    first | exact ⟨by rw [if_pos (by omega)], rfl, rfl⟩ | exact ⟨by rw [if_neg (by omega)], rfl, rfl⟩
  · refine v_aload_n hc dX3_beatsAt_8 rfl ?_
    refine v_get hc ho dX3_beatsAt_9 F_X3_53 hL rfl ?_
    refine v_iload_n hc dX3_beatsAt_12 rfl ?_
    refine z_iald hc dX3_beatsAt_13 hRB (by omega) (by omega) (by omega) ?_
    refine v_goto (tgt := 18) hc dX3_beatsAt_14 (by decide) ?_
    refine z_iret M dX3_beatsAt_18 (by omega) (by omega) ?_
    first | exact ⟨by rw [if_pos (by omega)], rfl, rfl⟩ | exact ⟨by rw [if_neg (by omega)], rfl, rfl⟩
set_option maxHeartbeats 4000000 in
theorem c_X3_blockAt (l : Launch) (G : b_G) {h : b_H} {sz : Nat} {o pc ra rb len : Nat} {i R B : Nat → Int} (hT : t_O o pc ra rb len i R B h) (hI : t_I len i R B) {x : Int} (hx : zb x) : Con l G yX3_blockAt cX3_blockAt 2 (some .int) 1 21 0 0 [.ref o, .int (zI x)] h sz (p_ro (some (.int (zI (if (0 ≤ x ∧ x < len) then R x.toNat else -1)))) h sz) := by
  refine Con.ofK (by decide +kernel) rfl rfl ?_
  intro S M
  have hc := M.2.2.2.1
  have ho : s_own S = RX3 := M.2.2.1
  have hFr : (s_R S).frames = 1 := by rw [M.2.2.2.2.2.2.2.1]
  have hLo : (s_R S).locals = 21 := by rw [M.2.2.2.2.2.2.2.1]
  have hCe : (s_R S).cells = 0 := by rw [M.2.2.2.2.2.2.2.1]
  have hSl : (s_R S).slots = 0 := by rw [M.2.2.2.2.2.2.2.1]
  obtain ⟨hL, hRA, hRB⟩ := id hT
  obtain ⟨hi0, hi2, hi5, hi8, hiB, hiR, hix, hi1, hi3, hi4⟩ := id hI
  refine v_aload_n hc dX3_blockAt_0 rfl ?_
  refine v_iload_n hc dX3_blockAt_1 rfl ?_
  refine v_callV (As := [.int (zI x)]) hc ho dX3_blockAt_2 KV_X3_67 KB_X3_hasPlace hL rfl rfl (c_X3_hasPlace _ _ hT hI (x := x) hx) rfl (Nat.le_of_ble_eq_true rfl) ⟨by omega, by omega⟩ ⟨by omega, by omega⟩ (fun r_ h_ sz_ q_ z_ => ?_)
  obtain ⟨rfl, eh_, es_⟩ := q_
  have eh_ := eh_.symm
  subst eh_
  have es_ := es_.symm
  subst es_
  have hb01 := bI_or (0 ≤ x ∧ x < len)
  generalize bI (0 ≤ x ∧ x < len) = bp at hb01 ⊢
  refine z_if_eq (tgt := 17) hc dX3_blockAt_5 (by decide) (by first | assumption | exact hi _ | exact ha _ _ | (unfold zb; omega)) (fun c_1 => ?_) (fun c_1 => ?_)
  · refine z_iconst hc dX3_blockAt_17 ?_
    refine z_iret M dX3_blockAt_18 (by omega) (by omega) ?_
    first | exact ⟨by rw [if_pos (by omega)], rfl, rfl⟩ | exact ⟨by rw [if_neg (by omega)], rfl, rfl⟩
  · refine v_aload_n hc dX3_blockAt_8 rfl ?_
    refine v_get hc ho dX3_blockAt_9 F_X3_49 hL rfl ?_
    refine v_iload_n hc dX3_blockAt_12 rfl ?_
    refine z_iald hc dX3_blockAt_13 hRA (by omega) (by omega) (by omega) ?_
    refine v_goto (tgt := 18) hc dX3_blockAt_14 (by decide) ?_
    refine z_iret M dX3_blockAt_18 (by omega) (by omega) ?_
    first | exact ⟨by rw [if_pos (by omega)], rfl, rfl⟩ | exact ⟨by rw [if_neg (by omega)], rfl, rfl⟩
set_option maxHeartbeats 4000000 in
theorem c_X3_isExitAt (l : Launch) (G : b_G) {h : b_H} {sz : Nat} {o pc ra rb len : Nat} {i R B : Nat → Int} (hT : t_O o pc ra rb len i R B h) (hI : t_I len i R B) {x : Int} (hx : zb x) : Con l G yX3_isExitAt cX3_isExitAt 2 (some .boolean) 1 21 0 0 [.ref o, .int (zI x)] h sz (p_ro (some (.int (zI (bI ((0 ≤ x ∧ x < len) ∧ i 8 / 2 ^ x.toNat % 2 = 1))))) h sz) := by
  refine Con.ofK (by decide +kernel) rfl rfl ?_
  intro S M
  have hc := M.2.2.2.1
  have ho : s_own S = RX3 := M.2.2.1
  have hFr : (s_R S).frames = 1 := by rw [M.2.2.2.2.2.2.2.1]
  have hLo : (s_R S).locals = 21 := by rw [M.2.2.2.2.2.2.2.1]
  have hCe : (s_R S).cells = 0 := by rw [M.2.2.2.2.2.2.2.1]
  have hSl : (s_R S).slots = 0 := by rw [M.2.2.2.2.2.2.2.1]
  obtain ⟨hL, hRA, hRB⟩ := id hT
  obtain ⟨hi0, hi2, hi5, hi8, hiB, hiR, hix, hi1, hi3, hi4⟩ := id hI
  refine v_aload_n hc dX3_isExitAt_0 rfl ?_
  refine v_iload_n hc dX3_isExitAt_1 rfl ?_
  refine v_callV (As := [.int (zI x)]) hc ho dX3_isExitAt_2 KV_X3_67 KB_X3_hasPlace hL rfl rfl (c_X3_hasPlace _ _ hT hI (x := x) hx) rfl (Nat.le_of_ble_eq_true rfl) ⟨by omega, by omega⟩ ⟨by omega, by omega⟩ (fun r_ h_ sz_ q_ z_ => ?_)
  obtain ⟨rfl, eh_, es_⟩ := q_
  have eh_ := eh_.symm
  subst eh_
  have es_ := es_.symm
  subst es_
  have hb01 := bI_or (0 ≤ x ∧ x < len)
  generalize bI (0 ≤ x ∧ x < len) = bp at hb01 ⊢
  refine z_if_eq (tgt := 24) hc dX3_isExitAt_5 (by decide) (by first | assumption | exact hi _ | exact ha _ _ | (unfold zb; omega)) (fun c_1 => ?_) (fun c_1 => ?_)
  · refine z_iconst hc dX3_isExitAt_24 ?_
    refine z_zret M (by omega) dX3_isExitAt_25 (by omega) (by omega) ?_
    first | exact ⟨by rw [bI, if_pos (by omega)], rfl, rfl⟩ | exact ⟨by rw [bI, if_neg (by omega)], rfl, rfl⟩
  · refine v_aload_n hc dX3_isExitAt_8 rfl ?_
    refine v_get hc ho dX3_isExitAt_9 F_X3_64 hL rfl ?_
    refine v_iload_n hc dX3_isExitAt_12 rfl ?_
    have hdv := b_div_bd (x := i 8) (y := 2 ^ x.toNat) (by omega) (Int.pow_pos (by omega))
    refine v_ishr hc dX3_isExitAt_13 (zI_shr (by omega) (by omega) (by omega) (by omega)) ?_
    refine z_iconst hc dX3_isExitAt_14 ?_
    refine v_iand hc dX3_isExitAt_15 (zI_and1 (by omega) (by omega)) ?_
    refine z_iconst hc dX3_isExitAt_16 ?_
    refine z_icmp_ne (tgt := 24) hc dX3_isExitAt_17 (by decide) (by first | assumption | exact hi _ | exact ha _ _ | (unfold zb; omega)) (by first | assumption | exact hi _ | exact ha _ _ | (unfold zb; omega)) (fun c_2 => ?_) (fun c_2 => ?_)
    · refine z_iconst hc dX3_isExitAt_24 ?_
      refine z_zret M (by omega) dX3_isExitAt_25 (by omega) (by omega) ?_
      first | exact ⟨by rw [bI, if_pos (by omega)], rfl, rfl⟩ | exact ⟨by rw [bI, if_neg (by omega)], rfl, rfl⟩
    · refine z_iconst hc dX3_isExitAt_20 ?_
      refine v_goto (tgt := 25) hc dX3_isExitAt_21 (by decide) ?_
      refine z_zret M (by omega) dX3_isExitAt_25 (by omega) (by omega) ?_
      first | exact ⟨by rw [bI, if_pos (by omega)], rfl, rfl⟩ | exact ⟨by rw [bI, if_neg (by omega)], rfl, rfl⟩
set_option maxHeartbeats 4000000 in
theorem c_X3_beatsAfter (l : Launch) (G : b_G) {h : b_H} {sz : Nat} {o pc ra rb len : Nat} {i R B : Nat → Int} (hT : t_O o pc ra rb len i R B h) (hI : t_I len i R B) {x : Int} (hx : 0 ≤ x ∧ x ≤ 400000) : Con l G yX3_beatsAfter cX3_beatsAfter 2 (some .int) 0 0 0 0 [.ref o, .int (zI x)] h sz (p_ro (some (.int (zI (x * i 2 / i 5)))) h sz) := by
  refine Con.ofK (by decide +kernel) rfl rfl ?_
  intro S M
  have hc := M.2.2.2.1
  have ho : s_own S = RX3 := M.2.2.1
  have hFr : (s_R S).frames = 0 := by rw [M.2.2.2.2.2.2.2.1]
  have hLo : (s_R S).locals = 0 := by rw [M.2.2.2.2.2.2.2.1]
  have hCe : (s_R S).cells = 0 := by rw [M.2.2.2.2.2.2.2.1]
  have hSl : (s_R S).slots = 0 := by rw [M.2.2.2.2.2.2.2.1]
  obtain ⟨hL, hRA, hRB⟩ := id hT
  obtain ⟨hi0, hi2, hi5, hi8, hiB, hiR, hix, hi1, hi3, hi4⟩ := id hI
  refine v_iload_n hc dX3_beatsAfter_0 rfl ?_
  refine v_aload_n hc dX3_beatsAfter_1 rfl ?_
  refine v_get hc ho dX3_beatsAfter_2 F_X3_19 hL rfl ?_
  refine z_imul hc dX3_beatsAfter_5 ?_
  refine v_aload_n hc dX3_beatsAfter_6 rfl ?_
  refine v_get hc ho dX3_beatsAfter_7 F_X3_42 hL rfl ?_
  have hmul : 0 ≤ x * i 2 ∧ x * i 2 ≤ 400000 * 400 := ⟨Int.mul_nonneg (by omega) (by omega), Int.mul_le_mul (by omega) (by omega) (by omega) (by omega)⟩
  refine z_idivN hc dX3_beatsAfter_10 (by first | assumption | exact hi _ | exact ha _ _ | (unfold zb; omega)) (by first | assumption | exact hi _ | exact ha _ _ | (unfold zb; omega)) (by omega) (by omega) ?_
  refine z_iret M dX3_beatsAfter_11 (by omega) (by omega) ?_
  exact ⟨rfl, rfl, rfl⟩
set_option maxHeartbeats 4000000 in
theorem l_X3_init {S : b_S} {l : Launch} {G : b_G} {o : Nat} {ad : Nat → Nat} {i : Nat → Int} {a : Nat → Nat → Int} {hB : b_H} {sz p : Nat} {post : Option Value → b_H → Nat → Prop} (M : b_M S l G RX3 cX3_init 8 none "<init>" 4 100 2 40 hB sz post) (hJ : q_J i a) {b t nu st : Int} (hb : 1 ≤ b ∧ b ≤ 400) {n1 : Nat} (hn1 : n1 ≤ 40) (hps : p < sz) (hpo : ∀ b, r_own K4 o ad b → b ≠ p ∧ b < sz) {R : Nat → Int} (hR : ∀ j, j < q_ln a b → R j = (q_rx (i 4).toNat (a 8) (a 9) (a 12) (i 10) b j)) (hlw : a 13 b.toNat ≤ 16) {x4 x5 : Option Value} (P : ∀ (h : b_H) (B : Nat → Int), h p = some (b_ob 3 [.ref o, .int (zI nu), .int (zI b), .int (zI (q_ms (i 6) (i 7) b t)), .int (zI st), .int (zI (max 1 (q_hd (i 6) (i 7) b t))), .ref sz, .ref (sz + 1), .int (zI (t_ex (fun j => (bI (i 11 / 2 ^ (q_rx (i 4).toNat (a 8) (a 9) (a 12) (i 10) b j).toNat % 2 = 1))) (q_ln a b)))]) → h sz = some (b_iA (q_ln a b) R) → h (sz + 1) = some (b_iA (q_ln a b) B) → (∀ j, j < q_ln a b → B j = a 8 (q_rx (i 4).toNat (a 8) (a 9) (a 12) (i 10) b j).toNat) → (∀ c, c < sz → c ≠ p → h c = hB c) → post none h (sz + 2)) : ∀ (d : Nat) (h : b_H) (B : Nat → Int) (g x : Int), (((q_ln a b : Int) - x).toNat = d) → (0 ≤ x) → (x ≤ q_ln a b) → (r_O K4 4 o ad i a h) → (h p = some (b_ob 3 [.ref o, .int (zI nu), .int (zI b), .int (zI (q_ms (i 6) (i 7) b t)), .int (zI st), .int (zI (max 1 (q_hd (i 6) (i 7) b t))), .ref sz, .ref (sz + 1), .int 0])) → (h sz = some (b_iA (q_ln a b) R)) → (h (sz + 1) = some (b_iA (q_ln a b) B)) → (∀ c, c < sz → c ≠ p → h c = hB c) → (∀ j : Nat, (j : Int) < x → B j = a 8 (q_rx (i 4).toNat (a 8) (a 9) (a 12) (i 10) b j).toNat) → (g = t_ex (fun j => (bI (i 11 / 2 ^ (q_rx (i 4).toNat (a 8) (a 9) (a 12) (i 10) b j).toNat % 2 = 1))) x.toNat) → V S 2 n1 h (sz + 2) 77 [some (.ref p), some (.ref o), some (.int (zI nu)), some (.int (zI b)), x4, x5, some (.int (zI g)), some (.int (zI x))] [] := by
  have hc := M.2.2.2.1
  have ho : s_own S = RX3 := M.2.2.1
  have hFr : (s_R S).frames = 4 := by rw [M.2.2.2.2.2.2.2.1]
  have hLo : (s_R S).locals = 100 := by rw [M.2.2.2.2.2.2.2.1]
  have hCe : (s_R S).cells = 2 := by rw [M.2.2.2.2.2.2.2.1]
  have hSl : (s_R S).slots = 40 := by rw [M.2.2.2.2.2.2.2.1]
  intro d
  induction d using Nat.strongRecOn with
  | ind d ih =>
    intro h B g x hd h0 h1 hO hL hRA hRB hfr hBj he
    have hi := hO.2.2.2.1
    have ha := hO.2.2.2.2
    obtain ⟨hI, hB1, hE2, hX2, hDD⟩ := id hJ
    obtain ⟨hIb, hIe, hIx, hIsf, hImd, hIbt, hInx, hIfw, hIln⟩ := id hI
    have hl13 := hIln b.toNat
    have hnm : s_nm S = "<init>" := M.2.2.2.2.2.2.1
    have hln : q_ln a b ≤ 16 ∧ (x < q_ln a b → (x.toNat : Int) < a 13 b.toNat) := by
      unfold q_ln
      split <;> omega
    refine v_iload hc dX3_init_77 rfl ?_
    refine v_aload_n hc dX3_init_79 rfl ?_
    refine v_get hc ho dX3_init_80 F_X3_49 hL rfl ?_
    refine z_ilen hc dX3_init_83 hRA ?_
    refine z_icmp_ge (tgt := 138) hc dX3_init_84 (by decide) (by first | assumption | exact hi _ | exact ha _ _ | (unfold zb; omega)) (by first | assumption | exact hi _ | exact ha _ _ | (unfold zb; omega)) (fun c_1 => ?_) (fun c_1 => ?_)
    · refine v_aload_n hc dX3_init_138 rfl ?_
      refine v_iload hc dX3_init_139 rfl ?_
      refine x_putF hc ho hnm dX3_init_141 F_X3_64 hL rfl ⟨rfl, rfl⟩ (fun h1 e1 e2 => ?_)
      refine v_vret M dX3_init_144 (by omega) (by omega) ?_
      refine P h1 B (by rw [he, show x.toNat = q_ln a b by omega] at e1; exact e1) ((e2 _ (by omega)).trans hRA) ((e2 _ (by omega)).trans hRB) (fun j hj => hBj j (by omega)) (fun c hc hc2 => (e2 c hc2).trans (hfr c hc hc2))
    · refine v_aload_n hc dX3_init_87 rfl ?_
      refine v_get hc ho dX3_init_88 F_X3_53 hL rfl ?_
      refine v_iload hc dX3_init_91 rfl ?_
      obtain ⟨hk1, hk2, hk3, hk4, hk5⟩ := q_st_ok hJ hb hlw x.toNat (by omega)
      obtain ⟨u, hue⟩ : ∃ u, u = (q_rx (i 4).toNat (a 8) (a 9) (a 12) (i 10) b x.toNat) := ⟨_, rfl⟩
      rw [← hue] at hk4 hk5
      have hRu : R x.toNat = u := by rw [hR x.toNat (by omega), hue]
      have hpw : (2 : Int) ^ x.toNat ≤ 2 ^ 16 := by exact_mod_cast (Nat.pow_le_pow_right (n := 2) (by omega) (show x.toNat ≤ 16 by omega))
      have hpw0 : (0 : Int) < 2 ^ x.toNat := Int.pow_pos (by omega)
      have hxb := t_ex_bd (c := (fun j => (bI (i 11 / 2 ^ (q_rx (i 4).toNat (a 8) (a 9) (a 12) (i 10) b j).toNat % 2 = 1)))) (n := x.toNat) (fun j _ => by show (bI (i 11 / 2 ^ (q_rx (i 4).toNat (a 8) (a 9) (a 12) (i 10) b j).toNat % 2 = 1)) = 0 ∨ (bI (i 11 / 2 ^ (q_rx (i 4).toNat (a 8) (a 9) (a 12) (i 10) b j).toNat % 2 = 1)) = 1; unfold bI; split <;> omega)
      refine v_aload_n hc dX3_init_93 rfl ?_
      refine v_aload_n hc dX3_init_94 rfl ?_
      refine v_get hc ho dX3_init_95 F_X3_49 hL rfl ?_
      refine v_iload hc dX3_init_98 rfl ?_
      refine z_iald hc dX3_init_100 hRA (by omega) (by omega) (by omega) ?_
      rw [hRu]
      refine v_callV (As := [.int (zI u)]) hc ho dX3_init_101 KV_X3_56 KB_X4_beatsOf hO.1 rfl rfl (c_X4_beatsOf _ _ hO hI (x := u) (by unfold zb; omega)) rfl (Nat.le_of_ble_eq_true rfl) ⟨by omega, by omega⟩ ⟨by omega, by omega⟩ (fun r_ h_ sz_ q_ z_ => ?_)
      obtain ⟨rfl, eh_, es_⟩ := q_
      have eh_ := eh_.symm
      subst eh_
      have es_ := es_.symm
      subst es_
      rw [if_pos (show 0 ≤ u ∧ u ≤ 7 by omega)]
      refine x_iast hc dX3_init_104 hRB (by omega) (by omega) (by omega) (fun h1 e1 e2 => ?_)
      have hO := hO.kept (fun c hc => e2 c (by have := (hpo c hc).2; omega))
      have hL := (e2 p (by omega)).trans hL
      have hRA := (e2 sz (by omega)).trans hRA
      have hRB := e1
      refine v_iload hc dX3_init_105 rfl ?_
      refine v_aload_n hc dX3_init_107 rfl ?_
      refine v_aload_n hc dX3_init_108 rfl ?_
      refine v_get hc ho dX3_init_109 F_X3_49 hL rfl ?_
      refine v_iload hc dX3_init_112 rfl ?_
      refine z_iald hc dX3_init_114 hRA (by omega) (by omega) (by omega) ?_
      rw [hRu]
      refine v_callV (As := [.int (zI u)]) hc ho dX3_init_115 KV_X3_60 KB_X4_isExit hO.1 rfl rfl (c_X4_isExit _ _ hO hI (x := u) (by unfold zb; omega)) rfl (Nat.le_of_ble_eq_true rfl) ⟨by omega, by omega⟩ ⟨by omega, by omega⟩ (fun r_ h_ sz_ q_ z_ => ?_)
      obtain ⟨rfl, eh_, es_⟩ := q_
      have eh_ := eh_.symm
      subst eh_
      have es_ := es_.symm
      subst es_
      have hb01 : bI ((0 ≤ u ∧ u ≤ 7) ∧ i 11 / 2 ^ u.toNat % 2 = 1) = 1 ∧ t_ex (fun j => (bI (i 11 / 2 ^ (q_rx (i 4).toNat (a 8) (a 9) (a 12) (i 10) b j).toNat % 2 = 1))) (x.toNat + 1) = t_ex (fun j => (bI (i 11 / 2 ^ (q_rx (i 4).toNat (a 8) (a 9) (a 12) (i 10) b j).toNat % 2 = 1))) x.toNat + 2 ^ x.toNat ∨ bI ((0 ≤ u ∧ u ≤ 7) ∧ i 11 / 2 ^ u.toNat % 2 = 1) = 0 ∧ t_ex (fun j => (bI (i 11 / 2 ^ (q_rx (i 4).toNat (a 8) (a 9) (a 12) (i 10) b j).toNat % 2 = 1))) (x.toNat + 1) = t_ex (fun j => (bI (i 11 / 2 ^ (q_rx (i 4).toNat (a 8) (a 9) (a 12) (i 10) b j).toNat % 2 = 1))) x.toNat := by
        rw [t_ex]
        show _ ∧ t_ex _ _ + bI (i 11 / 2 ^ (q_rx (i 4).toNat (a 8) (a 9) (a 12) (i 10) b x.toNat).toNat % 2 = 1) * 2 ^ x.toNat = _ ∨ _ ∧ t_ex _ _ + bI (i 11 / 2 ^ (q_rx (i 4).toNat (a 8) (a 9) (a 12) (i 10) b x.toNat).toNat % 2 = 1) * 2 ^ x.toNat = _
        rw [← hue]
        by_cases q : i 11 / 2 ^ u.toNat % 2 = 1
        · left; rw [bI, bI, if_pos ⟨by omega, q⟩, if_pos q, Int.one_mul]; exact ⟨rfl, rfl⟩
        · right; rw [bI, bI, if_neg (fun w => q w.2), if_neg q, Int.zero_mul, Int.add_zero]; exact ⟨rfl, rfl⟩
      generalize bI ((0 ≤ u ∧ u ≤ 7) ∧ i 11 / 2 ^ u.toNat % 2 = 1) = bp at hb01 ⊢
      refine z_if_eq (tgt := 128) hc dX3_init_118 (by decide) (by first | assumption | exact hi _ | exact ha _ _ | (unfold zb; omega)) (fun c_2 => ?_) (fun c_2 => ?_)
      · have hor0 : zI g ||| zI 0 = zI (t_ex (fun j => (bI (i 11 / 2 ^ (q_rx (i 4).toNat (a 8) (a 9) (a 12) (i 10) b j).toNat % 2 = 1))) (x.toNat + 1)) := by
          rw [he, zI_or0]; congr 1; omega
        refine z_iconst hc dX3_init_128 ?_
        refine v_ior hc dX3_init_129 (v := t_ex (fun j => (bI (i 11 / 2 ^ (q_rx (i 4).toNat (a 8) (a 9) (a 12) (i 10) b j).toNat % 2 = 1))) (x.toNat + 1)) hor0 ?_
        refine v_istore hc dX3_init_130 (Nat.le_of_ble_eq_true rfl) ?_
        refine z_iinc hc dX3_init_132 rfl ?_
        refine v_goto (tgt := 77) hc dX3_init_135 (by decide) ?_
        refine ih _ (by omega) h1 _ _ _ rfl (by omega) (by omega) hO hL hRA hRB (fun c hc hc2 => (e2 c (by omega)).trans (hfr c hc hc2)) (fun j hj => ?_) (by rw [show (x + 1).toNat = x.toNat + 1 by omega])
        by_cases q : j = x.toNat
        · rw [q, b_up_eq, hue]
        · rw [b_up_ne _ _ q]; exact hBj j (by omega)
      · have hor1 : zI g ||| zI (1 * 2 ^ x.toNat) = zI (t_ex (fun j => (bI (i 11 / 2 ^ (q_rx (i 4).toNat (a 8) (a 9) (a 12) (i 10) b j).toNat % 2 = 1))) (x.toNat + 1)) := by
          rw [he, zI_or16 hxb.1 (by omega) hxb.2]; congr 1; omega
        refine z_iconst hc dX3_init_121 ?_
        refine v_iload hc dX3_init_122 rfl ?_
        refine v_ishl hc dX3_init_124 (zI_shl (by omega) (by omega) (by omega) (by rw [Int.one_mul]; exact Int.lt_of_le_of_lt hpw (by omega))) ?_
        refine v_goto (tgt := 129) hc dX3_init_125 (by decide) ?_
        refine v_ior hc dX3_init_129 (v := t_ex (fun j => (bI (i 11 / 2 ^ (q_rx (i 4).toNat (a 8) (a 9) (a 12) (i 10) b j).toNat % 2 = 1))) (x.toNat + 1)) hor1 ?_
        refine v_istore hc dX3_init_130 (Nat.le_of_ble_eq_true rfl) ?_
        refine z_iinc hc dX3_init_132 rfl ?_
        refine v_goto (tgt := 77) hc dX3_init_135 (by decide) ?_
        refine ih _ (by omega) h1 _ _ _ rfl (by omega) (by omega) hO hL hRA hRB (fun c hc hc2 => (e2 c (by omega)).trans (hfr c hc hc2)) (fun j hj => ?_) (by rw [show (x + 1).toNat = x.toNat + 1 by omega])
        by_cases q : j = x.toNat
        · rw [q, b_up_eq, hue]
        · rw [b_up_ne _ _ q]; exact hBj j (by omega)
theorem t_PIV {o ra rb : Nat} {i : Nat → Int} {a : Nat → Nat → Int} {b t nu st : Int} : t_fs o ra rb (fun k => if k = 1 then nu else if k = 2 then b else if k = 3 then q_ms (i 6) (i 7) b t else if k = 4 then st else if k = 5 then max 1 (q_hd (i 6) (i 7) b t) else if k = 8 then t_ex (fun j => (bI (i 11 / 2 ^ (q_rx (i 4).toNat (a 8) (a 9) (a 12) (i 10) b j).toNat % 2 = 1))) (q_ln a b) else 0) = [.ref o, .int (zI nu), .int (zI b), .int (zI (q_ms (i 6) (i 7) b t)), .int (zI st), .int (zI (max 1 (q_hd (i 6) (i 7) b t))), .ref ra, .ref rb, .int (zI (t_ex (fun j => (bI (i 11 / 2 ^ (q_rx (i 4).toNat (a 8) (a 9) (a 12) (i 10) b j).toNat % 2 = 1))) (q_ln a b)))] := rfl
set_option maxHeartbeats 4000000 in
theorem c_X3_init (l : Launch) (G : b_G) {p : Nat} {o : Nat} {ad : Nat → Nat} {i : Nat → Int} {a : Nat → Nat → Int} {h : b_H} {sz : Nat} (hO : r_O K4 4 o ad i a h) (hJ : q_J i a) (hL : h p = some (b_ob 3 [.null, .int 0, .int 0, .int 0, .int 0, .int 0, .null, .null, .int 0])) (hps : p < sz) (hpo : ∀ b, r_own K4 o ad b → b ≠ p ∧ b < sz) {nu b t st : Int} (hnu : 0 ≤ nu ∧ nu ≤ 11) (hb : 1 ≤ b ∧ b ≤ 400) (ht : 0 ≤ t ∧ t ≤ 100000) (hst : zb st) (hlw : a 13 b.toNat ≤ 16) : Con l G yX3_init cX3_init 8 none 4 100 2 40 [.ref p, .ref o, .int (zI nu), .int (zI b), .int (zI t), .int (zI st)] h sz (fun r h2 s2 => r = none ∧ s2 = sz + 2 ∧ (∃ R B : Nat → Int, t_O p o sz (sz + 1) (q_ln a b) (fun k => if k = 1 then nu else if k = 2 then b else if k = 3 then q_ms (i 6) (i 7) b t else if k = 4 then st else if k = 5 then max 1 (q_hd (i 6) (i 7) b t) else if k = 8 then t_ex (fun j => (bI (i 11 / 2 ^ (q_rx (i 4).toNat (a 8) (a 9) (a 12) (i 10) b j).toNat % 2 = 1))) (q_ln a b) else 0) R B h2 ∧ (∀ j, j < q_ln a b → R j = (q_rx (i 4).toNat (a 8) (a 9) (a 12) (i 10) b j)) ∧ (∀ j, j < q_ln a b → B j = a 8 (q_rx (i 4).toNat (a 8) (a 9) (a 12) (i 10) b j).toNat)) ∧ ∀ c, c < sz → c ≠ p → h2 c = h c) := by
  refine Con.ofK (by decide +kernel) rfl rfl ?_
  intro S M
  have hc := M.2.2.2.1
  have ho : s_own S = RX3 := M.2.2.1
  have hFr : (s_R S).frames = 4 := by rw [M.2.2.2.2.2.2.2.1]
  have hLo : (s_R S).locals = 100 := by rw [M.2.2.2.2.2.2.2.1]
  have hCe : (s_R S).cells = 2 := by rw [M.2.2.2.2.2.2.2.1]
  have hSl : (s_R S).slots = 40 := by rw [M.2.2.2.2.2.2.2.1]
  have hnm : s_nm S = "<init>" := M.2.2.2.2.2.2.1
  obtain ⟨hI, hB1, hE2, hX2, hDD⟩ := id hJ
  obtain ⟨hIb, hIe, hIx, hIsf, hImd, hIbt, hInx, hIfw, hIln⟩ := id hI
  have hl13 := hIln b.toNat
  have hln : q_ln a b ≤ 16 := by unfold q_ln; split <;> omega
  have hfr : ∀ c, c < sz → c ≠ p → h c = h c := fun _ _ _ => rfl
  refine v_aload_n hc dX3_init_0 rfl ?_
  refine v_obj hc ho dX3_init_1 OI_X3_3 (by omega) (by rw [hLo]; exact Nat.le_of_ble_eq_true rfl) ?_
  refine v_aload_n hc dX3_init_4 rfl ?_
  refine v_aload_n hc dX3_init_5 rfl ?_
  refine x_putF hc ho hnm dX3_init_6 F_X3_9 hL rfl ⟨rfl, rfl⟩ (fun h1 e1 e2 => ?_)
  have hO := hO.kept (fun c hc => e2 c (hpo c hc).1)
  have hL : h1 p = some (b_ob 3 [.ref o, .int 0, .int 0, .int 0, .int 0, .int 0, .null, .null, .int 0]) := e1
  have hfr : ∀ c, c < sz → c ≠ p → h1 c = h c := fun c hc hc2 => (e2 c hc2).trans (hfr c hc hc2)
  clear e1 e2
  refine v_aload_n hc dX3_init_9 rfl ?_
  refine v_iload_n hc dX3_init_10 rfl ?_
  refine x_putF hc ho hnm dX3_init_11 F_X3_15 hL rfl ⟨rfl, rfl⟩ (fun h1 e1 e2 => ?_)
  have hO := hO.kept (fun c hc => e2 c (hpo c hc).1)
  have hL : h1 p = some (b_ob 3 [.ref o, .int (zI nu), .int 0, .int 0, .int 0, .int 0, .null, .null, .int 0]) := e1
  have hfr : ∀ c, c < sz → c ≠ p → h1 c = h c := fun c hc hc2 => (e2 c hc2).trans (hfr c hc hc2)
  clear e1 e2
  refine v_aload_n hc dX3_init_14 rfl ?_
  refine v_iload_n hc dX3_init_15 rfl ?_
  refine x_putF hc ho hnm dX3_init_16 F_X3_19 hL rfl ⟨rfl, rfl⟩ (fun h1 e1 e2 => ?_)
  have hO := hO.kept (fun c hc => e2 c (hpo c hc).1)
  have hL : h1 p = some (b_ob 3 [.ref o, .int (zI nu), .int (zI b), .int 0, .int 0, .int 0, .null, .null, .int 0]) := e1
  have hfr : ∀ c, c < sz → c ≠ p → h1 c = h c := fun c hc hc2 => (e2 c hc2).trans (hfr c hc hc2)
  clear e1 e2
  refine v_aload_n hc dX3_init_19 rfl ?_
  refine v_aload_n hc dX3_init_20 rfl ?_
  refine v_iload_n hc dX3_init_21 rfl ?_
  refine v_iload hc dX3_init_22 rfl ?_
  have hms := q_ms_bd (s := i 6) (f := i 7) (b := b) (t := t) (by omega) (by omega) (by omega) (by omega) (by omega) (by omega)
  have hhd := q_hd_bd (s := i 6) (f := i 7) (b := b) (t := t) (by omega) (by omega) (by omega) (by omega) (by omega) (by omega)
  refine v_callV (As := [.int (zI b), .int (zI t)]) hc ho dX3_init_24 KV_X3_22 KB_X4_misses hO.1 rfl rfl (c_X4_misses _ _ hO hI (b := b) (t := t) (by omega) ht) rfl (Nat.le_of_ble_eq_true rfl) ⟨by omega, by omega⟩ ⟨by omega, by omega⟩ (fun r_ h_ sz_ q_ z_ => ?_)
  obtain ⟨rfl, eh_, es_⟩ := q_
  have eh_ := eh_.symm
  subst eh_
  have es_ := es_.symm
  subst es_
  refine x_putF hc ho hnm dX3_init_27 F_X3_28 hL rfl ⟨rfl, rfl⟩ (fun h1 e1 e2 => ?_)
  have hO := hO.kept (fun c hc => e2 c (hpo c hc).1)
  have hL : h1 p = some (b_ob 3 [.ref o, .int (zI nu), .int (zI b), .int (zI (q_ms (i 6) (i 7) b t)), .int 0, .int 0, .null, .null, .int 0]) := e1
  have hfr : ∀ c, c < sz → c ≠ p → h1 c = h c := fun c hc hc2 => (e2 c hc2).trans (hfr c hc hc2)
  clear e1 e2
  refine v_aload_n hc dX3_init_30 rfl ?_
  refine v_iload hc dX3_init_31 rfl ?_
  refine x_putF hc ho hnm dX3_init_33 F_X3_31 hL rfl ⟨rfl, rfl⟩ (fun h1 e1 e2 => ?_)
  have hO := hO.kept (fun c hc => e2 c (hpo c hc).1)
  have hL : h1 p = some (b_ob 3 [.ref o, .int (zI nu), .int (zI b), .int (zI (q_ms (i 6) (i 7) b t)), .int (zI st), .int 0, .null, .null, .int 0]) := e1
  have hfr : ∀ c, c < sz → c ≠ p → h1 c = h c := fun c hc hc2 => (e2 c hc2).trans (hfr c hc hc2)
  clear e1 e2
  refine v_aload_n hc dX3_init_36 rfl ?_
  refine z_iconst hc dX3_init_37 ?_
  refine v_aload_n hc dX3_init_38 rfl ?_
  refine v_iload_n hc dX3_init_39 rfl ?_
  refine v_iload hc dX3_init_40 rfl ?_
  refine v_callV (As := [.int (zI b), .int (zI t)]) hc ho dX3_init_42 KV_X3_34 KB_X4_held hO.1 rfl rfl (c_X4_held _ _ hO hI (b := b) (t := t) (by omega) ht) rfl (Nat.le_of_ble_eq_true rfl) ⟨by omega, by omega⟩ ⟨by omega, by omega⟩ (fun r_ h_ sz_ q_ z_ => ?_)
  obtain ⟨rfl, eh_, es_⟩ := q_
  have eh_ := eh_.symm
  subst eh_
  have es_ := es_.symm
  subst es_
  refine z_max hc ho dX3_init_45 MM_X3_37 (by first | assumption | exact hi _ | exact ha _ _ | (unfold zb; omega)) (by first | assumption | exact hi _ | exact ha _ _ | (unfold zb; omega)) (by omega) (by rw [hLo]; exact Nat.le_of_ble_eq_true rfl) (by omega) (by omega) ?_
  refine x_putF hc ho hnm dX3_init_48 F_X3_42 hL rfl ⟨rfl, rfl⟩ (fun h1 e1 e2 => ?_)
  have hO := hO.kept (fun c hc => e2 c (hpo c hc).1)
  have hL : h1 p = some (b_ob 3 [.ref o, .int (zI nu), .int (zI b), .int (zI (q_ms (i 6) (i 7) b t)), .int (zI st), .int (zI (max 1 (q_hd (i 6) (i 7) b t))), .null, .null, .int 0]) := e1
  have hfr : ∀ c, c < sz → c ≠ p → h1 c = h c := fun c hc hc2 => (e2 c hc2).trans (hfr c hc hc2)
  clear e1 e2
  refine v_aload_n hc dX3_init_51 rfl ?_
  refine v_aload_n hc dX3_init_52 rfl ?_
  refine v_iload_n hc dX3_init_53 rfl ?_
  refine v_callV (As := [.int (zI b)]) hc ho dX3_init_54 KV_X3_45 KB_X4_wayFor hO.1 rfl rfl (c_X4_wayFor _ _ hO hJ (b := b) hb) rfl (Nat.le_of_ble_eq_true rfl) ⟨by omega, by omega⟩ ⟨by omega, by omega⟩ (fun r_ h_ sz_ q_ z_ => ?_)
  obtain ⟨rfl, es_, ⟨R, hRA, hR⟩, e2⟩ := q_
  subst es_
  have hO := hO.kept (fun c hc => e2 c (by have := (hpo c hc).2; omega))
  have hL := (e2 p (by omega)).trans hL
  have hfr : ∀ c, c < sz → c ≠ p → h_ c = h c := fun c hc hc2 => (e2 c (by omega)).trans (hfr c hc hc2)
  clear e2
  refine x_putF hc ho hnm dX3_init_57 F_X3_49 hL rfl ⟨rfl, rfl⟩ (fun h1 e1 e2 => ?_)
  have hO := hO.kept (fun c hc => e2 c (hpo c hc).1)
  have hL : h1 p = some (b_ob 3 [.ref o, .int (zI nu), .int (zI b), .int (zI (q_ms (i 6) (i 7) b t)), .int (zI st), .int (zI (max 1 (q_hd (i 6) (i 7) b t))), .ref sz, .null, .int 0]) := e1
  have hfr : ∀ c, c < sz → c ≠ p → h1 c = h c := fun c hc hc2 => (e2 c hc2).trans (hfr c hc hc2)
  have hRA := (e2 sz (by omega)).trans hRA
  clear e1 e2
  refine v_aload_n hc dX3_init_60 rfl ?_
  refine v_aload_n hc dX3_init_61 rfl ?_
  refine v_get hc ho dX3_init_62 F_X3_49 hL rfl ?_
  refine z_ilen hc dX3_init_65 hRA ?_
  refine x_newI hc dX3_init_66 (N := q_ln a b) rfl (by omega) (by omega) (by omega) (fun h1 hRB e2 => ?_)
  have hO := hO.kept (fun c hc => e2 c (by have := (hpo c hc).2; omega))
  have hL := (e2 p (by omega)).trans hL
  have hRA := (e2 sz (by omega)).trans hRA
  have hfr : ∀ c, c < sz → c ≠ p → h1 c = h c := fun c hc hc2 => (e2 c (by omega)).trans (hfr c hc hc2)
  clear e2
  refine x_putF hc ho hnm dX3_init_68 F_X3_53 hL rfl ⟨rfl, rfl⟩ (fun h1 e1 e2 => ?_)
  have hO := hO.kept (fun c hc => e2 c (hpo c hc).1)
  have hL : h1 p = some (b_ob 3 [.ref o, .int (zI nu), .int (zI b), .int (zI (q_ms (i 6) (i 7) b t)), .int (zI st), .int (zI (max 1 (q_hd (i 6) (i 7) b t))), .ref sz, .ref (sz + 1), .int 0]) := e1
  have hfr : ∀ c, c < sz → c ≠ p → h1 c = h c := fun c hc hc2 => (e2 c hc2).trans (hfr c hc hc2)
  have hRA := (e2 sz (by omega)).trans hRA
  have hRB := (e2 (sz + 1) (by omega)).trans hRB
  clear e1 e2
  refine z_iconst hc dX3_init_71 ?_
  refine v_istore hc dX3_init_72 (Nat.le_of_ble_eq_true rfl) ?_
  refine z_iconst hc dX3_init_74 ?_
  refine v_istore hc dX3_init_75 (Nat.le_of_ble_eq_true rfl) ?_
  exact l_X3_init M hJ hb (by omega) hps hpo hR hlw (fun h2 B2 g1 g2 g3 g4 g5 => ⟨rfl, rfl, ⟨_, _, ⟨g1, g2, g3⟩, hR, g4⟩, g5⟩) _ _ _ _ _ rfl (by omega) (by omega) hO hL hRA hRB hfr (fun j hj => by omega) rfl
