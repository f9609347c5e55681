/-! the drummer, on -/
def d_us (x k : Int) : Int := ((zI x).toUInt32 >>> ((zI k).toUInt32 &&& Int32.toUInt32 31)).toInt32.toInt
def d_an (x k : Int) : Int := (zI x &&& zI k).toInt
def d_xo (x k : Int) : Int := (zI x ^^^ zI k).toInt
def d_b1 (x : Int) : Int := x - d_an (d_us x 1) 1431655765
def d_b2 (x : Int) : Int := d_an (d_b1 x) 858993459 + d_an (d_us (d_b1 x) 2) 858993459
def d_b3 (x : Int) : Int := d_an (d_b2 x + d_us (d_b2 x) 4) 252645135
def d_b4 (x : Int) : Int := d_b3 x + d_us (d_b3 x) 8
def d_b5 (x : Int) : Int := d_b4 x + d_us (d_b4 x) 16
def d_bc (x : Int) : Int := d_an (d_b5 x) 63
theorem d_an_bd (x k : Int) : zb (d_an x k) := zb_of _
theorem d_xo_bd (x k : Int) : zb (d_xo x k) := zb_of _
/-- the least number in which two sets differ is the first's -/
def d_lb (x y : Int) : Int := d_an (d_an x (d_xo x y)) (-(d_xo x y))
def d_ah (x y : Int) : Prop := d_bc x < d_bc y ∨ (d_bc x = d_bc y ∧ ¬ d_lb x y = 0)

set_option maxHeartbeats 4000000 in
theorem c_J6_bitCount_0f7a4 (l : Launch) (G : b_G) {h : b_H} {sz : Nat} {x : Int} : Con l G yJ6_bitCount_0f7a4 cJ6_bitCount_0f7a4 1 (some .int) 0 0 0 0 [.int (zI x)] h sz (p_ro (some (.int (zI (d_bc x)))) h sz) := by
  refine Con.ofK (by decide +kernel) rfl rfl ?_
  intro S M
  have hc := M.2.2.2.1
  have ho : s_own S = RJ6 := M.2.2.1
  have hFr : (s_R S).frames = 0 := by rw [M.2.2.2.2.2.2.2.1]
  have hLo : (s_R S).locals = 0 := by rw [M.2.2.2.2.2.2.2.1]
  have hCe : (s_R S).cells = 0 := by rw [M.2.2.2.2.2.2.2.1]
  have hSl : (s_R S).slots = 0 := by rw [M.2.2.2.2.2.2.2.1]
  refine v_iload_n hc dJ6_bitCount_0f7a4_0 rfl ?_
  refine v_iload_n hc dJ6_bitCount_0f7a4_1 rfl ?_
  refine z_iconst hc dJ6_bitCount_0f7a4_2 ?_
  refine v_iushr hc dJ6_bitCount_0f7a4_3 (zI_of _) ?_
  refine z_ldcw hc ho dJ6_bitCount_0f7a4_4 K_J6_265 ?_
  refine v_iand hc dJ6_bitCount_0f7a4_7 (zI_of _) ?_
  refine z_isub hc dJ6_bitCount_0f7a4_8 ?_
  refine v_istore_n hc dJ6_bitCount_0f7a4_9 (Nat.le_of_ble_eq_true rfl) ?_
  refine v_iload_n hc dJ6_bitCount_0f7a4_10 rfl ?_
  refine z_ldcw hc ho dJ6_bitCount_0f7a4_11 K_J6_266 ?_
  refine v_iand hc dJ6_bitCount_0f7a4_14 (zI_of _) ?_
  refine v_iload_n hc dJ6_bitCount_0f7a4_15 rfl ?_
  refine z_iconst hc dJ6_bitCount_0f7a4_16 ?_
  refine v_iushr hc dJ6_bitCount_0f7a4_17 (zI_of _) ?_
  refine z_ldcw hc ho dJ6_bitCount_0f7a4_18 K_J6_266 ?_
  refine v_iand hc dJ6_bitCount_0f7a4_21 (zI_of _) ?_
  refine z_iadd hc dJ6_bitCount_0f7a4_22 ?_
  refine v_istore_n hc dJ6_bitCount_0f7a4_23 (Nat.le_of_ble_eq_true rfl) ?_
  refine v_iload_n hc dJ6_bitCount_0f7a4_24 rfl ?_
  refine v_iload_n hc dJ6_bitCount_0f7a4_25 rfl ?_
  refine z_iconst hc dJ6_bitCount_0f7a4_26 ?_
  refine v_iushr hc dJ6_bitCount_0f7a4_27 (zI_of _) ?_
  refine z_iadd hc dJ6_bitCount_0f7a4_28 ?_
  refine z_ldcw hc ho dJ6_bitCount_0f7a4_29 K_J6_267 ?_
  refine v_iand hc dJ6_bitCount_0f7a4_32 (zI_of _) ?_
  refine v_istore_n hc dJ6_bitCount_0f7a4_33 (Nat.le_of_ble_eq_true rfl) ?_
  refine v_iload_n hc dJ6_bitCount_0f7a4_34 rfl ?_
  refine v_iload_n hc dJ6_bitCount_0f7a4_35 rfl ?_
  refine z_bipush hc dJ6_bitCount_0f7a4_36 (by decide) ?_
  refine v_iushr hc dJ6_bitCount_0f7a4_38 (zI_of _) ?_
  refine z_iadd hc dJ6_bitCount_0f7a4_39 ?_
  refine v_istore_n hc dJ6_bitCount_0f7a4_40 (Nat.le_of_ble_eq_true rfl) ?_
  refine v_iload_n hc dJ6_bitCount_0f7a4_41 rfl ?_
  refine v_iload_n hc dJ6_bitCount_0f7a4_42 rfl ?_
  refine z_bipush hc dJ6_bitCount_0f7a4_43 (by decide) ?_
  refine v_iushr hc dJ6_bitCount_0f7a4_45 (zI_of _) ?_
  refine z_iadd hc dJ6_bitCount_0f7a4_46 ?_
  refine v_istore_n hc dJ6_bitCount_0f7a4_47 (Nat.le_of_ble_eq_true rfl) ?_
  refine v_iload_n hc dJ6_bitCount_0f7a4_48 rfl ?_
  refine z_bipush hc dJ6_bitCount_0f7a4_49 (by decide) ?_
  refine v_iand hc dJ6_bitCount_0f7a4_51 (zI_of _) ?_
  refine z_iret M dJ6_bitCount_0f7a4_52 (by omega) (by omega) ?_
  exact ⟨rfl, rfl, rfl⟩
set_option maxHeartbeats 4000000 in
theorem c_X0_isAhead (l : Launch) (G : b_G) {h : b_H} {sz : Nat} {x y : Int} : Con l G yX0_isAhead cX0_isAhead 6 (some .boolean) 1 20 0 0 [.int (zI x), .int (zI y)] h sz (p_ro (some (.int (zI (if d_bc x < d_bc y ∨ (d_bc x = d_bc y ∧ ¬ d_lb x y = 0) then 1 else 0)))) h sz) := by
  refine Con.ofK (by decide +kernel) rfl rfl ?_
  intro S M
  have hc := M.2.2.2.1
  have ho : s_own S = RX0 := M.2.2.1
  have hFr : (s_R S).frames = 1 := by rw [M.2.2.2.2.2.2.2.1]
  have hLo : (s_R S).locals = 20 := by rw [M.2.2.2.2.2.2.2.1]
  have hCe : (s_R S).cells = 0 := by rw [M.2.2.2.2.2.2.2.1]
  have hSl : (s_R S).slots = 0 := by rw [M.2.2.2.2.2.2.2.1]
  have hbx := d_an_bd (d_b5 x) 63
  have hby := d_an_bd (d_b5 y) 63
  have ex : d_bc x = d_an (d_b5 x) 63 := rfl
  have ey : d_bc y = d_an (d_b5 y) 63 := rfl
  unfold zb at hbx hby
  refine v_iload_n hc dX0_isAhead_0 rfl ?_
  refine v_callS (As := [.int (zI x)]) hc ho dX0_isAhead_1 KS_X0_40 KB_J6_bitCount_0f7a4 (c_J6_bitCount_0f7a4 _ _ (x := x)) rfl (Nat.le_of_ble_eq_true rfl) ⟨by omega, by omega⟩ ⟨by omega, by omega⟩ (fun r_ h_ sz_ q_ z_ => ?_)
  obtain ⟨rfl, rfl, rfl⟩ := q_
  refine v_istore_n hc dX0_isAhead_4 (Nat.le_of_ble_eq_true rfl) ?_
  refine v_iload_n hc dX0_isAhead_5 rfl ?_
  refine v_callS (As := [.int (zI y)]) hc ho dX0_isAhead_6 KS_X0_40 KB_J6_bitCount_0f7a4 (c_J6_bitCount_0f7a4 _ _ (x := y)) rfl (Nat.le_of_ble_eq_true rfl) ⟨by omega, by omega⟩ ⟨by omega, by omega⟩ (fun r_ h_ sz_ q_ z_ => ?_)
  obtain ⟨rfl, rfl, rfl⟩ := q_
  refine v_istore_n hc dX0_isAhead_9 (Nat.le_of_ble_eq_true rfl) ?_
  refine v_iload_n hc dX0_isAhead_10 rfl ?_
  refine v_iload_n hc dX0_isAhead_11 rfl ?_
  refine v_ixor hc dX0_isAhead_12 (zI_of _) ?_
  refine v_istore hc dX0_isAhead_13 (Nat.le_of_ble_eq_true rfl) ?_
  refine v_iload_n hc dX0_isAhead_15 rfl ?_
  refine v_iload hc dX0_isAhead_16 rfl ?_
  refine v_iand hc dX0_isAhead_18 (zI_of _) ?_
  refine v_iload hc dX0_isAhead_19 rfl ?_
  refine z_ineg hc dX0_isAhead_21 ?_
  refine v_iand hc dX0_isAhead_22 (zI_of _) ?_
  refine z_if_eq (tgt := 30) hc dX0_isAhead_23 (by decide) (by first | exact d_an_bd _ _ | (unfold zb; omega)) (fun c_1 => ?_) (fun c_1 => ?_)
  · refine z_iconst hc dX0_isAhead_30 ?_
    refine v_istore hc dX0_isAhead_31 (Nat.le_of_ble_eq_true rfl) ?_
    refine v_iload_n hc dX0_isAhead_33 rfl ?_
    refine v_iload_n hc dX0_isAhead_34 rfl ?_
    refine z_icmp_lt (tgt := 48) hc dX0_isAhead_35 (by decide) (by first | exact d_an_bd _ _ | (unfold zb; omega)) (by first | exact d_an_bd _ _ | (unfold zb; omega)) (fun c_2 => ?_) (fun c_2 => ?_)
    · refine z_iconst hc dX0_isAhead_48 ?_
      refine v_goto (tgt := 53) hc dX0_isAhead_49 (by decide) ?_
      refine z_zret M (by omega) dX0_isAhead_53 (by omega) (by omega) ?_
      exact ⟨congrArg (fun q => some (Value.int (zI q))) (Eq.symm (if_pos (by show _ ∨ _; rw [d_lb]; simp only [d_xo, d_an] at *; omega))), rfl, rfl⟩
    · refine v_iload_n hc dX0_isAhead_38 rfl ?_
      refine v_iload_n hc dX0_isAhead_39 rfl ?_
      refine z_icmp_ne (tgt := 52) hc dX0_isAhead_40 (by decide) (by first | exact d_an_bd _ _ | (unfold zb; omega)) (by first | exact d_an_bd _ _ | (unfold zb; omega)) (fun c_3 => ?_) (fun c_3 => ?_)
      · refine z_iconst hc dX0_isAhead_52 ?_
        refine z_zret M (by omega) dX0_isAhead_53 (by omega) (by omega) ?_
        exact ⟨congrArg (fun q => some (Value.int (zI q))) (Eq.symm (if_neg (by show ¬ (_ ∨ _); rw [d_lb]; simp only [d_xo, d_an] at *; omega))), rfl, rfl⟩
      · refine v_iload hc dX0_isAhead_43 rfl ?_
        refine z_if_eq (tgt := 52) hc dX0_isAhead_45 (by decide) (by first | exact d_an_bd _ _ | (unfold zb; omega)) (fun c_4 => ?_) (fun c_4 => absurd c_4 (by decide))
        refine z_iconst hc dX0_isAhead_52 ?_
        refine z_zret M (by omega) dX0_isAhead_53 (by omega) (by omega) ?_
        exact ⟨congrArg (fun q => some (Value.int (zI q))) (Eq.symm (if_neg (by show ¬ (_ ∨ _); rw [d_lb]; simp only [d_xo, d_an] at *; omega))), rfl, rfl⟩
  · refine z_iconst hc dX0_isAhead_26 ?_
    refine v_goto (tgt := 31) hc dX0_isAhead_27 (by decide) ?_
    refine v_istore hc dX0_isAhead_31 (Nat.le_of_ble_eq_true rfl) ?_
    refine v_iload_n hc dX0_isAhead_33 rfl ?_
    refine v_iload_n hc dX0_isAhead_34 rfl ?_
    refine z_icmp_lt (tgt := 48) hc dX0_isAhead_35 (by decide) (by first | exact d_an_bd _ _ | (unfold zb; omega)) (by first | exact d_an_bd _ _ | (unfold zb; omega)) (fun c_5 => ?_) (fun c_5 => ?_)
    · refine z_iconst hc dX0_isAhead_48 ?_
      refine v_goto (tgt := 53) hc dX0_isAhead_49 (by decide) ?_
      refine z_zret M (by omega) dX0_isAhead_53 (by omega) (by omega) ?_
      exact ⟨congrArg (fun q => some (Value.int (zI q))) (Eq.symm (if_pos (by show _ ∨ _; rw [d_lb]; simp only [d_xo, d_an] at *; omega))), rfl, rfl⟩
    · refine v_iload_n hc dX0_isAhead_38 rfl ?_
      refine v_iload_n hc dX0_isAhead_39 rfl ?_
      refine z_icmp_ne (tgt := 52) hc dX0_isAhead_40 (by decide) (by first | exact d_an_bd _ _ | (unfold zb; omega)) (by first | exact d_an_bd _ _ | (unfold zb; omega)) (fun c_6 => ?_) (fun c_6 => ?_)
      · refine z_iconst hc dX0_isAhead_52 ?_
        refine z_zret M (by omega) dX0_isAhead_53 (by omega) (by omega) ?_
        exact ⟨congrArg (fun q => some (Value.int (zI q))) (Eq.symm (if_neg (by show ¬ (_ ∨ _); rw [d_lb]; simp only [d_xo, d_an] at *; omega))), rfl, rfl⟩
      · refine v_iload hc dX0_isAhead_43 rfl ?_
        refine z_if_eq (tgt := 52) hc dX0_isAhead_45 (by decide) (by first | exact d_an_bd _ _ | (unfold zb; omega)) (fun c_7 => absurd c_7 (by decide)) (fun c_7 => ?_)
        refine z_iconst hc dX0_isAhead_48 ?_
        refine v_goto (tgt := 53) hc dX0_isAhead_49 (by decide) ?_
        refine z_zret M (by omega) dX0_isAhead_53 (by omega) (by omega) ?_
        exact ⟨congrArg (fun q => some (Value.int (zI q))) (Eq.symm (if_pos (by show _ ∨ _; rw [d_lb]; simp only [d_xo, d_an] at *; omega))), rfl, rfl⟩
def d_cl (f : Nat → Int) (fr : Int → Int) : Nat → Int
  | 0 => -2
  | j + 1 => if (d_cl f fr j = -2 ∨ f j < d_cl f fr j) ∧ fr (f j) < 0 then f j else d_cl f fr j
theorem d_cl_bd {f : Nat → Int} (hf : ∀ j, 0 ≤ f j ∧ f j ≤ 100000) (fr : Int → Int) : ∀ j : Nat, -2 ≤ d_cl f fr j ∧ d_cl f fr j ≤ 100000
  | 0 => by simp [d_cl]
  | j + 1 => by
    have h1 := d_cl_bd hf fr j
    have h2 := hf j
    rw [d_cl]
    split <;> omega

set_option maxHeartbeats 4000000 in
theorem l_X0_firstClash_5 {S : b_S} {l : Launch} {G : b_G} {o : Nat} {ad : Nat → Nat} {i : Nat → Int} {a : Nat → Nat → Int} {h : b_H} {sz : Nat} {post : Option Value → b_H → Nat → Prop} (M : b_M S l G RX0 cX0_firstClash 4 (some .int) "firstClash" 1 25 0 0 h sz post) (hO : r_O K0 0 o ad i a h) (hI : d_I i a) (P : post (some (.int (zI (d_cl (a 0) (fun t => d_Fr (a 0) (a 1) (a 2) (i 4) t 0 (i 3).toNat) (i 3).toNat)))) h sz) : ∀ (d : Nat) (r x : Int) (x3 : Option Value), (i 3 - x).toNat = d → 0 ≤ x → x ≤ i 3 → r = d_cl (a 0) (fun t => d_Fr (a 0) (a 1) (a 2) (i 4) t 0 (i 3).toNat) x.toNat → V S 0 0 h sz 5 [some (.ref o), some (.int (zI r)), some (.int (zI x)), x3] [] := by
  have hc := M.2.2.2.1
  have ho : s_own S = RX0 := M.2.2.1
  have hFr : (s_R S).frames = 1 := by rw [M.2.2.2.2.2.2.2.1]
  have hLo : (s_R S).locals = 25 := by rw [M.2.2.2.2.2.2.2.1]
  have hCe : (s_R S).cells = 0 := by rw [M.2.2.2.2.2.2.2.1]
  have hSl : (s_R S).slots = 0 := by rw [M.2.2.2.2.2.2.2.1]
  have hi := hO.2.2.2.1
  have ha := hO.2.2.2.2
  have hI3 := hI.1
  have hI4 := hI.2.1
  have hIf := hI.2.2.1
  have hIw := hI.2.2.2
  intro d
  induction d using Nat.strongRecOn with
  | ind d ih =>
    intro r x x3 hd h0 h1 hr
    have hrb := d_cl_bd hIf (fun t => d_Fr (a 0) (a 1) (a 2) (i 4) t 0 (i 3).toNat) x.toNat
    have hfx := hIf x.toNat
    refine v_iload_n hc dX0_firstClash_5 rfl ?_
    refine v_aload_n hc dX0_firstClash_6 rfl ?_
    refine r_get hc ho dX0_firstClash_7 F_X0_25 hO rfl ?_
    refine z_icmp_ge (tgt := 66) hc dX0_firstClash_10 (by decide) (by first | assumption | exact hi _ | exact ha _ _ | (unfold zb; omega)) (by first | assumption | exact hi _ | exact ha _ _ | (unfold zb; omega)) (fun c_1 => ?_) (fun c_1 => ?_)
    · refine v_iload_n hc dX0_firstClash_66 rfl ?_
      refine z_iret M dX0_firstClash_67 (by omega) (by omega) ?_
      rw [hr, show x = i 3 by omega]
      exact P
    · refine v_iload_n hc dX0_firstClash_13 rfl ?_
      refine z_bipush hc dX0_firstClash_14 (by decide) ?_
      refine z_icmp_eq (tgt := 29) hc dX0_firstClash_16 (by decide) (by first | assumption | exact hi _ | exact ha _ _ | (unfold zb; omega)) (by first | assumption | exact hi _ | exact ha _ _ | (unfold zb; omega)) (fun c_2 => ?_) (fun c_2 => ?_)
      · refine z_iconst hc dX0_firstClash_29 ?_
        refine v_goto (tgt := 34) hc dX0_firstClash_30 (by decide) ?_
        refine v_istore_n hc dX0_firstClash_34 (Nat.le_of_ble_eq_true rfl) ?_
        refine v_iload_n hc dX0_firstClash_35 rfl ?_
        refine z_if_eq (tgt := 60) hc dX0_firstClash_36 (by decide) (by first | assumption | exact hi _ | exact ha _ _ | (unfold zb; omega)) (fun c_3 => absurd c_3 (by decide)) (fun c_3 => ?_)
        refine v_aload_n hc dX0_firstClash_39 rfl ?_
        refine v_aload_n hc dX0_firstClash_40 rfl ?_
        refine r_getA hc ho dX0_firstClash_41 F_X0_9 hO rfl ?_
        refine v_iload_n hc dX0_firstClash_44 rfl ?_
        refine r_iald hc dX0_firstClash_45 hO 0 rfl (by decide) (by omega) (by omega) ?_
        refine z_iconst hc dX0_firstClash_46 ?_
        refine v_callV (As := [.int (zI (a 0 x.toNat)), .int (zI (0))]) hc ho dX0_firstClash_47 KV_X0_28 KB_X0_freeHands hO.1 rfl rfl (c_X0_freeHands _ _ hO hI (t := a 0 x.toNat) (out := 0) (ha _ _) (by omega)) rfl (Nat.le_of_ble_eq_true rfl) ⟨by omega, by omega⟩ ⟨by omega, by omega⟩ (fun r_ h_ sz_ q_ z_ => ?_)
        obtain ⟨rfl, rfl, rfl⟩ := q_
        have hfb := d_Fr_bd (f := a 0) (t := a 1) (own := i 4) (x := a 0 x.toNat) (out := 0) hI4 hIw (i 3).toNat
        refine z_if_ge (tgt := 60) hc dX0_firstClash_50 (by decide) (by first | assumption | exact hi _ | exact ha _ _ | (unfold zb; omega)) (fun c_4 => ?_) (fun c_4 => ?_)
        · refine z_iinc hc dX0_firstClash_60 rfl ?_
          refine v_goto (tgt := 5) hc dX0_firstClash_63 (by decide) ?_
          exact ih _ (by omega) _ _ _ rfl (by omega) (by omega) (by rw [show (x + 1).toNat = x.toNat + 1 by omega, d_cl]; split <;> omega)
        · refine v_aload_n hc dX0_firstClash_53 rfl ?_
          refine r_getA hc ho dX0_firstClash_54 F_X0_9 hO rfl ?_
          refine v_iload_n hc dX0_firstClash_57 rfl ?_
          refine r_iald hc dX0_firstClash_58 hO 0 rfl (by decide) (by omega) (by omega) ?_
          refine v_istore_n hc dX0_firstClash_59 (Nat.le_of_ble_eq_true rfl) ?_
          refine z_iinc hc dX0_firstClash_60 rfl ?_
          refine v_goto (tgt := 5) hc dX0_firstClash_63 (by decide) ?_
          exact ih _ (by omega) _ _ _ rfl (by omega) (by omega) (by rw [show (x + 1).toNat = x.toNat + 1 by omega, d_cl]; split <;> omega)
      · refine v_aload_n hc dX0_firstClash_19 rfl ?_
        refine r_getA hc ho dX0_firstClash_20 F_X0_9 hO rfl ?_
        refine v_iload_n hc dX0_firstClash_23 rfl ?_
        refine r_iald hc dX0_firstClash_24 hO 0 rfl (by decide) (by omega) (by omega) ?_
        refine v_iload_n hc dX0_firstClash_25 rfl ?_
        refine z_icmp_ge (tgt := 33) hc dX0_firstClash_26 (by decide) (by first | assumption | exact hi _ | exact ha _ _ | (unfold zb; omega)) (by first | assumption | exact hi _ | exact ha _ _ | (unfold zb; omega)) (fun c_5 => ?_) (fun c_5 => ?_)
        · refine z_iconst hc dX0_firstClash_33 ?_
          refine v_istore_n hc dX0_firstClash_34 (Nat.le_of_ble_eq_true rfl) ?_
          refine v_iload_n hc dX0_firstClash_35 rfl ?_
          refine z_if_eq (tgt := 60) hc dX0_firstClash_36 (by decide) (by first | assumption | exact hi _ | exact ha _ _ | (unfold zb; omega)) (fun c_6 => ?_) (fun c_6 => absurd c_6 (by decide))
          refine z_iinc hc dX0_firstClash_60 rfl ?_
          refine v_goto (tgt := 5) hc dX0_firstClash_63 (by decide) ?_
          exact ih _ (by omega) _ _ _ rfl (by omega) (by omega) (by rw [show (x + 1).toNat = x.toNat + 1 by omega, d_cl]; split <;> omega)
        · refine z_iconst hc dX0_firstClash_29 ?_
          refine v_goto (tgt := 34) hc dX0_firstClash_30 (by decide) ?_
          refine v_istore_n hc dX0_firstClash_34 (Nat.le_of_ble_eq_true rfl) ?_
          refine v_iload_n hc dX0_firstClash_35 rfl ?_
          refine z_if_eq (tgt := 60) hc dX0_firstClash_36 (by decide) (by first | assumption | exact hi _ | exact ha _ _ | (unfold zb; omega)) (fun c_7 => absurd c_7 (by decide)) (fun c_7 => ?_)
          refine v_aload_n hc dX0_firstClash_39 rfl ?_
          refine v_aload_n hc dX0_firstClash_40 rfl ?_
          refine r_getA hc ho dX0_firstClash_41 F_X0_9 hO rfl ?_
          refine v_iload_n hc dX0_firstClash_44 rfl ?_
          refine r_iald hc dX0_firstClash_45 hO 0 rfl (by decide) (by omega) (by omega) ?_
          refine z_iconst hc dX0_firstClash_46 ?_
          refine v_callV (As := [.int (zI (a 0 x.toNat)), .int (zI (0))]) hc ho dX0_firstClash_47 KV_X0_28 KB_X0_freeHands hO.1 rfl rfl (c_X0_freeHands _ _ hO hI (t := a 0 x.toNat) (out := 0) (ha _ _) (by omega)) rfl (Nat.le_of_ble_eq_true rfl) ⟨by omega, by omega⟩ ⟨by omega, by omega⟩ (fun r_ h_ sz_ q_ z_ => ?_)
          obtain ⟨rfl, rfl, rfl⟩ := q_
          have hfb := d_Fr_bd (f := a 0) (t := a 1) (own := i 4) (x := a 0 x.toNat) (out := 0) hI4 hIw (i 3).toNat
          refine z_if_ge (tgt := 60) hc dX0_firstClash_50 (by decide) (by first | assumption | exact hi _ | exact ha _ _ | (unfold zb; omega)) (fun c_8 => ?_) (fun c_8 => ?_)
          · refine z_iinc hc dX0_firstClash_60 rfl ?_
            refine v_goto (tgt := 5) hc dX0_firstClash_63 (by decide) ?_
            exact ih _ (by omega) _ _ _ rfl (by omega) (by omega) (by rw [show (x + 1).toNat = x.toNat + 1 by omega, d_cl]; split <;> omega)
          · refine v_aload_n hc dX0_firstClash_53 rfl ?_
            refine r_getA hc ho dX0_firstClash_54 F_X0_9 hO rfl ?_
            refine v_iload_n hc dX0_firstClash_57 rfl ?_
            refine r_iald hc dX0_firstClash_58 hO 0 rfl (by decide) (by omega) (by omega) ?_
            refine v_istore_n hc dX0_firstClash_59 (Nat.le_of_ble_eq_true rfl) ?_
            refine z_iinc hc dX0_firstClash_60 rfl ?_
            refine v_goto (tgt := 5) hc dX0_firstClash_63 (by decide) ?_
            exact ih _ (by omega) _ _ _ rfl (by omega) (by omega) (by rw [show (x + 1).toNat = x.toNat + 1 by omega, d_cl]; split <;> omega)
set_option maxHeartbeats 4000000 in
theorem c_X0_firstClash (l : Launch) (G : b_G) {o : Nat} {ad : Nat → Nat} {i : Nat → Int} {a : Nat → Nat → Int} {h : b_H} {sz : Nat} (hO : r_O K0 0 o ad i a h) (hI : d_I i a)  : Con l G yX0_firstClash cX0_firstClash 4 (some .int) 1 25 0 0 [.ref o] h sz (p_ro (some (.int (zI (d_cl (a 0) (fun t => d_Fr (a 0) (a 1) (a 2) (i 4) t 0 (i 3).toNat) (i 3).toNat)))) h sz) := by
  refine Con.ofK (by decide +kernel) rfl rfl ?_
  intro S M
  have hc := M.2.2.2.1
  have ho : s_own S = RX0 := M.2.2.1
  have hFr : (s_R S).frames = 1 := by rw [M.2.2.2.2.2.2.2.1]
  have hLo : (s_R S).locals = 25 := by rw [M.2.2.2.2.2.2.2.1]
  have hCe : (s_R S).cells = 0 := by rw [M.2.2.2.2.2.2.2.1]
  have hSl : (s_R S).slots = 0 := by rw [M.2.2.2.2.2.2.2.1]
  have hi := hO.2.2.2.1
  have ha := hO.2.2.2.2
  have hI3 := hI.1
  have hI4 := hI.2.1
  have hIf := hI.2.2.1
  have hIw := hI.2.2.2
  refine z_bipush hc dX0_firstClash_0 (by decide) ?_
  refine v_istore_n hc dX0_firstClash_2 (Nat.le_of_ble_eq_true rfl) ?_
  refine z_iconst hc dX0_firstClash_3 ?_
  refine v_istore_n hc dX0_firstClash_4 (Nat.le_of_ble_eq_true rfl) ?_
  exact l_X0_firstClash_5 M hO hI ⟨rfl, rfl, rfl⟩ _ _ _ _ rfl (by omega) (by omega) rfl
def d_eb (f : Nat → Int) (fr : Int → Int) (out : Int) : Nat → Bool
  | 0 => true
  | j + 1 => d_eb f fr out j && (decide (¬ out / 2 ^ j % 2 = 0) || decide (0 ≤ fr (f j)))
def d_en (f : Nat → Int) (fr : Int → Int) (out : Int) (n : Nat) : Prop := ∀ j, j < n → out / 2 ^ j % 2 = 0 → 0 ≤ fr (f j)
theorem d_eb_iff (f : Nat → Int) (fr : Int → Int) (out : Int) : ∀ n : Nat, d_eb f fr out n = true ↔ d_en f fr out n
  | 0 => by simp [d_eb, d_en]
  | n + 1 => by
    rw [d_eb, Bool.and_eq_true, d_eb_iff f fr out n]
    simp only [Bool.or_eq_true, decide_eq_true_eq]
    constructor
    · rintro ⟨h1, h2⟩ j hj hb
      by_cases e : j = n
      · subst e; rcases h2 with h2 | h2
        · exact absurd hb h2
        · exact h2
      · exact h1 j (by omega) hb
    · intro h1
      refine ⟨fun j hj hb => h1 j (by omega) hb, ?_⟩
      by_cases hb : out / 2 ^ n % 2 = 0
      · exact Or.inr (h1 n (by omega) hb)
      · exact Or.inl hb
def d_ll (eb : Int → Bool) (al : Int) : Nat → Int
  | 0 => al
  | j + 1 => if (d_bc j < d_bc (d_ll eb al j) ∨ (d_bc j = d_bc (d_ll eb al j) ∧ ¬ d_lb j (d_ll eb al j) = 0)) ∧ eb j = true then j else d_ll eb al j
theorem d_ll_bd (eb : Int → Bool) {al : Int} (h : 0 ≤ al) : ∀ j : Nat, (j : Int) ≤ al → 0 ≤ d_ll eb al j ∧ d_ll eb al j ≤ al
  | 0, _ => by simp [d_ll]; exact h
  | j + 1, q => by
    have h1 := d_ll_bd eb h j (by omega)
    rw [d_ll]
    split <;> omega

set_option maxHeartbeats 4000000 in
theorem l_X0_isEnoughWithout_2 {S : b_S} {l : Launch} {G : b_G} {o : Nat} {ad : Nat → Nat} {i : Nat → Int} {a : Nat → Nat → Int} {h : b_H} {sz : Nat} {post : Option Value → b_H → Nat → Prop} (M : b_M S l G RX0 cX0_isEnoughWithout 4 (some .boolean) "isEnoughWithout" 1 25 0 0 h sz post) (hO : r_O K0 0 o ad i a h) (hI : d_I i a) {out : Int} (hout : 0 ≤ out ∧ out < 2147483648) (P1 : d_en (a 0) (fun t => d_Fr (a 0) (a 1) (a 2) (i 4) t out (i 3).toNat) out (i 3).toNat → post (some (.int (zI 1))) h sz) (P2 : ¬ d_en (a 0) (fun t => d_Fr (a 0) (a 1) (a 2) (i 4) t out (i 3).toNat) out (i 3).toNat → post (some (.int (zI 0))) h sz) : ∀ (d : Nat) (x : Int) (x3 : Option Value), (i 3 - x).toNat = d → 0 ≤ x → x ≤ i 3 → d_en (a 0) (fun t => d_Fr (a 0) (a 1) (a 2) (i 4) t out (i 3).toNat) out x.toNat → V S 0 0 h sz 2 [some (.ref o), some (.int (zI out)), some (.int (zI x)), x3] [] := by
  have hc := M.2.2.2.1
  have ho : s_own S = RX0 := M.2.2.1
  have hFr : (s_R S).frames = 1 := by rw [M.2.2.2.2.2.2.2.1]
  have hLo : (s_R S).locals = 25 := by rw [M.2.2.2.2.2.2.2.1]
  have hCe : (s_R S).cells = 0 := by rw [M.2.2.2.2.2.2.2.1]
  have hSl : (s_R S).slots = 0 := by rw [M.2.2.2.2.2.2.2.1]
  have hi := hO.2.2.2.1
  have ha := hO.2.2.2.2
  have hI3 := hI.1
  have hI4 := hI.2.1
  have hIf := hI.2.2.1
  have hIw := hI.2.2.2
  intro d
  induction d using Nat.strongRecOn with
  | ind d ih =>
    intro x x3 hd h0 h1 hr
    refine v_iload_n hc dX0_isEnoughWithout_2 rfl ?_
    refine v_aload_n hc dX0_isEnoughWithout_3 rfl ?_
    refine r_get hc ho dX0_isEnoughWithout_4 F_X0_25 hO rfl ?_
    refine z_icmp_ge (tgt := 50) hc dX0_isEnoughWithout_7 (by decide) (by first | assumption | exact hi _ | exact ha _ _ | (unfold zb; omega)) (by first | assumption | exact hi _ | exact ha _ _ | (unfold zb; omega)) (fun c_1 => ?_) (fun c_1 => ?_)
    · refine z_iconst hc dX0_isEnoughWithout_50 ?_
      refine z_zret M (by omega) dX0_isEnoughWithout_51 (by omega) (by omega) ?_
      exact P1 (fun j hj hb => hr j (by omega) hb)
    · have hq : 0 ≤ out / 2 ^ x.toNat ∧ out / 2 ^ x.toNat < 2147483648 := ⟨Int.ediv_nonneg hout.1 (Int.pow_nonneg (by omega)), Int.lt_of_le_of_lt (Int.ediv_le_self _ hout.1) hout.2⟩
      refine v_iload_n hc dX0_isEnoughWithout_10 rfl ?_
      refine v_iload_n hc dX0_isEnoughWithout_11 rfl ?_
      refine v_ishr hc dX0_isEnoughWithout_12 (zI_shr (by omega) (by omega) (by omega) (by omega)) ?_
      refine z_iconst hc dX0_isEnoughWithout_13 ?_
      refine v_iand hc dX0_isEnoughWithout_14 (zI_and1 (by omega) (by omega)) ?_
      refine z_if_ne (tgt := 22) hc dX0_isEnoughWithout_15 (by decide) (by first | assumption | exact hi _ | exact ha _ _ | (unfold zb; omega)) (fun c_2 => ?_) (fun c_2 => ?_)
      · refine z_iconst hc dX0_isEnoughWithout_22 ?_
        refine v_istore_n hc dX0_isEnoughWithout_23 (Nat.le_of_ble_eq_true rfl) ?_
        refine v_iload_n hc dX0_isEnoughWithout_24 rfl ?_
        refine z_if_eq (tgt := 44) hc dX0_isEnoughWithout_25 (by decide) (by first | assumption | exact hi _ | exact ha _ _ | (unfold zb; omega)) (fun c_3 => ?_) (fun c_3 => absurd c_3 (by decide))
        refine z_iinc hc dX0_isEnoughWithout_44 rfl ?_
        refine v_goto (tgt := 2) hc dX0_isEnoughWithout_47 (by decide) ?_
        exact ih _ (by omega) _ _ rfl (by omega) (by omega) (fun j hj hb => by
          by_cases e : j = x.toNat
          · subst e; omega
          · exact hr j (by omega) hb)
      · refine z_iconst hc dX0_isEnoughWithout_18 ?_
        refine v_goto (tgt := 23) hc dX0_isEnoughWithout_19 (by decide) ?_
        refine v_istore_n hc dX0_isEnoughWithout_23 (Nat.le_of_ble_eq_true rfl) ?_
        refine v_iload_n hc dX0_isEnoughWithout_24 rfl ?_
        refine z_if_eq (tgt := 44) hc dX0_isEnoughWithout_25 (by decide) (by first | assumption | exact hi _ | exact ha _ _ | (unfold zb; omega)) (fun c_4 => absurd c_4 (by decide)) (fun c_4 => ?_)
        refine v_aload_n hc dX0_isEnoughWithout_28 rfl ?_
        refine v_aload_n hc dX0_isEnoughWithout_29 rfl ?_
        refine r_getA hc ho dX0_isEnoughWithout_30 F_X0_9 hO rfl ?_
        refine v_iload_n hc dX0_isEnoughWithout_33 rfl ?_
        refine r_iald hc dX0_isEnoughWithout_34 hO 0 rfl (by decide) (by omega) (by omega) ?_
        refine v_iload_n hc dX0_isEnoughWithout_35 rfl ?_
        refine v_callV (As := [.int (zI (a 0 x.toNat)), .int (zI (out))]) hc ho dX0_isEnoughWithout_36 KV_X0_28 KB_X0_freeHands hO.1 rfl rfl (c_X0_freeHands _ _ hO hI (t := a 0 x.toNat) (out := out) (ha _ _) (by omega)) rfl (Nat.le_of_ble_eq_true rfl) ⟨by omega, by omega⟩ ⟨by omega, by omega⟩ (fun r_ h_ sz_ q_ z_ => ?_)
        obtain ⟨rfl, rfl, rfl⟩ := q_
        have hfb := d_Fr_bd (f := a 0) (t := a 1) (own := i 4) (x := a 0 x.toNat) (out := out) hI4 hIw (i 3).toNat
        refine z_if_ge (tgt := 44) hc dX0_isEnoughWithout_39 (by decide) (by first | assumption | exact hi _ | exact ha _ _ | (unfold zb; omega)) (fun c_5 => ?_) (fun c_5 => ?_)
        · refine z_iinc hc dX0_isEnoughWithout_44 rfl ?_
          refine v_goto (tgt := 2) hc dX0_isEnoughWithout_47 (by decide) ?_
          exact ih _ (by omega) _ _ rfl (by omega) (by omega) (fun j hj hb => by
            by_cases e : j = x.toNat
            · subst e; omega
            · exact hr j (by omega) hb)
        · refine z_iconst hc dX0_isEnoughWithout_42 ?_
          refine z_zret M (by omega) dX0_isEnoughWithout_43 (by omega) (by omega) ?_
          exact P2 (fun q => by have e := q x.toNat (by omega) (by omega); dsimp only at e; omega)
set_option maxHeartbeats 4000000 in
theorem c_X0_isEnoughWithout (l : Launch) (G : b_G) {o : Nat} {ad : Nat → Nat} {i : Nat → Int} {a : Nat → Nat → Int} {h : b_H} {sz : Nat} (hO : r_O K0 0 o ad i a h) (hI : d_I i a) {out : Int} (hout : 0 ≤ out ∧ out < 2147483648) : Con l G yX0_isEnoughWithout cX0_isEnoughWithout 4 (some .boolean) 1 25 0 0 [.ref o, .int (zI out)] h sz (p_ro (some (.int (zI (bI (d_eb (a 0) (fun t => d_Fr (a 0) (a 1) (a 2) (i 4) t out (i 3).toNat) out (i 3).toNat = true))))) h sz) := by
  refine Con.ofK (by decide +kernel) rfl rfl ?_
  intro S M
  have hc := M.2.2.2.1
  have ho : s_own S = RX0 := M.2.2.1
  have hFr : (s_R S).frames = 1 := by rw [M.2.2.2.2.2.2.2.1]
  have hLo : (s_R S).locals = 25 := by rw [M.2.2.2.2.2.2.2.1]
  have hCe : (s_R S).cells = 0 := by rw [M.2.2.2.2.2.2.2.1]
  have hSl : (s_R S).slots = 0 := by rw [M.2.2.2.2.2.2.2.1]
  have hi := hO.2.2.2.1
  have ha := hO.2.2.2.2
  have hI3 := hI.1
  have hI4 := hI.2.1
  have hIf := hI.2.2.1
  have hIw := hI.2.2.2
  refine z_iconst hc dX0_isEnoughWithout_0 ?_
  refine v_istore_n hc dX0_isEnoughWithout_1 (Nat.le_of_ble_eq_true rfl) ?_
  exact l_X0_isEnoughWithout_2 M hO hI hout (fun q => ⟨by rw [bI, if_pos ((d_eb_iff _ _ _ _).mpr q)], rfl, rfl⟩) (fun q => ⟨by rw [bI, if_neg (fun z => q ((d_eb_iff _ _ _ _).mp z))], rfl, rfl⟩) _ _ _ rfl (by omega) (by omega) (fun j hj => by simp at hj)
set_option maxHeartbeats 4000000 in
theorem l_X0_leastLeftOut_25 {S : b_S} {l : Launch} {G : b_G} {o : Nat} {ad : Nat → Nat} {i : Nat → Int} {a : Nat → Nat → Int} {h : b_H} {sz : Nat} {post : Option Value → b_H → Nat → Prop} (M : b_M S l G RX0 cX0_leastLeftOut 4 (some .int) "leastLeftOut" 2 48 0 0 h sz post) (hO : r_O K0 0 o ad i a h) (hI : d_I i a) {al : Int} (hal : 0 ≤ al ∧ al < 4096) (P : post (some (.int (zI (d_ll (fun u => d_eb (a 0) (fun t => d_Fr (a 0) (a 1) (a 2) (i 4) t u (i 3).toNat) u (i 3).toNat) al al.toNat)))) h sz) : ∀ (d : Nat) (r x : Int), (al - x).toNat = d → 0 ≤ x → x ≤ al → r = d_ll (fun u => d_eb (a 0) (fun t => d_Fr (a 0) (a 1) (a 2) (i 4) t u (i 3).toNat) u (i 3).toNat) al x.toNat → V S 0 0 h sz 25 [some (.ref o), some (.int (zI al)), some (.int (zI r)), some (.int (zI x))] [] := by
  have hc := M.2.2.2.1
  have ho : s_own S = RX0 := M.2.2.1
  have hFr : (s_R S).frames = 2 := by rw [M.2.2.2.2.2.2.2.1]
  have hLo : (s_R S).locals = 48 := by rw [M.2.2.2.2.2.2.2.1]
  have hCe : (s_R S).cells = 0 := by rw [M.2.2.2.2.2.2.2.1]
  have hSl : (s_R S).slots = 0 := by rw [M.2.2.2.2.2.2.2.1]
  have hi := hO.2.2.2.1
  have ha := hO.2.2.2.2
  have hI3 := hI.1
  have hI4 := hI.2.1
  have hIf := hI.2.2.1
  have hIw := hI.2.2.2
  intro d
  induction d using Nat.strongRecOn with
  | ind d ih =>
    intro r x hd h0 h1 hr
    have hrb := d_ll_bd (fun u => d_eb (a 0) (fun t => d_Fr (a 0) (a 1) (a 2) (i 4) t u (i 3).toNat) u (i 3).toNat) (al := al) (by omega) x.toNat (by omega)
    rw [← hr] at hrb
    refine v_iload_n hc dX0_leastLeftOut_25 rfl ?_
    refine v_iload_n hc dX0_leastLeftOut_26 rfl ?_
    refine z_icmp_ge (tgt := 54) hc dX0_leastLeftOut_27 (by decide) (by first | assumption | exact hi _ | exact ha _ _ | (unfold zb; omega)) (by first | assumption | exact hi _ | exact ha _ _ | (unfold zb; omega)) (fun c_1 => ?_) (fun c_1 => ?_)
    · refine v_iload_n hc dX0_leastLeftOut_54 rfl ?_
      refine z_iret M dX0_leastLeftOut_55 (by omega) (by omega) ?_
      rw [hr, show x = al by omega]
      exact P
    · refine v_iload_n hc dX0_leastLeftOut_30 rfl ?_
      refine v_iload_n hc dX0_leastLeftOut_31 rfl ?_
      refine v_callS (As := [.int (zI x), .int (zI r)]) hc ho dX0_leastLeftOut_32 KS_X0_32 KB_X0_isAhead (c_X0_isAhead _ _ (x := x) (y := r)) rfl (Nat.le_of_ble_eq_true rfl) ⟨by omega, by omega⟩ ⟨by omega, by omega⟩ (fun r_ h_ sz_ q_ z_ => ?_)
      obtain ⟨rfl, rfl, rfl⟩ := q_
      have hif : ∀ (p : Prop) [Decidable p], 0 ≤ (if p then (1 : Int) else 0) ∧ (if p then (1 : Int) else 0) ≤ 1 := fun p _ => by split <;> omega
      have hif1 := hif (d_bc x < d_bc r ∨ (d_bc x = d_bc r ∧ ¬ d_lb x r = 0))
      refine z_if_eq (tgt := 48) hc dX0_leastLeftOut_35 (by decide) (by first | assumption | exact hi _ | exact ha _ _ | (unfold zb; omega)) (fun c_2 => ?_) (fun c_2 => ?_)
      · refine z_iinc hc dX0_leastLeftOut_48 rfl ?_
        refine v_goto (tgt := 25) hc dX0_leastLeftOut_51 (by decide) ?_
        exact ih _ (by omega) _ _ rfl (by omega) (by omega) (by rw [show (x + 1).toNat = x.toNat + 1 by omega, d_ll, show ((x.toNat : Nat) : Int) = x by omega, ← hr]; split <;> first | rfl | (exfalso; omega) | (exfalso; simp_all; done) | (exfalso; simp_all; omega))
      · refine v_aload_n hc dX0_leastLeftOut_38 rfl ?_
        refine v_iload_n hc dX0_leastLeftOut_39 rfl ?_
        refine v_callV (As := [.int (zI x)]) hc ho dX0_leastLeftOut_40 KV_X0_36 KB_X0_isEnoughWithout hO.1 rfl rfl (c_X0_isEnoughWithout _ _ hO hI (out := x) (by omega)) rfl (Nat.le_of_ble_eq_true rfl) ⟨by omega, by omega⟩ ⟨by omega, by omega⟩ (fun r_ h_ sz_ q_ z_ => ?_)
        obtain ⟨rfl, rfl, rfl⟩ := q_
        have hbb := bI_bd (d_eb (a 0) (fun t => d_Fr (a 0) (a 1) (a 2) (i 4) t x (i 3).toNat) x (i 3).toNat = true)
        have hb1 := @bI_1 (d_eb (a 0) (fun t => d_Fr (a 0) (a 1) (a 2) (i 4) t x (i 3).toNat) x (i 3).toNat = true) _
        have hb0 := @bI_0 (d_eb (a 0) (fun t => d_Fr (a 0) (a 1) (a 2) (i 4) t x (i 3).toNat) x (i 3).toNat = true) _
        refine z_if_eq (tgt := 48) hc dX0_leastLeftOut_43 (by decide) (by first | assumption | exact hi _ | exact ha _ _ | (unfold zb; omega)) (fun c_3 => ?_) (fun c_3 => ?_)
        · refine z_iinc hc dX0_leastLeftOut_48 rfl ?_
          refine v_goto (tgt := 25) hc dX0_leastLeftOut_51 (by decide) ?_
          exact ih _ (by omega) _ _ rfl (by omega) (by omega) (by rw [show (x + 1).toNat = x.toNat + 1 by omega, d_ll, show ((x.toNat : Nat) : Int) = x by omega, ← hr]; split <;> first | rfl | (exfalso; omega) | (exfalso; simp_all; done) | (exfalso; simp_all; omega))
        · refine v_iload_n hc dX0_leastLeftOut_46 rfl ?_
          refine v_istore_n hc dX0_leastLeftOut_47 (Nat.le_of_ble_eq_true rfl) ?_
          refine z_iinc hc dX0_leastLeftOut_48 rfl ?_
          refine v_goto (tgt := 25) hc dX0_leastLeftOut_51 (by decide) ?_
          exact ih _ (by omega) _ _ rfl (by omega) (by omega) (by rw [show (x + 1).toNat = x.toNat + 1 by omega, d_ll, show ((x.toNat : Nat) : Int) = x by omega, ← hr]; split <;> first | rfl | (exfalso; omega) | (exfalso; simp_all; done) | (exfalso; simp_all; omega))
theorem d_pw {n : Nat} (h : n ≤ 12) : (1 : Int) ≤ 2 ^ n ∧ (2 : Int) ^ n ≤ 4096 := by
  have key : ∀ m : Fin 13, (1 : Int) ≤ 2 ^ m.val ∧ (2 : Int) ^ m.val ≤ 4096 := by decide
  exact key ⟨n, by omega⟩

set_option maxHeartbeats 4000000 in
theorem c_X0_leastLeftOut (l : Launch) (G : b_G) {o : Nat} {ad : Nat → Nat} {i : Nat → Int} {a : Nat → Nat → Int} {h : b_H} {sz : Nat} (hO : r_O K0 0 o ad i a h) (hI : d_I i a)  : Con l G yX0_leastLeftOut cX0_leastLeftOut 4 (some .int) 2 48 0 0 [.ref o] h sz (p_ro (some (.int (zI (if 12 < i 3 then -4 else d_ll (fun u => d_eb (a 0) (fun t => d_Fr (a 0) (a 1) (a 2) (i 4) t u (i 3).toNat) u (i 3).toNat) ((2 : Int) ^ (i 3).toNat - 1) ((2 : Int) ^ (i 3).toNat - 1).toNat)))) h sz) := by
  refine Con.ofK (by decide +kernel) rfl rfl ?_
  intro S M
  have hc := M.2.2.2.1
  have ho : s_own S = RX0 := M.2.2.1
  have hFr : (s_R S).frames = 2 := by rw [M.2.2.2.2.2.2.2.1]
  have hLo : (s_R S).locals = 48 := by rw [M.2.2.2.2.2.2.2.1]
  have hCe : (s_R S).cells = 0 := by rw [M.2.2.2.2.2.2.2.1]
  have hSl : (s_R S).slots = 0 := by rw [M.2.2.2.2.2.2.2.1]
  have hi := hO.2.2.2.1
  have ha := hO.2.2.2.2
  have hI3 := hI.1
  have hI4 := hI.2.1
  have hIf := hI.2.2.1
  have hIw := hI.2.2.2
  refine v_aload_n hc dX0_leastLeftOut_0 rfl ?_
  refine r_get hc ho dX0_leastLeftOut_1 F_X0_25 hO rfl ?_
  refine z_bipush hc dX0_leastLeftOut_4 (by decide) ?_
  refine z_icmp_le (tgt := 12) hc dX0_leastLeftOut_6 (by decide) (by first | assumption | exact hi _ | exact ha _ _ | (unfold zb; omega)) (by first | assumption | exact hi _ | exact ha _ _ | (unfold zb; omega)) (fun c_1 => ?_) (fun c_1 => ?_)
  · have hp : (1 : Int) ≤ 2 ^ (i 3).toNat ∧ (2 : Int) ^ (i 3).toNat ≤ 4096 := d_pw (by omega)
    refine z_iconst hc dX0_leastLeftOut_12 ?_
    refine v_aload_n hc dX0_leastLeftOut_13 rfl ?_
    refine r_get hc ho dX0_leastLeftOut_14 F_X0_25 hO rfl ?_
    refine v_ishl hc dX0_leastLeftOut_17 (zI_shl (by omega) (by omega) (by omega) (by omega)) ?_
    refine z_iconst hc dX0_leastLeftOut_18 ?_
    refine z_isub hc dX0_leastLeftOut_19 ?_
    refine v_istore_n hc dX0_leastLeftOut_20 (Nat.le_of_ble_eq_true rfl) ?_
    refine v_iload_n hc dX0_leastLeftOut_21 rfl ?_
    refine v_istore_n hc dX0_leastLeftOut_22 (Nat.le_of_ble_eq_true rfl) ?_
    refine z_iconst hc dX0_leastLeftOut_23 ?_
    refine v_istore_n hc dX0_leastLeftOut_24 (Nat.le_of_ble_eq_true rfl) ?_
    exact l_X0_leastLeftOut_25 M hO hI (al := 1 * 2 ^ (i 3).toNat - 1) (by omega) ⟨by rw [if_neg (by omega), Int.one_mul], rfl, rfl⟩ _ _ _ rfl (by omega) (by omega) rfl
  · refine z_bipush hc dX0_leastLeftOut_9 (by decide) ?_
    refine z_iret M dX0_leastLeftOut_11 (by omega) (by omega) ?_
    exact ⟨by rw [if_pos (by omega)], rfl, rfl⟩
