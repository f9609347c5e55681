/-! the reference: the trial of all programmes -/
def m_zf (a : Nat → Nat → Int) : Nat → Nat → Int := fun s p => if a 21 (12 * s + p) < 0 then -2 else a 22 (12 * s + p)
def m_zt (a : Nat → Nat → Int) : Nat → Bool := fun p => decide (¬ a 10 p = 0)
def m_zj (i : Nat → Int) (a : Nat → Nat → Int) : Nat → Nat → Int := fun p q => if p_st (a 6 p) (a 6 q) ≤ i 20 then i 19 * p_st (a 6 p) (a 6 q) else 1048575
theorem m_zj_bd {i : Nat → Int} (a : Nat → Nat → Int) (h19 : 0 ≤ i 19 ∧ i 19 ≤ 99) (p q : Nat) : 0 ≤ m_zj i a p q ∧ (p_st (a 6 p) (a 6 q) ≤ i 20 → m_zj i a p q = i 19 * p_st (a 6 p) (a 6 q) ∧ m_zj i a p q ≤ 594) ∧ (m_zj i a p q = 1048575 ↔ ¬ p_st (a 6 p) (a 6 q) ≤ i 20) := by
  have h3 := p_st_bd (a 6 p) (a 6 q)
  have h4 : 0 ≤ i 19 * p_st (a 6 p) (a 6 q) ∧ i 19 * p_st (a 6 p) (a 6 q) ≤ 99 * 6 := ⟨Int.mul_nonneg (by omega) (by omega), Int.mul_le_mul (by omega) (by omega) (by omega) (by omega)⟩
  unfold m_zj
  split
  · exact ⟨by omega, fun _ => ⟨rfl, by omega⟩, by omega⟩
  · exact ⟨by omega, fun h => by omega, by omega⟩
theorem m_mb_ok {i : Nat → Int} {a : Nat → Nat → Int} (h19 : 0 ≤ i 19 ∧ i 19 ≤ 99) (h22 : ∀ j, 0 ≤ a 22 j ∧ a 22 j ≤ 100000) {n : Nat} (ht : ∀ k : Nat, k ≤ n → 0 ≤ a 24 k) : m_mb i a n = true ↔ z_ok (m_zf a) (m_zt a) (m_zj i a) (fun k => (a 24 k).toNat) n := by
  have h1 := h22 (12 * n + (a 24 n).toNat)
  unfold m_mb z_ok
  rw [Bool.and_eq_true, Bool.and_eq_true, decide_eq_true_eq, decide_eq_true_eq, Bool.not_eq_true', Bool.eq_false_iff]
  refine and_congr ?_ (and_congr ?_ ?_)
  · show _ ↔ 0 ≤ (if a 21 (12 * n + (a 24 n).toNat) < 0 then -2 else a 22 (12 * n + (a 24 n).toNat))
    split <;> omega
  · constructor
    · intro h k hk e
      show decide _ = true
      rw [decide_eq_true_eq]
      intro h10
      refine h ((w_an_iff _ n).mpr ⟨k, hk, ?_⟩)
      rw [Bool.and_eq_true, decide_eq_true_eq, decide_eq_true_eq]
      have e1 := ht k (by omega)
      have e2 := ht n (by omega)
      have e3 : (a 24 k).toNat = (a 24 n).toNat := e
      exact ⟨by omega, h10⟩
    · intro h hw
      obtain ⟨k, hk, hq⟩ := (w_an_iff _ n).mp hw
      rw [Bool.and_eq_true, decide_eq_true_eq, decide_eq_true_eq] at hq
      have := h k hk (by show (a 24 k).toNat = (a 24 n).toNat; rw [hq.1])
      rw [m_zt, decide_eq_true_eq] at this
      exact this hq.2
  · have := (m_zj_bd a h19 (a 24 (n - 1)).toNat (a 24 n).toNat).2.2
    constructor
    · rintro (h | h)
      · exact Or.inl h
      · exact Or.inr (fun e => (this.mp e) h)
    · rintro (h | h)
      · exact Or.inl h
      · exact Or.inr (Classical.byContradiction (fun w => h (this.mpr w)))
theorem m_ct_c {i : Nat → Int} {a : Nat → Nat → Int} (h19 : 0 ≤ i 19 ∧ i 19 ≤ 99) (h22 : ∀ j, 0 ≤ a 22 j ∧ a 22 j ≤ 100000) : ∀ {k : Nat}, (∀ s, s < k → z_ok (m_zf a) (m_zt a) (m_zj i a) (fun k => (a 24 k).toNat) s) → m_ct i a k = z_c (m_zf a) (m_zj i a) (fun k => (a 24 k).toNat) k
  | 0, _ => rfl
  | k + 1, h => by
    have hk := h k (by omega)
    have h1 := h22 (12 * k + (a 24 k).toNat)
    rw [m_ct, z_c, m_ct_c h19 h22 (fun s hs => h s (by omega))]
    have e1 : m_zf a k (a 24 k).toNat = a 22 (12 * k + (a 24 k).toNat) := by
      have := hk.1
      unfold m_zf at this ⊢
      split at this
      · omega
      · rename_i q; rw [if_neg q]
    show _ = _ + (m_zf a k (a 24 k).toNat + _)
    rw [e1]
    by_cases e : k = 0
    · rw [if_pos e, if_pos e]
    · rw [if_neg e, if_neg e]
      have hj := m_zj_bd a h19 (a 24 (k - 1)).toNat (a 24 k).toNat
      have : p_st (a 6 (a 24 (k - 1)).toNat) (a 6 (a 24 k).toNat) ≤ i 20 := Classical.byContradiction (fun w => by
        rcases hk.2.2 with q | q
        · exact e q
        · exact q (hj.2.2.mpr w))
      rw [(hj.2.1 this).1]
theorem m_low {i : Nat → Int} {a : Nat → Nat → Int} (h19 : 0 ≤ i 19 ∧ i 19 ≤ 99) (h22 : ∀ j, 0 ≤ a 22 j ∧ a 22 j ≤ 100000) {n St : Nat} (hpos : ∀ t : Nat, t < St → 0 ≤ m_ls a t n) {q : Nat → Nat} (hq : z_v St n (m_zf a) (m_zt a) (m_zj i a) q) : ∀ (d s : Nat), s + d = St → z_c (m_zf a) (m_zj i a) q s + m_rs a n St s ≤ z_c (m_zf a) (m_zj i a) q St := by
  intro d
  induction d with
  | zero =>
    intro s hs
    have : m_rs a n St s = 0 := by unfold m_rs; rw [show St - s = 0 by omega]; rfl
    rw [this, show s = St by omega]; omega
  | succ d ih =>
    intro s hs
    have h1 := ih (s + 1) (by omega)
    obtain ⟨g1, g2⟩ := hq s (by omega)
    have h2 := (m_ls_ok h22 s n).2 (hpos s (by omega)) (q s) g1
    have h3 := h22 (12 * s + q s)
    have hj := (m_zj_bd a h19 (q (s - 1)) (q s)).1
    have h4 : m_ls a s n ≤ m_zf a s (q s) := by
      have := g2.1
      unfold m_zf at this ⊢
      split at this
      · omega
      · rename_i u; rw [if_neg u]; exact h2 (by omega)
    rw [m_rs_s (by omega)]
    rw [z_c] at h1
    split at h1 <;> omega
theorem z_mu_bk {n St : Nat} {t : Nat → Int} {k : Nat} {v : Int} (ht : t k + 1 = n) : z_mu n St (b_up t k v) k < z_mu n St t (k + 1) := by
  have hp : (0 : Int) < 14 ^ (St - k) := Int.pow_pos (by omega)
  rw [z_mu, z_mu_cong (t := b_up t k v) (t2 := t) (fun s hs => b_up_ne _ _ (by omega)), show (n : Int) - t k = 1 by omega, Int.one_mul]
  omega
theorem m_z_cong {i i0 : Nat → Int} {a a0 : Nat → Nat → Int} (h1 : i 19 = i0 19) (h2 : i 20 = i0 20) (h3 : a 21 = a0 21) (h4 : a 22 = a0 22) (h5 : a 10 = a0 10) (h6 : a 6 = a0 6) : m_zf a = m_zf a0 ∧ m_zt a = m_zt a0 ∧ m_zj i a = m_zj i0 a0 := by
  unfold m_zf m_zt m_zj
  rw [h1, h2, h3, h4, h5, h6]
  exact ⟨rfl, rfl, rfl⟩
theorem z_c_bd {fm jc : Nat → Nat → Int} {q : Nat → Nat} (hf : ∀ s p, fm s p ≤ 100000) : ∀ {k : Nat}, (∀ s, s < k → 0 ≤ fm s (q s) ∧ (s = 0 ∨ 0 ≤ jc (q (s - 1)) (q s) ∧ jc (q (s - 1)) (q s) ≤ 594)) → 0 ≤ z_c fm jc q k ∧ z_c fm jc q k ≤ (k : Int) * 101000
  | 0, _ => by rw [z_c]; omega
  | k + 1, h => by
    have h1 := z_c_bd (k := k) hf (fun s hs => h s (by omega))
    have h2 := h k (by omega)
    have h3 := hf k (q k)
    rw [z_c]
    split <;> omega
/-- what was given: for each stretch piece, beats, misfit, tenths -/
def m_gv (i : Nat → Int) (a0 a : Nat → Nat → Int) (v : Int) (g : Nat → Nat) (s : Nat) : Prop := a 26 s = (g s : Int) ∧ a 27 s = a0 21 (12 * s + g s) ∧ a 28 s = a0 22 (12 * s + g s) ∧ a 29 s = m_T i a0 v s
def m_EG (a0 a : Nat → Nat → Int) : Prop := ∀ k, k ≠ 24 → k ≠ 26 → k ≠ 27 → k ≠ 28 → k ≠ 29 → a k = a0 k

set_option maxHeartbeats 4000000 in
theorem l_X7_programme429 {S : b_S} {l : Launch} {G : b_G} {o : Nat} {ad : Nat → Nat} {i : Nat → Int} {a0 : Nat → Nat → Int} {hB : b_H} {sz : Nat} {post : Option Value → b_H → Nat → Prop} (M : b_M S l G RX7 cX7_programme 7 (some .int) "programme" 3 75 0 0 hB sz post) {v : Int} {St : Nat} (hv : 12 ≤ v ∧ v ≤ 30) (hF : m_F i a0) (hSt : f_ct (a0 4) (i 1).toNat = (St : Int)) (hSt8 : St ≤ 8) (hTb : ∀ s : Nat, 0 ≤ m_T i a0 v s ∧ m_T i a0 v s ≤ 100000) (hI5 : 0 ≤ i 5 ∧ i 5 ≤ 12) {t : Nat → Int} {x3 x4 x6 : Option Value} (ht : ∀ s : Nat, s < St → 0 ≤ t s ∧ t s < i 5) (P519 : ∀ (h : b_H) (a : Nat → Nat → Int) (s : Int), (r_O K7 7 o ad i a h) → (∀ b, ¬ r_own K7 o ad b → h b = hB b) → (m_EG a0 a) → (a 24 = t) → (∀ u : Nat, (u : Int) < St → m_gv i a0 a v (fun k => (t k).toNat) u) → V S 0 0 h sz 519 [some (.ref o), some (.int (zI v)), some (.int (zI St)), x3, x4, some (.int (zI s)), x6] []) : ∀ (d : Nat) (h : b_H) (a : Nat → Nat → Int) (s : Int), (((St : Int) - s).toNat = d) → (0 ≤ s) → (s ≤ St) → (r_O K7 7 o ad i a h) → (∀ b, ¬ r_own K7 o ad b → h b = hB b) → (m_EG a0 a) → (a 24 = t) → (∀ u : Nat, (u : Int) < s → m_gv i a0 a v (fun k => (t k).toNat) u) → V S 0 0 h sz 429 [some (.ref o), some (.int (zI v)), some (.int (zI St)), x3, x4, some (.int (zI s)), x6] [] := by
  have hc := M.2.2.2.1
  have ho : s_own S = RX7 := M.2.2.1
  have hFr : (s_R S).frames = 3 := by rw [M.2.2.2.2.2.2.2.1]
  have hLo : (s_R S).locals = 75 := by rw [M.2.2.2.2.2.2.2.1]
  have hCe : (s_R S).cells = 0 := by rw [M.2.2.2.2.2.2.2.1]
  have hSl : (s_R S).slots = 0 := by rw [M.2.2.2.2.2.2.2.1]
  intro d
  induction d using Nat.strongRecOn with
  | ind d ih =>
    intro h a s hd h0 h1 hO hfr hE h24a hdone
    have hi := hO.2.2.2.1
    have ha := hO.2.2.2.2
    have hF1 := hF.1
    refine v_iload hc dX7_programme_429 rfl ?_
    refine v_iload_n hc dX7_programme_431 rfl ?_
    refine z_icmp_ge (tgt := 519) hc dX7_programme_432 (by decide) (by first | assumption | exact hi _ | exact ha _ _ | (unfold zb; omega)) (by first | assumption | exact hi _ | exact ha _ _ | (unfold zb; omega)) (fun c_1 => ?_) (fun c_1 => ?_)
    · exact P519 h a s hO hfr hE h24a (fun u hu => hdone u (by omega))
    · have h24 : a 24 = t := h24a
      have hts := ht s.toNat (by omega)
      have hs9 : ((s.toNat : Nat) : Int) = s := by omega
      have h21 : a 21 = a0 21 := hE 21 (by decide) (by decide) (by decide) (by decide) (by decide)
      have h22 : a 22 = a0 22 := hE 22 (by decide) (by decide) (by decide) (by decide) (by decide)
      have hidx : (12 * s + t s.toNat).toNat = 12 * s.toNat + (t s.toNat).toNat := by omega
      have hzb1 : zb (a0 21 (12 * s.toNat + (t s.toNat).toNat)) := by rw [← h21]; exact ha 21 _
      have hzb2 : zb (a0 22 (12 * s.toNat + (t s.toNat).toNat)) := by rw [← h22]; exact ha 22 _
      refine v_aload_n hc dX7_programme_435 rfl ?_
      refine r_getA hc ho dX7_programme_436 F_X7_76 hO rfl ?_
      refine v_iload hc dX7_programme_439 rfl ?_
      refine v_aload_n hc dX7_programme_441 rfl ?_
      refine r_getA hc ho dX7_programme_442 F_X7_73 hO rfl ?_
      refine v_iload hc dX7_programme_445 rfl ?_
      refine r_iald hc dX7_programme_447 hO 24 rfl (by decide) (by omega) (by omega) ?_
      rw [h24]
      refine r_iastf hc dX7_programme_448 hO hfr 26 rfl (by decide) (by omega) (by omega) (by first | assumption | exact hi _ | exact ha _ _ | (unfold zb; omega)) (fun h a_2 g_2 k_2 hO hfr => ?_)
      have ha := hO.2.2.2.2
      have b24 : a_2 24 = t := (k_2 24 (by decide)).trans h24
      have b21 : a_2 21 = a0 21 := (k_2 21 (by decide)).trans h21
      have ha := hO.2.2.2.2
      refine v_aload_n hc dX7_programme_449 rfl ?_
      refine r_getA hc ho dX7_programme_450 F_X7_79 hO rfl ?_
      refine v_iload hc dX7_programme_453 rfl ?_
      refine v_aload_n hc dX7_programme_455 rfl ?_
      refine r_getA hc ho dX7_programme_456 F_X7_64 hO rfl ?_
      refine z_bipush hc dX7_programme_459 (by decide) ?_
      refine v_iload hc dX7_programme_461 rfl ?_
      refine z_imul hc dX7_programme_463 ?_
      refine v_aload_n hc dX7_programme_464 rfl ?_
      refine r_getA hc ho dX7_programme_465 F_X7_73 hO rfl ?_
      refine v_iload hc dX7_programme_468 rfl ?_
      refine r_iald hc dX7_programme_470 hO 24 rfl (by decide) (by omega) (by omega) ?_
      rw [b24]
      refine z_iadd hc dX7_programme_471 ?_
      refine r_iald hc dX7_programme_472 hO 21 rfl (by decide) (by omega) (by omega) ?_
      rw [b21, hidx]
      refine r_iastf hc dX7_programme_473 hO hfr 27 rfl (by decide) (by omega) (by omega) (by first | assumption | exact hi _ | exact ha _ _ | (unfold zb; omega)) (fun h a_3 g_3 k_3 hO hfr => ?_)
      have ha := hO.2.2.2.2
      have c24 : a_3 24 = t := (k_3 24 (by decide)).trans b24
      have c22 : a_3 22 = a0 22 := (k_3 22 (by decide)).trans ((k_2 22 (by decide)).trans h22)
      have ha := hO.2.2.2.2
      refine v_aload_n hc dX7_programme_474 rfl ?_
      refine r_getA hc ho dX7_programme_475 F_X7_82 hO rfl ?_
      refine v_iload hc dX7_programme_478 rfl ?_
      refine v_aload_n hc dX7_programme_480 rfl ?_
      refine r_getA hc ho dX7_programme_481 F_X7_67 hO rfl ?_
      refine z_bipush hc dX7_programme_484 (by decide) ?_
      refine v_iload hc dX7_programme_486 rfl ?_
      refine z_imul hc dX7_programme_488 ?_
      refine v_aload_n hc dX7_programme_489 rfl ?_
      refine r_getA hc ho dX7_programme_490 F_X7_73 hO rfl ?_
      refine v_iload hc dX7_programme_493 rfl ?_
      refine r_iald hc dX7_programme_495 hO 24 rfl (by decide) (by omega) (by omega) ?_
      rw [c24]
      refine z_iadd hc dX7_programme_496 ?_
      refine r_iald hc dX7_programme_497 hO 22 rfl (by decide) (by omega) (by omega) ?_
      rw [c22, hidx]
      refine r_iastf hc dX7_programme_498 hO hfr 28 rfl (by decide) (by omega) (by omega) (by first | assumption | exact hi _ | exact ha _ _ | (unfold zb; omega)) (fun h a_4 g_4 k_4 hO hfr => ?_)
      have ha := hO.2.2.2.2
      have hq4 : ∀ k, k ≠ 26 → k ≠ 27 → k ≠ 28 → a_4 k = a k := fun k k1 k2 k3 => ((k_4 k k3).trans (k_3 k k2)).trans (k_2 k k1)
      have hFq : m_F i a_4 := by unfold m_F; rw [hq4 4 (by decide) (by decide) (by decide), hq4 2 (by decide) (by decide) (by decide), hq4 3 (by decide) (by decide) (by decide), hE 4 (by decide) (by decide) (by decide) (by decide) (by decide), hE 2 (by decide) (by decide) (by decide) (by decide) (by decide), hE 3 (by decide) (by decide) (by decide) (by decide) (by decide)]; exact hF
      have hTe : f_Te (a_4 2) (a_4 4) (i 1).toNat s v = m_T i a0 v s.toNat := by
        rw [f_Te, hq4 2 (by decide) (by decide) (by decide), hq4 4 (by decide) (by decide) (by decide), hE 2 (by decide) (by decide) (by decide) (by decide) (by decide), hE 4 (by decide) (by decide) (by decide) (by decide) (by decide), if_neg (by omega), if_neg (by omega), m_T, hs9]
      have hTs := hTb s.toNat
      have ha := hO.2.2.2.2
      refine v_aload_n hc dX7_programme_499 rfl ?_
      refine r_getA hc ho dX7_programme_500 F_X7_85 hO rfl ?_
      refine v_iload hc dX7_programme_503 rfl ?_
      refine v_aload_n hc dX7_programme_505 rfl ?_
      refine v_iload hc dX7_programme_506 rfl ?_
      refine v_iload_n hc dX7_programme_508 rfl ?_
      refine v_callV (As := [.int (zI s), .int (zI v)]) hc ho dX7_programme_509 KV_X7_200 KB_X7_tenths hO.1 rfl rfl (c_X7_tenths _ _ hO hFq (s := s) (v := v) (by unfold zb; omega) (by unfold zb; omega)) rfl (Nat.le_of_ble_eq_true rfl) ⟨by omega, by omega⟩ ⟨by omega, by omega⟩ (fun r_ h_ sz_ q_ z_ => ?_)
      obtain ⟨rfl, eh_, es_⟩ := q_
      have eh_ := eh_.symm
      subst eh_
      have es_ := es_.symm
      subst es_
      rw [hTe]
      refine r_iastf hc dX7_programme_512 hO hfr 29 rfl (by decide) (by omega) (by omega) (by first | assumption | exact hi _ | exact ha _ _ | (unfold zb; omega)) (fun h a_5 g_5 k_5 hO hfr => ?_)
      have ha := hO.2.2.2.2
      refine z_iinc hc dX7_programme_513 rfl ?_
      refine v_goto (tgt := 429) hc dX7_programme_516 (by decide) ?_
      have hq5 : ∀ k, k ≠ 26 → k ≠ 27 → k ≠ 28 → k ≠ 29 → a_5 k = a k := fun k k1 k2 k3 k4 => (k_5 k k4).trans (hq4 k k1 k2 k3)
      have f26 : a_5 26 = b_up (a 26) s.toNat (t s.toNat) := by rw [k_5 26 (by decide), k_4 26 (by decide), k_3 26 (by decide), g_2]
      have f27 : a_5 27 = b_up (a 27) s.toNat (a0 21 (12 * s.toNat + (t s.toNat).toNat)) := by rw [k_5 27 (by decide), k_4 27 (by decide), g_3, k_2 27 (by decide)]
      have f28 : a_5 28 = b_up (a 28) s.toNat (a0 22 (12 * s.toNat + (t s.toNat).toNat)) := by rw [k_5 28 (by decide), g_4, k_3 28 (by decide), k_2 28 (by decide)]
      have f29 : a_5 29 = b_up (a 29) s.toNat (m_T i a0 v s.toNat) := by rw [g_5, hq4 29 (by decide) (by decide) (by decide)]
      refine ih _ (by omega) h a_5 _ rfl (by omega) (by omega) hO hfr (fun k k1 k2 k3 k4 k5 => (hq5 k k2 k3 k4 k5).trans (hE k k1 k2 k3 k4 k5)) (by rw [hq5 24 (by decide) (by decide) (by decide) (by decide)]; exact h24) (fun u hu => ?_)
      unfold m_gv
      rw [f26, f27, f28, f29]
      by_cases e : u = s.toNat
      · rw [e, b_up_eq, b_up_eq, b_up_eq, b_up_eq]
        exact ⟨by show t s.toNat = (((t s.toNat).toNat : Nat) : Int); omega, rfl, rfl, rfl⟩
      · rw [b_up_ne _ _ e, b_up_ne _ _ e, b_up_ne _ _ e, b_up_ne _ _ e]
        exact hdone u (by omega)
theorem m_T_i {i i0 : Nat → Int} {a : Nat → Nat → Int} {v : Int} {s : Nat} (h : i 1 = i0 1) : m_T i a v s = m_T i0 a v s := by unfold m_T; rw [h]
set_option maxHeartbeats 4000000 in
theorem l_X7_programme319 {S : b_S} {l : Launch} {G : b_G} {o : Nat} {ad : Nat → Nat} {i0 : Nat → Int} {a0 : Nat → Nat → Int} {hB : b_H} {sz : Nat} {post : Option Value → b_H → Nat → Prop} (M : b_M S l G RX7 cX7_programme 7 (some .int) "programme" 3 75 0 0 hB sz post) {v : Int} {St : Nat} (hv : 12 ≤ v ∧ v ≤ 30) (hF : m_F i0 a0) (hSt : f_ct (a0 4) (i0 1).toNat = (St : Int)) (hSt8 : St ≤ 8) (hTb : ∀ s : Nat, 0 ≤ m_T i0 a0 v s ∧ m_T i0 a0 v s ≤ 100000) (hI5 : 0 ≤ i0 5 ∧ i0 5 ≤ 12) (hky : ∀ j, 0 ≤ a0 6 j ∧ a0 6 j ≤ 11) (h220 : ∀ j, 0 ≤ a0 22 j ∧ a0 22 j ≤ 100000) (h19 : 0 ≤ i0 19 ∧ i0 19 ≤ 99) (hpos : ∀ t : Nat, t < St → 0 ≤ m_ls a0 t (i0 5).toNat) (hrest : ∀ t : Nat, t ≤ St → a0 23 t = m_rs a0 (i0 5).toNat St t) (P522 : ∀ (h : b_H) (i : Nat → Int) (a : Nat → Nat → Int) (best : Int) (x5 x6 : Option Value) (g : Nat → Nat), (r_O K7 7 o ad i a h) → (∀ b, ¬ r_own K7 o ad b → h b = hB b) → (∀ k, k ≠ 25 → i k = i0 k) → (m_EG a0 a) → (z_I St (i0 5).toNat (m_zf a0) (m_zt a0) (m_zj i0 a0) 0 (a 24) best g) → (-1 ≤ best ∧ best ≤ 900000) → (0 ≤ best → ∀ u : Nat, u < St → m_gv i0 a0 a v g u) → (0 ≤ best → i 25 = (St : Int)) → (best < 0 → i 25 = i0 25) → (best < 0 → ∀ k, k ≠ 24 → k ≠ 25 → a k = a0 k) → V S 0 0 h sz 522 [some (.ref o), some (.int (zI v)), some (.int (zI St)), some (.int (zI best)), some (.int (zI (-1))), x5, x6] []) : ∀ (d : Nat) (h : b_H) (i : Nat → Int) (a : Nat → Nat → Int) (best n : Int) (x5 x6 : Option Value) (g : Nat → Nat), ((z_mu (i0 5).toNat St (a 24) (n + 1).toNat).toNat = d) → (r_O K7 7 o ad i a h) → (∀ b, ¬ r_own K7 o ad b → h b = hB b) → (∀ k, k ≠ 25 → i k = i0 k) → (m_EG a0 a) → (-1 ≤ n) → (n < St) → (∀ s : Nat, (s : Int) < n → 0 ≤ a 24 s ∧ a 24 s < i0 5 ∧ z_ok (m_zf a0) (m_zt a0) (m_zj i0 a0) (fun k => (a 24 k).toNat) s) → (0 ≤ n → -1 ≤ a 24 n.toNat ∧ a 24 n.toNat < i0 5) → (z_I St (i0 5).toNat (m_zf a0) (m_zt a0) (m_zj i0 a0) (n + 1).toNat (a 24) best g) → (-1 ≤ best ∧ best ≤ 900000) → (0 ≤ best → ∀ u : Nat, u < St → m_gv i0 a0 a v g u) → (0 ≤ best → i 25 = (St : Int)) → (best < 0 → i 25 = i0 25) → (best < 0 → ∀ k, k ≠ 24 → k ≠ 25 → a k = a0 k) → V S 0 0 h sz 319 [some (.ref o), some (.int (zI v)), some (.int (zI St)), some (.int (zI best)), some (.int (zI n)), x5, x6] [] := by
  have hc := M.2.2.2.1
  have ho : s_own S = RX7 := M.2.2.1
  have hFr : (s_R S).frames = 3 := by rw [M.2.2.2.2.2.2.2.1]
  have hLo : (s_R S).locals = 75 := by rw [M.2.2.2.2.2.2.2.1]
  have hCe : (s_R S).cells = 0 := by rw [M.2.2.2.2.2.2.2.1]
  have hSl : (s_R S).slots = 0 := by rw [M.2.2.2.2.2.2.2.1]
  intro d
  induction d using Nat.strongRecOn with
  | ind d ih =>
    intro h i a best n x5 x6 g hd hO hfr hEi hE h0 h1 hpf htn hz hbb hgiv h25 h25n hold
    have hi := hO.2.2.2.1
    have ha := hO.2.2.2.2
    refine v_iload hc dX7_programme_319 rfl ?_
    refine z_if_lt (tgt := 522) hc dX7_programme_321 (by decide) (by first | assumption | exact hi _ | exact ha _ _ | (unfold zb; omega)) (fun c_1 => ?_) (fun c_1 => ?_)
    · rw [show n = -1 by omega]
      exact P522 h i a best _ _ g hO hfr hEi hE (by rw [show (n + 1).toNat = 0 by omega] at hz; exact hz) hbb hgiv h25 h25n hold
    · refine v_aload_n hc dX7_programme_324 rfl ?_
      refine r_getA hc ho dX7_programme_325 F_X7_73 hO rfl ?_
      refine v_iload hc dX7_programme_328 rfl ?_
      refine v_dup2 hc dX7_programme_330 rfl rfl ?_
      refine r_iald hc dX7_programme_331 hO 24 rfl (by decide) (by omega) (by omega) ?_
      refine z_iconst hc dX7_programme_332 ?_
      refine z_iadd hc dX7_programme_333 ?_
      refine r_iastf hc dX7_programme_334 hO hfr 24 rfl (by decide) (by omega) (by omega) (by first | assumption | exact hi _ | exact ha _ _ | (unfold zb; omega)) (fun h a_2 g_2 k_2 hO hfr => ?_)
      have ha := hO.2.2.2.2
      have hMn : (n + 1).toNat = n.toNat + 1 := by omega
      have htn1 := htn (by omega)
      have ha := hO.2.2.2.2
      have hqn : a_2 24 n.toNat = a 24 n.toNat + 1 := by rw [g_2, b_up_eq]
      have hqs : ∀ s : Nat, s < n.toNat → a_2 24 s = a 24 s := fun s hs => by rw [g_2, b_up_ne _ _ (by omega)]
      have hEq : m_EG a0 a_2 := fun k k1 k2 k3 k4 k5 => (k_2 k k1).trans (hE k k1 k2 k3 k4 k5)
      have hi5 : i 5 = i0 5 := hEi 5 (by decide)
      have hzc := m_z_cong (hEi 19 (by decide)) (hEi 20 (by decide)) (hEq 21 (by decide) (by decide) (by decide) (by decide) (by decide)) (hEq 22 (by decide) (by decide) (by decide) (by decide) (by decide)) (hEq 10 (by decide) (by decide) (by decide) (by decide) (by decide)) (hEq 6 (by decide) (by decide) (by decide) (by decide) (by decide))
      have hz1 := hz
      rw [hMn] at hz1 hd
      have hgq : ∀ u g, m_gv i0 a0 a v g u → m_gv i0 a0 a_2 v g u := fun u g hu => by unfold m_gv at hu ⊢; rw [k_2 26 (by decide), k_2 27 (by decide), k_2 28 (by decide), k_2 29 (by decide)]; exact hu
      refine v_aload_n hc dX7_programme_335 rfl ?_
      refine r_getA hc ho dX7_programme_336 F_X7_73 hO rfl ?_
      refine v_iload hc dX7_programme_339 rfl ?_
      refine r_iald hc dX7_programme_341 hO 24 rfl (by decide) (by omega) (by omega) ?_
      rw [hqn]
      refine v_aload_n hc dX7_programme_342 rfl ?_
      refine r_get hc ho dX7_programme_343 F_X7_151 hO rfl ?_
      refine z_icmp_ne (tgt := 355) hc dX7_programme_346 (by decide) (by first | assumption | exact hi _ | exact ha _ _ | (unfold zb; omega)) (by first | assumption | exact hi _ | exact ha _ _ | (unfold zb; omega)) (fun c_3 => ?_) (fun c_3 => ?_)
      · have hTr : ∀ k : Nat, (k : Int) ≤ n → 0 ≤ a_2 24 k ∧ a_2 24 k < i 5 := fun k hk => by
          by_cases e : k = n.toNat
          · rw [e, hqn]; omega
          · have := hpf k (by omega); rw [hqs k (by omega)]; omega
        have hmbo := m_mb_ok (i := i) (a := a_2) (by rw [hEi 19 (by decide)]; exact h19) (by rw [hEq 22 (by decide) (by decide) (by decide) (by decide) (by decide)]; exact h220) (n := n.toNat) (fun k hk => (hTr k (by omega)).1)
        rw [hzc.1, hzc.2.1, hzc.2.2] at hmbo
        refine v_aload_n hc dX7_programme_355 rfl ?_
        refine v_iload hc dX7_programme_356 rfl ?_
        refine v_callV (As := [.int (zI n)]) hc ho dX7_programme_358 KV_X7_203 KB_X7_mayBe hO.1 rfl rfl (c_X7_mayBe _ _ hO (x := n) (by omega) (by omega) (by rw [hEq 6 (by decide) (by decide) (by decide) (by decide) (by decide)]; exact hky) hTr) rfl (Nat.le_of_ble_eq_true rfl) ⟨by omega, by omega⟩ ⟨by omega, by omega⟩ (fun r_ h_ sz_ q_ z_ => ?_)
        obtain ⟨rfl, eh_, es_⟩ := q_
        have eh_ := eh_.symm
        subst eh_
        have es_ := es_.symm
        subst es_
        have hb01 := bI_or (m_mb i a_2 n.toNat = true)
        generalize bI (m_mb i a_2 n.toNat = true) = bp at hb01 ⊢
        refine z_if_eq (tgt := 319) hc dX7_programme_361 (by decide) (by first | assumption | exact hi _ | exact ha _ _ | (unfold zb; omega)) (fun c_4 => ?_) (fun c_4 => ?_)
        · have hzn := z_T2 hz1 (by omega) (by omega) (fun s hs => (hpf s (by omega)).1) (by rw [Nat.add_sub_cancel]; omega) (by
            rw [Nat.add_sub_cancel, ← g_2]
            intro hw
            have := hmbo.mpr hw
            rcases hb01 with u | u
            · omega
            · exact u.2 this)
          rw [Nat.add_sub_cancel, ← g_2] at hzn
          have hmn := z_mu_up (n := (i0 5).toNat) (St := St) (t := a 24) (k := n.toNat)
          rw [← g_2] at hmn
          have hmg := z_mu_nn (n := (i0 5).toNat) (St := St) (t := a_2 24) (k := n.toNat + 1) (fun s hs => by
            by_cases e : s = n.toNat
            · rw [e, hqn]; omega
            · have := hpf s (by omega); rw [hqs s (by omega)]; omega)
          refine ih _ (by rw [← hd, hMn]; omega) h i a_2 best _ _ _ g rfl hO hfr hEi hEq (by omega) (by omega) (fun s hs => by
            have := hpf s (by omega)
            rw [hqs s (by omega)]
            refine ⟨this.1, this.2.1, (z_ok_cong (fun k hk => ?_)).mp this.2.2⟩
            show (a 24 k).toNat = (a_2 24 k).toNat
            rw [hqs k (by omega)]) (fun _ => by rw [hqn]; omega) (by rw [hMn]; exact hzn) hbb (fun hb u hu => hgq u _ (hgiv hb u hu)) h25 h25n (fun hb k k1 k2 => (k_2 k k1).trans (hold hb k k1 k2))
        · have hok : z_ok (m_zf a0) (m_zt a0) (m_zj i0 a0) (fun k => (a_2 24 k).toNat) n.toNat := hmbo.mp (by rcases hb01 with u | u; exact u.2; omega)
          have hpv : ∀ s : Nat, s ≤ n.toNat → z_ok (m_zf a0) (m_zt a0) (m_zj i0 a0) (fun k => (a_2 24 k).toNat) s := fun s hs => by
            by_cases e : s = n.toNat
            · rw [e]; exact hok
            · refine (z_ok_cong (fun k hk => ?_)).mp (hpf s (by omega)).2.2
              show (a 24 k).toNat = (a_2 24 k).toNat
              rw [hqs k (by omega)]
          refine v_iload_n hc dX7_programme_364 rfl ?_
          refine z_if_lt (tgt := 393) hc dX7_programme_365 (by decide) (by first | assumption | exact hi _ | exact ha _ _ | (unfold zb; omega)) (fun c_5 => ?_) (fun c_5 => ?_)
          · skip
            refine v_iload hc dX7_programme_393 rfl ?_
            refine v_iload_n hc dX7_programme_395 rfl ?_
            refine z_iconst hc dX7_programme_396 ?_
            refine z_isub hc dX7_programme_397 ?_
            refine z_icmp_ge (tgt := 415) hc dX7_programme_398 (by decide) (by first | assumption | exact hi _ | exact ha _ _ | (unfold zb; omega)) (by first | assumption | exact hi _ | exact ha _ _ | (unfold zb; omega)) (fun c_6 => ?_) (fun c_6 => ?_)
            · refine v_aload_n hc dX7_programme_415 rfl ?_
              refine v_iload_n hc dX7_programme_416 rfl ?_
              refine v_callV (As := [.int (zI St)]) hc ho dX7_programme_417 KV_X7_206 KB_X7_costTo hO.1 rfl rfl (c_X7_costTo _ _ hO (x := (St : Int)) (by omega) (by omega) (by rw [hEq 6 (by decide) (by decide) (by decide) (by decide) (by decide)]; exact hky) (by rw [hEq 22 (by decide) (by decide) (by decide) (by decide) (by decide)]; exact h220) (by rw [hEi 19 (by decide)]; exact h19) (fun k hk => hTr k (by omega))) rfl (Nat.le_of_ble_eq_true rfl) ⟨by omega, by omega⟩ ⟨by omega, by omega⟩ (fun r_ h_ sz_ q_ z_ => ?_)
              obtain ⟨rfl, eh_, es_⟩ := q_
              have eh_ := eh_.symm
              subst eh_
              have es_ := es_.symm
              subst es_
              have hct : m_ct i a_2 ((St : Int)).toNat = z_c (m_zf a0) (m_zj i0 a0) (fun k => (a_2 24 k).toNat) St := by
                rw [Int.toNat_natCast, m_ct_c (by rw [hEi 19 (by decide)]; exact h19) (by rw [hEq 22 (by decide) (by decide) (by decide) (by decide) (by decide)]; exact h220) (fun s hs => by rw [hzc.1, hzc.2.1, hzc.2.2]; exact hpv s (by omega)), hzc.1, hzc.2.2]
              have hcb := m_ct_bd (i := i) (a := a_2) (by rw [hEq 22 (by decide) (by decide) (by decide) (by decide) (by decide)]; exact h220) (by rw [hEi 19 (by decide)]; exact h19) ((St : Int)).toNat
              rw [hct] at hcb ⊢
              obtain ⟨cn, hcn⟩ : ∃ u, z_c (m_zf a0) (m_zj i0 a0) (fun k => (a_2 24 k).toNat) St = u := ⟨_, rfl⟩
              rw [hcn] at hcb ⊢
              have hbetter : best < 0 ∨ cn < best := Or.inl (by omega)
              refine v_istore_n hc dX7_programme_420 (Nat.le_of_ble_eq_true rfl) ?_
              refine v_aload_n hc dX7_programme_421 rfl ?_
              refine v_iload_n hc dX7_programme_422 rfl ?_
              refine r_putIf hc ho dX7_programme_423 F_X7_209 hO hfr rfl (by first | assumption | exact hi _ | exact ha _ _ | (unfold zb; omega)) (fun h i_7 g_7 k_7 hO hfr => ?_)
              have hi := hO.2.2.2.1
              have e_7_5 := k_7 5 (by decide)
              have e_7_19 := k_7 19 (by decide)
              have e_7_20 := k_7 20 (by decide)
              refine z_iconst hc dX7_programme_426 ?_
              refine v_istore hc dX7_programme_427 (Nat.le_of_ble_eq_true rfl) ?_
              have hnS : n.toNat + 1 = St := by omega
              have hzn := z_T5 hz1 (by omega) hnS (fun s hs => (hpf s (by omega)).1) (by rw [Nat.add_sub_cancel]; omega) (by
                rw [Nat.add_sub_cancel, ← g_2]
                exact fun s hs => ⟨by have := hTr s (by omega); show (a_2 24 s).toNat < _; omega, hpv s (by omega)⟩) (by rw [Nat.add_sub_cancel, ← g_2, hcn]; omega) (by rw [Nat.add_sub_cancel, ← g_2, hcn]; exact hbetter)
              rw [Nat.add_sub_cancel, ← g_2, hcn] at hzn
              have hmn := z_mu_up (n := (i0 5).toNat) (St := St) (t := a 24) (k := n.toNat)
              rw [← g_2] at hmn
              have hmg := z_mu_nn (n := (i0 5).toNat) (St := St) (t := a_2 24) (k := n.toNat + 1) (fun s hs => by have := hTr s (by omega); omega)
              refine l_X7_programme429 M (i := i_7) (a0 := a0) (t := a_2 24) hv (by unfold m_F; rw [k_7 1 (by decide), hEi 1 (by decide)]; exact hF) (by rw [k_7 1 (by decide), hEi 1 (by decide)]; exact hSt) hSt8 (fun s => by rw [m_T_i (i0 := i0) ((k_7 1 (by decide)).trans (hEi 1 (by decide)))]; exact hTb s) (by rw [k_7 5 (by decide)]; omega) (fun s hs => by rw [k_7 5 (by decide)]; exact hTr s (by omega)) (fun h4 a4 s4 hO4 hfr4 hE4 h244 hg4 => ?_) _ h a_2 0 rfl (by omega) (by omega) hO hfr hEq rfl (fun u hu => by omega)
              refine v_goto (tgt := 319) hc dX7_programme_519 (by decide) ?_
              refine ih _ (by rw [← hd, hMn, h244]; omega) h4 i_7 a4 cn n _ _ (fun k => (a_2 24 k).toNat) rfl hO4 hfr4 (fun k hk => (k_7 k hk).trans (hEi k hk)) hE4 (by omega) (by omega) (fun s hs => ?_) (fun _ => by rw [h244, hqn]; omega) (by rw [hMn, h244]; exact hzn) (by omega) (fun hb u hu => ?_) (fun _ => g_7) (fun hb => by omega) (fun hb => by omega)
              · have := hTr s (by omega)
                rw [h244]
                exact ⟨this.1, by omega, hpv s (by omega)⟩
              · have := hg4 u (by omega)
                unfold m_gv at this ⊢
                rw [m_T_i (i0 := i0) ((k_7 1 (by decide)).trans (hEi 1 (by decide)))] at this
                exact this
            · skip
              refine z_iinc hc dX7_programme_401 rfl ?_
              refine v_aload_n hc dX7_programme_404 rfl ?_
              refine r_getA hc ho dX7_programme_405 F_X7_73 hO rfl ?_
              refine v_iload hc dX7_programme_408 rfl ?_
              refine z_iconst hc dX7_programme_410 ?_
              refine r_iastf hc dX7_programme_411 hO hfr 24 rfl (by decide) (by omega) (by omega) (by first | assumption | exact hi _ | exact ha _ _ | (unfold zb; omega)) (fun h a_8 g_8 k_8 hO hfr => ?_)
              have ha := hO.2.2.2.2
              refine v_goto (tgt := 319) hc dX7_programme_412 (by decide) ?_
              have ht2 : a_8 24 = b_up (b_up (a 24) n.toNat (a 24 n.toNat + 1)) (n.toNat + 1) (-1) := by rw [g_8, g_2, show (n + 1).toNat = n.toNat + 1 by omega]
              have hzn := z_T4 hz1 (by omega)
              rw [Nat.add_sub_cancel, ← ht2] at hzn
              have hmn := z_mu_dn (n := (i0 5).toNat) (St := St) (t := a 24) (k := n.toNat) (by omega) (by omega) (by omega)
              rw [← ht2] at hmn
              have hzs : ∀ s : Nat, s ≤ n.toNat → a_8 24 s = a_2 24 s := fun s hs => by rw [g_8, b_up_ne _ _ (by omega)]
              have hzl : a_8 24 (n.toNat + 1) = -1 := by rw [ht2, b_up_eq]
              have hmg := z_mu_nn (n := (i0 5).toNat) (St := St) (t := a_8 24) (k := n.toNat + 2) (fun s hs => by
                by_cases e : s = n.toNat + 1
                · rw [e, hzl]; omega
                · have := hTr s (by omega); rw [hzs s (by omega)]; omega)
              refine ih _ (by rw [← hd, show (n + 1 + 1).toNat = n.toNat + 2 by omega]; omega) h i a_8 best _ _ _ g rfl hO hfr hEi (fun k k1 k2 k3 k4 k5 => (k_8 k k1).trans (hEq k k1 k2 k3 k4 k5)) (by omega) (by omega) (fun s hs => ?_) (fun _ => by rw [show (n + 1).toNat = n.toNat + 1 by omega, hzl]; omega) (by rw [show (n + 1 + 1).toNat = n.toNat + 1 + 1 by omega]; exact hzn) hbb (fun hb u hu => ?_) h25 h25n (fun hb k k1 k2 => (k_8 k k1).trans ((k_2 k k1).trans (hold hb k k1 k2)))
              · have := hTr s (by omega)
                rw [hzs s (by omega)]
                refine ⟨this.1, by omega, (z_ok_cong (fun k hk => ?_)).mp (hpv s (by omega))⟩
                show (a_2 24 k).toNat = (a_8 24 k).toNat
                rw [hzs k (by omega)]
              · have := hgq u _ (hgiv hb u hu)
                unfold m_gv at this ⊢
                rw [k_8 26 (by decide), k_8 27 (by decide), k_8 28 (by decide), k_8 29 (by decide)]
                exact this
          · skip
            refine v_aload_n hc dX7_programme_368 rfl ?_
            refine v_iload hc dX7_programme_369 rfl ?_
            refine z_iconst hc dX7_programme_371 ?_
            refine z_iadd hc dX7_programme_372 ?_
            refine v_callV (As := [.int (zI (n + 1))]) hc ho dX7_programme_373 KV_X7_206 KB_X7_costTo hO.1 rfl rfl (c_X7_costTo _ _ hO (x := n + 1) (by omega) (by omega) (by rw [hEq 6 (by decide) (by decide) (by decide) (by decide) (by decide)]; exact hky) (by rw [hEq 22 (by decide) (by decide) (by decide) (by decide) (by decide)]; exact h220) (by rw [hEi 19 (by decide)]; exact h19) (fun k hk => hTr k (by omega))) rfl (Nat.le_of_ble_eq_true rfl) ⟨by omega, by omega⟩ ⟨by omega, by omega⟩ (fun r_ h_ sz_ q_ z_ => ?_)
            obtain ⟨rfl, eh_, es_⟩ := q_
            have eh_ := eh_.symm
            subst eh_
            have es_ := es_.symm
            subst es_
            have hct : m_ct i a_2 (n + 1).toNat = z_c (m_zf a0) (m_zj i0 a0) (fun k => (a_2 24 k).toNat) (n + 1).toNat := by
              rw [m_ct_c (by rw [hEi 19 (by decide)]; exact h19) (by rw [hEq 22 (by decide) (by decide) (by decide) (by decide) (by decide)]; exact h220) (fun s hs => by rw [hzc.1, hzc.2.1, hzc.2.2]; exact hpv s (by omega)), hzc.1, hzc.2.2]
            have hcb := m_ct_bd (i := i) (a := a_2) (by rw [hEq 22 (by decide) (by decide) (by decide) (by decide) (by decide)]; exact h220) (by rw [hEi 19 (by decide)]; exact h19) (n + 1).toNat
            have hr23 : a_2 23 (n + 1).toNat = m_rs a0 (i0 5).toNat St (n + 1).toNat := by rw [hEq 23 (by decide) (by decide) (by decide) (by decide) (by decide)]; exact hrest (n + 1).toNat (by omega)
            have hrb := m_rs_bd h220 (i0 5).toNat St (n + 1).toNat (by omega)
            have hct0 := hct
            refine v_aload_n hc dX7_programme_376 rfl ?_
            refine r_getA hc ho dX7_programme_377 F_X7_70 hO rfl ?_
            refine v_iload hc dX7_programme_380 rfl ?_
            refine z_iconst hc dX7_programme_382 ?_
            refine z_iadd hc dX7_programme_383 ?_
            refine r_iald hc dX7_programme_384 hO 23 rfl (by decide) (by omega) (by omega) ?_
            rw [hr23]
            refine z_iadd hc dX7_programme_385 ?_
            refine v_iload_n hc dX7_programme_386 rfl ?_
            refine z_icmp_lt (tgt := 393) hc dX7_programme_387 (by decide) (by first | assumption | exact hi _ | exact ha _ _ | (unfold zb; omega)) (by first | assumption | exact hi _ | exact ha _ _ | (unfold zb; omega)) (fun c_9 => ?_) (fun c_9 => ?_)
            · skip
              refine v_iload hc dX7_programme_393 rfl ?_
              refine v_iload_n hc dX7_programme_395 rfl ?_
              refine z_iconst hc dX7_programme_396 ?_
              refine z_isub hc dX7_programme_397 ?_
              refine z_icmp_ge (tgt := 415) hc dX7_programme_398 (by decide) (by first | assumption | exact hi _ | exact ha _ _ | (unfold zb; omega)) (by first | assumption | exact hi _ | exact ha _ _ | (unfold zb; omega)) (fun c_10 => ?_) (fun c_10 => ?_)
              · refine v_aload_n hc dX7_programme_415 rfl ?_
                refine v_iload_n hc dX7_programme_416 rfl ?_
                refine v_callV (As := [.int (zI St)]) hc ho dX7_programme_417 KV_X7_206 KB_X7_costTo hO.1 rfl rfl (c_X7_costTo _ _ hO (x := (St : Int)) (by omega) (by omega) (by rw [hEq 6 (by decide) (by decide) (by decide) (by decide) (by decide)]; exact hky) (by rw [hEq 22 (by decide) (by decide) (by decide) (by decide) (by decide)]; exact h220) (by rw [hEi 19 (by decide)]; exact h19) (fun k hk => hTr k (by omega))) rfl (Nat.le_of_ble_eq_true rfl) ⟨by omega, by omega⟩ ⟨by omega, by omega⟩ (fun r_ h_ sz_ q_ z_ => ?_)
                obtain ⟨rfl, eh_, es_⟩ := q_
                have eh_ := eh_.symm
                subst eh_
                have es_ := es_.symm
                subst es_
                have hct : m_ct i a_2 ((St : Int)).toNat = z_c (m_zf a0) (m_zj i0 a0) (fun k => (a_2 24 k).toNat) St := by
                  rw [Int.toNat_natCast, m_ct_c (by rw [hEi 19 (by decide)]; exact h19) (by rw [hEq 22 (by decide) (by decide) (by decide) (by decide) (by decide)]; exact h220) (fun s hs => by rw [hzc.1, hzc.2.1, hzc.2.2]; exact hpv s (by omega)), hzc.1, hzc.2.2]
                have hcb := m_ct_bd (i := i) (a := a_2) (by rw [hEq 22 (by decide) (by decide) (by decide) (by decide) (by decide)]; exact h220) (by rw [hEi 19 (by decide)]; exact h19) ((St : Int)).toNat
                rw [hct] at hcb ⊢
                obtain ⟨cn, hcn⟩ : ∃ u, z_c (m_zf a0) (m_zj i0 a0) (fun k => (a_2 24 k).toNat) St = u := ⟨_, rfl⟩
                rw [hcn] at hcb ⊢
                have hrs0 : m_rs a0 (i0 5).toNat St (n + 1).toNat = 0 := by unfold m_rs; rw [show St - (n + 1).toNat = 0 by omega]; rfl
                have hcn2 : z_c (m_zf a0) (m_zj i0 a0) (fun k => (a_2 24 k).toNat) (n + 1).toNat = cn := by rw [show (n + 1).toNat = St by omega]; exact hcn
                have hbetter : best < 0 ∨ cn < best := Or.inr (by omega)
                refine v_istore_n hc dX7_programme_420 (Nat.le_of_ble_eq_true rfl) ?_
                refine v_aload_n hc dX7_programme_421 rfl ?_
                refine v_iload_n hc dX7_programme_422 rfl ?_
                refine r_putIf hc ho dX7_programme_423 F_X7_209 hO hfr rfl (by first | assumption | exact hi _ | exact ha _ _ | (unfold zb; omega)) (fun h i_11 g_11 k_11 hO hfr => ?_)
                have hi := hO.2.2.2.1
                have e_11_5 := k_11 5 (by decide)
                have e_11_19 := k_11 19 (by decide)
                have e_11_20 := k_11 20 (by decide)
                refine z_iconst hc dX7_programme_426 ?_
                refine v_istore hc dX7_programme_427 (Nat.le_of_ble_eq_true rfl) ?_
                have hnS : n.toNat + 1 = St := by omega
                have hzn := z_T5 hz1 (by omega) hnS (fun s hs => (hpf s (by omega)).1) (by rw [Nat.add_sub_cancel]; omega) (by
                  rw [Nat.add_sub_cancel, ← g_2]
                  exact fun s hs => ⟨by have := hTr s (by omega); show (a_2 24 s).toNat < _; omega, hpv s (by omega)⟩) (by rw [Nat.add_sub_cancel, ← g_2, hcn]; omega) (by rw [Nat.add_sub_cancel, ← g_2, hcn]; exact hbetter)
                rw [Nat.add_sub_cancel, ← g_2, hcn] at hzn
                have hmn := z_mu_up (n := (i0 5).toNat) (St := St) (t := a 24) (k := n.toNat)
                rw [← g_2] at hmn
                have hmg := z_mu_nn (n := (i0 5).toNat) (St := St) (t := a_2 24) (k := n.toNat + 1) (fun s hs => by have := hTr s (by omega); omega)
                refine l_X7_programme429 M (i := i_11) (a0 := a0) (t := a_2 24) hv (by unfold m_F; rw [k_11 1 (by decide), hEi 1 (by decide)]; exact hF) (by rw [k_11 1 (by decide), hEi 1 (by decide)]; exact hSt) hSt8 (fun s => by rw [m_T_i (i0 := i0) ((k_11 1 (by decide)).trans (hEi 1 (by decide)))]; exact hTb s) (by rw [k_11 5 (by decide)]; omega) (fun s hs => by rw [k_11 5 (by decide)]; exact hTr s (by omega)) (fun h4 a4 s4 hO4 hfr4 hE4 h244 hg4 => ?_) _ h a_2 0 rfl (by omega) (by omega) hO hfr hEq rfl (fun u hu => by omega)
                refine v_goto (tgt := 319) hc dX7_programme_519 (by decide) ?_
                refine ih _ (by rw [← hd, hMn, h244]; omega) h4 i_11 a4 cn n _ _ (fun k => (a_2 24 k).toNat) rfl hO4 hfr4 (fun k hk => (k_11 k hk).trans (hEi k hk)) hE4 (by omega) (by omega) (fun s hs => ?_) (fun _ => by rw [h244, hqn]; omega) (by rw [hMn, h244]; exact hzn) (by omega) (fun hb u hu => ?_) (fun _ => g_11) (fun hb => by omega) (fun hb => by omega)
                · have := hTr s (by omega)
                  rw [h244]
                  exact ⟨this.1, by omega, hpv s (by omega)⟩
                · have := hg4 u (by omega)
                  unfold m_gv at this ⊢
                  rw [m_T_i (i0 := i0) ((k_11 1 (by decide)).trans (hEi 1 (by decide)))] at this
                  exact this
              · skip
                refine z_iinc hc dX7_programme_401 rfl ?_
                refine v_aload_n hc dX7_programme_404 rfl ?_
                refine r_getA hc ho dX7_programme_405 F_X7_73 hO rfl ?_
                refine v_iload hc dX7_programme_408 rfl ?_
                refine z_iconst hc dX7_programme_410 ?_
                refine r_iastf hc dX7_programme_411 hO hfr 24 rfl (by decide) (by omega) (by omega) (by first | assumption | exact hi _ | exact ha _ _ | (unfold zb; omega)) (fun h a_12 g_12 k_12 hO hfr => ?_)
                have ha := hO.2.2.2.2
                refine v_goto (tgt := 319) hc dX7_programme_412 (by decide) ?_
                have ht2 : a_12 24 = b_up (b_up (a 24) n.toNat (a 24 n.toNat + 1)) (n.toNat + 1) (-1) := by rw [g_12, g_2, show (n + 1).toNat = n.toNat + 1 by omega]
                have hzn := z_T4 hz1 (by omega)
                rw [Nat.add_sub_cancel, ← ht2] at hzn
                have hmn := z_mu_dn (n := (i0 5).toNat) (St := St) (t := a 24) (k := n.toNat) (by omega) (by omega) (by omega)
                rw [← ht2] at hmn
                have hzs : ∀ s : Nat, s ≤ n.toNat → a_12 24 s = a_2 24 s := fun s hs => by rw [g_12, b_up_ne _ _ (by omega)]
                have hzl : a_12 24 (n.toNat + 1) = -1 := by rw [ht2, b_up_eq]
                have hmg := z_mu_nn (n := (i0 5).toNat) (St := St) (t := a_12 24) (k := n.toNat + 2) (fun s hs => by
                  by_cases e : s = n.toNat + 1
                  · rw [e, hzl]; omega
                  · have := hTr s (by omega); rw [hzs s (by omega)]; omega)
                refine ih _ (by rw [← hd, show (n + 1 + 1).toNat = n.toNat + 2 by omega]; omega) h i a_12 best _ _ _ g rfl hO hfr hEi (fun k k1 k2 k3 k4 k5 => (k_12 k k1).trans (hEq k k1 k2 k3 k4 k5)) (by omega) (by omega) (fun s hs => ?_) (fun _ => by rw [show (n + 1).toNat = n.toNat + 1 by omega, hzl]; omega) (by rw [show (n + 1 + 1).toNat = n.toNat + 1 + 1 by omega]; exact hzn) hbb (fun hb u hu => ?_) h25 h25n (fun hb k k1 k2 => (k_12 k k1).trans ((k_2 k k1).trans (hold hb k k1 k2)))
                · have := hTr s (by omega)
                  rw [hzs s (by omega)]
                  refine ⟨this.1, by omega, (z_ok_cong (fun k hk => ?_)).mp (hpv s (by omega))⟩
                  show (a_2 24 k).toNat = (a_12 24 k).toNat
                  rw [hzs k (by omega)]
                · have := hgq u _ (hgiv hb u hu)
                  unfold m_gv at this ⊢
                  rw [k_12 26 (by decide), k_12 27 (by decide), k_12 28 (by decide), k_12 29 (by decide)]
                  exact this
            · skip
              refine v_goto (tgt := 319) hc dX7_programme_390 (by decide) ?_
              have hzn := z_T3 hz1 (by omega) (by omega) (fun q hq hq1 hq2 => by
                rw [Nat.add_sub_cancel] at hq2
                have hl := m_low h19 h220 hpos hq (St - (n + 1).toNat) (n + 1).toNat (by omega)
                have he : z_c (m_zf a0) (m_zj i0 a0) q (n + 1).toNat = z_c (m_zf a0) (m_zj i0 a0) (fun k => (a_2 24 k).toNat) (n + 1).toNat := z_c_cong (fun k hk => by
                  show q k = (a_2 24 k).toNat
                  by_cases e : k = n.toNat
                  · rw [e, hqn]; omega
                  · have h1 := hq1 k (by omega); rw [hqs k (by omega)]; omega)
                omega)
              rw [Nat.add_sub_cancel, ← g_2] at hzn
              have hmn := z_mu_up (n := (i0 5).toNat) (St := St) (t := a 24) (k := n.toNat)
              rw [← g_2] at hmn
              have hmg := z_mu_nn (n := (i0 5).toNat) (St := St) (t := a_2 24) (k := n.toNat + 1) (fun s hs => by
                by_cases e : s = n.toNat
                · rw [e, hqn]; omega
                · have := hpf s (by omega); rw [hqs s (by omega)]; omega)
              refine ih _ (by rw [← hd, hMn]; omega) h i a_2 best _ _ _ g rfl hO hfr hEi hEq (by omega) (by omega) (fun s hs => by
                have := hpf s (by omega)
                rw [hqs s (by omega)]
                refine ⟨this.1, this.2.1, (z_ok_cong (fun k hk => ?_)).mp this.2.2⟩
                show (a 24 k).toNat = (a_2 24 k).toNat
                rw [hqs k (by omega)]) (fun _ => by rw [hqn]; omega) (by rw [hMn]; exact hzn) hbb (fun hb u hu => hgq u _ (hgiv hb u hu)) h25 h25n (fun hb k k1 k2 => (k_2 k k1).trans (hold hb k k1 k2))
      · skip
        refine z_iinc hc dX7_programme_349 rfl ?_
        refine v_goto (tgt := 319) hc dX7_programme_352 (by decide) ?_
        have hzn := z_T1 hz1 (by omega) (by omega) (show a 24 (n.toNat + 1 - 1) + 1 = ((i0 5).toNat : Int) by rw [Nat.add_sub_cancel]; omega)
        rw [Nat.add_sub_cancel, ← g_2] at hzn
        have hmn := z_mu_bk (n := (i0 5).toNat) (St := St) (t := a 24) (k := n.toNat) (v := a 24 n.toNat + 1) (by omega)
        rw [← g_2] at hmn
        have hmg := z_mu_nn (n := (i0 5).toNat) (St := St) (t := a_2 24) (k := n.toNat) (fun s hs => by have := hpf s (by omega); rw [hqs s hs]; omega)
        refine ih _ (by rw [← hd, show (n + -1 + 1).toNat = n.toNat by omega]; omega) h i a_2 best _ _ _ g rfl hO hfr hEi hEq (by omega) (by omega) (fun s hs => ?_) (fun hn => ?_) (by rw [show (n + -1 + 1).toNat = n.toNat by omega]; exact hzn) hbb (fun hb u hu => hgq u _ (hgiv hb u hu)) h25 h25n (fun hb k k1 k2 => (k_2 k k1).trans (hold hb k k1 k2))
        · have := hpf s (by omega)
          rw [hqs s (by omega)]
          refine ⟨this.1, this.2.1, (z_ok_cong (fun k hk => ?_)).mp this.2.2⟩
          show (a 24 k).toNat = (a_2 24 k).toNat
          rw [hqs k (by omega)]
        · have := hpf (n + -1).toNat (by omega)
          rw [hqs _ (by omega)]; omega
