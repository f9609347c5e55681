/-! the reference: ways -/
def w_an (p : Nat → Bool) : Nat → Bool
  | 0 => false
  | y + 1 => w_an p y || p y
theorem w_an_mono {p : Nat → Bool} {x : Nat} (h : w_an p x = true) : ∀ n : Nat, w_an p (x + n) = true
  | 0 => h
  | n + 1 => by rw [← Nat.add_assoc, w_an, w_an_mono h n]; rfl
theorem w_an_iff (p : Nat → Bool) : ∀ n : Nat, w_an p n = true ↔ ∃ y, y < n ∧ p y = true
  | 0 => by simp [w_an]
  | n + 1 => by
    rw [w_an, Bool.or_eq_true, w_an_iff p n]
    constructor
    · rintro (⟨y, h1, h2⟩ | h)
      · exact ⟨y, by omega, h2⟩
      · exact ⟨n, by omega, h⟩
    · rintro ⟨y, h1, h2⟩
      by_cases e : y = n
      · subst e; exact Or.inr h2
      · exact Or.inl ⟨y, by omega, h2⟩
/-- from block x on there is a row of n blocks with b beats to an exit -/
def w_e (nb : Nat) (B H N : Nat → Int) : Nat → Nat → Int → Bool
  | 0, _, _ => false
  | n + 1, x, b => if n = 0 then decide (b = B x ∧ H x % 2 = 1) else decide (B x < b) && w_an (fun y => decide (N x / 2 ^ y % 2 = 1) && w_e nb B H N n y (b - B x)) nb
def w_B (a : Nat → Nat → Int) (p : Int) : Nat → Int := fun x => a 13 (8 * p.toNat + x)
def w_H (a : Nat → Nat → Int) (p : Int) : Nat → Int := fun x => a 14 (8 * p.toNat + x)
def w_N (a : Nat → Nat → Int) (p : Int) : Nat → Int := fun x => a 15 (8 * p.toNat + x)
abbrev w_E (a : Nat → Nat → Int) (p : Int) (n : Nat) (x : Nat) (b : Int) : Bool := w_e (a 12 p.toNat).toNat (w_B a p) (w_H a p) (w_N a p) n x b
def m_D (E : Nat → Int) (nb : Int) (e : Nat → Nat → Int → Bool) (n x b : Int) : Prop := ∀ n' x' b' : Int, 1 ≤ n' → n' ≤ 16 → 0 ≤ x' → x' < nb → 0 ≤ b' → b' ≤ 400 → (n' < n ∨ (n' = n ∧ (x' < x ∨ (x' = x ∧ b' < b)))) → E (3208 * n' + 401 * x' + b').toNat = bI (e n'.toNat x'.toNat b' = true)
theorem m_D.put {E : Nat → Int} {nb : Int} {e : Nat → Nat → Int → Bool} {n x b : Int} (h : m_D E nb e n x b) (hnb : nb ≤ 8) (hn : 1 ≤ n) (hx : 0 ≤ x) (hx2 : x < nb) (hb : 0 ≤ b) (hb2 : b ≤ 400) : m_D (b_up E (3208 * n + 401 * x + b).toNat (bI (e n.toNat x.toNat b = true))) nb e n x (b + 1) := by
  intro n' x' b' h1 h2 h3 h4 h5 h6 h7
  by_cases q : n' = n ∧ x' = x ∧ b' = b
  · obtain ⟨rfl, rfl, rfl⟩ := q
    rw [b_up_eq]
  · rw [b_up_ne _ _ (by omega)]
    exact h n' x' b' h1 h2 h3 h4 h5 h6 (by omega)

set_option maxHeartbeats 4000000 in
theorem l_X7_findWays_83 {S : b_S} {l : Launch} {G : b_G} {o : Nat} {ad : Nat → Nat} {i : Nat → Int} {a : Nat → Nat → Int} {h : b_H} {sz : Nat} {hB : b_H} {post : Option Value → b_H → Nat → Prop} (M : b_M S l G RX7 cX7_findWays 8 none "findWays" 1 22 0 0 hB sz post) (hO : r_O K7 7 o ad i a h) (hI : m_P i a) {p n x c b : Int} (hp : 0 ≤ p ∧ p ≤ 11) (hn : 2 ≤ n ∧ n ≤ 16) (hx : 0 ≤ x ∧ x < a 12 p.toNat) (hcB : c = w_B a p x.toNat) (hc1 : 1 ≤ c) (hbc : c < b ∧ b ≤ 400) (hD : m_D (a 16) (a 12 p.toNat) (w_E a p) n x b) (P165 : ∀ g z : Int, g = bI (w_an (fun y => decide (w_N a p x.toNat / 2 ^ y % 2 = 1) && w_E a p (n.toNat - 1) y (b - w_B a p x.toNat)) (a 12 p.toNat).toNat = true) → V S 0 0 h sz 165 [some (.ref o), some (.int (zI p)), some (.int (zI n)), some (.int (zI x)), some (.int (zI c)), some (.int (zI b)), some (.int (zI g)), some (.int (zI z))] []) : ∀ (d : Nat) (g t : Int), ((a 12 p.toNat - t).toNat = d) → (0 ≤ t) → (t ≤ a 12 p.toNat) → (g = bI (w_an (fun y => decide (w_N a p x.toNat / 2 ^ y % 2 = 1) && w_E a p (n.toNat - 1) y (b - w_B a p x.toNat)) t.toNat = true)) → V S 0 0 h sz 83 [some (.ref o), some (.int (zI p)), some (.int (zI n)), some (.int (zI x)), some (.int (zI c)), some (.int (zI b)), some (.int (zI g)), some (.int (zI t))] [] := by
  have hc := M.2.2.2.1
  have ho : s_own S = RX7 := M.2.2.1
  have hFr : (s_R S).frames = 1 := by rw [M.2.2.2.2.2.2.2.1]
  have hLo : (s_R S).locals = 22 := by rw [M.2.2.2.2.2.2.2.1]
  have hCe : (s_R S).cells = 0 := by rw [M.2.2.2.2.2.2.2.1]
  have hSl : (s_R S).slots = 0 := by rw [M.2.2.2.2.2.2.2.1]
  have hi := hO.2.2.2.1
  have ha := hO.2.2.2.2
  obtain ⟨hI5, hIbk, hIsf, hIky, hImd, hIth, hIfe, hIbt, hIb1, hIhw, hInx, hIen⟩ := id hI
  intro d
  induction d using Nat.strongRecOn with
  | ind d ih =>
    intro g t hd h0 h1 hr
    have hbk := hIbk p.toNat
    have hgb := bI_bd (w_an (fun y => decide (w_N a p x.toNat / 2 ^ y % 2 = 1) && w_E a p (n.toNat - 1) y (b - w_B a p x.toNat)) t.toNat = true)
    refine v_iload hc dX7_findWays_83 rfl ?_
    refine v_aload_n hc dX7_findWays_85 rfl ?_
    refine r_getA hc ho dX7_findWays_86 F_X7_38 hO rfl ?_
    refine v_iload_n hc dX7_findWays_89 rfl ?_
    refine r_iald hc dX7_findWays_90 hO 12 rfl (by decide) (by omega) (by omega) ?_
    refine z_icmp_ge (tgt := 165) hc dX7_findWays_91 (by decide) (by first | assumption | exact hi _ | exact ha _ _ | (unfold zb; omega)) (by first | assumption | exact hi _ | exact ha _ _ | (unfold zb; omega)) (fun c_1 => ?_) (fun c_1 => ?_)
    · exact P165 _ _ (by
        by_cases e : t = a 12 p.toNat
        · rw [hr, e]
        · have hz : g = 1 := by omega
          have hf : w_an (fun y => decide (w_N a p x.toNat / 2 ^ y % 2 = 1) && w_E a p (n.toNat - 1) y (b - w_B a p x.toNat)) t.toNat = true := by
            rw [hz, bI] at hr; by_cases q : w_an (fun y => decide (w_N a p x.toNat / 2 ^ y % 2 = 1) && w_E a p (n.toNat - 1) y (b - w_B a p x.toNat)) t.toNat = true
            · exact q
            · rw [if_neg q] at hr; omega
          have hf2 := w_an_mono hf ((a 12 p.toNat).toNat - t.toNat)
          rw [show t.toNat + ((a 12 p.toNat).toNat - t.toNat) = (a 12 p.toNat).toNat by omega] at hf2
          rw [hz, bI, if_pos hf2])
    · refine v_iload_n hc dX7_findWays_94 rfl ?_
      refine z_iconst hc dX7_findWays_95 ?_
      refine z_icmp_le (tgt := 165) hc dX7_findWays_96 (by decide) (by first | assumption | exact hi _ | exact ha _ _ | (unfold zb; omega)) (by first | assumption | exact hi _ | exact ha _ _ | (unfold zb; omega)) (fun c_2 => ?_) (fun c_2 => ?_)
      · exact P165 _ _ (by
          by_cases e : t = a 12 p.toNat
          · rw [hr, e]
          · have hz : g = 1 := by omega
            have hf : w_an (fun y => decide (w_N a p x.toNat / 2 ^ y % 2 = 1) && w_E a p (n.toNat - 1) y (b - w_B a p x.toNat)) t.toNat = true := by
              rw [hz, bI] at hr; by_cases q : w_an (fun y => decide (w_N a p x.toNat / 2 ^ y % 2 = 1) && w_E a p (n.toNat - 1) y (b - w_B a p x.toNat)) t.toNat = true
              · exact q
              · rw [if_neg q] at hr; omega
            have hf2 := w_an_mono hf ((a 12 p.toNat).toNat - t.toNat)
            rw [show t.toNat + ((a 12 p.toNat).toNat - t.toNat) = (a 12 p.toNat).toNat by omega] at hf2
            rw [hz, bI, if_pos hf2])
      · refine v_iload hc dX7_findWays_99 rfl ?_
        refine v_iload hc dX7_findWays_101 rfl ?_
        refine z_icmp_le (tgt := 165) hc dX7_findWays_103 (by decide) (by first | assumption | exact hi _ | exact ha _ _ | (unfold zb; omega)) (by first | assumption | exact hi _ | exact ha _ _ | (unfold zb; omega)) (fun c_3 => ?_) (fun c_3 => ?_)
        · exact P165 _ _ (by
            by_cases e : t = a 12 p.toNat
            · rw [hr, e]
            · have hz : g = 1 := by omega
              have hf : w_an (fun y => decide (w_N a p x.toNat / 2 ^ y % 2 = 1) && w_E a p (n.toNat - 1) y (b - w_B a p x.toNat)) t.toNat = true := by
                rw [hz, bI] at hr; by_cases q : w_an (fun y => decide (w_N a p x.toNat / 2 ^ y % 2 = 1) && w_E a p (n.toNat - 1) y (b - w_B a p x.toNat)) t.toNat = true
                · exact q
                · rw [if_neg q] at hr; omega
              have hf2 := w_an_mono hf ((a 12 p.toNat).toNat - t.toNat)
              rw [show t.toNat + ((a 12 p.toNat).toNat - t.toNat) = (a 12 p.toNat).toNat by omega] at hf2
              rw [hz, bI, if_pos hf2])
        · refine v_iload hc dX7_findWays_106 rfl ?_
          refine z_if_ne (tgt := 165) hc dX7_findWays_108 (by decide) (by first | assumption | exact hi _ | exact ha _ _ | (unfold zb; omega)) (fun c_4 => ?_) (fun c_4 => ?_)
          · exact P165 _ _ (by
              by_cases e : t = a 12 p.toNat
              · rw [hr, e]
              · have hz : g = 1 := by omega
                have hf : w_an (fun y => decide (w_N a p x.toNat / 2 ^ y % 2 = 1) && w_E a p (n.toNat - 1) y (b - w_B a p x.toNat)) t.toNat = true := by
                  rw [hz, bI] at hr; by_cases q : w_an (fun y => decide (w_N a p x.toNat / 2 ^ y % 2 = 1) && w_E a p (n.toNat - 1) y (b - w_B a p x.toNat)) t.toNat = true
                  · exact q
                  · rw [if_neg q] at hr; omega
                have hf2 := w_an_mono hf ((a 12 p.toNat).toNat - t.toNat)
                rw [show t.toNat + ((a 12 p.toNat).toNat - t.toNat) = (a 12 p.toNat).toNat by omega] at hf2
                rw [hz, bI, if_pos hf2])
          · have hg1 : w_an (fun y => decide (w_N a p x.toNat / 2 ^ y % 2 = 1) && w_E a p (n.toNat - 1) y (b - w_B a p x.toNat)) t.toNat = false := by
              rw [bI] at hr; by_cases q : w_an (fun y => decide (w_N a p x.toNat / 2 ^ y % 2 = 1) && w_E a p (n.toNat - 1) y (b - w_B a p x.toNat)) t.toNat = true
              · rw [if_pos q] at hr; omega
              · simpa using q
            have hN : a 15 (8 * p + x).toNat = w_N a p x.toNat := by rw [w_N, show 8 * p.toNat + x.toNat = (8 * p + x).toNat by omega]
            have hnx := hInx (8 * p + x).toNat
            have hq := b_div_bd (x := w_N a p x.toNat) (y := 2 ^ t.toNat) (by omega) (by exact Int.pow_pos (by omega))
            have hq2 : a 15 (8 * p + x).toNat / 2 ^ t.toNat = w_N a p x.toNat / 2 ^ t.toNat := by rw [hN]
            refine v_aload_n hc dX7_findWays_111 rfl ?_
            refine r_getA hc ho dX7_findWays_112 F_X7_47 hO rfl ?_
            refine z_bipush hc dX7_findWays_115 (by decide) ?_
            refine v_iload_n hc dX7_findWays_117 rfl ?_
            refine z_imul hc dX7_findWays_118 ?_
            refine v_iload_n hc dX7_findWays_119 rfl ?_
            refine z_iadd hc dX7_findWays_120 ?_
            refine r_iald hc dX7_findWays_121 hO 15 rfl (by decide) (by omega) (by omega) ?_
            refine v_iload hc dX7_findWays_122 rfl ?_
            refine v_ishr hc dX7_findWays_124 (zI_shr (by omega) (by omega) (by omega) (by omega)) ?_
            refine z_iconst hc dX7_findWays_125 ?_
            refine v_iand hc dX7_findWays_126 (zI_and1 (by omega) (by omega)) ?_
            refine z_iconst hc dX7_findWays_127 ?_
            refine z_icmp_ne (tgt := 156) hc dX7_findWays_128 (by decide) (by first | assumption | exact hi _ | exact ha _ _ | (unfold zb; omega)) (by first | assumption | exact hi _ | exact ha _ _ | (unfold zb; omega)) (fun c_5 => ?_) (fun c_5 => ?_)
            · refine z_iconst hc dX7_findWays_156 ?_
              refine v_istore hc dX7_findWays_157 (Nat.le_of_ble_eq_true rfl) ?_
              refine z_iinc hc dX7_findWays_159 rfl ?_
              refine v_goto (tgt := 83) hc dX7_findWays_162 (by decide) ?_
              exact ih _ (by omega) _ _ rfl (by omega) (by omega) (by rw [show (t + 1).toNat = t.toNat + 1 by omega, w_an, hg1, Bool.false_or]; first | (rw [bI, if_pos (by simp only [Bool.and_eq_true, decide_eq_true_eq]; exact ⟨by omega, hE1 (by omega)⟩)]; done) | (rw [bI, if_neg (by simp only [Bool.and_eq_true, decide_eq_true_eq]; rintro ⟨q1, q2⟩; first | omega | exact absurd q2 (hE0 (by omega)))]; done))
            · refine v_aload_n hc dX7_findWays_131 rfl ?_
              refine r_getA hc ho dX7_findWays_132 F_X7_51 hO rfl ?_
              refine v_iload_n hc dX7_findWays_135 rfl ?_
              refine z_iconst hc dX7_findWays_136 ?_
              refine z_isub hc dX7_findWays_137 ?_
              refine v_iload hc dX7_findWays_138 rfl ?_
              refine v_iload hc dX7_findWays_140 rfl ?_
              refine v_iload hc dX7_findWays_142 rfl ?_
              refine z_isub hc dX7_findWays_144 ?_
              refine v_callS (As := [.int (zI (n - 1)), .int (zI (t)), .int (zI (b - c))]) hc ho dX7_findWays_145 KS_X7_159 KB_X7_at (c_X7_at _ _ (n := n - 1) (x := t) (b := b - c)) rfl (Nat.le_of_ble_eq_true rfl) ⟨by omega, by omega⟩ ⟨by omega, by omega⟩ (fun r_ h_ sz_ q_ z_ => ?_)
              obtain ⟨rfl, rfl, rfl⟩ := q_
              have hEv := hD (n - 1) t (b - c) (by omega) (by omega) (by omega) (by omega) (by omega) (by omega) (Or.inl (by omega))
              rw [show (n - 1).toNat = n.toNat - 1 by omega, hcB] at hEv
              have hE1 : ¬ a 16 (3208 * (n - 1) + 401 * t + (b - c)).toNat = 0 → w_E a p (n.toNat - 1) t.toNat (b - w_B a p x.toNat) = true := fun q => by rw [hcB, hEv] at q; exact bI_1.mp q
              have hE0 : a 16 (3208 * (n - 1) + 401 * t + (b - c)).toNat = 0 → ¬ w_E a p (n.toNat - 1) t.toNat (b - w_B a p x.toNat) = true := fun q => by rw [hcB, hEv] at q; exact bI_0.mp q
              refine r_zald hc dX7_findWays_148 hO 16 rfl (by decide) (by omega) (by omega) ?_
              refine z_if_eq (tgt := 156) hc dX7_findWays_149 (by decide) (by first | assumption | exact hi _ | exact ha _ _ | (unfold zb; omega)) (fun c_6 => ?_) (fun c_6 => ?_)
              · refine z_iconst hc dX7_findWays_156 ?_
                refine v_istore hc dX7_findWays_157 (Nat.le_of_ble_eq_true rfl) ?_
                refine z_iinc hc dX7_findWays_159 rfl ?_
                refine v_goto (tgt := 83) hc dX7_findWays_162 (by decide) ?_
                exact ih _ (by omega) _ _ rfl (by omega) (by omega) (by rw [show (t + 1).toNat = t.toNat + 1 by omega, w_an, hg1, Bool.false_or]; first | (rw [bI, if_pos (by simp only [Bool.and_eq_true, decide_eq_true_eq]; exact ⟨by omega, hE1 (by omega)⟩)]; done) | (rw [bI, if_neg (by simp only [Bool.and_eq_true, decide_eq_true_eq]; rintro ⟨q1, q2⟩; first | omega | exact absurd q2 (hE0 (by omega)))]; done))
              · refine z_iconst hc dX7_findWays_152 ?_
                refine v_goto (tgt := 157) hc dX7_findWays_153 (by decide) ?_
                refine v_istore hc dX7_findWays_157 (Nat.le_of_ble_eq_true rfl) ?_
                refine z_iinc hc dX7_findWays_159 rfl ?_
                refine v_goto (tgt := 83) hc dX7_findWays_162 (by decide) ?_
                exact ih _ (by omega) _ _ rfl (by omega) (by omega) (by rw [show (t + 1).toNat = t.toNat + 1 by omega, w_an, hg1, Bool.false_or]; first | (rw [bI, if_pos (by simp only [Bool.and_eq_true, decide_eq_true_eq]; exact ⟨by omega, hE1 (by omega)⟩)]; done) | (rw [bI, if_neg (by simp only [Bool.and_eq_true, decide_eq_true_eq]; rintro ⟨q1, q2⟩; first | omega | exact absurd q2 (hE0 (by omega)))]; done))
theorem w_e_1 {nb : Nat} {B H N : Nat → Int} {x : Nat} {b : Int} : w_e nb B H N 1 x b = decide (b = B x ∧ H x % 2 = 1) := by rw [w_e]; simp
theorem w_e_2 {nb : Nat} {B H N : Nat → Int} {n x : Nat} {b : Int} (hn : 2 ≤ n) : w_e nb B H N n x b = (decide (B x < b) && w_an (fun y => decide (N x / 2 ^ y % 2 = 1) && w_e nb B H N (n - 1) y (b - B x)) nb) := by
  obtain ⟨m, rfl⟩ : ∃ m, n = m + 1 := ⟨n - 1, by omega⟩
  rw [w_e, if_neg (by omega)]; rfl
theorem w_E_1 {a : Nat → Nat → Int} {p : Int} {x : Nat} {b : Int} : w_E a p 1 x b = decide (b = w_B a p x ∧ w_H a p x % 2 = 1) := w_e_1
theorem w_E_2 {a : Nat → Nat → Int} {p : Int} {n x : Nat} {b : Int} (hn : 2 ≤ n) : w_E a p n x b = (decide (w_B a p x < b) && w_an (fun y => decide (w_N a p x / 2 ^ y % 2 = 1) && w_E a p (n - 1) y (b - w_B a p x)) (a 12 p.toNat).toNat) := w_e_2 hn

theorem m_g1 {a : Nat → Nat → Int} {p n x b c g : Int} (hg : g = bI (n = 1 ∧ b = c ∧ w_H a p x.toNat % 2 = 1)) (hn : n = 1) (hcB : c = w_B a p x.toNat) : g = bI (w_E a p n.toNat x.toNat b = true) := by
  subst hn
  rw [hg, show (1 : Int).toNat = 1 from rfl, w_E_1]
  unfold bI
  by_cases q : b = w_B a p x.toNat ∧ w_H a p x.toNat % 2 = 1
  · rw [if_pos (by omega), if_pos (by rw [decide_eq_true_eq]; exact q)]
  · rw [if_neg (by omega), if_neg (by rw [decide_eq_true_eq]; exact q)]
theorem m_g2 {a : Nat → Nat → Int} {p n x b c g : Int} (hg : g = bI (n = 1 ∧ b = c ∧ w_H a p x.toNat % 2 = 1)) (hn : 2 ≤ n) (hbc : b ≤ c) (hcB : c = w_B a p x.toNat) : g = bI (w_E a p n.toNat x.toNat b = true) := by
  rw [hg, w_E_2 (by omega), show decide (w_B a p x.toNat < b) = false from decide_eq_false (by omega), Bool.false_and]
  unfold bI
  rw [if_neg (by omega), if_neg (by decide)]

set_option maxHeartbeats 4000000 in
theorem l_X7_findWays_83b {S : b_S} {l : Launch} {G : b_G} {o : Nat} {ad : Nat → Nat} {i : Nat → Int} {a : Nat → Nat → Int} {h : b_H} {sz : Nat} {hB : b_H} {post : Option Value → b_H → Nat → Prop} (M : b_M S l G RX7 cX7_findWays 8 none "findWays" 1 22 0 0 hB sz post) (hO : r_O K7 7 o ad i a h) (hI : m_P i a) {p n x c b : Int} (hp : 0 ≤ p ∧ p ≤ 11) (hn : 1 ≤ n ∧ n ≤ 16) (hx : 0 ≤ x ∧ x < a 12 p.toNat) (hcB : c = w_B a p x.toNat) (hc1 : 1 ≤ c ∧ c ≤ 64) (hbc : 0 ≤ b ∧ b ≤ 400) (hD : m_D (a 16) (a 12 p.toNat) (w_E a p) n x b) {g : Int} (hg : g = bI (n = 1 ∧ b = c ∧ w_H a p x.toNat % 2 = 1)) (P165 : ∀ g z : Int, g = bI (w_E a p n.toNat x.toNat b = true) → V S 0 0 h sz 165 [some (.ref o), some (.int (zI p)), some (.int (zI n)), some (.int (zI x)), some (.int (zI c)), some (.int (zI b)), some (.int (zI g)), some (.int (zI z))] []) : V S 0 0 h sz 83 [some (.ref o), some (.int (zI p)), some (.int (zI n)), some (.int (zI x)), some (.int (zI c)), some (.int (zI b)), some (.int (zI g)), some (.int (zI 0))] [] := by
  have hc := M.2.2.2.1
  have ho : s_own S = RX7 := M.2.2.1
  have hFr : (s_R S).frames = 1 := by rw [M.2.2.2.2.2.2.2.1]
  have hLo : (s_R S).locals = 22 := by rw [M.2.2.2.2.2.2.2.1]
  have hCe : (s_R S).cells = 0 := by rw [M.2.2.2.2.2.2.2.1]
  have hSl : (s_R S).slots = 0 := by rw [M.2.2.2.2.2.2.2.1]
  have hi := hO.2.2.2.1
  have ha := hO.2.2.2.2
  obtain ⟨hI5, hIbk, hIsf, hIky, hImd, hIth, hIfe, hIbt, hIb1, hIhw, hInx, hIen⟩ := id hI
  have hbk := hIbk p.toNat
  by_cases hno : 1 < n ∧ c < b
  · have hg0 : g = 0 := by rw [hg, bI, if_neg (by omega)]
    rw [hg0]
    refine l_X7_findWays_83 M hO hI hp ⟨by omega, hn.2⟩ hx hcB (by omega) ⟨hno.2, hbc.2⟩ hD (fun g z hgz => P165 g z ?_) _ _ _ rfl (by omega) (by omega) (by rw [show (0 : Int).toNat = 0 by rfl, w_an, bI]; simp)
    rw [hgz, w_E_2 (by omega)]
    simp only [show w_B a p x.toNat < b by omega, decide_true, Bool.true_and]
  · have hgb := bI_bd (n = 1 ∧ b = c ∧ w_H a p x.toNat % 2 = 1)
    refine v_iload hc dX7_findWays_83 rfl ?_
    refine v_aload_n hc dX7_findWays_85 rfl ?_
    refine r_getA hc ho dX7_findWays_86 F_X7_38 hO rfl ?_
    refine v_iload_n hc dX7_findWays_89 rfl ?_
    refine r_iald hc dX7_findWays_90 hO 12 rfl (by decide) (by omega) (by omega) ?_
    refine z_icmp_ge (tgt := 165) hc dX7_findWays_91 (by decide) (by first | assumption | exact hi _ | exact ha _ _ | (unfold zb; omega)) (by first | assumption | exact hi _ | exact ha _ _ | (unfold zb; omega)) (fun c_1 => absurd c_1 (by omega)) (fun c_1 => ?_)
    refine v_iload_n hc dX7_findWays_94 rfl ?_
    refine z_iconst hc dX7_findWays_95 ?_
    refine z_icmp_le (tgt := 165) hc dX7_findWays_96 (by decide) (by first | assumption | exact hi _ | exact ha _ _ | (unfold zb; omega)) (by first | assumption | exact hi _ | exact ha _ _ | (unfold zb; omega)) (fun c_2 => ?_) (fun c_2 => ?_)
    · exact P165 _ _ (by first | exact m_g1 hg (by omega) hcB | exact m_g2 hg (by omega) (by omega) hcB)
    · refine v_iload hc dX7_findWays_99 rfl ?_
      refine v_iload hc dX7_findWays_101 rfl ?_
      refine z_icmp_le (tgt := 165) hc dX7_findWays_103 (by decide) (by first | assumption | exact hi _ | exact ha _ _ | (unfold zb; omega)) (by first | assumption | exact hi _ | exact ha _ _ | (unfold zb; omega)) (fun c_3 => ?_) (fun c_3 => ?_)
      · exact P165 _ _ (by first | exact m_g1 hg (by omega) hcB | exact m_g2 hg (by omega) (by omega) hcB)
      · exact absurd ⟨by omega, by omega⟩ hno
theorem w_E_cong {a a0 : Nat → Nat → Int} (hE : ∀ k, k ≠ 16 → a k = a0 k) (p : Int) : w_E a p = w_E a0 p ∧ w_B a p = w_B a0 p ∧ w_H a p = w_H a0 p ∧ a 12 p.toNat = a0 12 p.toNat := by
  unfold w_E w_B w_H w_N; rw [hE 12 (by decide), hE 13 (by decide), hE 14 (by decide), hE 15 (by decide)]; simp
theorem m_P_16 {i : Nat → Int} {a a2 : Nat → Nat → Int} (h : m_P i a) (hE : ∀ k, k ≠ 16 → a2 k = a k) (h16 : ∀ j, 0 ≤ a2 16 j ∧ a2 16 j ≤ 1) : m_P i a2 := by
  unfold m_P at h ⊢
  rw [hE 12 (by decide), hE 8 (by decide), hE 9 (by decide), hE 6 (by decide), hE 7 (by decide), hE 10 (by decide), hE 11 (by decide), hE 13 (by decide), hE 14 (by decide), hE 15 (by decide)]
  obtain ⟨h1, h2, h3, h4, h5, h6, h7, h8, h9, h10, h11, h12⟩ := h
  exact ⟨h1, h2, h3, h4, h5, h6, h7, h8, h9, h10, h11, h16⟩
theorem b_up_01 {f : Nat → Int} {j : Nat} {v : Int} (h : ∀ j, 0 ≤ f j ∧ f j ≤ 1) (hv : 0 ≤ v ∧ v ≤ 1) : ∀ k, 0 ≤ b_up f j v k ∧ b_up f j v k ≤ 1 := fun k => by
  by_cases q : k = j
  · rw [q, b_up_eq]; exact hv
  · rw [b_up_ne _ _ q]; exact h k

set_option maxHeartbeats 4000000 in
theorem l_X7_findWays_36 {S : b_S} {l : Launch} {G : b_G} {o : Nat} {ad : Nat → Nat} {i : Nat → Int} {a0 : Nat → Nat → Int} {hB : b_H} {sz : Nat} {post : Option Value → b_H → Nat → Prop} (M : b_M S l G RX7 cX7_findWays 8 none "findWays" 1 22 0 0 hB sz post) {p : Int} (hp : 0 ≤ p ∧ p ≤ 11) {n x c : Int} (hn : 1 ≤ n ∧ n ≤ 16) (hx : 0 ≤ x ∧ x < a0 12 p.toNat) (hcB : c = w_B a0 p x.toNat) (hc1 : 1 ≤ c ∧ c ≤ 64) (P185 : ∀ (h : b_H) (a : Nat → Nat → Int), r_O K7 7 o ad i a h → m_P i a → (∀ b, ¬ r_own K7 o ad b → h b = hB b) → (∀ k, k ≠ 16 → a k = a0 k) → ∀ (b : Int) (x6 x7 : Option Value), m_D (a 16) (a0 12 p.toNat) (w_E a0 p) n x 401 → V S 0 0 h sz 185 [some (.ref o), some (.int (zI p)), some (.int (zI n)), some (.int (zI x)), some (.int (zI c)), some (.int (zI b)), x6, x7] []) : ∀ (d : Nat) (h : b_H) (a : Nat → Nat → Int) (b : Int) (x6 x7 : Option Value), ((401 - b).toNat = d) → (0 ≤ b) → (b ≤ 401) → (r_O K7 7 o ad i a h) → (m_P i a) → (∀ b, ¬ r_own K7 o ad b → h b = hB b) → (∀ k, k ≠ 16 → a k = a0 k) → (m_D (a 16) (a0 12 p.toNat) (w_E a0 p) n x b) → V S 0 0 h sz 36 [some (.ref o), some (.int (zI p)), some (.int (zI n)), some (.int (zI x)), some (.int (zI c)), some (.int (zI b)), x6, x7] [] := by
  have hc := M.2.2.2.1
  have ho : s_own S = RX7 := M.2.2.1
  have hFr : (s_R S).frames = 1 := by rw [M.2.2.2.2.2.2.2.1]
  have hLo : (s_R S).locals = 22 := by rw [M.2.2.2.2.2.2.2.1]
  have hCe : (s_R S).cells = 0 := by rw [M.2.2.2.2.2.2.2.1]
  have hSl : (s_R S).slots = 0 := by rw [M.2.2.2.2.2.2.2.1]
  intro d
  induction d using Nat.strongRecOn with
  | ind d ih =>
    intro h a b x6 x7 hd h0 h1 hO hI hfr hE hD
    have hi := hO.2.2.2.1
    have ha := hO.2.2.2.2
    obtain ⟨hI5, hIbk, hIsf, hIky, hImd, hIth, hIfe, hIbt, hIb1, hIhw, hInx, hIen⟩ := id hI
    obtain ⟨hwE, hwB, hwH, h12⟩ := w_E_cong hE p
    have hbk := hIbk p.toNat
    refine v_iload hc dX7_findWays_36 rfl ?_
    refine z_sipush hc dX7_findWays_38 (by decide) ?_
    refine z_icmp_gt (tgt := 185) hc dX7_findWays_41 (by decide) (by first | assumption | exact hi _ | exact ha _ _ | (unfold zb; omega)) (by first | assumption | exact hi _ | exact ha _ _ | (unfold zb; omega)) (fun c_1 => ?_) (fun c_1 => ?_)
    · exact P185 h a hO hI hfr hE b _ _ (by rw [show b = 401 by omega] at hD; exact hD)
    · refine v_iload_n hc dX7_findWays_44 rfl ?_
      refine z_iconst hc dX7_findWays_45 ?_
      refine z_icmp_ne (tgt := 77) hc dX7_findWays_46 (by decide) (by first | assumption | exact hi _ | exact ha _ _ | (unfold zb; omega)) (by first | assumption | exact hi _ | exact ha _ _ | (unfold zb; omega)) (fun c_2 => ?_) (fun c_2 => ?_)
      · refine z_iconst hc dX7_findWays_77 ?_
        refine v_istore hc dX7_findWays_78 (Nat.le_of_ble_eq_true rfl) ?_
        refine z_iconst hc dX7_findWays_80 ?_
        refine v_istore hc dX7_findWays_81 (Nat.le_of_ble_eq_true rfl) ?_
        refine l_X7_findWays_83b M hO hI hp hn (by omega) (by rw [hwB]; exact hcB) hc1 (by omega) (by rw [h12, hwE]; exact hD) (g := 0) (by rw [bI]; first | rw [if_pos ⟨by omega, by omega, by omega⟩] | rw [if_neg (by omega)]) (fun g z hg => ?_)
        rw [hwE] at hg
        have hgb : 0 ≤ g ∧ g ≤ 1 := by rw [hg]; exact bI_bd _
        refine v_aload_n hc dX7_findWays_165 rfl ?_
        refine r_getA hc ho dX7_findWays_166 F_X7_51 hO rfl ?_
        refine v_iload_n hc dX7_findWays_169 rfl ?_
        refine v_iload_n hc dX7_findWays_170 rfl ?_
        refine v_iload hc dX7_findWays_171 rfl ?_
        refine v_callS (As := [.int (zI (n)), .int (zI (x)), .int (zI (b))]) hc ho dX7_findWays_173 KS_X7_159 KB_X7_at (c_X7_at _ _ (n := n) (x := x) (b := b)) rfl (Nat.le_of_ble_eq_true rfl) ⟨by omega, by omega⟩ ⟨by omega, by omega⟩ (fun r_ h_ sz_ q_ z_ => ?_)
        obtain ⟨rfl, rfl, rfl⟩ := q_
        refine v_iload hc dX7_findWays_176 rfl ?_
        refine r_zastf hc dX7_findWays_178 hO hfr 16 rfl (by decide) (by omega) (by omega) (by omega) (fun h a_3 g_3 k_3 hO hfr => ?_)
        have ha := hO.2.2.2.2
        refine z_iinc hc dX7_findWays_179 rfl ?_
        refine v_goto (tgt := 36) hc dX7_findWays_182 (by decide) ?_
        refine ih _ (by omega) h _ _ _ _ rfl (by omega) (by omega) hO (m_P_16 hI k_3 (by rw [g_3]; exact b_up_01 hIen hgb)) hfr (fun k hk => (k_3 k hk).trans (hE k hk)) ?_
        rw [g_3, hg]
        exact hD.put (by omega) (by omega) (by omega) (by omega) (by omega) (by omega)
      · refine v_iload hc dX7_findWays_49 rfl ?_
        refine v_iload hc dX7_findWays_51 rfl ?_
        refine z_icmp_ne (tgt := 77) hc dX7_findWays_53 (by decide) (by first | assumption | exact hi _ | exact ha _ _ | (unfold zb; omega)) (by first | assumption | exact hi _ | exact ha _ _ | (unfold zb; omega)) (fun c_4 => ?_) (fun c_4 => ?_)
        · refine z_iconst hc dX7_findWays_77 ?_
          refine v_istore hc dX7_findWays_78 (Nat.le_of_ble_eq_true rfl) ?_
          refine z_iconst hc dX7_findWays_80 ?_
          refine v_istore hc dX7_findWays_81 (Nat.le_of_ble_eq_true rfl) ?_
          refine l_X7_findWays_83b M hO hI hp hn (by omega) (by rw [hwB]; exact hcB) hc1 (by omega) (by rw [h12, hwE]; exact hD) (g := 0) (by rw [bI]; first | rw [if_pos ⟨by omega, by omega, by omega⟩] | rw [if_neg (by omega)]) (fun g z hg => ?_)
          rw [hwE] at hg
          have hgb : 0 ≤ g ∧ g ≤ 1 := by rw [hg]; exact bI_bd _
          refine v_aload_n hc dX7_findWays_165 rfl ?_
          refine r_getA hc ho dX7_findWays_166 F_X7_51 hO rfl ?_
          refine v_iload_n hc dX7_findWays_169 rfl ?_
          refine v_iload_n hc dX7_findWays_170 rfl ?_
          refine v_iload hc dX7_findWays_171 rfl ?_
          refine v_callS (As := [.int (zI (n)), .int (zI (x)), .int (zI (b))]) hc ho dX7_findWays_173 KS_X7_159 KB_X7_at (c_X7_at _ _ (n := n) (x := x) (b := b)) rfl (Nat.le_of_ble_eq_true rfl) ⟨by omega, by omega⟩ ⟨by omega, by omega⟩ (fun r_ h_ sz_ q_ z_ => ?_)
          obtain ⟨rfl, rfl, rfl⟩ := q_
          refine v_iload hc dX7_findWays_176 rfl ?_
          refine r_zastf hc dX7_findWays_178 hO hfr 16 rfl (by decide) (by omega) (by omega) (by omega) (fun h a_5 g_5 k_5 hO hfr => ?_)
          have ha := hO.2.2.2.2
          refine z_iinc hc dX7_findWays_179 rfl ?_
          refine v_goto (tgt := 36) hc dX7_findWays_182 (by decide) ?_
          refine ih _ (by omega) h _ _ _ _ rfl (by omega) (by omega) hO (m_P_16 hI k_5 (by rw [g_5]; exact b_up_01 hIen hgb)) hfr (fun k hk => (k_5 k hk).trans (hE k hk)) ?_
          rw [g_5, hg]
          exact hD.put (by omega) (by omega) (by omega) (by omega) (by omega) (by omega)
        · have hHx : a 14 (8 * p + x).toNat = w_H a p x.toNat := by rw [w_H, show 8 * p.toNat + x.toNat = (8 * p + x).toNat by omega]
          have hhw := hIhw (8 * p + x).toNat
          refine v_aload_n hc dX7_findWays_56 rfl ?_
          refine r_getA hc ho dX7_findWays_57 F_X7_44 hO rfl ?_
          refine z_bipush hc dX7_findWays_60 (by decide) ?_
          refine v_iload_n hc dX7_findWays_62 rfl ?_
          refine z_imul hc dX7_findWays_63 ?_
          refine v_iload_n hc dX7_findWays_64 rfl ?_
          refine z_iadd hc dX7_findWays_65 ?_
          refine r_iald hc dX7_findWays_66 hO 14 rfl (by decide) (by omega) (by omega) ?_
          refine z_iconst hc dX7_findWays_67 ?_
          refine v_iand hc dX7_findWays_68 (zI_and1 (by omega) (by omega)) ?_
          refine z_iconst hc dX7_findWays_69 ?_
          refine z_icmp_ne (tgt := 77) hc dX7_findWays_70 (by decide) (by first | assumption | exact hi _ | exact ha _ _ | (unfold zb; omega)) (by first | assumption | exact hi _ | exact ha _ _ | (unfold zb; omega)) (fun c_6 => ?_) (fun c_6 => ?_)
          · refine z_iconst hc dX7_findWays_77 ?_
            refine v_istore hc dX7_findWays_78 (Nat.le_of_ble_eq_true rfl) ?_
            refine z_iconst hc dX7_findWays_80 ?_
            refine v_istore hc dX7_findWays_81 (Nat.le_of_ble_eq_true rfl) ?_
            refine l_X7_findWays_83b M hO hI hp hn (by omega) (by rw [hwB]; exact hcB) hc1 (by omega) (by rw [h12, hwE]; exact hD) (g := 0) (by rw [bI]; first | rw [if_pos ⟨by omega, by omega, by omega⟩] | rw [if_neg (by omega)]) (fun g z hg => ?_)
            rw [hwE] at hg
            have hgb : 0 ≤ g ∧ g ≤ 1 := by rw [hg]; exact bI_bd _
            refine v_aload_n hc dX7_findWays_165 rfl ?_
            refine r_getA hc ho dX7_findWays_166 F_X7_51 hO rfl ?_
            refine v_iload_n hc dX7_findWays_169 rfl ?_
            refine v_iload_n hc dX7_findWays_170 rfl ?_
            refine v_iload hc dX7_findWays_171 rfl ?_
            refine v_callS (As := [.int (zI (n)), .int (zI (x)), .int (zI (b))]) hc ho dX7_findWays_173 KS_X7_159 KB_X7_at (c_X7_at _ _ (n := n) (x := x) (b := b)) rfl (Nat.le_of_ble_eq_true rfl) ⟨by omega, by omega⟩ ⟨by omega, by omega⟩ (fun r_ h_ sz_ q_ z_ => ?_)
            obtain ⟨rfl, rfl, rfl⟩ := q_
            refine v_iload hc dX7_findWays_176 rfl ?_
            refine r_zastf hc dX7_findWays_178 hO hfr 16 rfl (by decide) (by omega) (by omega) (by omega) (fun h a_7 g_7 k_7 hO hfr => ?_)
            have ha := hO.2.2.2.2
            refine z_iinc hc dX7_findWays_179 rfl ?_
            refine v_goto (tgt := 36) hc dX7_findWays_182 (by decide) ?_
            refine ih _ (by omega) h _ _ _ _ rfl (by omega) (by omega) hO (m_P_16 hI k_7 (by rw [g_7]; exact b_up_01 hIen hgb)) hfr (fun k hk => (k_7 k hk).trans (hE k hk)) ?_
            rw [g_7, hg]
            exact hD.put (by omega) (by omega) (by omega) (by omega) (by omega) (by omega)
          · refine z_iconst hc dX7_findWays_73 ?_
            refine v_goto (tgt := 78) hc dX7_findWays_74 (by decide) ?_
            refine v_istore hc dX7_findWays_78 (Nat.le_of_ble_eq_true rfl) ?_
            refine z_iconst hc dX7_findWays_80 ?_
            refine v_istore hc dX7_findWays_81 (Nat.le_of_ble_eq_true rfl) ?_
            refine l_X7_findWays_83b M hO hI hp hn (by omega) (by rw [hwB]; exact hcB) hc1 (by omega) (by rw [h12, hwE]; exact hD) (g := 1) (by rw [bI]; first | rw [if_pos ⟨by omega, by omega, by omega⟩] | rw [if_neg (by omega)]) (fun g z hg => ?_)
            rw [hwE] at hg
            have hgb : 0 ≤ g ∧ g ≤ 1 := by rw [hg]; exact bI_bd _
            refine v_aload_n hc dX7_findWays_165 rfl ?_
            refine r_getA hc ho dX7_findWays_166 F_X7_51 hO rfl ?_
            refine v_iload_n hc dX7_findWays_169 rfl ?_
            refine v_iload_n hc dX7_findWays_170 rfl ?_
            refine v_iload hc dX7_findWays_171 rfl ?_
            refine v_callS (As := [.int (zI (n)), .int (zI (x)), .int (zI (b))]) hc ho dX7_findWays_173 KS_X7_159 KB_X7_at (c_X7_at _ _ (n := n) (x := x) (b := b)) rfl (Nat.le_of_ble_eq_true rfl) ⟨by omega, by omega⟩ ⟨by omega, by omega⟩ (fun r_ h_ sz_ q_ z_ => ?_)
            obtain ⟨rfl, rfl, rfl⟩ := q_
            refine v_iload hc dX7_findWays_176 rfl ?_
            refine r_zastf hc dX7_findWays_178 hO hfr 16 rfl (by decide) (by omega) (by omega) (by omega) (fun h a_8 g_8 k_8 hO hfr => ?_)
            have ha := hO.2.2.2.2
            refine z_iinc hc dX7_findWays_179 rfl ?_
            refine v_goto (tgt := 36) hc dX7_findWays_182 (by decide) ?_
            refine ih _ (by omega) h _ _ _ _ rfl (by omega) (by omega) hO (m_P_16 hI k_8 (by rw [g_8]; exact b_up_01 hIen hgb)) hfr (fun k hk => (k_8 k hk).trans (hE k hk)) ?_
            rw [g_8, hg]
            exact hD.put (by omega) (by omega) (by omega) (by omega) (by omega) (by omega)
set_option maxHeartbeats 4000000 in
theorem l_X7_findWays_10 {S : b_S} {l : Launch} {G : b_G} {o : Nat} {ad : Nat → Nat} {i : Nat → Int} {a0 : Nat → Nat → Int} {hB : b_H} {sz : Nat} {post : Option Value → b_H → Nat → Prop} (M : b_M S l G RX7 cX7_findWays 8 none "findWays" 1 22 0 0 hB sz post) {p : Int} (hp : 0 ≤ p ∧ p ≤ 11) {n : Int} (hn : 1 ≤ n ∧ n ≤ 16) (P191 : ∀ (h : b_H) (a : Nat → Nat → Int), r_O K7 7 o ad i a h → m_P i a → (∀ b, ¬ r_own K7 o ad b → h b = hB b) → (∀ k, k ≠ 16 → a k = a0 k) → ∀ (x4 x5 x6 x7 : Option Value), m_D (a 16) (a0 12 p.toNat) (w_E a0 p) n (a0 12 p.toNat) 0 → V S 0 0 h sz 191 [some (.ref o), some (.int (zI p)), some (.int (zI n)), some (.int (zI (a0 12 p.toNat))), x4, x5, x6, x7] []) : ∀ (d : Nat) (h : b_H) (a : Nat → Nat → Int) (x : Int) (x4 x5 x6 x7 : Option Value), ((a0 12 p.toNat - x).toNat = d) → (0 ≤ x) → (x ≤ a0 12 p.toNat) → (r_O K7 7 o ad i a h) → (m_P i a) → (∀ b, ¬ r_own K7 o ad b → h b = hB b) → (∀ k, k ≠ 16 → a k = a0 k) → (m_D (a 16) (a0 12 p.toNat) (w_E a0 p) n x 0) → V S 0 0 h sz 10 [some (.ref o), some (.int (zI p)), some (.int (zI n)), some (.int (zI x)), x4, x5, x6, x7] [] := by
  have hc := M.2.2.2.1
  have ho : s_own S = RX7 := M.2.2.1
  have hFr : (s_R S).frames = 1 := by rw [M.2.2.2.2.2.2.2.1]
  have hLo : (s_R S).locals = 22 := by rw [M.2.2.2.2.2.2.2.1]
  have hCe : (s_R S).cells = 0 := by rw [M.2.2.2.2.2.2.2.1]
  have hSl : (s_R S).slots = 0 := by rw [M.2.2.2.2.2.2.2.1]
  intro d
  induction d using Nat.strongRecOn with
  | ind d ih =>
    intro h a x x4 x5 x6 x7 hd h0 h1 hO hI hfr hE hD
    have hi := hO.2.2.2.1
    have ha := hO.2.2.2.2
    obtain ⟨hI5, hIbk, hIsf, hIky, hImd, hIth, hIfe, hIbt, hIb1, hIhw, hInx, hIen⟩ := id hI
    obtain ⟨hwE, hwB, hwH, h12⟩ := w_E_cong hE p
    have hbk := hIbk p.toNat
    refine v_iload_n hc dX7_findWays_10 rfl ?_
    refine v_aload_n hc dX7_findWays_11 rfl ?_
    refine r_getA hc ho dX7_findWays_12 F_X7_38 hO rfl ?_
    refine v_iload_n hc dX7_findWays_15 rfl ?_
    refine r_iald hc dX7_findWays_16 hO 12 rfl (by decide) (by omega) (by omega) ?_
    refine z_icmp_ge (tgt := 191) hc dX7_findWays_17 (by decide) (by first | assumption | exact hi _ | exact ha _ _ | (unfold zb; omega)) (by first | assumption | exact hi _ | exact ha _ _ | (unfold zb; omega)) (fun c_1 => ?_) (fun c_1 => ?_)
    · have hxe : x = a0 12 p.toNat := by omega
      subst hxe
      exact P191 h a hO hI hfr hE _ _ _ _ hD
    · have hb1 := hIb1 p.toNat x.toNat (by omega) (by omega)
      rw [show 8 * p.toNat + x.toNat = (8 * p + x).toNat by omega] at hb1
      have hb2 := hIbt (8 * p + x).toNat
      refine v_aload_n hc dX7_findWays_20 rfl ?_
      refine r_getA hc ho dX7_findWays_21 F_X7_41 hO rfl ?_
      refine z_bipush hc dX7_findWays_24 (by decide) ?_
      refine v_iload_n hc dX7_findWays_26 rfl ?_
      refine z_imul hc dX7_findWays_27 ?_
      refine v_iload_n hc dX7_findWays_28 rfl ?_
      refine z_iadd hc dX7_findWays_29 ?_
      refine r_iald hc dX7_findWays_30 hO 13 rfl (by decide) (by omega) (by omega) ?_
      refine v_istore hc dX7_findWays_31 (Nat.le_of_ble_eq_true rfl) ?_
      refine z_iconst hc dX7_findWays_33 ?_
      refine v_istore hc dX7_findWays_34 (Nat.le_of_ble_eq_true rfl) ?_
      refine l_X7_findWays_36 M hp hn (x := x) (by omega) (c := a 13 (8 * p + x).toNat) (by rw [← hwB, w_B, show 8 * p.toNat + x.toNat = (8 * p + x).toNat by omega]) (by omega) (fun h a hO hI hfr hE b x6 x7 hD => ?_) _ h a _ _ _ rfl (by omega) (by omega) hO hI hfr hE hD
      have hi := hO.2.2.2.1
      have ha := hO.2.2.2.2
      refine z_iinc hc dX7_findWays_185 rfl ?_
      refine v_goto (tgt := 10) hc dX7_findWays_188 (by decide) ?_
      exact ih _ (by omega) h a _ _ _ _ _ rfl (by omega) (by omega) hO hI hfr hE (fun n' x' b' g1 g2 g3 g4 g5 g6 g7 => hD n' x' b' g1 g2 g3 g4 g5 g6 (by omega))
set_option maxHeartbeats 4000000 in
theorem l_X7_findWays_2 {S : b_S} {l : Launch} {G : b_G} {o : Nat} {ad : Nat → Nat} {i : Nat → Int} {a0 : Nat → Nat → Int} {hB : b_H} {sz : Nat} {post : Option Value → b_H → Nat → Prop} (M : b_M S l G RX7 cX7_findWays 8 none "findWays" 1 22 0 0 hB sz post) {p : Int} (hp : 0 ≤ p ∧ p ≤ 11) (P : ∀ (h : b_H) (a : Nat → Nat → Int), r_O K7 7 o ad i a h → m_P i a → (∀ b, ¬ r_own K7 o ad b → h b = hB b) → (∀ k, k ≠ 16 → a k = a0 k) →  m_D (a 16) (a0 12 p.toNat) (w_E a0 p) 17 0 0 → post none h sz) : ∀ (d : Nat) (h : b_H) (a : Nat → Nat → Int) (n : Int) (x3 x4 x5 x6 x7 : Option Value), ((17 - n).toNat = d) → (1 ≤ n) → (n ≤ 17) → (r_O K7 7 o ad i a h) → (m_P i a) → (∀ b, ¬ r_own K7 o ad b → h b = hB b) → (∀ k, k ≠ 16 → a k = a0 k) → (m_D (a 16) (a0 12 p.toNat) (w_E a0 p) n 0 0) → V S 0 0 h sz 2 [some (.ref o), some (.int (zI p)), some (.int (zI n)), x3, x4, x5, x6, x7] [] := by
  have hc := M.2.2.2.1
  have ho : s_own S = RX7 := M.2.2.1
  have hFr : (s_R S).frames = 1 := by rw [M.2.2.2.2.2.2.2.1]
  have hLo : (s_R S).locals = 22 := by rw [M.2.2.2.2.2.2.2.1]
  have hCe : (s_R S).cells = 0 := by rw [M.2.2.2.2.2.2.2.1]
  have hSl : (s_R S).slots = 0 := by rw [M.2.2.2.2.2.2.2.1]
  intro d
  induction d using Nat.strongRecOn with
  | ind d ih =>
    intro h a n x3 x4 x5 x6 x7 hd h0 h1 hO hI hfr hE hD
    have hi := hO.2.2.2.1
    have ha := hO.2.2.2.2
    obtain ⟨hI5, hIbk, hIsf, hIky, hImd, hIth, hIfe, hIbt, hIb1, hIhw, hInx, hIen⟩ := id hI
    obtain ⟨hwE, hwB, hwH, h12⟩ := w_E_cong hE p
    have hbk := hIbk p.toNat
    refine v_iload_n hc dX7_findWays_2 rfl ?_
    refine z_bipush hc dX7_findWays_3 (by decide) ?_
    refine z_icmp_gt (tgt := 197) hc dX7_findWays_5 (by decide) (by first | assumption | exact hi _ | exact ha _ _ | (unfold zb; omega)) (by first | assumption | exact hi _ | exact ha _ _ | (unfold zb; omega)) (fun c_1 => ?_) (fun c_1 => ?_)
    · refine v_vret M dX7_findWays_197 (by omega) (by omega) ?_
      exact P h a hO hI hfr hE (by rw [show n = 17 by omega] at hD; exact hD)
    · refine z_iconst hc dX7_findWays_8 ?_
      refine v_istore_n hc dX7_findWays_9 (Nat.le_of_ble_eq_true rfl) ?_
      refine l_X7_findWays_10 M hp (n := n) (by omega) (fun h a hO hI hfr hE x4 x5 x6 x7 hD => ?_) _ h a _ _ _ _ _ rfl (by omega) (by have := (w_E_cong hE p).2.2.2; omega) hO hI hfr hE hD
      have hi := hO.2.2.2.1
      have ha := hO.2.2.2.2
      refine z_iinc hc dX7_findWays_191 rfl ?_
      refine v_goto (tgt := 2) hc dX7_findWays_194 (by decide) ?_
      exact ih _ (by omega) h a _ _ _ _ _ _ rfl (by omega) (by omega) hO hI hfr hE (fun n' x' b' g1 g2 g3 g4 g5 g6 g7 => hD n' x' b' g1 g2 g3 g4 g5 g6 (by omega))
set_option maxHeartbeats 4000000 in
theorem c_X7_findWays (l : Launch) (G : b_G) {o : Nat} {ad : Nat → Nat} {i : Nat → Int} {a : Nat → Nat → Int} {h : b_H} {sz : Nat} (hO : r_O K7 7 o ad i a h) (hI : m_P i a) {p : Int} (hp : 0 ≤ p ∧ p ≤ 11) : Con l G yX7_findWays cX7_findWays 8 none 1 22 0 0 [.ref o, .int (zI p)] h sz (p_wr K7 7 o ad h sz (fun r i2 a2 => r = none ∧ i2 = i ∧ m_P i2 a2 ∧ (∀ k, k ≠ 16 → a2 k = a k) ∧ m_D (a2 16) (a 12 p.toNat) (w_E a p) 17 0 0)) := by
  refine Con.ofK (by decide +kernel) rfl rfl ?_
  intro S M
  have hc := M.2.2.2.1
  have ho : s_own S = RX7 := M.2.2.1
  have hFr : (s_R S).frames = 1 := by rw [M.2.2.2.2.2.2.2.1]
  have hLo : (s_R S).locals = 22 := by rw [M.2.2.2.2.2.2.2.1]
  have hCe : (s_R S).cells = 0 := by rw [M.2.2.2.2.2.2.2.1]
  have hSl : (s_R S).slots = 0 := by rw [M.2.2.2.2.2.2.2.1]
  have hi := hO.2.2.2.1
  have ha := hO.2.2.2.2
  obtain ⟨hI5, hIbk, hIsf, hIky, hImd, hIth, hIfe, hIbt, hIb1, hIhw, hInx, hIen⟩ := id hI
  have hfr : ∀ b, ¬ r_own K7 o ad b → h b = h b := fun _ _ => rfl
  refine z_iconst hc dX7_findWays_0 ?_
  refine v_istore_n hc dX7_findWays_1 (Nat.le_of_ble_eq_true rfl) ?_
  exact l_X7_findWays_2 M hp (fun h a2 hO hI hfr hE hD => ⟨rfl, i, a2, ⟨rfl, rfl, hI, hE, hD⟩, hO, hfr⟩) _ h a _ _ _ _ _ _ rfl (by omega) (by omega) hO hI hfr (fun _ _ => rfl) (fun n' x' b' g1 g2 g3 g4 g5 g6 g7 => by omega)
def w_bg (a : Nat → Nat → Int) (p : Int) (n : Nat) (b : Int) : Nat → Bool := fun x => decide (2 ≤ w_H a p x) && w_E a p n x b
def w_hw (a : Nat → Nat → Int) (p b : Int) : Nat → Bool
  | 0 => false
  | n + 1 => w_hw a p b n || w_an (w_bg a p (n + 1) b) (a 12 p.toNat).toNat

set_option maxHeartbeats 4000000 in
theorem l_X7_hasWay_11 {S : b_S} {l : Launch} {G : b_G} {o : Nat} {ad : Nat → Nat} {i : Nat → Int} {a : Nat → Nat → Int} {h : b_H} {sz : Nat} {post : Option Value → b_H → Nat → Prop} (M : b_M S l G RX7 cX7_hasWay 5 (some .boolean) "hasWay" 1 22 0 0 h sz post) (hO : r_O K7 7 o ad i a h) (hI : m_P i a) {p b n : Int} (hp : 0 ≤ p ∧ p ≤ 11) (hb : 0 ≤ b ∧ b ≤ 400) (hD : m_D (a 16) (a 12 p.toNat) (w_E a p) 17 0 0) (hn : 1 ≤ n ∧ n ≤ 16) (P48 : w_an (w_bg a p n.toNat b) (a 12 p.toNat).toNat = true → post (some (.int (zI 1))) h sz) (P55 : w_an (w_bg a p n.toNat b) (a 12 p.toNat).toNat = false → V S 0 0 h sz 55 [some (.ref o), some (.int (zI p)), some (.int (zI b)), some (.int (zI n)), some (.int (zI (a 12 p.toNat)))] []) : ∀ (d : Nat) (x : Int), ((a 12 p.toNat - x).toNat = d) → (0 ≤ x) → (x ≤ a 12 p.toNat) → (w_an (w_bg a p n.toNat b) x.toNat = false) → V S 0 0 h sz 11 [some (.ref o), some (.int (zI p)), some (.int (zI b)), some (.int (zI n)), some (.int (zI x))] [] := by
  have hc := M.2.2.2.1
  have ho : s_own S = RX7 := M.2.2.1
  have hFr : (s_R S).frames = 1 := by rw [M.2.2.2.2.2.2.2.1]
  have hLo : (s_R S).locals = 22 := by rw [M.2.2.2.2.2.2.2.1]
  have hCe : (s_R S).cells = 0 := by rw [M.2.2.2.2.2.2.2.1]
  have hSl : (s_R S).slots = 0 := by rw [M.2.2.2.2.2.2.2.1]
  have hi := hO.2.2.2.1
  have ha := hO.2.2.2.2
  obtain ⟨hI5, hIbk, hIsf, hIky, hImd, hIth, hIfe, hIbt, hIb1, hIhw, hInx, hIen⟩ := id hI
  intro d
  induction d using Nat.strongRecOn with
  | ind d ih =>
    intro x hd h0 h1 hr
    have hbk := hIbk p.toNat
    refine v_iload hc dX7_hasWay_11 rfl ?_
    refine v_aload_n hc dX7_hasWay_13 rfl ?_
    refine r_getA hc ho dX7_hasWay_14 F_X7_38 hO rfl ?_
    refine v_iload_n hc dX7_hasWay_17 rfl ?_
    refine r_iald hc dX7_hasWay_18 hO 12 rfl (by decide) (by omega) (by omega) ?_
    refine z_icmp_ge (tgt := 55) hc dX7_hasWay_19 (by decide) (by first | assumption | exact hi _ | exact ha _ _ | (unfold zb; omega)) (by first | assumption | exact hi _ | exact ha _ _ | (unfold zb; omega)) (fun c_1 => ?_) (fun c_1 => ?_)
    · have hxe : x = a 12 p.toNat := by omega
      subst hxe
      exact P55 hr
    · refine v_aload_n hc dX7_hasWay_22 rfl ?_
      refine v_iload_n hc dX7_hasWay_23 rfl ?_
      refine v_iload hc dX7_hasWay_24 rfl ?_
      refine v_callV (As := [.int (zI p), .int (zI x)]) hc ho dX7_hasWay_26 KV_X7_163 KB_X7_begins hO.1 rfl rfl (c_X7_begins _ _ hO hI (p := p) (x := x) (by omega) (by omega)) rfl (Nat.le_of_ble_eq_true rfl) ⟨by omega, by omega⟩ ⟨by omega, by omega⟩ (fun r_ h_ sz_ q_ z_ => ?_)
      obtain ⟨rfl, rfl, rfl⟩ := q_
      have hHx : a 14 (8 * p + x).toNat = w_H a p x.toNat := by rw [w_H, show 8 * p.toNat + x.toNat = (8 * p + x).toNat by omega]
      have hb0 := @bI_0 (2 ≤ a 14 (8 * p + x).toNat) _
      have hb1 := @bI_1 (2 ≤ a 14 (8 * p + x).toNat) _
      have hbb := bI_bd (2 ≤ a 14 (8 * p + x).toNat)
      refine z_if_eq (tgt := 49) hc dX7_hasWay_29 (by decide) (by first | assumption | exact hi _ | exact ha _ _ | (unfold zb; omega)) (fun c_2 => ?_) (fun c_2 => ?_)
      · refine z_iinc hc dX7_hasWay_49 rfl ?_
        refine v_goto (tgt := 11) hc dX7_hasWay_52 (by decide) ?_
        exact ih _ (by omega) _ rfl (by omega) (by omega) (by rw [show (x + 1).toNat = x.toNat + 1 by omega, w_an, hr, Bool.false_or]; exact (by simp only [w_bg, Bool.and_eq_false_iff, decide_eq_false_iff_not]; first | exact Or.inl (by omega) | exact Or.inr (by simpa using hE0 (by omega))))
      · refine v_aload_n hc dX7_hasWay_32 rfl ?_
        refine r_getA hc ho dX7_hasWay_33 F_X7_51 hO rfl ?_
        refine v_iload_n hc dX7_hasWay_36 rfl ?_
        refine v_iload hc dX7_hasWay_37 rfl ?_
        refine v_iload_n hc dX7_hasWay_39 rfl ?_
        refine v_callS (As := [.int (zI (n)), .int (zI (x)), .int (zI (b))]) hc ho dX7_hasWay_40 KS_X7_159 KB_X7_at (c_X7_at _ _ (n := n) (x := x) (b := b)) rfl (Nat.le_of_ble_eq_true rfl) ⟨by omega, by omega⟩ ⟨by omega, by omega⟩ (fun r_ h_ sz_ q_ z_ => ?_)
        obtain ⟨rfl, rfl, rfl⟩ := q_
        have hEv := hD n x b (by omega) (by omega) (by omega) (by omega) (by omega) (by omega) (Or.inl (by omega))
        have hE1 : ¬ a 16 (3208 * n + 401 * x + b).toNat = 0 → w_E a p n.toNat x.toNat b = true := fun q => by rw [hEv] at q; exact bI_1.mp q
        have hE0 : a 16 (3208 * n + 401 * x + b).toNat = 0 → ¬ w_E a p n.toNat x.toNat b = true := fun q => by rw [hEv] at q; exact bI_0.mp q
        refine r_zald hc dX7_hasWay_43 hO 16 rfl (by decide) (by omega) (by omega) ?_
        refine z_if_eq (tgt := 49) hc dX7_hasWay_44 (by decide) (by first | assumption | exact hi _ | exact ha _ _ | (unfold zb; omega)) (fun c_3 => ?_) (fun c_3 => ?_)
        · refine z_iinc hc dX7_hasWay_49 rfl ?_
          refine v_goto (tgt := 11) hc dX7_hasWay_52 (by decide) ?_
          exact ih _ (by omega) _ rfl (by omega) (by omega) (by rw [show (x + 1).toNat = x.toNat + 1 by omega, w_an, hr, Bool.false_or]; exact (by simp only [w_bg, Bool.and_eq_false_iff, decide_eq_false_iff_not]; first | exact Or.inl (by omega) | exact Or.inr (by simpa using hE0 (by omega))))
        · refine z_iconst hc dX7_hasWay_47 ?_
          refine z_zret M (by omega) dX7_hasWay_48 (by omega) (by omega) ?_
          exact P48 (w_an_mono (x := x.toNat + 1) (by rw [w_an]; simp only [w_bg, Bool.or_eq_true, Bool.and_eq_true, decide_eq_true_eq]; exact Or.inr ⟨by omega, hE1 (by omega)⟩) ((a 12 p.toNat).toNat - (x.toNat + 1)) |> fun z => by rw [show x.toNat + 1 + ((a 12 p.toNat).toNat - (x.toNat + 1)) = (a 12 p.toNat).toNat by omega] at z; exact z)
