/-! pure: the programme's choice: the class's least by sets is the first of the cheapest rows -/
theorem y_bit : ∀ (j k : Nat) (u : Int), u / 2 ^ j % 2 = 0 → (u + 2 ^ j) / 2 ^ k % 2 = if k = j then 1 else u / 2 ^ k % 2
  | 0, 0, u, h => by
    rw [Int.pow_zero, Int.ediv_one] at h ⊢
    rw [Int.ediv_one, if_pos rfl]
    omega
  | 0, k + 1, u, h => by
    rw [Int.pow_zero, Int.ediv_one] at h
    have e1 : (2 : Int) ^ (k + 1) = 2 * 2 ^ k := by rw [Int.pow_succ, Int.mul_comm]
    rw [if_neg (by omega), Int.pow_zero, e1, ← Int.ediv_ediv_of_nonneg (by omega), ← Int.ediv_ediv_of_nonneg (by omega), show (u + 1) / 2 = u / 2 by omega]
  | j + 1, 0, u, h => by
    have e1 : (2 : Int) ^ (j + 1) = 2 * 2 ^ j := by rw [Int.pow_succ, Int.mul_comm]
    rw [if_neg (by omega), e1, Int.pow_zero, Int.ediv_one, Int.ediv_one]
    omega
  | j + 1, k + 1, u, h => by
    have e1 : (2 : Int) ^ (j + 1) = 2 * 2 ^ j := by rw [Int.pow_succ, Int.mul_comm]
    have e2 : (2 : Int) ^ (k + 1) = 2 * 2 ^ k := by rw [Int.pow_succ, Int.mul_comm]
    have ih := y_bit j k (u / 2) (by rw [e1, ← Int.ediv_ediv_of_nonneg (by omega)] at h; exact h)
    rw [e1, e2, ← Int.ediv_ediv_of_nonneg (by omega), ← Int.ediv_ediv_of_nonneg (by omega), show (u + 2 * 2 ^ j) / 2 = u / 2 + 2 ^ j by omega, ih]
    by_cases e : k = j
    · rw [if_pos e, if_pos (by omega)]
    · rw [if_neg e, if_neg (by omega)]
theorem y_bn_mono (us : Nat → Bool) (p : Nat) : ∀ d : Nat, c_bn us p ≤ c_bn us (p + d)
  | 0 => Nat.le_refl _
  | d + 1 => by
    have := y_bn_mono us p d
    rw [← Nat.add_assoc, c_bn]
    omega
theorem y_bn_lt {us : Nat → Bool} {p q : Nat} (hpq : p < q) (hp : us p = true) : c_bn us p < c_bn us q := by
  have h1 := y_bn_mono us (p + 1) (q - (p + 1))
  rw [show p + 1 + (q - (p + 1)) = q by omega, c_bn, if_pos hp] at h1
  omega
theorem y_bn_inj {us : Nat → Bool} {p q : Nat} (hp : us p = true) (hq : us q = true) (e : c_bn us p = c_bn us q) : p = q := by
  rcases Nat.lt_trichotomy p q with h | h | h
  · have := y_bn_lt h hp; omega
  · exact h
  · have := y_bn_lt h hq; omega
def y_u (bt : Nat → Int) (r : Nat → Nat) : Nat → Int
  | 0 => 0
  | s + 1 => y_u bt r s + bt (r s)
def y_l (r : Nat → Nat) : Nat → Int
  | 0 => -1
  | s + 1 => (r s : Int)
section YC
variable {St n : Nat} {ms : Nat → Nat → Int} {jn : Int → Nat → Int} {bt : Nat → Int} {us th : Nat → Bool}
theorem y_U (hbt : ∀ p, p < n → bt p = if us p then 2 ^ c_bn us p else 0) (hus1 : ∀ p, p < n → us p = true → th p = false) {r : Nat → Nat} {T : Nat} (hv : ∀ s, s < T → r s < n ∧ ∀ k, k < s → r k = r s → th (r s) = true) : ∀ s, s ≤ T → 0 ≤ y_u bt r s ∧ y_u bt r s < 2 ^ c_bn us n ∧ ∀ p, p < n → us p = true → (y_u bt r s / 2 ^ c_bn us p % 2 = 1 ↔ ∃ k, k < s ∧ r k = p) := by
  intro s
  induction s with
  | zero =>
    intro _
    refine ⟨Int.le_refl _, Int.pow_pos (by omega), fun p hp hu => ?_⟩
    show (0 : Int) / 2 ^ c_bn us p % 2 = 1 ↔ _
    rw [Int.zero_ediv]
    constructor
    · intro q; omega
    · rintro ⟨k, hk, -⟩; omega
  | succ s ih =>
    intro hs
    obtain ⟨g1, g2, g3⟩ := ih (by omega)
    obtain ⟨v1, v2⟩ := hv s (by omega)
    have hb := hbt (r s) v1
    rw [y_u]
    by_cases c : us (r s) = true
    · rw [if_pos c] at hb
      have hth := hus1 _ v1 c
      have hno : y_u bt r s / 2 ^ c_bn us (r s) % 2 = 0 := by
        have h1 : ¬ y_u bt r s / 2 ^ c_bn us (r s) % 2 = 1 := fun q => by
          obtain ⟨k, hk, e⟩ := (g3 _ v1 c).mp q
          have := v2 k hk e
          rw [hth] at this
          cases this
        omega
      have hp0 : (0 : Int) < 2 ^ c_bn us (r s) := Int.pow_pos (by omega)
      rw [hb]
      refine ⟨by omega, c_lt g1 g2 (y_bn_lt v1 c) hno, fun p hp hu => ?_⟩
      rw [y_bit _ _ _ hno]
      by_cases e : c_bn us p = c_bn us (r s)
      · rw [if_pos e]
        exact ⟨fun _ => ⟨s, by omega, (y_bn_inj hu c e).symm⟩, fun _ => rfl⟩
      · rw [if_neg e, g3 p hp hu]
        constructor
        · rintro ⟨k, hk, q⟩; exact ⟨k, by omega, q⟩
        · rintro ⟨k, hk, q⟩
          by_cases z : k = s
          · subst z; rw [q] at e; exact absurd rfl e
          · exact ⟨k, by omega, q⟩
    · rw [if_neg c] at hb
      rw [hb, Int.add_zero]
      refine ⟨g1, g2, fun p hp hu => ?_⟩
      rw [g3 p hp hu]
      constructor
      · rintro ⟨k, hk, q⟩; exact ⟨k, by omega, q⟩
      · rintro ⟨k, hk, q⟩
        by_cases z : k = s
        · subst z; rw [q] at c; exact absurd hu c
        · exact ⟨k, by omega, q⟩
theorem y_fr (hn : n ≤ 12) (hbt : ∀ p, p < n → bt p = if us p then 2 ^ c_bn us p else 0) (hus1 : ∀ p, p < n → us p = true → th p = false) {r : Nat → Nat} {s : Nat} {u : Int} (hU : 0 ≤ u ∧ u < 2 ^ c_bn us n ∧ ∀ p, p < n → us p = true → (u / 2 ^ c_bn us p % 2 = 1 ↔ ∃ k, k < s ∧ r k = p)) {p : Nat} (hp : p < n) (hup : th p = false → us p = true) : d_an u (bt p) = 0 ↔ ∀ k, k < s → r k = p → th p = true := by
  obtain ⟨g1, g2, g3⟩ := hU
  have hb := hbt p hp
  have hle := c_bn_le us n
  by_cases c : us p = true
  · rw [if_pos c] at hb
    have hlt := y_bn_lt hp c
    have h12 : (2 : Int) ^ c_bn us n ≤ 4096 := by
      have h1 : 2 ^ c_bn us n ≤ 2 ^ 12 := Nat.pow_le_pow_right (by omega) (by omega)
      have h2 : (2 : Int) ^ c_bn us n = ((2 ^ c_bn us n : Nat) : Int) := by norm_cast
      rw [h2]
      have h3 : (2 : Nat) ^ 12 = 4096 := rfl
      omega
    rw [hb, c_an g1 (by omega) (by omega)]
    have g4 := g3 p hp c
    have hth := hus1 p hp c
    constructor
    · intro q k hk e
      exfalso
      have := g4.mpr ⟨k, hk, e⟩
      omega
    · intro q
      have h1 : ¬ u / 2 ^ c_bn us p % 2 = 1 := fun z => by
        obtain ⟨k, hk, e⟩ := g4.mp z
        have := q k hk e
        rw [hth] at this
        cases this
      omega
  · rw [if_neg c] at hb
    rw [hb]
    have hth : th p = true := by
      cases e : th p with
      | true => rfl
      | false => exact absurd (hup e) c
    exact ⟨fun _ _ _ _ => hth, fun _ => c_an0 u⟩
theorem y_low (hn : n ≤ 12) (hSt : St ≤ 8) (hm : ∀ s p, ms s p ≤ 100000) (hj : ∀ l p, 0 ≤ jn l p ∧ (jn l p ≤ 594 ∨ jn l p = 1048575)) (hj0 : ∀ p, jn (-1) p = 0) (hbt : ∀ p, p < n → bt p = if us p then 2 ^ c_bn us p else 0) (hus1 : ∀ p, p < n → us p = true → th p = false) (hus2 : ∀ s p, s < St → p < n → 0 ≤ ms s p → th p = false → us p = true) {r : Nat → Nat} (hv : z_v St n ms th (fun p q => jn p q) r) : ∀ d, d ≤ St → c_L St n ms jn bt d (y_u bt r (St - d)) (y_l r (St - d)) ≤ z_c ms (fun p q => jn p q) r St - z_c ms (fun p q => jn p q) r (St - d) ∧ z_c ms (fun p q => jn p q) r St - z_c ms (fun p q => jn p q) r (St - d) ≤ (d : Int) * 101000 ∧ ∀ e, d = e + 1 → c_Wt St n ms jn bt e (y_u bt r (St - d)) (y_l r (St - d)) (r (St - d)) ≤ z_c ms (fun p q => jn p q) r St - z_c ms (fun p q => jn p q) r (St - d) := by
  have hU := y_U hbt hus1 (r := r) (T := St) (fun s hs => ⟨(hv s hs).1, (hv s hs).2.2.1⟩)
  intro d
  induction d with
  | zero =>
    intro _
    refine ⟨?_, ?_, fun e he => absurd he (by omega)⟩
    · rw [c_L, Nat.sub_zero]; omega
    · rw [Nat.sub_zero]; omega
  | succ d ih =>
    intro hd
    obtain ⟨i1, i2, -⟩ := ih (by omega)
    obtain ⟨s, hs⟩ : ∃ s, s = St - (d + 1) := ⟨_, rfl⟩
    have hs1 : St - d = s + 1 := by omega
    rw [hs1] at i1 i2
    rw [← hs]
    obtain ⟨v1, v2, v3, v4⟩ := hv s (by omega)
    have hf := (y_fr hn hbt hus1 (hU s (by omega)) v1 (fun q => hus2 s _ (by omega) v1 v2 q)).mpr v3
    have hjl : jn (y_l r s) (r s) = (if s = 0 then 0 else jn ((r (s - 1) : Nat) : Int) (r s)) ∧ ¬ jn (y_l r s) (r s) = 1048575 := by
      cases s with
      | zero =>
        rw [if_pos rfl]
        have := hj0 (r 0)
        show jn (-1) (r 0) = 0 ∧ ¬ jn (-1) (r 0) = 1048575
        omega
      | succ s =>
        rw [if_neg (by omega)]
        refine ⟨rfl, ?_⟩
        rcases v4 with q | q
        · omega
        · exact q
    have hzc : z_c ms (fun p q => jn p q) r (s + 1) = z_c ms (fun p q => jn p q) r s + (ms s (r s) + jn (y_l r s) (r s)) := by
      rw [hjl.1]; rfl
    have hms := hm s (r s)
    have hjb := hj (y_l r s) (r s)
    have hjn := hjl.2
    have hW : c_Wt St n ms jn bt d (y_u bt r s) (y_l r s) (r s) ≤ z_c ms (fun p q => jn p q) r St - z_c ms (fun p q => jn p q) r s := by
      unfold c_Wt
      rw [← hs, if_neg (fun q => by rcases q with q | q | q; omega; exact hjn q; exact q hf)]
      have e1 : y_u bt r s + bt (r s) = y_u bt r (s + 1) := rfl
      have e2 : ((r s : Nat) : Int) = y_l r (s + 1) := rfl
      rw [e1, e2, if_neg (by omega)]
      omega
    refine ⟨?_, by push_cast; omega, fun e he => ?_⟩
    · have h1 := (c_M_le (f := c_Wt St n ms jn bt d (y_u bt r s) (y_l r s)) (n := n)).2 (r s) v1
      rw [c_L_s]
      omega
    · have : e = d := by omega
      subst this
      exact hW
theorem y_top (hn : n ≤ 12) (hj0 : ∀ p, jn (-1) p = 0) (hbt : ∀ p, p < n → bt p = if us p then 2 ^ c_bn us p else 0) (hus1 : ∀ p, p < n → us p = true → th p = false) (hus2 : ∀ s p, s < St → p < n → 0 ≤ ms s p → th p = false → us p = true) (hne : ¬ c_L St n ms jn bt St 0 (-1) = 1048575) : ∀ s, s ≤ St → (∀ k, k < s → c_cx St n ms jn bt k < n ∧ z_ok ms th (fun p q => jn p q) (c_cx St n ms jn bt) k) ∧ (c_ch St n ms jn bt s).1 = y_u bt (c_cx St n ms jn bt) s ∧ (c_ch St n ms jn bt s).2 = y_l (c_cx St n ms jn bt) s ∧ ¬ c_L St n ms jn bt (St - s) (y_u bt (c_cx St n ms jn bt) s) (y_l (c_cx St n ms jn bt) s) = 1048575 ∧ z_c ms (fun p q => jn p q) (c_cx St n ms jn bt) s + c_L St n ms jn bt (St - s) (y_u bt (c_cx St n ms jn bt) s) (y_l (c_cx St n ms jn bt) s) = c_L St n ms jn bt St 0 (-1) := by
  intro s
  induction s with
  | zero =>
    intro _
    refine ⟨fun k hk => absurd hk (by omega), rfl, rfl, hne, ?_⟩
    show 0 + c_L St n ms jn bt (St - 0) 0 (-1) = _
    rw [Nat.sub_zero, Int.zero_add]
  | succ s ih =>
    intro hs
    obtain ⟨g1, g2, g3, g4, g5⟩ := ih (by omega)
    obtain ⟨d, hd⟩ : ∃ d, d = St - (s + 1) := ⟨_, rfl⟩
    rw [show St - s = d + 1 by omega] at g4 g5
    have hcx : c_cx St n ms jn bt s = c_F St n ms jn bt d (y_u bt (c_cx St n ms jn bt) s) (y_l (c_cx St n ms jn bt) s) := by
      rw [c_cx, g2, g3, hd]
    obtain ⟨f1, f2, f3⟩ := c_F_ok g4
    rw [← hcx] at f1 f2
    have g6 : ¬ c_Wt St n ms jn bt d (y_u bt (c_cx St n ms jn bt) s) (y_l (c_cx St n ms jn bt) s) (c_cx St n ms jn bt s) = 1048575 := by rw [f2]; exact g4
    obtain ⟨e1, e2, e3, e4, e5⟩ := c_Wt_no g6
    rw [show St - (d + 1) = s by omega] at e1 e5
    have hU := y_U hbt hus1 (r := c_cx St n ms jn bt) (T := s) (fun k hk => ⟨(g1 k hk).1, (g1 k hk).2.2.1⟩) s (Nat.le_refl s)
    have hfr := (y_fr hn hbt hus1 hU f1 (fun q => hus2 s _ (by omega) f1 e1 q)).mp e3
    have hjl : jn (y_l (c_cx St n ms jn bt) s) (c_cx St n ms jn bt s) = (if s = 0 then 0 else jn ((c_cx St n ms jn bt (s - 1) : Nat) : Int) (c_cx St n ms jn bt s)) := by
      cases s with
      | zero => rw [if_pos rfl]; exact hj0 _
      | succ s => rw [if_neg (by omega)]; rfl
    refine ⟨fun k hk => ?_, ?_, rfl, ?_, ?_⟩
    · by_cases e : k = s
      · subst e
        refine ⟨f1, e1, hfr, ?_⟩
        by_cases z : k = 0
        · exact Or.inl z
        · refine Or.inr ?_
          rw [hjl, if_neg z] at e2
          exact e2
      · exact g1 k (by omega)
    · show (c_ch St n ms jn bt s).1 + bt (c_cx St n ms jn bt s) = y_u bt (c_cx St n ms jn bt) s + bt (c_cx St n ms jn bt s)
      rw [g2]
    · rw [← hd]
      exact e4
    · rw [← hd]
      have hzc : z_c ms (fun p q => jn p q) (c_cx St n ms jn bt) (s + 1) = z_c ms (fun p q => jn p q) (c_cx St n ms jn bt) s + (ms s (c_cx St n ms jn bt s) + jn (y_l (c_cx St n ms jn bt) s) (c_cx St n ms jn bt s)) := by
        rw [hjl]; rfl
      have e6 : c_L St n ms jn bt d (y_u bt (c_cx St n ms jn bt) (s + 1)) (y_l (c_cx St n ms jn bt) (s + 1)) = c_L St n ms jn bt d (y_u bt (c_cx St n ms jn bt) s + bt (c_cx St n ms jn bt s)) (c_cx St n ms jn bt s) := rfl
      rw [hzc, e6]
      omega
theorem y_diff (q r : Nat → Nat) : ∀ m : Nat, (∀ s, s < m → q s = r s) ∨ ∃ j, j < m ∧ (∀ s, s < j → q s = r s) ∧ ¬ q j = r j
  | 0 => Or.inl (fun s hs => absurd hs (by omega))
  | m + 1 => by
    rcases y_diff q r m with h | ⟨j, h1, h2⟩
    · by_cases e : q m = r m
      · refine Or.inl (fun s hs => ?_)
        by_cases z : s = m
        · rw [z]; exact e
        · exact h s (by omega)
      · exact Or.inr ⟨m, by omega, h, e⟩
    · exact Or.inr ⟨j, by omega, h2⟩
theorem y_u_cong {bt : Nat → Int} {q r : Nat → Nat} : ∀ {j : Nat}, (∀ s, s < j → q s = r s) → y_u bt q j = y_u bt r j ∧ y_l q j = y_l r j
  | 0, _ => ⟨rfl, rfl⟩
  | j + 1, h => by
    rw [y_u, y_u, y_l, y_l, h j (by omega), (y_u_cong (fun s hs => h s (by omega))).1]
    exact ⟨rfl, rfl⟩
theorem y_zc_cong {fm jc : Nat → Nat → Int} {q r : Nat → Nat} : ∀ {j : Nat}, (∀ s, s < j → q s = r s) → z_c fm jc q j = z_c fm jc r j
  | 0, _ => rfl
  | j + 1, h => by
    rw [z_c, z_c, h j (by omega), y_zc_cong (fun s hs => h s (by omega))]
    by_cases e : j = 0
    · rw [if_pos e, if_pos e]
    · rw [if_neg e, if_neg e, h (j - 1) (by omega)]
/-- the class's choice is the first of the cheapest rows -/
theorem y_prog (hn : n ≤ 12) (hSt : St ≤ 8) (hm : ∀ s p, ms s p ≤ 100000) (hj : ∀ l p, 0 ≤ jn l p ∧ (jn l p ≤ 594 ∨ jn l p = 1048575)) (hj0 : ∀ p, jn (-1) p = 0) (hbt : ∀ p, p < n → bt p = if us p then 2 ^ c_bn us p else 0) (hus1 : ∀ p, p < n → us p = true → th p = false) (hus2 : ∀ s p, s < St → p < n → 0 ≤ ms s p → th p = false → us p = true) : (c_L St n ms jn bt St 0 (-1) = 1048575 → ∀ q, ¬ z_v St n ms th (fun p q => jn p q) q) ∧ (¬ c_L St n ms jn bt St 0 (-1) = 1048575 → z_b St n ms th (fun p q => jn p q) (c_cx St n ms jn bt) ∧ z_c ms (fun p q => jn p q) (c_cx St n ms jn bt) St = c_L St n ms jn bt St 0 (-1)) := by
  have hlow : ∀ r, z_v St n ms th (fun p q => jn p q) r → c_L St n ms jn bt St 0 (-1) ≤ z_c ms (fun p q => jn p q) r St ∧ z_c ms (fun p q => jn p q) r St ≤ (St : Int) * 101000 := fun r hv => by
    obtain ⟨h1, h2, -⟩ := y_low hn hSt hm hj hj0 hbt hus1 hus2 hv St (Nat.le_refl St)
    rw [Nat.sub_self] at h1 h2
    have e1 : y_u bt r 0 = 0 := rfl
    have e2 : y_l r 0 = -1 := rfl
    have e3 : z_c ms (fun p q => jn p q) r 0 = 0 := rfl
    rw [e1, e2, e3] at h1
    rw [e3] at h2
    omega
  refine ⟨fun e q hv => ?_, fun hne => ?_⟩
  · have := hlow q hv
    omega
  · have G := y_top hn hj0 hbt hus1 hus2 hne
    obtain ⟨t1, -, -, -, t5⟩ := G St (Nat.le_refl St)
    rw [Nat.sub_self, c_L, Int.add_zero] at t5
    refine ⟨⟨t1, fun r hv => ?_⟩, t5⟩
    have hl := (hlow r hv).1
    by_cases c : z_c ms (fun p q => jn p q) (c_cx St n ms jn bt) St < z_c ms (fun p q => jn p q) r St
    · exact Or.inl c
    · refine Or.inr ⟨by omega, ?_⟩
      rcases y_diff (c_cx St n ms jn bt) r St with q | ⟨j, j1, j2, j3⟩
      · exact Or.inl q
      · refine Or.inr ⟨j, j1, j2, ?_⟩
        obtain ⟨g1, g2, g3, g4, g5⟩ := G j (by omega)
        obtain ⟨d, hd⟩ : ∃ d, d + 1 = St - j := ⟨St - j - 1, by omega⟩
        obtain ⟨-, -, w3⟩ := y_low hn hSt hm hj hj0 hbt hus1 hus2 hv (d + 1) (by omega)
        have w := w3 d rfl
        rw [show St - (d + 1) = j by omega] at w
        obtain ⟨u1, u2⟩ := y_u_cong (bt := bt) j2
        have z1 := y_zc_cong (fm := ms) (jc := fun p q => jn p q) j2
        rw [← u1, ← u2] at w
        rw [← hd] at g4 g5
        obtain ⟨f1, f2, f3⟩ := c_F_ok g4
        have hcx : c_cx St n ms jn bt j = c_F St n ms jn bt d (y_u bt (c_cx St n ms jn bt) j) (y_l (c_cx St n ms jn bt) j) := by
          rw [c_cx, g2, g3, show St - (j + 1) = d by omega]
        rw [← hcx] at f3
        by_cases z : r j < c_cx St n ms jn bt j
        · have := f3 (r j) z
          omega
        · omega
end YC
/-- rows that agree cost and may the same -/
theorem y_zv_cong {St n : Nat} {fm fm2 jc jc2 : Nat → Nat → Int} {th th2 : Nat → Bool} (h1 : ∀ s p, s < St → p < n → fm s p = fm2 s p) (h2 : ∀ p, p < n → th p = th2 p) (h3 : ∀ p q, p < n → q < n → jc p q = jc2 p q) {q : Nat → Nat} (hv : z_v St n fm th jc q) : z_v St n fm2 th2 jc2 q ∧ z_c fm jc q St = z_c fm2 jc2 q St := by
  constructor
  · intro s hs
    obtain ⟨v1, v2, v3, v4⟩ := hv s hs
    refine ⟨v1, by rw [← h1 s _ hs v1]; exact v2, fun k hk e => by rw [← h2 _ v1]; exact v3 k hk e, ?_⟩
    rcases v4 with z | z
    · exact Or.inl z
    · by_cases e : s = 0
      · exact Or.inl e
      · exact Or.inr (by rw [← h3 _ _ (hv (s - 1) (by omega)).1 v1]; exact z)
  · have : ∀ m, m ≤ St → z_c fm jc q m = z_c fm2 jc2 q m := by
      intro m
      induction m with
      | zero => intro _; rfl
      | succ m ih =>
        intro hm
        rw [z_c, z_c, ih (by omega), h1 m _ (by omega) (hv m (by omega)).1]
        by_cases e : m = 0
        · rw [if_pos e, if_pos e]
        · rw [if_neg e, if_neg e, h3 _ _ (hv (m - 1) (by omega)).1 (hv m (by omega)).1]
    exact this St (Nat.le_refl St)
theorem y_zb_cong {St n : Nat} {fm fm2 jc jc2 : Nat → Nat → Int} {th th2 : Nat → Bool} (h1 : ∀ s p, s < St → p < n → fm s p = fm2 s p) (h2 : ∀ p, p < n → th p = th2 p) (h3 : ∀ p q, p < n → q < n → jc p q = jc2 p q) {q : Nat → Nat} (hb : z_b St n fm th jc q) : z_b St n fm2 th2 jc2 q := by
  obtain ⟨g1, g2⟩ := y_zv_cong h1 h2 h3 hb.1
  refine ⟨g1, fun r hr => ?_⟩
  obtain ⟨r1, r2⟩ := y_zv_cong (fun s p hs hp => (h1 s p hs hp).symm) (fun p hp => (h2 p hp).symm) (fun p q hp hq => (h3 p q hp hq).symm) hr
  have := hb.2 r r1
  rw [g2, ← r2] at this
  exact this
