/-! pure: ways, class against reference -/
theorem y_lm (f : Nat → Int) (s : Int) : ∀ n : Nat, (∀ j, j < n → s / 2 ^ j % 2 = 1 → q_lm f s n ≤ f j) ∧ (q_lm f s n < 17 → ∃ j, j < n ∧ s / 2 ^ j % 2 = 1 ∧ f j = q_lm f s n)
  | 0 => ⟨fun j hj => absurd hj (by omega), fun q => absurd q (by simp [q_lm])⟩
  | n + 1 => by
    obtain ⟨h1, h2⟩ := y_lm f s n
    rw [q_lm]
    by_cases c : s / 2 ^ n % 2 = 1 ∧ f n < q_lm f s n
    · rw [if_pos c]
      refine ⟨fun j hj hb => ?_, fun _ => ⟨n, by omega, c.1, rfl⟩⟩
      by_cases e : j = n
      · rw [e]; exact Int.le_refl _
      · have := h1 j (by omega) hb
        omega
    · rw [if_neg c]
      refine ⟨fun j hj hb => ?_, fun q => ?_⟩
      · by_cases e : j = n
        · subst e
          exact Int.not_lt.mp (fun z => c ⟨hb, z⟩)
        · exact h1 j (by omega) hb
      · obtain ⟨j, g1, g2, g3⟩ := h2 q
        exact ⟨j, by omega, g2, g3⟩
theorem y_lx (f : Nat → Int) (s : Int) : ∀ n : Nat, q_lm f s n < 17 → ∃ j : Nat, q_lx f s n = (j : Int) ∧ j < n ∧ s / 2 ^ j % 2 = 1 ∧ f j = q_lm f s n ∧ ∀ k, k < j → s / 2 ^ k % 2 = 1 → q_lm f s n < f k
  | 0 => fun q => absurd q (by simp [q_lm])
  | n + 1 => by
    rw [q_lm, q_lx]
    by_cases c : s / 2 ^ n % 2 = 1 ∧ f n < q_lm f s n
    · rw [if_pos c, if_pos c]
      intro _
      refine ⟨n, rfl, by omega, c.1, rfl, fun k hk hb => ?_⟩
      have := (y_lm f s n).1 k hk hb
      omega
    · rw [if_neg c, if_neg c]
      intro q
      obtain ⟨j, g1, g2, g3⟩ := y_lx f s n q
      exact ⟨j, g1, by omega, g3⟩
section YW
variable {nb : Nat} {B N B' H' N' F : Nat → Int} {ex : Int}
/-- the class's number: the least count of blocks of a row from x with b beats to an exit, 17 where none has 16 or fewer -/
theorem y_way (hB : ∀ x, x < nb → 1 ≤ B x) (hBe : ∀ x, x < nb → B x = B' x) (hNe : ∀ x, x < nb → N x = N' x) (hX : ∀ x, x < nb → (ex / 2 ^ x % 2 = 1 ↔ H' x % 2 = 1)) (hFb : ∀ j, 0 ≤ F j ∧ F j ≤ 17) (hF : ∀ (b : Int) (x : Nat), 1 ≤ b → b ≤ 400 → x < nb → F (b.toNat * 8 + x) = q_ff nb B N ex F x b) : ∀ (d : Nat) (b : Int), b.toNat = d → 1 ≤ b → b ≤ 400 → ∀ x, x < nb → 1 ≤ F (b.toNat * 8 + x) ∧ (∀ n : Nat, 1 ≤ n → n ≤ 16 → w_e nb B' H' N' n x b = true → F (b.toNat * 8 + x) ≤ n) ∧ (F (b.toNat * 8 + x) ≤ 16 → w_e nb B' H' N' (F (b.toNat * 8 + x)).toNat x b = true) := by
  intro d
  induction d using Nat.strongRecOn with
  | _ d ih =>
  intro b hbd h1 h4 x hx
  have hBx := hB x hx
  have eB := hBe x hx
  have eN := hNe x hx
  rw [hF b x h1 h4 hx]
  unfold q_ff
  have hlow : ∀ n : Nat, ¬ B x < b → (b = B x → ¬ H' x % 2 = 1) → ¬ w_e nb B' H' N' n x b = true := by
    intro n q1 q2 hw
    cases n with
    | zero => cases hw
    | succ n =>
      rw [w_e] at hw
      split at hw
      · rw [decide_eq_true_eq] at hw
        exact q2 (by omega) hw.2
      · rw [Bool.and_eq_true, decide_eq_true_eq] at hw
        omega
  by_cases c1 : b - B x < 0
  · rw [if_pos c1]
    exact ⟨by omega, fun n n1 n2 hw => absurd hw (hlow n (by omega) (fun e => by omega)), fun q => by omega⟩
  · rw [if_neg c1]
    by_cases c2 : b - B x = 0
    · rw [if_pos c2]
      by_cases c3 : ex / 2 ^ x % 2 = 1
      · rw [if_pos c3]
        refine ⟨by omega, fun n n1 n2 _ => by omega, fun _ => ?_⟩
        show w_e nb B' H' N' 1 x b = true
        rw [w_e, if_pos rfl, decide_eq_true_eq]
        exact ⟨by omega, (hX x hx).mp c3⟩
      · rw [if_neg c3]
        exact ⟨by omega, fun n n1 n2 hw => absurd hw (hlow n (by omega) (fun _ q => c3 ((hX x hx).mpr q))), fun q => by omega⟩
    · rw [if_neg c2]
      have ih2 := ih (b - B x).toNat (by omega) (b - B x) rfl (by omega) (by omega)
      obtain ⟨l1, l2⟩ := y_lm (fun j => F ((b - B x).toNat * 8 + j)) (N x) nb
      have hm17 := q_lm_bd (f := fun j => F ((b - B x).toNat * 8 + j)) (fun j => hFb _) (N x) nb
      obtain ⟨m, hm⟩ : ∃ m, m = q_lm (fun j => F ((b - B x).toNat * 8 + j)) (N x) nb := ⟨_, rfl⟩
      rw [← hm] at l1 l2 hm17 ⊢
      have hmin : (m ≤ 16 ∧ min 17 (1 + m) = 1 + m) ∨ (m = 17 ∧ min 17 (1 + m) = 17) := by
        rw [Int.min_def]
        split <;> omega
      have hm0 : 1 ≤ min 17 (1 + m) := by clear l1 l2 ih ih2; omega
      refine ⟨hm0, fun n n1 n2 hw => ?_, fun q => ?_⟩
      · clear l2
        cases n with
        | zero => omega
        | succ n =>
          rw [w_e] at hw
          split at hw
          · rw [decide_eq_true_eq] at hw
            omega
          · rw [Bool.and_eq_true, w_an_iff] at hw
            obtain ⟨-, y, hy, hw2⟩ := hw
            rw [Bool.and_eq_true, decide_eq_true_eq] at hw2
            have g := (ih2 y hy).2.1 n (by omega) (by omega) (by rw [eB]; exact hw2.2)
            have g2 := l1 y hy (by rw [eN]; exact hw2.1)
            have g3 : m ≤ F ((b - B x).toNat * 8 + y) := g2
            push_cast
            omega
      · obtain ⟨y, hy, hb, he⟩ := l2 (by omega)
        have he' : F ((b - B x).toNat * 8 + y) = m := he
        have hF1 := ih2 y hy
        rw [he'] at hF1
        have g := hF1.2.2 (by omega)
        have e1 : (min 17 (1 + m)).toNat = m.toNat + 1 := by omega
        rw [e1, w_e, if_neg (by omega), Bool.and_eq_true, decide_eq_true_eq, w_an_iff]
        refine ⟨by omega, y, hy, ?_⟩
        rw [Bool.and_eq_true, decide_eq_true_eq, ← eN, ← eB]
        exact ⟨hb, g⟩
/-- the first block of a set by the class's numbers is the first that the reference finds -/
theorem y_first {W : ∀ (b : Int), 1 ≤ b → b ≤ 400 → ∀ x, x < nb → 1 ≤ F (b.toNat * 8 + x) ∧ (∀ n : Nat, 1 ≤ n → n ≤ 16 → w_e nb B' H' N' n x b = true → F (b.toNat * 8 + x) ≤ n) ∧ (F (b.toNat * 8 + x) ≤ 16 → w_e nb B' H' N' (F (b.toNat * 8 + x)).toNat x b = true)} {s b : Int} (h1 : 1 ≤ b) (h4 : b ≤ 400) {m : Nat} (hm : q_lm (fun j => F (b.toNat * 8 + j)) s nb = (m : Int)) (hm1 : m ≤ 16) {P : Nat → Bool} (hP : ∀ y, y < nb → (P y = true ↔ s / 2 ^ y % 2 = 1 ∧ w_e nb B' H' N' m y b = true)) : q_lx (fun j => F (b.toNat * 8 + j)) s nb = (f_fi P nb 0 : Int) := by
  obtain ⟨j, g1, g2, g3, g4, g5⟩ := y_lx (fun j => F (b.toNat * 8 + j)) s nb (by omega)
  have g4' : F (b.toNat * 8 + j) = m := g4.trans hm
  have hj := W b h1 h4 j g2
  rw [g4'] at hj
  rw [g1]
  congr 1
  refine (f_fi_eq (fun k hk => ?_) (fun _ => ?_) (by omega)).symm
  · have hk2 : ¬ P k = true := fun q => by
      obtain ⟨q1, q2⟩ := (hP k (by omega)).mp q
      have := (W b h1 h4 k (by omega)).2.1 m (by omega) hm1 q2
      have h5 := g5 k hk q1
      rw [hm] at h5
      have h6 : (m : Int) < F (b.toNat * 8 + k) := h5
      omega
    simpa using hk2
  · refine (hP j g2).mpr ⟨g3, ?_⟩
    have := hj.2.2 (by omega)
    rwa [Int.toNat_natCast] at this
end YW
/-- a piece of the class and the reference's -/
def y_p (i : Nat → Int) (a : Nat → Nat → Int) (c : Nat → Nat → Int) (p : Nat) : Prop := i 0 = c 6 p ∧ i 1 = c 7 p ∧ i 2 = c 10 p ∧ i 3 = c 11 p ∧ i 4 = c 12 p ∧ i 5 = c 50 p ∧ i 6 = c 8 p ∧ i 7 = c 9 p ∧ ∀ x : Nat, (x : Int) < i 4 → a 8 x = c 13 (8 * p + x) ∧ a 9 x = c 15 (8 * p + x) ∧ i 10 / 2 ^ x % 2 = c 14 (8 * p + x) / 2 ∧ i 11 / 2 ^ x % 2 = c 14 (8 * p + x) % 2
theorem y_W {i : Nat → Int} {a : Nat → Nat → Int} {c : Nat → Nat → Int} {p : Int} (hJ : q_J i a) (hp : y_p i a c p.toNat) : ∀ (b : Int), 1 ≤ b → b ≤ 400 → ∀ x, x < (i 4).toNat → 1 ≤ a 12 (b.toNat * 8 + x) ∧ (∀ n : Nat, 1 ≤ n → n ≤ 16 → w_E c p n x b = true → a 12 (b.toNat * 8 + x) ≤ n) ∧ (a 12 (b.toNat * 8 + x) ≤ 16 → w_E c p (a 12 (b.toNat * 8 + x)).toNat x b = true) := by
  intro b h1 h4
  obtain ⟨hI, hB1, hE2, hX2, hD⟩ := id hJ
  obtain ⟨p0, p1, p2, p3, p4, p5, p6, p7, p8⟩ := hp
  have h44 := hI.1
  have e4 : (c 12 p.toNat).toNat = (i 4).toNat := by rw [p4]
  show ∀ x, x < (i 4).toNat → 1 ≤ a 12 (b.toNat * 8 + x) ∧ (∀ n : Nat, 1 ≤ n → n ≤ 16 → w_e (c 12 p.toNat).toNat (w_B c p) (w_H c p) (w_N c p) n x b = true → a 12 (b.toNat * 8 + x) ≤ n) ∧ (a 12 (b.toNat * 8 + x) ≤ 16 → w_e (c 12 p.toNat).toNat (w_B c p) (w_H c p) (w_N c p) (a 12 (b.toNat * 8 + x)).toNat x b = true)
  rw [e4]
  refine y_way (B := a 8) (N := a 9) (ex := i 11) (fun x hx => hB1 x (by omega)) (fun x hx => (p8 x (by omega)).1) (fun x hx => (p8 x (by omega)).2.1) (fun x hx => ?_) hI.2.2.2.2.2.2.2.1 (fun b x q1 q2 hx => ?_) b.toNat b rfl h1 h4
  · rw [(p8 x (by omega)).2.2.2]
    exact Iff.rfl
  · have := hD.1 b x q1 q2 (Or.inl (by omega)) (by omega) (by omega)
    rw [show (b * 8 + (x : Int)).toNat = b.toNat * 8 + x by omega, Int.toNat_natCast] at this
    exact this
section YP
variable {i : Nat → Int} {a c : Nat → Nat → Int} {p : Int}
theorem y_en (hp : y_p i a c p.toNat) (h14 : ∀ j, 0 ≤ c 14 j ∧ c 14 j ≤ 3) {x : Nat} (hx : (x : Int) < i 4) : i 10 / 2 ^ x % 2 = 1 ↔ 2 ≤ w_H c p x := by
  have h1 := hp.2.2.2.2.2.2.2.2 x hx
  have h2 := h14 (8 * p.toNat + x)
  show i 10 / 2 ^ x % 2 = 1 ↔ 2 ≤ c 14 (8 * p.toNat + x)
  omega
/-- the least count of blocks for b beats -/
theorem y_len (hJ : q_J i a) (hp : y_p i a c p.toNat) (h14 : ∀ j, 0 ≤ c 14 j ∧ c 14 j ≤ 3) {b : Int} (h1 : 1 ≤ b) (h4 : b ≤ 400) : 1 ≤ a 13 b.toNat ∧ (∀ m : Nat, 1 ≤ m → m ≤ 16 → w_an (w_bg c p m b) (c 12 p.toNat).toNat = true → a 13 b.toNat ≤ m) ∧ (a 13 b.toNat ≤ 16 → w_an (w_bg c p (a 13 b.toNat).toNat b) (c 12 p.toNat).toNat = true) := by
  have W := y_W hJ hp b h1 h4
  obtain ⟨hI, hB1, hE2, hX2, hD⟩ := id hJ
  have h44 := hI.1
  have e4 : (c 12 p.toNat).toNat = (i 4).toNat := by rw [hp.2.2.2.2.1]
  have hL := hD.2 b h1 (by omega)
  obtain ⟨l1, l2⟩ := y_lm (fun j => a 12 (b.toNat * 8 + j)) (i 10) (i 4).toNat
  rw [← hL] at l1 l2
  have hb := hI.2.2.2.2.2.2.2.2 b.toNat
  rw [e4]
  refine ⟨?_, fun m m1 m2 q => ?_, fun q => ?_⟩
  · by_cases z : a 13 b.toNat < 17
    · obtain ⟨j, g1, g2, g3⟩ := l2 z
      have g3' : a 12 (b.toNat * 8 + j) = a 13 b.toNat := g3
      have := (W j g1).1
      omega
    · omega
  · obtain ⟨y, hy, hw⟩ := (w_an_iff _ _).mp q
    rw [w_bg, Bool.and_eq_true, decide_eq_true_eq] at hw
    have g1 := l1 y hy ((y_en hp h14 (by omega)).mpr hw.1)
    have g2 := (W y hy).2.1 m m1 m2 hw.2
    have g3 : a 13 b.toNat ≤ a 12 (b.toNat * 8 + y) := g1
    omega
  · obtain ⟨j, g1, g2, g3⟩ := l2 (by omega)
    have g3' : a 12 (b.toNat * 8 + j) = a 13 b.toNat := g3
    have g4 := (W j g1).2.2 (by omega)
    rw [g3'] at g4
    refine (w_an_iff _ _).mpr ⟨j, g1, ?_⟩
    rw [w_bg, Bool.and_eq_true, decide_eq_true_eq]
    exact ⟨(y_en hp h14 (by omega)).mp g2, g4⟩
theorem y_hw (hJ : q_J i a) (hp : y_p i a c p.toNat) (h14 : ∀ j, 0 ≤ c 14 j ∧ c 14 j ≤ 3) {b : Int} (h1 : 1 ≤ b) (h4 : b ≤ 400) : w_hw c p b 16 = true ↔ ¬ a 13 b.toNat = 17 := by
  obtain ⟨g1, g2, g3⟩ := y_len hJ hp h14 h1 h4
  have hb := hJ.1.2.2.2.2.2.2.2.2 b.toNat
  have key : ∀ n : Nat, w_hw c p b n = true ↔ ∃ m : Nat, 1 ≤ m ∧ m ≤ n ∧ w_an (w_bg c p m b) (c 12 p.toNat).toNat = true := by
    intro n
    induction n with
    | zero =>
      constructor
      · intro q; cases q
      · rintro ⟨m, q1, q2, -⟩; omega
    | succ n ih =>
      rw [w_hw, Bool.or_eq_true, ih]
      constructor
      · rintro (⟨m, q1, q2, q3⟩ | q)
        · exact ⟨m, q1, by omega, q3⟩
        · exact ⟨n + 1, by omega, by omega, q⟩
      · rintro ⟨m, q1, q2, q3⟩
        by_cases e : m = n + 1
        · subst e; exact Or.inr q3
        · exact Or.inl ⟨m, q1, by omega, q3⟩
  rw [key]
  constructor
  · rintro ⟨m, q1, q2, q3⟩ e
    have := g2 m q1 q2 q3
    omega
  · intro q
    exact ⟨(a 13 b.toNat).toNat, by omega, by omega, g3 (by omega)⟩
theorem y_wis (hJ : q_J i a) (hp : y_p i a c p.toNat) (h14 : ∀ j, 0 ≤ c 14 j ∧ c 14 j ≤ 3) {b n : Int} (h1 : 1 ≤ b) (h4 : b ≤ 400) (hn : w_is c p b n) : a 13 b.toNat = n := by
  obtain ⟨g1, g2, g3⟩ := y_len hJ hp h14 h1 h4
  obtain ⟨q1, q2, q3, q4⟩ := hn
  have h5 := g2 n.toNat (by omega) (by omega) q3
  by_cases e : a 13 b.toNat < n
  · have h6 := q4 (a 13 b.toNat) g1 e
    rw [g3 (by omega)] at h6
    cases h6
  · omega
theorem y_wl (hJ : q_J i a) (hp : y_p i a c p.toNat) (h14 : ∀ j, 0 ≤ c 14 j ∧ c 14 j ≤ 3) {b n : Int} (h1 : 1 ≤ b) (h4 : b ≤ 400) (hn : w_ct c p b n) : x_wl a b = n ∧ (n = -2 → q_ln a b = 0) ∧ (¬ n = -2 → w_is c p b n ∧ (q_ln a b : Int) = n) := by
  have hb := hJ.1.2.2.2.2.2.2.2.2 b.toNat
  unfold x_wl q_ln
  rcases hn with q | ⟨q1, q2⟩
  · have e := y_wis hJ hp h14 h1 h4 q
    have q1 := q.1
    have q2 := q.2.1
    rw [if_neg (by omega), if_neg (by omega)]
    exact ⟨e, fun z => by omega, fun _ => ⟨q, by omega⟩⟩
  · obtain ⟨g1, g2, g3⟩ := y_len hJ hp h14 h1 h4
    have e : a 13 b.toNat = 17 := by
      by_cases z : a 13 b.toNat ≤ 16
      · have h6 := q2 (a 13 b.toNat) g1 z
        rw [g3 z] at h6
        cases h6
      · omega
    rw [if_pos e, if_pos e]
    exact ⟨q1.symm, fun _ => rfl, fun z => absurd q1 z⟩
/-- the row of the way -/
theorem y_rw (hJ : q_J i a) (hp : y_p i a c p.toNat) (h14 : ∀ j, 0 ≤ c 14 j ∧ c 14 j ≤ 3) {b n : Int} (h1 : 1 ≤ b) (h4 : b ≤ 400) (hn : w_is c p b n) : ∀ k : Nat, (k : Int) < n → (q_st (i 4).toNat (a 8) (a 9) (a 12) (i 10) b k).2 = (w_rw c p n.toNat b k).2 ∧ q_rx (i 4).toNat (a 8) (a 9) (a 12) (i 10) b k = ((w_rw c p n.toNat b k).1 : Int) := by
  have e13 := y_wis hJ hp h14 h1 h4 hn
  have hnn := hn.2.1
  have hn1 := hn.1
  have hW := y_W hJ hp
  have e4 : (c 12 p.toNat).toNat = (i 4).toNat := by rw [hp.2.2.2.2.1]
  have h44 := hJ.1.1
  have hok := q_st_ok hJ ⟨h1, h4⟩ (by omega)
  intro k
  induction k with
  | zero =>
    intro hk
    obtain ⟨g1, g2, g3, g4, g5⟩ := hok 0 (by omega)
    refine ⟨rfl, ?_⟩
    have hm : q_lm (fun j => a 12 (b.toNat * 8 + j)) (i 10) (i 4).toNat = ((n.toNat : Nat) : Int) := by
      have h6 : q_lm (fun j => a 12 (b.toNat * 8 + j)) (i 10) (i 4).toNat = a 13 b.toNat - ((0 : Nat) : Int) := g3
      rw [h6, e13]; omega
    show q_lx (fun j => a 12 (b.toNat * 8 + j)) (i 10) (i 4).toNat = ((f_fi (w_bg c p n.toNat b) (c 12 p.toNat).toNat 0 : Nat) : Int)
    have W2 : ∀ (b : Int), 1 ≤ b → b ≤ 400 → ∀ x, x < (i 4).toNat → 1 ≤ a 12 (b.toNat * 8 + x) ∧ (∀ n : Nat, 1 ≤ n → n ≤ 16 → w_e (i 4).toNat (w_B c p) (w_H c p) (w_N c p) n x b = true → a 12 (b.toNat * 8 + x) ≤ n) ∧ (a 12 (b.toNat * 8 + x) ≤ 16 → w_e (i 4).toNat (w_B c p) (w_H c p) (w_N c p) (a 12 (b.toNat * 8 + x)).toNat x b = true) := by
      rw [← e4]
      intro b q1 q2 x hx
      exact hW b q1 q2 x (by omega)
    rw [e4]
    refine y_first (W := W2) h1 h4 hm (by omega) (fun y hy => ?_)
    rw [w_bg, Bool.and_eq_true, decide_eq_true_eq, ← y_en hp h14 (x := y) (by omega)]
    show (_ ∧ w_e (c 12 p.toNat).toNat (w_B c p) (w_H c p) (w_N c p) n.toNat y b = true) ↔ _
    rw [e4]
  | succ k ih =>
    intro hk
    obtain ⟨u1, u2⟩ := ih (by omega)
    obtain ⟨v1, v2, v3, v4, v5⟩ := hok k (by omega)
    obtain ⟨g1, g2, g3, g4, g5⟩ := hok (k + 1) (by omega)
    obtain ⟨y0, hy0⟩ : ∃ y0 : Nat, y0 = (w_rw c p n.toNat b k).1 := ⟨_, rfl⟩
    have hp8 := hp.2.2.2.2.2.2.2.2 y0 (by rw [hy0, ← u2]; exact v5)
    have e2 : (q_st (i 4).toNat (a 8) (a 9) (a 12) (i 10) b (k + 1)).2 = (w_rw c p n.toNat b (k + 1)).2 := by
      show (q_st (i 4).toNat (a 8) (a 9) (a 12) (i 10) b k).2 - a 8 (q_rx (i 4).toNat (a 8) (a 9) (a 12) (i 10) b k).toNat = (w_rw c p n.toNat b k).2 - w_B c p (w_rw c p n.toNat b k).1
      rw [u1, u2, Int.toNat_natCast, ← hy0, hp8.1]
      rfl
    have e1 : (q_st (i 4).toNat (a 8) (a 9) (a 12) (i 10) b (k + 1)).1 = w_N c p y0 := by
      show a 9 (q_rx (i 4).toNat (a 8) (a 9) (a 12) (i 10) b k).toNat = w_N c p y0
      rw [u2, Int.toNat_natCast, ← hy0, hp8.2.1]
      rfl
    refine ⟨e2, ?_⟩
    have e3 : (w_rw c p n.toNat b (k + 1)).1 = f_fi (w_nx c p (n.toNat - (k + 1)) y0 (w_rw c p n.toNat b (k + 1)).2) (c 12 p.toNat).toNat 0 := by rw [hy0]; rfl
    unfold q_rx
    rw [e3]
    rw [e1, e2] at g3 ⊢
    rw [e2] at g1
    obtain ⟨l, hl⟩ : ∃ l, l = (w_rw c p n.toNat b (k + 1)).2 := ⟨_, rfl⟩
    rw [← hl] at g1 g3 ⊢
    have W2 : ∀ (b : Int), 1 ≤ b → b ≤ 400 → ∀ x, x < (i 4).toNat → 1 ≤ a 12 (b.toNat * 8 + x) ∧ (∀ n : Nat, 1 ≤ n → n ≤ 16 → w_e (i 4).toNat (w_B c p) (w_H c p) (w_N c p) n x b = true → a 12 (b.toNat * 8 + x) ≤ n) ∧ (a 12 (b.toNat * 8 + x) ≤ 16 → w_e (i 4).toNat (w_B c p) (w_H c p) (w_N c p) (a 12 (b.toNat * 8 + x)).toNat x b = true) := by
      rw [← e4]
      intro b q1 q2 x hx
      exact hW b q1 q2 x (by omega)
    rw [e4]
    refine y_first (W := W2) g1.1 g1.2 (m := n.toNat - (k + 1)) (by rw [g3, e13]; push_cast; omega) (by omega) (fun y hy => ?_)
    rw [w_nx, Bool.and_eq_true, decide_eq_true_eq]
    show (_ ∧ w_e (c 12 p.toNat).toNat (w_B c p) (w_H c p) (w_N c p) (n.toNat - (k + 1)) y l = true) ↔ _
    rw [e4]
end YP
