/-! pure: the drummer's choice, class against reference -/
theorem y_Fr_mono {f t w : Nat → Int} {own x y u : Int} (hw : ∀ j, 0 ≤ w j) : ∀ n : Nat, (∀ j, j < n → u / 2 ^ j % 2 = 0 → f j ≤ x → x < t j → f j ≤ y ∧ y < t j) → d_Fr f t w own y u n ≤ d_Fr f t w own x u n
  | 0, _ => Int.le_refl _
  | n + 1, hq => by
    have h1 := y_Fr_mono (own := own) hw n (fun j hj => hq j (by omega))
    have h2 := hq n (by omega)
    have h3 := hw n
    rw [d_Fr, d_Fr]
    by_cases c1 : u / 2 ^ n % 2 = 0 ∧ f n ≤ x ∧ x < t n
    · have h4 := h2 c1.1 c1.2.1 c1.2.2
      rw [if_pos c1, if_pos ⟨c1.1, h4⟩]
      omega
    · rw [if_neg c1]
      split <;> omega
theorem y_Fr_own {f t w : Nat → Int} {own x u : Int} : ∀ n : Nat, (∀ j, j < n → u / 2 ^ j % 2 = 0 → ¬ (f j ≤ x ∧ x < t j)) → d_Fr f t w own x u n = own
  | 0, _ => rfl
  | n + 1, hq => by
    rw [d_Fr, if_neg (fun c => hq n (by omega) c.1 c.2)]
    exact y_Fr_own n (fun j hj => hq j (by omega))
theorem y_last {f t : Nat → Int} {x u : Int} : ∀ n : Nat, (∀ j, j < n → u / 2 ^ j % 2 = 0 → ¬ (f j ≤ x ∧ x < t j)) ∨ ∃ k, k < n ∧ u / 2 ^ k % 2 = 0 ∧ f k ≤ x ∧ x < t k ∧ ∀ j, j < n → u / 2 ^ j % 2 = 0 → f j ≤ x → x < t j → f j ≤ f k
  | 0 => Or.inl (fun j hj => absurd hj (by omega))
  | n + 1 => by
    by_cases c : u / 2 ^ n % 2 = 0 ∧ f n ≤ x ∧ x < t n
    · rcases y_last (f := f) (t := t) (x := x) (u := u) n with q | ⟨k, k1, k2, k3, k4, k5⟩
      · refine Or.inr ⟨n, by omega, c.1, c.2.1, c.2.2, fun j hj b1 b2 b3 => ?_⟩
        by_cases e : j = n
        · rw [e]; exact Int.le_refl _
        · exact absurd ⟨b2, b3⟩ (q j (by omega) b1)
      · by_cases e2 : f k ≤ f n
        · refine Or.inr ⟨n, by omega, c.1, c.2.1, c.2.2, fun j hj b1 b2 b3 => ?_⟩
          by_cases e : j = n
          · rw [e]; exact Int.le_refl _
          · have := k5 j (by omega) b1 b2 b3
            omega
        · refine Or.inr ⟨k, by omega, k2, k3, k4, fun j hj b1 b2 b3 => ?_⟩
          by_cases e : j = n
          · rw [e]; omega
          · exact k5 j (by omega) b1 b2 b3
    · rcases y_last (f := f) (t := t) (x := x) (u := u) n with q | ⟨k, k1, k2, k3, k4, k5⟩
      · refine Or.inl (fun j hj b1 b2 => ?_)
        by_cases e : j = n
        · subst e; exact c ⟨b1, b2⟩
        · exact q j (by omega) b1 b2
      · refine Or.inr ⟨k, by omega, k2, k3, k4, fun j hj b1 b2 b3 => ?_⟩
        by_cases e : j = n
        · subst e; exact absurd ⟨b1, b2, b3⟩ c
        · exact k5 j (by omega) b1 b2 b3
theorem m_gb_iff (f : Nat → Int) (fr : Int → Int) : ∀ n : Nat, m_gb f fr n = true ↔ ∀ j, j < n → 0 ≤ fr (f j)
  | 0 => by simp [m_gb]
  | n + 1 => by
    rw [m_gb, Bool.and_eq_true, m_gb_iff f fr n, decide_eq_true_eq]
    constructor
    · rintro ⟨q1, q2⟩ j hj
      by_cases e : j = n
      · rw [e]; exact q2
      · exact q1 j (by omega)
    · intro q
      exact ⟨fun j hj => q j (by omega), q n (by omega)⟩
/-- the class looks at the effects that stay, the reference at all: the same -/
theorem y_eb {f t w : Nat → Int} {own u : Int} (hw : ∀ j, 0 ≤ w j) (ho : 0 ≤ own) (n : Nat) : d_eb f (fun x => d_Fr f t w own x u n) u n = m_gb f (fun x => d_Fr f t w own x u n) n := by
  rw [Bool.eq_iff_iff, d_eb_iff, m_gb_iff]
  constructor
  · intro q j hj
    rcases y_last (f := f) (t := t) (x := f j) (u := u) n with z | ⟨k, k1, k2, k3, k4, k5⟩
    · show 0 ≤ d_Fr f t w own (f j) u n
      rw [y_Fr_own n z]
      exact ho
    · have h1 : d_Fr f t w own (f k) u n ≤ d_Fr f t w own (f j) u n := y_Fr_mono hw n (fun b hb b1 b2 b3 => ⟨k5 b hb b1 b2 b3, by omega⟩)
      have h2 : 0 ≤ d_Fr f t w own (f k) u n := q k k1 k2
      show 0 ≤ d_Fr f t w own (f j) u n
      omega
  · intro q j hj _
    exact q j hj
def d_okm (t : Nat) : Bool := decide (d_bc t < ((t + 1).log2 : Int) + 1)
theorem d_okm_all : (List.range 4096).all d_okm = true := by decide +kernel
theorem d_okn_all : (List.range 13).all (fun n => decide (d_bc (((2 ^ n - 1 : Nat)) : Int) = n)) = true := by decide +kernel
theorem y_bc {n : Nat} (hn : n ≤ 12) {j : Int} (h0 : 0 ≤ j) (h1 : j < (2 : Int) ^ n - 1) : d_bc j < d_bc ((2 : Int) ^ n - 1) := by
  obtain ⟨m, rfl⟩ : ∃ m : Nat, j = m := ⟨j.toNat, by omega⟩
  have hp : (2 : Int) ^ n = ((2 ^ n : Nat) : Int) := by norm_cast
  have hle : 2 ^ n ≤ 2 ^ 12 := Nat.pow_le_pow_right (by omega) hn
  have h4 : (2 : Nat) ^ 12 = 4096 := rfl
  have hpos : 1 ≤ 2 ^ n := Nat.one_le_two_pow
  rw [hp] at h1
  have hm : m + 1 < 2 ^ n := by omega
  have q := List.all_eq_true.mp d_okm_all m (List.mem_range.mpr (by omega))
  have q1 : d_bc (m : Int) < ((m + 1).log2 : Int) + 1 := by simpa [d_okm] using q
  have q2 : (m + 1).log2 < n := (Nat.log2_lt (by omega)).mpr hm
  have q3 := List.all_eq_true.mp d_okn_all n (List.mem_range.mpr (by omega))
  have q4 : d_bc (((2 ^ n - 1 : Nat)) : Int) = n := by simpa using q3
  have q5 : (2 : Int) ^ n - 1 = (((2 ^ n - 1 : Nat)) : Int) := by rw [hp]; omega
  rw [q5, q4]
  omega
/-- the walk over the sets: from the full set down in the class, from none in the reference -/
theorem y_ll {eb gb : Int → Bool} {n : Nat} (hn : n ≤ 12) (he : ∀ u, eb u = gb u) (hf : gb ((2 : Int) ^ n - 1) = true) : d_ll eb ((2 : Int) ^ n - 1) ((2 : Int) ^ n - 1).toNat = m_ll gb ((2 : Int) ^ n).toNat := by
  obtain ⟨al, hal⟩ : ∃ al : Int, al = (2 : Int) ^ n - 1 := ⟨_, rfl⟩
  have hpos : (1 : Int) ≤ (2 : Int) ^ n := by
    have : (2 : Int) ^ n = ((2 ^ n : Nat) : Int) := by norm_cast
    have h1 : 1 ≤ 2 ^ n := Nat.one_le_two_pow
    omega
  have hb : ∀ j : Int, 0 ≤ j → j < al → d_bc j < d_bc al := fun j h0 h1 => by
    rw [hal] at h1 ⊢
    exact y_bc hn h0 h1
  have inv : ∀ j : Nat, (j : Int) ≤ al → (m_ll gb j = -1 ∧ d_ll eb al j = al) ∨ (m_ll gb j = d_ll eb al j ∧ 0 ≤ m_ll gb j ∧ m_ll gb j < al) := by
    intro j
    induction j with
    | zero => intro _; exact Or.inl ⟨rfl, rfl⟩
    | succ j ih =>
      intro hj
      have hj1 : (j : Int) < al := by push_cast at hj; omega
      have hbj := hb j (by omega) hj1
      rcases ih (by omega) with ⟨q1, q2⟩ | ⟨q1, q2, q3⟩
      · rw [m_ll, d_ll, q1, q2, he]
        by_cases c : gb j = true
        · rw [if_pos ⟨c, Or.inl (by omega)⟩, if_pos ⟨Or.inl hbj, c⟩]
          exact Or.inr ⟨rfl, by omega, hj1⟩
        · rw [if_neg (fun z => c z.1), if_neg (fun z => c z.2)]
          exact Or.inl ⟨rfl, rfl⟩
      · rw [m_ll, d_ll, ← q1, he]
        by_cases c : gb j = true ∧ (d_bc j < d_bc (m_ll gb j) ∨ (d_bc j = d_bc (m_ll gb j) ∧ ¬ d_lb j (m_ll gb j) = 0))
        · rw [if_pos ⟨c.1, Or.inr (by rcases c.2 with z | z <;> omega)⟩, if_pos ⟨c.2, c.1⟩]
          exact Or.inr ⟨rfl, by omega, hj1⟩
        · rw [if_neg (fun z => c ⟨z.1, by rcases z.2 with z | z <;> omega⟩), if_neg (fun z => c ⟨z.2, z.1⟩)]
          exact Or.inr ⟨rfl, q2, q3⟩
  have h1 := inv al.toNat (by omega)
  have e1 : ((2 : Int) ^ n).toNat = al.toNat + 1 := by omega
  have e2 : ((al.toNat : Nat) : Int) = al := by omega
  rw [e1, ← hal, m_ll, e2]
  rw [← hal] at hf
  rcases h1 with ⟨q1, q2⟩ | ⟨q1, q2, q3⟩
  · rw [q1, q2, if_pos ⟨hf, Or.inl (by omega)⟩]
  · have hb2 := hb _ q2 q3
    rw [if_neg (fun z => by rcases z.2 with z | z <;> omega), q1]
theorem y_full {f t w : Nat → Int} {own : Int} (ho : 0 ≤ own) (n : Nat) : m_gb f (fun x => d_Fr f t w own x ((2 : Int) ^ n - 1) n) n = true := by
  rw [m_gb_iff]
  intro j _
  show 0 ≤ d_Fr f t w own (f j) ((2 : Int) ^ n - 1) n
  rw [y_Fr_own n]
  · exact ho
  · intro k hk hb
    exfalso
    have hp : (2 : Int) ^ n = 2 ^ k * 2 ^ (n - k) := by rw [← Int.pow_add]; congr 1; omega
    have hp2 : (2 : Int) ^ (n - k) = 2 * 2 ^ (n - k - 1) := by rw [← Int.pow_succ']; congr 1; omega
    have hk0 : (0 : Int) < 2 ^ k := Int.pow_pos (by omega)
    have e : ((2 : Int) ^ n - 1) / 2 ^ k = 2 ^ (n - k) - 1 := by
      rw [hp]
      have e3 : (2 : Int) ^ k * 2 ^ (n - k) - 1 = (2 ^ k - 1) + (2 ^ (n - k) - 1) * 2 ^ k := by
        rw [Int.sub_mul, Int.mul_comm (2 ^ (n - k)) (2 ^ k)]; omega
      rw [e3, Int.add_mul_ediv_right _ _ (by omega), Int.ediv_eq_zero_of_lt (by omega) (by omega)]
      omega
    rw [e, hp2] at hb
    omega
/-- 'left': class and reference -/
theorem y_left {f t w : Nat → Int} {own : Int} (hw : ∀ j, 0 ≤ w j) (ho : 0 ≤ own) {n : Nat} (hn : n ≤ 12) : d_ll (fun u => d_eb f (fun x => d_Fr f t w own x u n) u n) ((2 : Int) ^ n - 1) ((2 : Int) ^ n - 1).toNat = m_ll (fun u => m_gb f (fun x => d_Fr f t w own x u n) n) ((2 : Int) ^ n).toNat :=
  y_ll hn (fun u => y_eb hw ho n) (y_full ho n)
