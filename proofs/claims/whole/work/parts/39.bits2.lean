/-! bits of larger numbers; the search's pure side -/
theorem zI_land (x y : Nat) : zI x &&& zI y = zI ((x &&& y : Nat) : Int) := by
  apply Int32.toBitVec_inj.mp
  simp only [zI, Int32.toBitVec_and]
  show BitVec.ofInt 32 _ &&& BitVec.ofInt 32 _ = BitVec.ofInt 32 _
  rw [BitVec.ofInt_natCast, BitVec.ofInt_natCast, BitVec.ofInt_natCast, BitVec.ofNat_and]
theorem zI_lor (x y : Nat) : zI x ||| zI y = zI ((x ||| y : Nat) : Int) := by
  apply Int32.toBitVec_inj.mp
  simp only [zI, Int32.toBitVec_or]
  show BitVec.ofInt 32 _ ||| BitVec.ofInt 32 _ = BitVec.ofInt 32 _
  rw [BitVec.ofInt_natCast, BitVec.ofInt_natCast, BitVec.ofInt_natCast, BitVec.ofNat_or]
theorem zI_and20 {x : Int} (hx : 0 ≤ x) : zI x &&& zI 1048575 = zI (x % 1048576) := by
  obtain ⟨m, rfl⟩ : ∃ m : Nat, x = m := ⟨x.toNat, by omega⟩
  have := zI_land m 1048575
  rw [show (1048575 : Nat) = 2 ^ 20 - 1 from rfl, Nat.and_two_pow_sub_one_eq_mod] at this
  exact this
theorem zI_and12 {x : Int} (hx : 0 ≤ x) (hx2 : x < 4096) : zI x &&& zI 4095 = zI x := by
  obtain ⟨m, rfl⟩ : ∃ m : Nat, x = m := ⟨x.toNat, by omega⟩
  have := zI_land m 4095
  rw [show (4095 : Nat) = 2 ^ 12 - 1 from rfl, Nat.and_two_pow_sub_one_eq_mod, Nat.mod_eq_of_lt (by omega)] at this
  exact this
theorem zI_or20 {x y : Int} (hx : 0 ≤ x) (hy : 0 ≤ y) (hy2 : y < 1048576) : zI (x * 2 ^ (20 : Int).toNat) ||| zI y = zI (x * 1048576 + y) := by
  obtain ⟨m, rfl⟩ : ∃ m : Nat, x = m := ⟨x.toNat, by omega⟩
  obtain ⟨n, rfl⟩ : ∃ n : Nat, y = n := ⟨y.toNat, by omega⟩
  have h1 := zI_lor (2 ^ 20 * m) n
  rw [← Nat.two_pow_add_eq_or_of_lt (by omega : n < 2 ^ 20)] at h1
  rw [show (m : Int) * 2 ^ (20 : Int).toNat = ((2 ^ 20 * m : Nat) : Int) by rw [Int.natCast_mul, Int.mul_comm]; rfl, h1]
  congr 1
  rw [Int.natCast_add, Int.natCast_mul, Int.mul_comm]; rfl
theorem zI_ushr20 {x : Int} (hx : 0 ≤ x) (hx2 : x < 2147483648) : ((zI x).toUInt32 >>> ((zI 20).toUInt32 &&& Int32.toUInt32 31)).toInt32 = zI (x / 1048576) := by
  obtain ⟨m, rfl⟩ : ∃ m : Nat, x = m := ⟨x.toNat, by omega⟩
  apply Int32.toBitVec_inj.mp
  have e : ((zI 20).toUInt32 &&& Int32.toUInt32 31) = 20 := by decide
  rw [e]
  show (BitVec.ofInt 32 (m : Int)) >>> (20 % 32) = BitVec.ofInt 32 ((m : Int) / 1048576)
  rw [show (m : Int) / 1048576 = ((m / 1048576 : Nat) : Int) from rfl, BitVec.ofInt_natCast, BitVec.ofInt_natCast]
  apply BitVec.eq_of_toNat_eq
  rw [BitVec.toNat_ushiftRight, BitVec.toNat_ofNat, BitVec.toNat_ofNat, Nat.shiftRight_eq_div_pow]
  rw [Nat.mod_eq_of_lt (by omega)]
  show m / 1048576 = m / 1048576 % 4294967296
  omega
theorem c_or {x y : Int} (h : d_an x y = 0) : zI x ||| zI y = zI (x + y) := by
  have h1 : zI x &&& zI y = 0 := by
    apply Int32.toInt_inj.mp
    rw [show (zI x &&& zI y).toInt = 0 from h]; rfl
  rw [← zI_add]
  apply Int32.toBitVec_inj.mp
  have h2 := congrArg Int32.toBitVec h1
  rw [Int32.toBitVec_and] at h2
  rw [Int32.toBitVec_or, Int32.toBitVec_add]
  exact (BitVec.add_eq_or_of_and_eq_zero _ _ h2).symm
theorem c_an {x : Int} {k : Nat} (hx : 0 ≤ x) (hx2 : x < 4096) (hk : k < 12) : d_an x (2 ^ k) = 0 ↔ x / 2 ^ k % 2 = 0 := by
  obtain ⟨m, rfl⟩ : ∃ m : Nat, x = m := ⟨x.toNat, by omega⟩
  have e1 := zI_land m (2 ^ k)
  have hp : 2 ^ k ≤ 2 ^ 11 := Nat.pow_le_pow_right (by omega) (by omega)
  have hle : m &&& 2 ^ k ≤ m := Nat.and_le_left
  have e2 : d_an m (2 ^ k) = ((m &&& 2 ^ k : Nat) : Int) := by
    unfold d_an
    rw [show (2 : Int) ^ k = ((2 ^ k : Nat) : Int) by rw [Int.natCast_pow]; rfl, e1, zI_toInt ⟨by omega, by omega⟩]
  have e3 : (m : Int) / 2 ^ k % 2 = ((m / 2 ^ k % 2 : Nat) : Int) := by
    rw [show (2 : Int) ^ k = ((2 ^ k : Nat) : Int) by rw [Int.natCast_pow]; rfl]; rfl
  rw [e2, e3]
  have hb : m &&& 2 ^ k = 0 ↔ m.testBit k = false := by
    constructor
    · intro h
      have := congrArg (fun v => v.testBit k) h
      simp only [Nat.testBit_and, Nat.testBit_two_pow, Nat.zero_testBit] at this
      simpa using this
    · intro h
      apply Nat.eq_of_testBit_eq
      intro i
      rw [Nat.testBit_and, Nat.testBit_two_pow, Nat.zero_testBit]
      by_cases e : k = i
      · rw [← e, h]; rfl
      · rw [decide_eq_false e, Bool.and_false]
  rw [Nat.testBit_eq_decide_div_mod_eq, decide_eq_false_iff_not] at hb
  omega
theorem c_an0 (x : Int) : d_an x 0 = 0 := by
  unfold d_an
  have : zI x &&& zI 0 = 0 := by
    apply Int32.toBitVec_inj.mp
    rw [Int32.toBitVec_and]
    show _ &&& 0#32 = 0#32
    exact BitVec.and_zero
  rw [this]; rfl
/-- a set within 2^m, a number k that is not in it: with it, it is within 2^m too -/
theorem c_lt {x : Int} {k m : Nat} (hx : 0 ≤ x) (hx2 : x < 2 ^ m) (hk : k < m) (h0 : x / 2 ^ k % 2 = 0) : x + 2 ^ k < 2 ^ m := by
  obtain ⟨j, rfl⟩ : ∃ j, m = k + (j + 1) := ⟨m - k - 1, by omega⟩
  have hp : (0 : Int) < 2 ^ k := Int.pow_pos (by omega)
  have e1 : (2 : Int) ^ (k + (j + 1)) = 2 ^ k * (2 * 2 ^ j) := by rw [Int.pow_add, Int.pow_succ, Int.mul_comm (2 ^ j) 2]
  rw [e1] at hx2 ⊢
  have h1 : x / 2 ^ k < 2 * 2 ^ j := Int.ediv_lt_of_lt_mul hp (by rw [Int.mul_comm]; exact hx2)
  have h2 : x / 2 ^ k + 1 < 2 * 2 ^ j := by omega
  have h3 := Int.mul_ediv_add_emod x (2 ^ k)
  have h4 := Int.emod_lt_of_pos x hp
  have h5 : 2 ^ k * (x / 2 ^ k + 1 + 1) ≤ 2 ^ k * (2 * 2 ^ j) := Int.mul_le_mul_of_nonneg_left (by omega) (by omega)
  rw [Int.mul_add, Int.mul_add, Int.mul_one] at h5
  omega
/-- how many bits -/
def c_pc : Nat → Int → Int
  | 0, _ => 0
  | f + 1, u => u % 2 + c_pc f (u / 2)
theorem c_pc_add : ∀ (f : Nat) (u : Int) (k : Nat), 0 ≤ u → k < f → u / 2 ^ k % 2 = 0 → c_pc f (u + 2 ^ k) = c_pc f u + 1
  | 0, _, _, _, h, _ => by omega
  | f + 1, u, 0, h0, _, h => by
    rw [c_pc, c_pc]
    rw [Int.pow_zero, Int.ediv_one] at h
    rw [Int.pow_zero, show (u + 1) / 2 = u / 2 by omega]
    omega
  | f + 1, u, k + 1, h0, hk, h => by
    have e1 : (2 : Int) ^ (k + 1) = 2 * 2 ^ k := by rw [Int.pow_succ, Int.mul_comm]
    have ih := c_pc_add f (u / 2) k (by omega) (by omega) (by
      rw [e1, ← Int.ediv_ediv_of_nonneg (by omega)] at h
      exact h)
    rw [c_pc, c_pc, e1]
    rw [show (u + 2 * 2 ^ k) % 2 = u % 2 by omega, show (u + 2 * 2 ^ k) / 2 = u / 2 + 2 ^ k by omega, ih]
    omega
theorem c_pc_0 : ∀ f : Nat, c_pc f 0 = 0
  | 0 => rfl
  | f + 1 => by rw [c_pc, show (0 : Int) / 2 = 0 by omega, c_pc_0 f]; omega
/-- the least of f below n; 1048575: none -/
def c_M (f : Nat → Int) : Nat → Int
  | 0 => 1048575
  | p + 1 => min (c_M f p) (f p)
theorem c_M_cong {f g : Nat → Int} : ∀ {n : Nat}, (∀ p, p < n → f p = g p) → c_M f n = c_M g n
  | 0, _ => rfl
  | n + 1, h => by rw [c_M, c_M, c_M_cong (fun p hp => h p (by omega)), h n (by omega)]
theorem c_M_bd {f : Nat → Int} {b : Int} : ∀ {n : Nat}, (∀ p, p < n → 0 ≤ f p ∧ (f p = 1048575 ∨ f p ≤ b)) → b < 1048575 → 0 ≤ c_M f n ∧ (c_M f n = 1048575 ∨ c_M f n ≤ b)
  | 0, _, _ => by rw [c_M]; omega
  | n + 1, h, hb => by
    have h1 := c_M_bd (n := n) (fun p hp => h p (by omega)) hb
    have h2 := h n (by omega)
    rw [c_M]; omega
/-- the least cost of the last d stretches of St, behind the piece 'last' -/
def c_L (St n : Nat) (ms : Nat → Nat → Int) (jn : Int → Nat → Int) (bt : Nat → Int) : Nat → Int → Int → Int
  | 0, _, _ => 0
  | d + 1, used, last => c_M (fun p => if ms (St - (d + 1)) p < 0 ∨ jn last p = 1048575 ∨ ¬ d_an used (bt p) = 0 then 1048575 else if c_L St n ms jn bt d (used + bt p) p = 1048575 then 1048575 else ms (St - (d + 1)) p + jn last p + c_L St n ms jn bt d (used + bt p) p) n
def c_Wt (St n : Nat) (ms : Nat → Nat → Int) (jn : Int → Nat → Int) (bt : Nat → Int) (d : Nat) (used last : Int) (p : Nat) : Int := if ms (St - (d + 1)) p < 0 ∨ jn last p = 1048575 ∨ ¬ d_an used (bt p) = 0 then 1048575 else if c_L St n ms jn bt d (used + bt p) p = 1048575 then 1048575 else ms (St - (d + 1)) p + jn last p + c_L St n ms jn bt d (used + bt p) p
theorem c_L_s {St n : Nat} {ms : Nat → Nat → Int} {jn : Int → Nat → Int} {bt : Nat → Int} (d : Nat) (used last : Int) : c_L St n ms jn bt (d + 1) used last = c_M (c_Wt St n ms jn bt d used last) n := rfl
theorem c_L_bd {St n : Nat} {ms : Nat → Nat → Int} {jn : Int → Nat → Int} {bt : Nat → Int} (hm : ∀ s p, ms s p ≤ 100000) (hj : ∀ l p, 0 ≤ jn l p ∧ (jn l p ≤ 594 ∨ jn l p = 1048575)) : ∀ (d : Nat) (used last : Int), d ≤ 8 → (0 ≤ c_L St n ms jn bt d used last ∧ (c_L St n ms jn bt d used last = 1048575 ∨ c_L St n ms jn bt d used last ≤ (d : Int) * 101000)) ∧ ∀ p, d < 8 → 0 ≤ c_Wt St n ms jn bt d used last p ∧ (c_Wt St n ms jn bt d used last p = 1048575 ∨ c_Wt St n ms jn bt d used last p ≤ ((d : Int) + 1) * 101000) := by
  have hw : ∀ (d : Nat), (∀ (used last : Int), d ≤ 8 → 0 ≤ c_L St n ms jn bt d used last ∧ (c_L St n ms jn bt d used last = 1048575 ∨ c_L St n ms jn bt d used last ≤ (d : Int) * 101000)) → ∀ (used last : Int) (p : Nat), d < 8 → 0 ≤ c_Wt St n ms jn bt d used last p ∧ (c_Wt St n ms jn bt d used last p = 1048575 ∨ c_Wt St n ms jn bt d used last p ≤ ((d : Int) + 1) * 101000) := by
    intro d ih used last p hd
    have h1 := ih (used + bt p) p (by omega)
    have h2 := hm (St - (d + 1)) p
    have h3 := hj last p
    unfold c_Wt
    split
    · omega
    · split <;> omega
  have hl : ∀ (d : Nat) (used last : Int), d ≤ 8 → 0 ≤ c_L St n ms jn bt d used last ∧ (c_L St n ms jn bt d used last = 1048575 ∨ c_L St n ms jn bt d used last ≤ (d : Int) * 101000) := by
    intro d
    induction d with
    | zero => intro used last _; rw [c_L]; omega
    | succ d ih =>
      intro used last hd
      rw [c_L_s]
      have := c_M_bd (f := c_Wt St n ms jn bt d used last) (b := ((d : Int) + 1) * 101000) (n := n) (fun p _ => hw d ih used last p (by omega)) (by omega)
      omega
  exact fun d used last hd => ⟨hl d used last hd, fun p hp => hw d (fun u l h => hl d u l h) used last p hp⟩
