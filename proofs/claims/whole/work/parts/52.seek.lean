/-! programmes as rows of pieces: which may be, what they cost, which is first; the trial of all in their order -/
def z_ok (fm : Nat → Nat → Int) (th : Nat → Bool) (jc : Nat → Nat → Int) (q : Nat → Nat) (s : Nat) : Prop := 0 ≤ fm s (q s) ∧ (∀ k, k < s → q k = q s → th (q s) = true) ∧ (s = 0 ∨ ¬ jc (q (s - 1)) (q s) = 1048575)
def z_v (St n : Nat) (fm : Nat → Nat → Int) (th : Nat → Bool) (jc : Nat → Nat → Int) (q : Nat → Nat) : Prop := ∀ s, s < St → q s < n ∧ z_ok fm th jc q s
def z_c (fm jc : Nat → Nat → Int) (q : Nat → Nat) : Nat → Int
  | 0 => 0
  | s + 1 => z_c fm jc q s + (fm s (q s) + (if s = 0 then 0 else jc (q (s - 1)) (q s)))
def z_le (St : Nat) (q r : Nat → Nat) : Prop := (∀ s, s < St → q s = r s) ∨ ∃ j, j < St ∧ (∀ s, s < j → q s = r s) ∧ q j < r j
def z_b (St n : Nat) (fm : Nat → Nat → Int) (th : Nat → Bool) (jc : Nat → Nat → Int) (q : Nat → Nat) : Prop := z_v St n fm th jc q ∧ ∀ r, z_v St n fm th jc r → z_c fm jc q St < z_c fm jc r St ∨ (z_c fm jc q St = z_c fm jc r St ∧ z_le St q r)
theorem z_le_anti {St : Nat} {q r : Nat → Nat} (h1 : z_le St q r) (h2 : z_le St r q) : ∀ s, s < St → q s = r s := by
  rcases h1 with h1 | ⟨j, j1, j2, j3⟩
  · exact h1
  · rcases h2 with h2 | ⟨k, k1, k2, k3⟩
    · exact fun s hs => (h2 s hs).symm
    · exfalso
      rcases Nat.lt_trichotomy j k with e | e | e
      · have := k2 j e; omega
      · subst e; omega
      · have := j2 k e; omega
theorem z_b_uniq {St n : Nat} {fm : Nat → Nat → Int} {th : Nat → Bool} {jc : Nat → Nat → Int} {q r : Nat → Nat} (h1 : z_b St n fm th jc q) (h2 : z_b St n fm th jc r) : z_c fm jc q St = z_c fm jc r St ∧ ∀ s, s < St → q s = r s := by
  have g1 := h1.2 r h2.1
  have g2 := h2.2 q h1.1
  have e : z_c fm jc q St = z_c fm jc r St := by omega
  refine ⟨e, z_le_anti ?_ ?_⟩
  · rcases g1 with g | g
    · omega
    · exact g.2
  · rcases g2 with g | g
    · omega
    · exact g.2
theorem z_ok_cong {fm : Nat → Nat → Int} {th : Nat → Bool} {jc : Nat → Nat → Int} {q r : Nat → Nat} {s : Nat} (h : ∀ k, k ≤ s → q k = r k) : z_ok fm th jc q s ↔ z_ok fm th jc r s := by
  unfold z_ok
  rw [h s (by omega), h (s - 1) (by omega)]
  refine and_congr_right fun _ => and_congr_left fun _ => ?_
  constructor
  · intro g k hk e; exact g k hk (by rw [h k (by omega)]; exact e)
  · intro g k hk e; exact g k hk (by rw [← h k (by omega)]; exact e)
theorem z_c_cong {fm jc : Nat → Nat → Int} {q r : Nat → Nat} : ∀ {s : Nat}, (∀ k, k < s → q k = r k) → z_c fm jc q s = z_c fm jc r s
  | 0, _ => rfl
  | s + 1, h => by
    rw [z_c, z_c, z_c_cong (fun k hk => h k (by omega)), h s (by omega)]
    by_cases e : s = 0
    · rw [if_pos e, if_pos e]
    · rw [if_neg e, if_neg e, h (s - 1) (by omega)]
/-- explored: M stretches are being tried, t is the last trial of each -/
def z_Ex (M : Nat) (t : Nat → Int) (q : Nat → Nat) : Prop := M = 0 ∨ (∃ j, j + 1 < M ∧ (∀ s, s < j → (q s : Int) = t s) ∧ (q j : Int) < t j) ∨ (1 ≤ M ∧ (∀ s, s + 1 < M → (q s : Int) = t s) ∧ (q (M - 1) : Int) ≤ t (M - 1))
def z_I (St n : Nat) (fm : Nat → Nat → Int) (th : Nat → Bool) (jc : Nat → Nat → Int) (M : Nat) (t : Nat → Int) (best : Int) (g : Nat → Nat) : Prop :=
  (best = -1 ∧ ∀ q, z_v St n fm th jc q → ¬ z_Ex M t q) ∨ (0 ≤ best ∧ z_v St n fm th jc g ∧ z_c fm jc g St = best ∧ (∀ q, z_v St n fm th jc q → z_Ex M t q → best < z_c fm jc q St ∨ (best = z_c fm jc q St ∧ z_le St g q)) ∧ ∀ q, z_v St n fm th jc q → ¬ z_Ex M t q → z_le St g q)
section ZT
variable {St n : Nat} {fm : Nat → Nat → Int} {th : Nat → Bool} {jc : Nat → Nat → Int} {M : Nat} {t : Nat → Int} {best : Int} {g : Nat → Nat}
/-- where the explored ones don't become other ones, nothing changes -/
theorem z_I.same {M2 : Nat} {t2 : Nat → Int} (h : z_I St n fm th jc M t best g) (he : ∀ q, z_v St n fm th jc q → (z_Ex M2 t2 q ↔ z_Ex M t q)) : z_I St n fm th jc M2 t2 best g := by
  rcases h with ⟨h1, h2⟩ | ⟨h1, h2, h3, h4, h5⟩
  · exact Or.inl ⟨h1, fun q hq e => h2 q hq ((he q hq).mp e)⟩
  · exact Or.inr ⟨h1, h2, h3, fun q hq e => h4 q hq ((he q hq).mp e), fun q hq e => h5 q hq (fun w => e ((he q hq).mpr w))⟩
theorem z_Ex_up (hM : 1 ≤ M) (q : Nat → Nat) : z_Ex M (b_up t (M - 1) (t (M - 1) + 1)) q ↔ z_Ex M t q ∨ ((∀ s, s + 1 < M → (q s : Int) = t s) ∧ (q (M - 1) : Int) = t (M - 1) + 1) := by
  have hb : ∀ s, s + 1 < M → b_up t (M - 1) (t (M - 1) + 1) s = t s := fun s hs => b_up_ne _ _ (by omega)
  unfold z_Ex
  rw [b_up_eq]
  constructor
  · rintro (h | ⟨j, j1, j2, j3⟩ | ⟨h1, h2, h3⟩)
    · omega
    · rw [hb j j1] at j3
      exact Or.inl (Or.inr (Or.inl ⟨j, j1, fun s hs => by rw [j2 s hs, hb s (by omega)], j3⟩))
    · have h2' : ∀ s, s + 1 < M → (q s : Int) = t s := fun s hs => by rw [h2 s hs, hb s hs]
      by_cases e : (q (M - 1) : Int) = t (M - 1) + 1
      · exact Or.inr ⟨h2', e⟩
      · exact Or.inl (Or.inr (Or.inr ⟨h1, h2', by omega⟩))
  · rintro ((h | ⟨j, j1, j2, j3⟩ | ⟨h1, h2, h3⟩) | ⟨h2, h3⟩)
    · omega
    · exact Or.inr (Or.inl ⟨j, j1, fun s hs => by rw [hb s (by omega)]; exact j2 s hs, by rw [hb j j1]; exact j3⟩)
    · exact Or.inr (Or.inr ⟨h1, fun s hs => by rw [hb s hs]; exact h2 s hs, by omega⟩)
    · exact Or.inr (Or.inr ⟨hM, fun s hs => by rw [hb s hs]; exact h2 s hs, by omega⟩)
/-- all pieces of a stretch were tried: back to the one ahead -/
theorem z_T1 (h : z_I St n fm th jc M t best g) (hM : 1 ≤ M) (hMS : M ≤ St) (ht : t (M - 1) + 1 = n) : z_I St n fm th jc (M - 1) (b_up t (M - 1) (t (M - 1) + 1)) best g := by
  have hb : ∀ s, s + 1 < M → b_up t (M - 1) (t (M - 1) + 1) s = t s := fun s hs => b_up_ne _ _ (by omega)
  refine h.same (fun q hq => ?_)
  have hqn := (hq (M - 1) (by omega)).1
  unfold z_Ex
  constructor
  · rintro (h | ⟨j, j1, j2, j3⟩ | ⟨h1, h2, h3⟩)
    · exact Or.inr (Or.inr ⟨hM, fun s hs => by omega, by omega⟩)
    · rw [hb j (by omega)] at j3
      exact Or.inr (Or.inl ⟨j, by omega, fun s hs => by rw [j2 s hs, hb s (by omega)], j3⟩)
    · rw [hb _ (by omega)] at h3
      by_cases e : (q (M - 1 - 1) : Int) = t (M - 1 - 1)
      · refine Or.inr (Or.inr ⟨hM, fun s hs => ?_, by omega⟩)
        by_cases e2 : s = M - 1 - 1
        · rw [e2]; exact e
        · rw [h2 s (by omega), hb s (by omega)]
      · exact Or.inr (Or.inl ⟨M - 1 - 1, by omega, fun s hs => by rw [h2 s (by omega), hb s (by omega)], by omega⟩)
  · rintro (h | ⟨j, j1, j2, j3⟩ | ⟨h1, h2, h3⟩)
    · omega
    · by_cases e : j + 1 < M - 1
      · exact Or.inr (Or.inl ⟨j, e, fun s hs => by rw [hb s (by omega)]; exact j2 s hs, by rw [hb j (by omega)]; exact j3⟩)
      · refine Or.inr (Or.inr ⟨by omega, fun s hs => by rw [hb s (by omega)]; exact j2 s (by omega), ?_⟩)
        rw [hb _ (by omega), show M - 1 - 1 = j by omega]; omega
    · by_cases e : M = 1
      · exact Or.inl (by omega)
      · refine Or.inr (Or.inr ⟨by omega, fun s hs => by rw [hb s (by omega)]; exact h2 s (by omega), ?_⟩)
        rw [hb _ (by omega), h2 (M - 1 - 1) (by omega)]
        exact Int.le_refl _
/-- the next piece of a stretch can't be there -/
theorem z_T2 (h : z_I St n fm th jc M t best g) (hM : 1 ≤ M) (hMS : M ≤ St) (hpf : ∀ s, s + 1 < M → 0 ≤ t s) (ht : -1 ≤ t (M - 1)) (hno : ¬ z_ok fm th jc (fun k => (b_up t (M - 1) (t (M - 1) + 1) k).toNat) (M - 1)) : z_I St n fm th jc M (b_up t (M - 1) (t (M - 1) + 1)) best g := by
  refine h.same (fun q hq => ?_)
  rw [z_Ex_up hM]
  constructor
  · rintro (h | ⟨h2, h3⟩)
    · exact h
    · exfalso
      refine hno ((z_ok_cong (q := q) (fun k hk => ?_)).mp (hq (M - 1) (by omega)).2)
      by_cases e : k = M - 1
      · rw [e]; show q (M - 1) = (b_up t (M - 1) (t (M - 1) + 1) (M - 1)).toNat
        rw [b_up_eq]; omega
      · show q k = (b_up t (M - 1) (t (M - 1) + 1) k).toNat
        rw [b_up_ne _ _ e]; have := h2 k (by omega); omega
  · exact Or.inl
/-- with the next piece of a stretch nothing better can come -/
theorem z_T3 (h : z_I St n fm th jc M t best g) (hM : 1 ≤ M) (hb0 : 0 ≤ best) (hlow : ∀ q, z_v St n fm th jc q → (∀ s, s + 1 < M → (q s : Int) = t s) → (q (M - 1) : Int) = t (M - 1) + 1 → best ≤ z_c fm jc q St) : z_I St n fm th jc M (b_up t (M - 1) (t (M - 1) + 1)) best g := by
  rcases h with ⟨h1, h2⟩ | ⟨h1, h2, h3, h4, h5⟩
  · omega
  · refine Or.inr ⟨h1, h2, h3, fun q hq e => ?_, fun q hq e => h5 q hq (fun w => e ((z_Ex_up hM q).mpr (Or.inl w)))⟩
    by_cases w : z_Ex M t q
    · exact h4 q hq w
    · rcases (z_Ex_up hM q).mp e with u | ⟨u1, u2⟩
      · exact absurd u w
      · have := hlow q hq u1 u2
        have hle := h5 q hq w
        by_cases z : best = z_c fm jc q St
        · exact Or.inr ⟨z, hle⟩
        · exact Or.inl (by omega)
/-- on to the next stretch -/
theorem z_T4 (h : z_I St n fm th jc M t best g) (hM : 1 ≤ M) : z_I St n fm th jc (M + 1) (b_up (b_up t (M - 1) (t (M - 1) + 1)) M (-1)) best g := by
  have hb : ∀ s, s + 1 < M → b_up (b_up t (M - 1) (t (M - 1) + 1)) M (-1) s = t s := fun s hs => by rw [b_up_ne _ _ (by omega), b_up_ne _ _ (by omega)]
  have hb1 : b_up (b_up t (M - 1) (t (M - 1) + 1)) M (-1) (M - 1) = t (M - 1) + 1 := by rw [b_up_ne _ _ (by omega), b_up_eq]
  have hb2 : b_up (b_up t (M - 1) (t (M - 1) + 1)) M (-1) M = -1 := b_up_eq _ _ _
  refine h.same (fun q hq => ?_)
  unfold z_Ex
  constructor
  · rintro (h | ⟨j, j1, j2, j3⟩ | ⟨h1, h2, h3⟩)
    · omega
    · by_cases e : j = M - 1
      · subst e
        rw [hb1] at j3
        exact Or.inr (Or.inr ⟨hM, fun s hs => by rw [j2 s (by omega), hb s hs], by omega⟩)
      · rw [hb j (by omega)] at j3
        exact Or.inr (Or.inl ⟨j, by omega, fun s hs => by rw [j2 s hs, hb s (by omega)], j3⟩)
    · rw [show M + 1 - 1 = M by omega, hb2] at h3; omega
  · rintro (h | ⟨j, j1, j2, j3⟩ | ⟨h1, h2, h3⟩)
    · omega
    · exact Or.inr (Or.inl ⟨j, by omega, fun s hs => by rw [hb s (by omega)]; exact j2 s hs, by rw [hb j j1]; exact j3⟩)
    · exact Or.inr (Or.inl ⟨M - 1, by omega, fun s hs => by rw [hb s (by omega)]; exact h2 s (by omega), by rw [hb1]; omega⟩)
/-- a whole row that is better -/
theorem z_T5 (h : z_I St n fm th jc M t best g) (hM : 1 ≤ M) (hMS : M = St) (hpf : ∀ s, s + 1 < M → 0 ≤ t s) (ht : -1 ≤ t (M - 1)) (hv : z_v St n fm th jc (fun k => (b_up t (M - 1) (t (M - 1) + 1) k).toNat)) (hc0 : 0 ≤ z_c fm jc (fun k => (b_up t (M - 1) (t (M - 1) + 1) k).toNat) St) (hbt : best < 0 ∨ z_c fm jc (fun k => (b_up t (M - 1) (t (M - 1) + 1) k).toNat) St < best) : z_I St n fm th jc M (b_up t (M - 1) (t (M - 1) + 1)) (z_c fm jc (fun k => (b_up t (M - 1) (t (M - 1) + 1) k).toNat) St) (fun k => (b_up t (M - 1) (t (M - 1) + 1) k).toNat) := by
  obtain ⟨w, hw⟩ : ∃ w, w = b_up t (M - 1) (t (M - 1) + 1) := ⟨_, rfl⟩
  have hwn : ∀ s, s < St → 0 ≤ w s := fun s hs => by
    rw [hw]
    by_cases e : s = M - 1
    · rw [e, b_up_eq]; omega
    · rw [b_up_ne _ _ e]; exact hpf s (by omega)
  have hws : ∀ s, s + 1 < M → w s = t s := fun s hs => by rw [hw]; exact b_up_ne _ _ (by omega)
  have hwl : w (M - 1) = t (M - 1) + 1 := by rw [hw]; exact b_up_eq _ _ _
  have hup := fun q => z_Ex_up (t := t) hM q
  rw [← hw] at hv hc0 hbt hup ⊢
  refine Or.inr ⟨hc0, hv, rfl, fun q hq e => ?_, fun q hq e => ?_⟩
  · rcases (hup q).mp e with u | ⟨u1, u2⟩
    · left
      rcases h with ⟨h1, h2⟩ | ⟨h1, h2, h3, h4, h5⟩
      · exact absurd u (h2 q hq)
      · have := h4 q hq u
        omega
    · right
      have hs : ∀ s, s < St → (w s).toNat = q s := fun s hs => by
        by_cases e : s = M - 1
        · rw [e, hwl]; omega
        · have := u1 s (by omega); rw [hws s (by omega)]; omega
      exact ⟨z_c_cong (fun k hk => hs k hk), Or.inl hs⟩
  · -- q isn't explored: it comes behind
    by_cases hall : ∀ s, s < St → (w s).toNat = q s
    · exact Or.inl hall
    · right
      have hex : ∃ s, s < St ∧ ¬ (w s).toNat = q s := by
        apply Classical.byContradiction
        intro hn
        exact hall (fun s hs => Classical.byContradiction (fun h => hn ⟨s, hs, h⟩))
      obtain ⟨j, hj1, hj2, hj3⟩ : ∃ j, j < St ∧ (∀ s, s < j → (w s).toNat = q s) ∧ ¬ (w j).toNat = q j := by
        obtain ⟨s0, h0, h1⟩ := hex
        have key : ∀ d s, s + d = s0 → (∀ u, u < s → (w u).toNat = q u) → ∃ j, j < St ∧ (∀ s, s < j → (w s).toNat = q s) ∧ ¬ (w j).toNat = q j := by
          intro d
          induction d with
          | zero => intro s hs hu; exact ⟨s, by omega, hu, by rw [show s = s0 by omega]; exact h1⟩
          | succ d ih =>
            intro s hs hu
            by_cases e : (w s).toNat = q s
            · refine ih (s + 1) (by omega) (fun u hu2 => ?_)
              by_cases e2 : u = s
              · rw [e2]; exact e
              · exact hu u (by omega)
            · exact ⟨s, by omega, hu, e⟩
        exact key s0 0 (by omega) (fun u hu => by omega)
      refine ⟨j, hj1, hj2, ?_⟩
      show (w j).toNat < q j
      rcases Nat.lt_or_ge (w j).toNat (q j) with u | u
      · exact u
      · exfalso
        apply e
        have hwj := hwn j hj1
        by_cases e2 : j = M - 1
        · exact Or.inr (Or.inr ⟨hM, fun s hs => by have := hj2 s (by omega); have := hwn s (by omega); omega, by rw [← e2]; omega⟩)
        · exact Or.inr (Or.inl ⟨j, by omega, fun s hs => by have := hj2 s hs; have := hwn s (by omega); omega, by omega⟩)
end ZT
/-- nothing is explored yet -/
theorem z_T0 {St n : Nat} {fm : Nat → Nat → Int} {th : Nat → Bool} {jc : Nat → Nat → Int} {t : Nat → Int} {g : Nat → Nat} (ht : t 0 = -1) : z_I St n fm th jc 1 t (-1) g := by
  refine Or.inl ⟨rfl, fun q _ e => ?_⟩
  rcases e with h | ⟨j, j1, j2, j3⟩ | ⟨h1, h2, h3⟩
  · omega
  · omega
  · rw [show 1 - 1 = 0 from rfl, ht] at h3; omega
/-- all are explored -/
theorem z_T9 {St n : Nat} {fm : Nat → Nat → Int} {th : Nat → Bool} {jc : Nat → Nat → Int} {t : Nat → Int} {best : Int} {g : Nat → Nat} (h : z_I St n fm th jc 0 t best g) : (best = -1 ∧ ∀ q, ¬ z_v St n fm th jc q) ∨ (0 ≤ best ∧ z_b St n fm th jc g ∧ z_c fm jc g St = best) := by
  rcases h with ⟨h1, h2⟩ | ⟨h1, h2, h3, h4, h5⟩
  · exact Or.inl ⟨h1, fun q hq => h2 q hq (Or.inl rfl)⟩
  · refine Or.inr ⟨h1, ⟨h2, fun r hr => ?_⟩, h3⟩
    rw [h3]
    exact h4 r hr (Or.inl rfl)
/-- how much is left of the trial -/
def z_mu (n St : Nat) (t : Nat → Int) : Nat → Int
  | 0 => 0
  | k + 1 => z_mu n St t k + ((n : Int) - t k) * 14 ^ (St - k)
theorem z_mu_cong {n St : Nat} {t t2 : Nat → Int} : ∀ {k : Nat}, (∀ s, s < k → t s = t2 s) → z_mu n St t k = z_mu n St t2 k
  | 0, _ => rfl
  | k + 1, h => by rw [z_mu, z_mu, z_mu_cong (fun s hs => h s (by omega)), h k (by omega)]
theorem z_mu_nn {n St : Nat} {t : Nat → Int} : ∀ {k : Nat}, (∀ s, s < k → t s ≤ n) → 0 ≤ z_mu n St t k
  | 0, _ => by rw [z_mu]; omega
  | k + 1, h => by
    have h1 := z_mu_nn (n := n) (St := St) (t := t) (k := k) (fun s hs => h s (by omega))
    have h2 : (0 : Int) ≤ ((n : Int) - t k) * 14 ^ (St - k) := Int.mul_nonneg (by have := h k (by omega); omega) (Int.le_of_lt (Int.pow_pos (by omega)))
    rw [z_mu]; omega
/-- one trial more: less is left -/
theorem z_mu_up {n St : Nat} {t : Nat → Int} {k : Nat} : z_mu n St (b_up t k (t k + 1)) (k + 1) < z_mu n St t (k + 1) := by
  have hp : (0 : Int) < 14 ^ (St - k) := Int.pow_pos (by omega)
  rw [z_mu, z_mu, z_mu_cong (t := b_up t k (t k + 1)) (t2 := t) (fun s hs => b_up_ne _ _ (by omega)), b_up_eq]
  rw [show ((n : Int) - (t k + 1)) * 14 ^ (St - k) = ((n : Int) - t k) * 14 ^ (St - k) - 14 ^ (St - k) by rw [show (n : Int) - (t k + 1) = ((n : Int) - t k) - 1 by omega, Int.sub_mul, Int.one_mul]]
  omega
theorem z_mu_dn {n St : Nat} {t : Nat → Int} {k : Nat} (hk : k + 1 < St + 1) (hn : n ≤ 12) (hkS : k + 1 ≤ St) : z_mu n St (b_up (b_up t k (t k + 1)) (k + 1) (-1)) (k + 2) < z_mu n St t (k + 1) := by
  have hp : (0 : Int) < 14 ^ (St - (k + 1)) := Int.pow_pos (by omega)
  have e1 : (14 : Int) ^ (St - k) = 14 ^ (St - (k + 1)) * 14 := by rw [show St - k = (St - (k + 1)) + 1 by omega, Int.pow_succ]
  rw [z_mu, b_up_eq, z_mu_cong (t := b_up (b_up t k (t k + 1)) (k + 1) (-1)) (t2 := b_up t k (t k + 1)) (fun s hs => b_up_ne _ _ (by omega))]
  rw [z_mu, z_mu, z_mu_cong (t := b_up t k (t k + 1)) (t2 := t) (fun s hs => b_up_ne _ _ (by omega)), b_up_eq]
  rw [show ((n : Int) - (t k + 1)) * 14 ^ (St - k) = ((n : Int) - t k) * 14 ^ (St - k) - 14 ^ (St - k) by rw [show (n : Int) - (t k + 1) = ((n : Int) - t k) - 1 by omega, Int.sub_mul, Int.one_mul]]
  have h3 : ((n : Int) - -1) * 14 ^ (St - (k + 1)) ≤ 13 * 14 ^ (St - (k + 1)) := Int.mul_le_mul_of_nonneg_right (by omega) (by omega)
  generalize ((n : Int) - -1) * 14 ^ (St - (k + 1)) = x at *
  generalize ((n : Int) - t k) * 14 ^ (St - k) = y at *
  omega
