/-! the planner: prepare -/
section UP
variable {I : Nat → Nat → Int} {A : Nat → Nat → Nat → Int} {i : Nat → Int} {a : Nat → Nat → Int}
theorem x_up20 {α : Type} (f : Nat → α) (x : α) (p : Nat) : b_up f 5 x (p + 20) = f (p + 20) := b_up_ne _ _ (by omega)
theorem c_fb_up (mo t : Int) (j : Nat) : c_fb (b_up I 5 i) (b_up A 5 a) mo t j = c_fb I A mo t j := by unfold c_fb; rw [x_up20, x_up20]
theorem c_fm_up (mo t : Int) (j : Nat) : c_fm (b_up I 5 i) (b_up A 5 a) mo t j = c_fm I A mo t j := by unfold c_fm; rw [c_fb_up, x_up20]
theorem c_jc_up (w m : Int) (p q : Nat) : c_jc (b_up I 5 i) w m p q = c_jc I w m p q := by unfold c_jc; rw [x_up20, x_up20]
theorem c_us_up (f : Nat → Int) (s : Nat) : c_us (b_up I 5 i) f s = c_us I f s := by funext p; unfold c_us; rw [x_up20]
theorem c_nt_up (p : Nat) : c_nt (b_up I 5 i) p = c_nt I p := by
  unfold c_nt
  rw [show (fun q => decide (¬ b_up I 5 i (q + 20) 2 = 0)) = (fun q => decide (¬ I (q + 20) 2 = 0)) from funext (fun q => by rw [x_up20])]
end UP
theorem w_an_cong {p q : Nat → Bool} : ∀ {n : Nat}, (∀ j, j < n → p j = q j) → w_an p n = w_an q n
  | 0, _ => rfl
  | n + 1, h => by rw [w_an, w_an, w_an_cong (fun j hj => h j (by omega)), h n (by omega)]
theorem c_bn_cong {p q : Nat → Bool} : ∀ {n : Nat}, (∀ j, j < n → p j = q j) → c_bn p n = c_bn q n
  | 0, _ => rfl
  | n + 1, h => by rw [c_bn, c_bn, c_bn_cong (fun j hj => h j (by omega)), h n (by omega)]
/-- which pieces are used up by a search, from film and pieces alone -/
def c_uz (I : Nat → Nat → Int) (A : Nat → Nat → Nat → Int) (v : Int) (St : Nat) (p : Nat) : Bool := decide (I (p + 20) 2 = 0) && w_an (fun s : Nat => decide (¬ c_fb I A (f_m (A 1) (I 1 3).toNat s) (f_T (A 1) (I 1 3).toNat v s) p = -2)) St
/-- how much room a search needs -/
def c_zz (I : Nat → Nat → Int) (A : Nat → Nat → Nat → Int) (v : Int) (St n : Nat) : Int := (if c_nt I n = true then 1 else (St : Int)) * 2 ^ c_bn (c_uz I A v St) n * 12
/-- what the planner keeps between searches -/
def c_T (L : Nat) (i : Nat → Int) (a : Nat → Nat → Int) : Prop := (0 ≤ i 0 ∧ i 0 ≤ 99) ∧ (0 ≤ i 1 ∧ i 1 ≤ 6) ∧ (0 ≤ i 11 ∧ i 11 ≤ 900) ∧ (∀ j, -2 ≤ a 6 j ∧ a 6 j ≤ 100000) ∧ (∀ j, 0 ≤ a 7 j ∧ (a 7 j ≤ 594 ∨ a 7 j = 1048575)) ∧ (∀ j, 0 ≤ a 12 j ∧ a 12 j < (i 11 + 1) * 1048576) ∧ L ≤ 1000000
/-- what a search is begun with -/
def c_R (I : Nat → Nat → Int) (A : Nat → Nat → Nat → Int) (v : Int) (St n : Nat) (i0 i : Nat → Int) (a : Nat → Nat → Int) : Prop := i 0 = i0 0 ∧ i 1 = i0 1 ∧ i 2 = (St : Int) ∧ i 3 = (n : Int) ∧ i 9 = 2 ^ c_bn (c_uz I A v St) n ∧ i 10 = bI (c_nt I n = true) ∧ i 11 = i0 11 + 1 ∧ (∀ s : Nat, s < St → a 4 s = f_T (A 1) (I 1 3).toNat v s) ∧ (∀ s p : Nat, s < St → p < n → a 5 (s * 12 + p) = c_fb I A (f_m (A 1) (I 1 3).toNat s) (f_T (A 1) (I 1 3).toNat v s) p ∧ a 6 (s * 12 + p) = c_fm I A (f_m (A 1) (I 1 3).toNat s) (f_T (A 1) (I 1 3).toNat v s) p) ∧ (∀ p q : Nat, p < n → q < n → a 7 (p * 12 + q) = c_jc I (i0 0) (i0 1) p q) ∧ ∀ p : Nat, p < n → a 8 p = (if c_uz I A v St p then 2 ^ c_bn (c_uz I A v St) p else 0)
theorem c_fm_bd {I : Nat → Nat → Int} {A : Nat → Nat → Nat → Int} {mo t : Int} {p : Nat} (hJ : q_J (I (p + 20)) (A (p + 20))) (ht : 0 ≤ t ∧ t ≤ 100000) : (-2 ≤ c_fm I A mo t p ∧ c_fm I A mo t p ≤ 100000) ∧ (c_fb I A mo t p = -2 ∧ c_fm I A mo t p = -2 ∨ (1 ≤ c_fb I A mo t p ∧ c_fb I A mo t p ≤ 400) ∧ 0 ≤ c_fm I A mo t p) := by
  have hb : c_fb I A mo t p = -2 ∨ (1 ≤ c_fb I A mo t p ∧ c_fb I A mo t p ≤ 400) := by
    unfold c_fb
    split
    · exact q_bt_bd _ _ 400
    · exact Or.inl rfl
  obtain ⟨h6, h7, h8⟩ := hJ.1.2.2.2.1
  rw [c_fm]
  rcases hb with q | q
  · rw [if_pos q]; omega
  · have := q_ms_bd2 (s := I (p + 20) 6) (f := I (p + 20) 7) (b := c_fb I A mo t p) (t := t) h6 h7 (by omega) (by omega) ht.1 ht.2
    rw [if_neg (by omega)]; omega
theorem c_I_R {L : Nat} {I : Nat → Nat → Int} {A : Nat → Nat → Nat → Int} {v : Int} {St n : Nat} {i0 i : Nat → Int} {a : Nat → Nat → Int} (hR : c_R I A v St n i0 i a) (hSt : St ≤ 8) (hn : n ≤ 12) (h6 : ∀ j, -2 ≤ a 6 j ∧ a 6 j ≤ 100000) (h7 : ∀ j, 0 ≤ a 7 j ∧ (a 7 j ≤ 594 ∨ a 7 j = 1048575)) (h11 : 0 ≤ i 11 ∧ i 11 ≤ 1000) (h12 : ∀ j, 0 ≤ a 12 j ∧ a 12 j < (i 11 + 1) * 1048576) (hL : L ≤ 1000000) (hJ : ∀ p, p < n → q_J (I (p + 20)) (A (p + 20))) (hT : ∀ s : Nat, 0 ≤ f_T (A 1) (I 1 3).toNat v s ∧ f_T (A 1) (I 1 3).toNat v s ≤ 100000) : c_I L i a := by
  obtain ⟨r0, r1, r2, r3, r9, r10, r11, r4, r5, r7, r8⟩ := hR
  have hm := c_bn_le (c_uz I A v St) n
  refine ⟨by omega, by omega, h6, h7, ⟨c_bn (c_uz I A v St) n, by omega, r9, fun p hp => ?_⟩, by rw [r10]; exact bI_01 _, fun ht s p hs hp hq => ?_, h11, h12, hL⟩
  · rw [r8 p (by omega)]
    by_cases e : c_uz I A v St p = true
    · right
      refine ⟨c_bn (c_uz I A v St) p, ?_, if_pos e⟩
      obtain ⟨j, hj⟩ : ∃ j, n = p + 1 + j := ⟨n - (p + 1), by omega⟩
      have h1 : c_bn (c_uz I A v St) (p + 1) = c_bn (c_uz I A v St) p + 1 := by rw [c_bn, if_pos e]
      have h2 : ∀ j : Nat, c_bn (c_uz I A v St) (p + 1) ≤ c_bn (c_uz I A v St) (p + 1 + j) := fun j => by
        induction j with
        | zero => exact Nat.le_refl _
        | succ j ih =>
          have e1 : c_bn (c_uz I A v St) (p + 1 + (j + 1)) = c_bn (c_uz I A v St) (p + 1 + j) + (if c_uz I A v St (p + 1 + j) then 1 else 0) := rfl
          omega
      have := h2 j
      rw [← hj] at this
      omega
    · exact Or.inl (if_neg e)
  · rw [(r5 s p (by omega) (by omega)).2] at hq
    rw [r8 p (by omega)]
    have h2 := (c_fm_bd (mo := f_m (A 1) (I 1 3).toNat s) (hJ p (by omega)) (hT s)).2
    have hall : c_nt I n = true := by
      rw [r10] at ht
      rcases bI_or (c_nt I n = true) with q | q
      · exact q.2
      · omega
    have hnt : ¬ ¬ I (p + 20) 2 = 0 := fun q => by
      unfold c_nt at hall
      rw [Bool.not_eq_true', Bool.eq_false_iff] at hall
      exact hall ((w_an_iff _ n).mpr ⟨p, by omega, decide_eq_true q⟩)
    have hu : c_uz I A v St p = true := by
      unfold c_uz
      rw [Bool.and_eq_true, decide_eq_true_eq]
      refine ⟨by omega, (w_an_iff _ St).mpr ⟨s, by omega, ?_⟩⟩
      rw [decide_eq_true_eq]
      omega
    rw [if_pos hu]
    have : (0 : Int) < 2 ^ c_bn (c_uz I A v St) p := Int.pow_pos (by omega)
    omega
theorem x_W.fiB {lb : Nat → Nat} {L n : Nat} {O : Nat → Nat} {D : Nat → Nat → Nat} {I : Nat → Nat → Int} {A : Nat → Nat → Nat → Int} {h hB : b_H} (hW : x_W lb L n O D I A hB) (hfr : ∀ b, ¬ r_own (K5 L) (O 5) (D 5) b → h b = hB b) : r_O K1 1 (O 1) (D 1) (I 1) (A 1) h := (hW 1 x_is_1).1.kept (fun b hb => hfr b (hW.no5 (by rw [(hW 1 x_is_1).2 b hb]; omega)))

set_option maxHeartbeats 4000000 in
theorem l_X5_prepare {S : b_S} {l : Launch} {G : b_G} {i : Nat → Int} {a0 : Nat → Nat → Int} {hB : b_H} {sz St : Nat} {lb : Nat → Nat} {L n : Nat} {O : Nat → Nat} {D : Nat → Nat → Nat} {I : Nat → Nat → Int} {A : Nat → Nat → Nat → Int} {ol al : Nat} {post : Option Value → b_H → Nat → Prop} {w : Nat} (M : b_M S l G RX5 cX5_prepare 6 none "prepare" 7 170 1 w hB sz post) (hWB : x_W lb L n O D I A hB) (hPB : p_L G lb n O ol al hB) (hJP : ∀ p, p < n → q_J (I (p + 20)) (A (p + 20))) (hkey : ∀ p, p < n → 0 ≤ I (p + 20) 0 ∧ I (p + 20) 0 ≤ 11) (hth : ∀ p, p < n → I (p + 20) 2 = 0 ∨ I (p + 20) 2 = 1) (hn12 : n ≤ 12) (hFI : f_I (I 1) (A 1)) {v : Int} (hv : 12 ≤ v ∧ v ≤ 30) (hSt : f_ct (A 1 2) (I 1 3).toNat = (St : Int)) (hSt8 : St ≤ 8) (hi2 : i 2 = (St : Int)) (hi3 : i 3 = (n : Int)) (P85 : ∀ (h : b_H) (a : Nat → Nat → Int) (x : Int) (x5 : Option Value), r_O (K5 L) 5 (O 5) (D 5) i a h → (∀ b, ¬ r_own (K5 L) (O 5) (D 5) b → h b = hB b) → (∀ s : Nat, (s : Int) < St → a 4 s = f_T (A 1) (I 1 3).toNat v s) → (∀ s p : Nat, (s : Int) < St → p < n → a 5 (s * 12 + p) = c_fb I A (f_m (A 1) (I 1 3).toNat s) (f_T (A 1) (I 1 3).toNat v s) p ∧ a 6 (s * 12 + p) = c_fm I A (f_m (A 1) (I 1 3).toNat s) (f_T (A 1) (I 1 3).toNat v s) p) → (∀ k, k ≠ 4 → k ≠ 5 → k ≠ 6 → a k = a0 k) → (∀ j, -2 ≤ a 6 j ∧ a 6 j ≤ 100000) → (St : Int) ≤ x → V S 0 0 h sz 85 [some (.ref (O 5)), some (.ref (O 1)), some (.ref ol), some (.int (zI v)), some (.int (zI x)), x5] []) : ∀ (d : Nat) (h : b_H) (a : Nat → Nat → Int) (x : Int) (x5 : Option Value), (((St : Int) - x).toNat = d) → (0 ≤ x) → (x ≤ St) → (r_O (K5 L) 5 (O 5) (D 5) i a h) → (∀ b, ¬ r_own (K5 L) (O 5) (D 5) b → h b = hB b) → (∀ s : Nat, (s : Int) < x → a 4 s = f_T (A 1) (I 1 3).toNat v s) → (∀ s p : Nat, (s : Int) < x → p < n → a 5 (s * 12 + p) = c_fb I A (f_m (A 1) (I 1 3).toNat s) (f_T (A 1) (I 1 3).toNat v s) p ∧ a 6 (s * 12 + p) = c_fm I A (f_m (A 1) (I 1 3).toNat s) (f_T (A 1) (I 1 3).toNat v s) p) → (∀ k, k ≠ 4 → k ≠ 5 → k ≠ 6 → a k = a0 k) → (∀ j, -2 ≤ a 6 j ∧ a 6 j ≤ 100000) → V S 0 0 h sz 29 [some (.ref (O 5)), some (.ref (O 1)), some (.ref ol), some (.int (zI v)), some (.int (zI x)), x5] [] := by
  have hc := M.2.2.2.1
  have ho : s_own S = RX5 := M.2.2.1
  have hFr : (s_R S).frames = 7 := by rw [M.2.2.2.2.2.2.2.1]
  have hLo : (s_R S).locals = 170 := by rw [M.2.2.2.2.2.2.2.1]
  have hCe : (s_R S).cells = 1 := by rw [M.2.2.2.2.2.2.2.1]
  have hSl : (s_R S).slots = w := by rw [M.2.2.2.2.2.2.2.1]
  intro d
  induction d using Nat.strongRecOn with
  | ind d ih =>
    intro h a x x5 hd h0 h1 hO hfr hd4 hd5 hE h6
    have hG : s_G S = G := M.2.1
    subst hG
    have hi := hO.2.2.2.1
    have ha := hO.2.2.2.2
    have hpl := hPB.keptB hWB hfr
    obtain ⟨mc, hjo, -⟩ := id hpl.1
    have hIs := hFI.1
    have hTb : ∀ s : Nat, 0 ≤ f_T (A 1) (I 1 3).toNat v s ∧ f_T (A 1) (I 1 3).toNat v s ≤ 100000 := fun s => f_T_bd hFI.2.2.1 (by omega) hv.1 s
    refine v_iload hc dX5_prepare_29 rfl ?_
    refine v_aload_n hc dX5_prepare_31 rfl ?_
    refine r_get hc ho dX5_prepare_32 F_X5_49 hO rfl ?_
    refine z_icmp_ge (tgt := 85) hc dX5_prepare_35 (by decide) (by first | assumption | exact hi _ | exact ha _ _ | (unfold zb; omega)) (by first | assumption | exact hi _ | exact ha _ _ | (unfold zb; omega)) (fun c_1 => ?_) (fun c_1 => ?_)
    · exact P85 h a x _ hO hfr (fun s hs => hd4 s (by omega)) (fun s p hs hp => hd5 s p (by omega) hp) hE h6 (by omega)
    · have hOf := hWB.fiB hfr
      have hFlt : (f_F (A 1 2) (I 1 3).toNat x) < (I 1 3).toNat := (f_F_ct (A 1 2) (I 1 3).toNat h0).mpr (by omega)
      have hFn := f_F_nx hFlt
      have hFm := f_F_mono (A 1 2) (I 1 3).toNat h0
      have hFb := f_F_bd (A 1 2) (I 1 3).toNat (x + 1)
      have hLb := f_L_bd (c := A 1 2) (n := (I 1 3).toNat) (x := (f_F (A 1 2) (I 1 3).toNat x) + 1) (by omega)
      have hx9 : ((x.toNat : Nat) : Int) = x := by omega
      refine v_aload_n hc dX5_prepare_38 rfl ?_
      refine v_iload hc dX5_prepare_39 rfl ?_
      refine v_callV (As := [.int (zI x)]) hc ho dX5_prepare_41 KV_X5_59 KB_X1_firstShot hOf.1 rfl rfl (c_X1_firstShot _ _ hOf hFI (s := x) (by unfold zb; omega)) rfl (Nat.le_of_ble_eq_true rfl) ⟨by omega, by omega⟩ ⟨by omega, by omega⟩ (fun r_ h_ sz_ q_ z_ => ?_)
      obtain ⟨rfl, eh_, es_⟩ := q_
      have eh_ := eh_.symm
      subst eh_
      have es_ := es_.symm
      subst es_
      rw [if_pos hFlt]
      refine v_istore hc dX5_prepare_44 (Nat.le_of_ble_eq_true rfl) ?_
      refine v_aload_n hc dX5_prepare_46 rfl ?_
      refine r_getA hc ho dX5_prepare_47 F_X5_18 hO rfl ?_
      refine v_iload hc dX5_prepare_50 rfl ?_
      refine v_aload_n hc dX5_prepare_52 rfl ?_
      refine v_iload hc dX5_prepare_53 rfl ?_
      refine v_aload_n hc dX5_prepare_55 rfl ?_
      refine v_iload hc dX5_prepare_56 rfl ?_
      refine v_callV (As := [.int (zI ((f_F (A 1 2) (I 1 3).toNat x) : Int))]) hc ho dX5_prepare_58 KV_X5_63 KB_X1_lastShot hOf.1 rfl rfl (c_X1_lastShot _ _ hOf hFI (s := ((f_F (A 1 2) (I 1 3).toNat x) : Int)) (by omega)) rfl (Nat.le_of_ble_eq_true rfl) ⟨by omega, by omega⟩ ⟨by omega, by omega⟩ (fun r_ h_ sz_ q_ z_ => ?_)
      obtain ⟨rfl, eh_, es_⟩ := q_
      have eh_ := eh_.symm
      subst eh_
      have es_ := es_.symm
      subst es_
      rw [Int.toNat_natCast, hFn]
      refine v_iload_n hc dX5_prepare_61 rfl ?_
      refine v_callV (As := [.int (zI ((f_F (A 1 2) (I 1 3).toNat x) : Int)), .int (zI ((f_F (A 1 2) (I 1 3).toNat (x + 1) : Int) - 1)), .int (zI v)]) hc ho dX5_prepare_62 KV_X5_66 KB_X1_tenthsFrom hOf.1 rfl rfl (c_X1_tenthsFrom _ _ hOf hFI (s := ((f_F (A 1 2) (I 1 3).toNat x) : Int)) (t := (f_F (A 1 2) (I 1 3).toNat (x + 1) : Int) - 1) (v := v) (by omega) hv) rfl (Nat.le_of_ble_eq_true rfl) ⟨by omega, by omega⟩ ⟨by omega, by omega⟩ (fun r_ h_ sz_ q_ z_ => ?_)
      obtain ⟨rfl, eh_, es_⟩ := q_
      have eh_ := eh_.symm
      subst eh_
      have es_ := es_.symm
      subst es_
      have hTe : ((f_sm (A 1 0) ((f_F (A 1 2) (I 1 3).toNat (x + 1) : Int) - 1 + 1).toNat - f_sm (A 1 0) (((f_F (A 1 2) (I 1 3).toNat x) : Int)).toNat) * 10).tdiv v = (f_T (A 1) (I 1 3).toNat v x.toNat) := by
        rw [f_T, hx9, Int.toNat_natCast, show ((f_F (A 1 2) (I 1 3).toNat (x + 1) : Int) - 1 + 1).toNat = f_F (A 1 2) (I 1 3).toNat (x + 1) by omega]
      rw [hTe]
      have hTx := hTb x.toNat
      refine r_iastf hc dX5_prepare_65 hO hfr 4 rfl (by decide) (by omega) (by omega) (by first | assumption | exact hi _ | exact ha _ _ | (unfold zb; omega)) (fun h a_2 g_2 k_2 hO hfr => ?_)
      have ha := hO.2.2.2.2
      have ha := hO.2.2.2.2
      have hOf := hWB.fiB hfr
      refine v_aload_n hc dX5_prepare_66 rfl ?_
      refine v_iload hc dX5_prepare_67 rfl ?_
      refine v_aload_n hc dX5_prepare_69 rfl ?_
      refine v_iload hc dX5_prepare_70 rfl ?_
      refine v_callV (As := [.int (zI ((f_F (A 1 2) (I 1 3).toNat x) : Int))]) hc ho dX5_prepare_72 KV_X5_70 KB_X1_moodOf hOf.1 rfl rfl (c_X1_moodOf _ _ hOf hFI (s := ((f_F (A 1 2) (I 1 3).toNat x) : Int)) (by unfold zb; omega)) rfl (Nat.le_of_ble_eq_true rfl) ⟨by omega, by omega⟩ ⟨by omega, by omega⟩ (fun r_ h_ sz_ q_ z_ => ?_)
      obtain ⟨rfl, eh_, es_⟩ := q_
      have eh_ := eh_.symm
      subst eh_
      have es_ := es_.symm
      subst es_
      rw [if_pos (show 0 ≤ ((f_F (A 1 2) (I 1 3).toNat x) : Int) ∧ ((f_F (A 1 2) (I 1 3).toNat x) : Int) ≤ I 1 3 - 1 by omega), show A 1 1 (((f_F (A 1 2) (I 1 3).toNat x) : Int)).toNat = (f_m (A 1) (I 1 3).toNat x.toNat) by rw [f_m, hx9, Int.toNat_natCast]]
      have hmo : 0 ≤ (f_m (A 1) (I 1 3).toNat x.toNat) ∧ (f_m (A 1) (I 1 3).toNat x.toNat) ≤ 5 := hFI.2.2.2 _
      have hW5 := hWB.put (t := 5) x_is_5 hO hfr
      have hPl5 := hPB.keptB hWB hfr
      have hat5 : a_2 4 x.toNat = (f_T (A 1) (I 1 3).toNat v x.toNat) := by rw [g_2, b_up_eq]
      refine v_aload_n hc dX5_prepare_75 rfl ?_
      refine v_callV (As := [.int (zI x), .int (zI (f_m (A 1) (I 1 3).toNat x.toNat)), .ref ol]) hc ho dX5_prepare_76 KV_X5_73 KB_X5_fitPieces hO.1 rfl rfl (c_X5_fitPieces _ _ hW5 hPl5 (fun p hp => by rw [x_up20, x_up20]; exact hJP p hp) (fun p hp => by rw [x_up20]; exact hkey p hp) (fun p hp => by rw [x_up20]; exact hth p hp) hn12 hO (s := x) (mo := (f_m (A 1) (I 1 3).toNat x.toNat)) (by omega) hmo (by rw [hat5]; exact hTb x.toNat) (by omega)) rfl (Nat.le_of_ble_eq_true rfl) ⟨by omega, by omega⟩ ⟨by omega, by omega⟩ (fun r_ h_ sz_ q_ z_ => ?_)
      obtain ⟨e1_, i3, a3, ⟨rfl, e3_, hD3, hE3, hO3⟩, hOx, hfr3⟩ := q_
      have e1_ := e1_.symm
      subst e1_
      have e3_ := e3_.symm
      subst e3_
      refine z_iinc hc dX5_prepare_79 rfl ?_
      refine v_goto (tgt := 29) hc dX5_prepare_82 (by decide) ?_
      refine ih _ (by omega) h_ a3 _ _ rfl (by omega) (by omega) hOx (fun b hb => (hfr3 b hb).trans (hfr b hb)) (fun s hs => ?_) (fun s p hs hp => ?_) (fun k k4 k5 k6 => ?_) (fun j => ?_)
      · rw [hE3 4 (by decide) (by decide), g_2]
        by_cases e : s = x.toNat
        · rw [e, b_up_eq]
        · rw [b_up_ne _ _ e]; exact hd4 s (by omega)
      · by_cases e : s = x.toNat
        · have := hD3 p (by omega)
          rw [c_fb_up, c_fm_up, hat5] at this
          rw [e]; exact this
        · obtain ⟨q5, q6⟩ := hO3 (s * 12 + p) (by omega)
          rw [q5, q6, k_2 5 (by decide), k_2 6 (by decide)]
          exact hd5 s p (by omega) hp
      · rw [hE3 k k5 k6, k_2 k k4]; exact hE k k4 k5 k6
      · by_cases e : x.toNat * 12 ≤ j ∧ (j : Int) < x * 12 + n
        · have := (hD3 (j - x.toNat * 12) (by omega)).2
          rw [show x.toNat * 12 + (j - x.toNat * 12) = j by omega, c_fm_up, hat5] at this
          rw [this]
          exact (c_fm_bd (hJP _ (by omega)) (hTb x.toNat)).1
        · obtain ⟨q5, q6⟩ := hO3 j e
          rw [q6, k_2 6 (by decide)]
          exact h6 j
set_option maxHeartbeats 4000000 in
theorem c_X5_prepare (l : Launch) (G : b_G) {h : b_H} {sz : Nat} {lb : Nat → Nat} {L n : Nat} {O : Nat → Nat} {D : Nat → Nat → Nat} {I : Nat → Nat → Int} {A : Nat → Nat → Nat → Int} {ol al : Nat} (hWB : x_W lb L n O D I A h) (hPB : p_L G lb n O ol al h) (hJP : ∀ p, p < n → q_J (I (p + 20)) (A (p + 20))) (hkey : ∀ p, p < n → 0 ≤ I (p + 20) 0 ∧ I (p + 20) 0 ≤ 11) (hth : ∀ p, p < n → I (p + 20) 2 = 0 ∨ I (p + 20) 2 = 1) (hn12 : n ≤ 12) (hFI : f_I (I 1) (A 1)) (hcT : c_T L (I 5) (A 5)) {v : Int} (hv : 12 ≤ v ∧ v ≤ 30) {St : Nat} (hSt : f_ct (A 1 2) (I 1 3).toNat = (St : Int)) (hSt8 : St ≤ 8) {w : Nat} (hw : (L : Int) < c_zz I A v St n → max (c_zz I A v St n) (2 * (L : Int)) ≤ w) : Con l G yX5_prepare cX5_prepare 6 none 7 170 1 w [.ref (O 5), .ref (O 1), .ref ol, .int (zI v)] h sz (fun r h2 s2 => r = none ∧ ∃ (L2 : Nat) (d2 : Nat → Nat) (i2 : Nat → Int) (a2 : Nat → Nat → Int), ((c_zz I A v St n ≤ (L : Int) ∧ s2 = sz ∧ L2 = L ∧ d2 = D 5) ∨ ((L : Int) < c_zz I A v St n ∧ s2 = sz + 1 ∧ L2 = (max (c_zz I A v St n) (2 * (L : Int))).toNat ∧ d2 = b_up (D 5) 12 sz)) ∧ r_O (K5 L2) 5 (O 5) d2 i2 a2 h2 ∧ c_R I A v St n (I 5) i2 a2 ∧ c_I L2 i2 a2 ∧ c_K L2 i2 a2 ∧ ∀ b, ¬ r_own (K5 L) (O 5) (D 5) b → b < sz → h2 b = h b) := by
  refine Con.ofK (by decide +kernel) rfl rfl ?_
  intro S M
  have hc := M.2.2.2.1
  have ho : s_own S = RX5 := M.2.2.1
  have hFr : (s_R S).frames = 7 := by rw [M.2.2.2.2.2.2.2.1]
  have hLo : (s_R S).locals = 170 := by rw [M.2.2.2.2.2.2.2.1]
  have hCe : (s_R S).cells = 1 := by rw [M.2.2.2.2.2.2.2.1]
  have hSl : (s_R S).slots = w := by rw [M.2.2.2.2.2.2.2.1]
  have hG : s_G S = G := M.2.1
  subst hG
  have hO := (hWB 5 x_is_5).1
  change r_O (K5 L) 5 (O 5) (D 5) (I 5) (A 5) h at hO
  have hOf := (hWB 1 x_is_1).1
  change r_O K1 1 (O 1) (D 1) (I 1) (A 1) h at hOf
  have hfr : ∀ b, ¬ r_own (K5 L) (O 5) (D 5) b → h b = h b := fun _ _ => rfl
  have hi := hO.2.2.2.1
  obtain ⟨mc, hjo, -⟩ := id hPB.1
  obtain ⟨hc0, hc1, hc11, hc6, hc7, hc12, hcL⟩ := id hcT
  have hIs := hFI.1
  have hTb : ∀ s : Nat, 0 ≤ f_T (A 1) (I 1 3).toNat v s ∧ f_T (A 1) (I 1 3).toNat v s ≤ 100000 := fun s => f_T_bd hFI.2.2.1 (by omega) hv.1 s
  refine v_aload_n hc dX5_prepare_0 rfl ?_
  refine v_aload_n hc dX5_prepare_1 rfl ?_
  refine v_callV (As := []) hc ho dX5_prepare_2 KV_X5_37 KB_X1_stretchCount hOf.1 rfl rfl (c_X1_stretchCount _ _ hOf hFI) rfl (Nat.le_of_ble_eq_true rfl) ⟨by omega, by omega⟩ ⟨by omega, by omega⟩ (fun r_ h_ sz_ q_ z_ => ?_)
  obtain ⟨rfl, eh_, es_⟩ := q_
  have eh_ := eh_.symm
  subst eh_
  have es_ := es_.symm
  subst es_
  have hctb := f_ct_bd (A 1 2) (I 1 3).toNat
  refine z_bipush hc dX5_prepare_5 (by decide) ?_
  refine z_min hc ho dX5_prepare_7 MM_X5_43 (by first | assumption | exact hi _ | exact ha _ _ | (unfold zb; omega)) (by first | assumption | exact hi _ | exact ha _ _ | (unfold zb; omega)) (by omega) (by rw [hLo]; exact Nat.le_of_ble_eq_true rfl) (by omega) (by omega) ?_
  refine r_putIf hc ho dX5_prepare_10 F_X5_49 hO hfr rfl (by first | assumption | exact hi _ | exact ha _ _ | (unfold zb; omega)) (fun h i_1 g_1 k_1 hO hfr => ?_)
  have hi := hO.2.2.2.1
  refine v_aload_n hc dX5_prepare_13 rfl ?_
  have hpl := hPB.keptB hWB hfr
  obtain ⟨mc, hjo, -⟩ := id hpl.1
  refine v_aload_n hc dX5_prepare_14 rfl ?_
  refine v_callV (As := []) hc ho dX5_prepare_15 KV_X5_51 KB_Jx4a65c_size_8abf5 hjo rfl rfl (c_Jx4a65c_size_8abf5 _ _ hpl.1) rfl (Nat.le_of_ble_eq_true rfl) ⟨by omega, by omega⟩ ⟨by omega, by omega⟩ (fun r_ h_ sz_ q_ z_ => ?_)
  obtain ⟨rfl, eh_, es_⟩ := q_
  have eh_ := eh_.symm
  subst eh_
  have es_ := es_.symm
  subst es_
  refine z_bipush hc dX5_prepare_18 (by decide) ?_
  refine z_min hc ho dX5_prepare_20 MM_X5_43 (by first | assumption | exact hi _ | exact ha _ _ | (unfold zb; omega)) (by first | assumption | exact hi _ | exact ha _ _ | (unfold zb; omega)) (by omega) (by rw [hLo]; exact Nat.le_of_ble_eq_true rfl) (by omega) (by omega) ?_
  refine r_putIf hc ho dX5_prepare_23 F_X5_56 hO hfr rfl (by first | assumption | exact hi _ | exact ha _ _ | (unfold zb; omega)) (fun h i_2 g_2 k_2 hO hfr => ?_)
  have hi := hO.2.2.2.1
  refine z_iconst hc dX5_prepare_26 ?_
  refine v_istore hc dX5_prepare_27 (Nat.le_of_ble_eq_true rfl) ?_
  refine l_X5_prepare M hWB hPB hJP hkey hth hn12 (i := i_2) (a0 := A 5) hFI hv hSt hSt8 (by rw [k_2 2 (by decide), g_1]; omega) (by rw [g_2]; omega) (fun h1 a1 x1 x51 hO1 hfr1 hd4 hd5 hE1 h61 hx1 => ?_) _ h (A 5) _ _ rfl (by omega) (by omega) hO hfr (fun s hs => by omega) (fun s p hs hp => by omega) (fun _ _ _ _ => rfl) hc6
  have hp0 : i_2 0 = I 5 0 := (k_2 0 (by decide)).trans (k_1 0 (by decide))
  have hp1 : i_2 1 = I 5 1 := (k_2 1 (by decide)).trans (k_1 1 (by decide))
  have hp11 : i_2 11 = I 5 11 := (k_2 11 (by decide)).trans (k_1 11 (by decide))
  have hp2 : i_2 2 = (St : Int) := by rw [k_2 2 (by decide), g_1]; omega
  have hp3 : i_2 3 = (n : Int) := by rw [g_2]; omega
  refine v_aload_n hc dX5_prepare_85 rfl ?_
  refine v_aload_n hc dX5_prepare_86 rfl ?_
  refine v_callV (As := [.ref ol]) hc ho dX5_prepare_87 KV_X5_77 KB_X5_weighJoins hO1.1 rfl rfl (c_X5_weighJoins _ _ (hWB.put (t := 5) x_is_5 hO1 hfr1) (hPB.keptB hWB hfr1) (fun p hp => by rw [x_up20, x_up20]; exact hJP p hp) (fun p hp => by rw [x_up20]; exact hkey p hp) (fun p hp => by rw [x_up20]; exact hth p hp) hn12 hO1 (by omega) (by omega) (by omega) (by rw [hE1 7 (by decide) (by decide) (by decide)]; exact hc7)) rfl (Nat.le_of_ble_eq_true rfl) ⟨by omega, by omega⟩ ⟨by omega, by omega⟩ (fun r_ h_ sz_ q_ z_ => ?_)
  obtain ⟨e1_, i2, a2, ⟨rfl, e3_, hj2, hE2, h72⟩, hO2, hfr2⟩ := q_
  have e1_ := e1_.symm
  subst e1_
  have e3_ := e3_.symm
  subst e3_
  have hfr2 := fun b (hb : ¬ r_own (K5 L) (O 5) (D 5) b) => (hfr2 b hb).trans (hfr1 b hb)
  clear z_
  refine v_aload_n hc dX5_prepare_90 rfl ?_
  refine v_aload_n hc dX5_prepare_91 rfl ?_
  refine v_callV (As := [.ref ol]) hc ho dX5_prepare_92 KV_X5_81 KB_X5_shareBits hO2.1 rfl rfl (c_X5_shareBits _ _ (hWB.put (t := 5) x_is_5 hO2 hfr2) (hPB.keptB hWB hfr2) (fun p hp => by rw [x_up20, x_up20]; exact hJP p hp) (fun p hp => by rw [x_up20]; exact hkey p hp) (fun p hp => by rw [x_up20]; exact hth p hp) hn12 hO2 (by omega) (by omega)) rfl (Nat.le_of_ble_eq_true rfl) ⟨by omega, by omega⟩ ⟨by omega, by omega⟩ (fun r3_ h3_ sz3_ q_ z_ => ?_)
  obtain ⟨e1_, i3, a3, ⟨rfl, h93, h103, hEi3, hE3, h83⟩, hO3, hfr3⟩ := q_
  have e1_ := e1_.symm
  subst e1_
  have hfr3 := fun b (hb : ¬ r_own (K5 L) (O 5) (D 5) b) => (hfr3 b hb).trans (hfr2 b hb)
  clear z_
  rw [c_us_up] at h93
  rw [c_nt_up] at h103
  have hf2 := hEi3 2 (by decide) (by decide)
  have hf3 := hEi3 3 (by decide) (by decide)
  have hf11 := hEi3 11 (by decide) (by decide)
  have huz : ∀ p, p < n → c_us I (a2 5) (i_2 2).toNat p = c_uz I A v St p := fun p hp => by
    unfold c_us c_uz
    rw [hp2, Int.toNat_natCast]
    rw [w_an_cong (q := fun s : Nat => decide (¬ c_fb I A (f_m (A 1) (I 1 3).toNat s) (f_T (A 1) (I 1 3).toNat v s) p = -2)) (fun s hs => by rw [hE2 5 (by decide), (hd5 s p (by omega) hp).1])]
  rw [c_bn_cong (fun j hj => huz j (by omega))] at h93
  have hbn := c_bn_le (c_uz I A v St) n
  have hs93 : 1 ≤ i3 9 ∧ i3 9 ≤ 4096 := by rw [h93]; exact c_pw (by omega)
  have hcz : c_sz i3 = c_zz I A v St n := by
    unfold c_sz c_zz
    rw [h93, hf2, hp2, h103]
    rcases bI_or (c_nt I n = true) with q | q
    · rw [if_pos q.1, if_pos q.2]
    · rw [if_neg (by omega), if_neg q.2]
  have hzb : 0 ≤ c_sz i3 ∧ c_sz i3 ≤ 393216 := by
    have hy : (1 : Int) ≤ (if i3 10 = 1 then 1 else i3 2) ∨ (if i3 10 = 1 then 1 else i3 2) = i3 2 := by split; left; omega; right; rfl
    have hy2 : 0 ≤ (if i3 10 = 1 then 1 else i3 2) ∧ (if i3 10 = 1 then 1 else i3 2) ≤ 8 := by split <;> omega
    have hm : 0 ≤ (if i3 10 = 1 then 1 else i3 2) * i3 9 ∧ (if i3 10 = 1 then 1 else i3 2) * i3 9 ≤ 8 * 4096 := ⟨Int.mul_nonneg hy2.1 (by omega), Int.mul_le_mul hy2.2 (by omega) (by omega) (by omega)⟩
    unfold c_sz
    omega
  refine v_aload_n hc dX5_prepare_95 rfl ?_
  refine v_callV (As := []) hc ho dX5_prepare_96 KV_X5_84 KB_X5_makeRoom hO3.1 rfl rfl (c_X5_makeRoom _ _ hO3 (by omega) hs93 (by rw [h103]; exact bI_01 _) (by omega) hcL (w := w) (by rw [hcz]; exact hw)) rfl (Nat.le_of_ble_eq_true rfl) ⟨by omega, by omega⟩ ⟨by omega, by omega⟩ (fun r4_ h4_ sz4_ q_ z_ => ?_)
  obtain ⟨rfl, i4, g11, gck, hq4⟩ := q_
  refine v_vret M dX5_prepare_99 (by omega) (by omega) ?_
  have hck : ∀ k, k ≠ 9 → k ≠ 10 → k ≠ 11 → i4 k = i_2 k := fun k k9 k10 k11 => (gck k k11).trans (hEi3 k k9 k10)
  have hR4 : ∀ a4 : Nat → Nat → Int, (∀ k, k ≠ 12 → a4 k = a3 k) → c_R I A v St n (I 5) i4 a4 := fun a4 h4 => by
    refine ⟨by rw [hck 0 (by decide) (by decide) (by decide)]; exact hp0, by rw [hck 1 (by decide) (by decide) (by decide)]; exact hp1, by rw [hck 2 (by decide) (by decide) (by decide)]; exact hp2, by rw [hck 3 (by decide) (by decide) (by decide)]; exact hp3, by rw [gck 9 (by decide)]; exact h93, by rw [gck 10 (by decide)]; exact h103, by omega, fun s hs => ?_, fun s p hs hp => ?_, fun p q hp hq => ?_, fun p hp => ?_⟩
    · rw [h4 4 (by decide), hE3 4 (by decide), hE2 4 (by decide)]; exact hd4 s (by omega)
    · rw [h4 5 (by decide), h4 6 (by decide), hE3 5 (by decide), hE3 6 (by decide), hE2 5 (by decide), hE2 6 (by decide)]; exact hd5 s p (by omega) hp
    · rw [h4 7 (by decide), hE3 7 (by decide), hj2 p q hp hq, c_jc_up, hp0, hp1]
    · rw [h4 8 (by decide), h83 p hp, c_us_up, huz p hp, c_bn_cong (fun j hj => huz j (by omega))]
  have hI4 : ∀ (L4 : Nat) (a4 : Nat → Nat → Int), (∀ k, k ≠ 12 → a4 k = a3 k) → (∀ j, 0 ≤ a4 12 j ∧ a4 12 j < i4 11 * 1048576) → L4 ≤ 1000000 → c_I L4 i4 a4 ∧ c_K L4 i4 a4 := fun L4 a4 h4 h12 hL4 => by
    refine ⟨c_I_R (hR4 a4 h4) hSt8 hn12 (by rw [h4 6 (by decide), hE3 6 (by decide), hE2 6 (by decide)]; exact h61) (by rw [h4 7 (by decide), hE3 7 (by decide)]; exact h72) (by omega) (fun j => by have := h12 j; omega) hL4 hJP hTb, fun s u t q1 q2 q3 q4 q5 q6 q7 => ?_⟩
    have := h12 (c_pl i4 s u t).toNat
    omega
  have h12a : ∀ j, 0 ≤ a3 12 j ∧ a3 12 j < i4 11 * 1048576 := by rw [hE3 12 (by decide), hE2 12 (by decide), hE1 12 (by decide) (by decide) (by decide), g11, hf11, hp11]; exact hc12
  rcases hq4 with ⟨u1, u2, u3, u4⟩ | ⟨u1, u2, u3, u4⟩
  · exact ⟨rfl, L, D 5, i4, a3, Or.inl ⟨by rw [← hcz]; exact u1, u2, rfl, rfl⟩, u3, hR4 a3 (fun _ _ => rfl), (hI4 L a3 (fun _ _ => rfl) h12a hcL).1, (hI4 L a3 (fun _ _ => rfl) h12a hcL).2, fun b q1 _ => (u4 b q1).trans (hfr3 b q1)⟩
  · have hzz := hzb
    have hx := hI4 (max (c_sz i3) (2 * (L : Int))).toNat (b_up a3 12 (fun _ => 0)) (fun k hk => b_up_ne _ _ hk) (fun j => by rw [b_up_eq]; omega) (by omega)
    refine ⟨rfl, (max (c_sz i3) (2 * (L : Int))).toNat, b_up (D 5) 12 sz, i4, b_up a3 12 (fun _ => 0), Or.inr ⟨by rw [← hcz]; exact u1, u2, by rw [← hcz], rfl⟩, u3, hR4 _ (fun k hk => b_up_ne _ _ hk), hx.1, hx.2, fun b q1 q2 => (u4 b q1 (by omega)).trans (hfr3 b q1)⟩
