/-! the JDK's methods: floorMod, checkIndex, fill, lists -/
theorem j_xs {x : Int} (h0 : -100 ≤ x) (h1 : x ≤ 100) : (0 ≤ d_xo x 12 ↔ 0 ≤ x) ∧ (x < 0 → ¬ x.tmod 12 = 0 → x.tmod 12 + 12 = x % 12) ∧ (0 ≤ x ∨ x.tmod 12 = 0 → x.tmod 12 = x % 12) := by
  have key : ∀ k : Fin 201, (0 ≤ d_xo ((k.val : Int) - 100) 12 ↔ 0 ≤ (k.val : Int) - 100) ∧ ((k.val : Int) - 100 < 0 → ¬ ((k.val : Int) - 100).tmod 12 = 0 → ((k.val : Int) - 100).tmod 12 + 12 = ((k.val : Int) - 100) % 12) ∧ (0 ≤ (k.val : Int) - 100 ∨ ((k.val : Int) - 100).tmod 12 = 0 → ((k.val : Int) - 100).tmod 12 = ((k.val : Int) - 100) % 12) := by decide +kernel
  have := key ⟨(x + 100).toNat, by omega⟩
  rw [show (((⟨(x + 100).toNat, by omega⟩ : Fin 201).val : Nat) : Int) - 100 = x by show (((x + 100).toNat : Nat) : Int) - 100 = x; omega] at this
  exact this
/-- a list: its object at o, its array at ad (the empty one of the class where nothing was added), n elements e -/
def j_L (G : b_G) (o ad n : Nat) (e : Nat → Nat) (h : b_H) : Prop := ∃ mc : Int, h o = some (b_ob 8 [.int (zI mc), .ref ad, .int (zI n)]) ∧ n < 1000 ∧ ((n = 0 ∧ ad = G.2.2.1) ∨ ∃ (cap : Nat) (f : Nat → Option Nat), h ad = some (b_qA cap f) ∧ ad ≠ o ∧ 0 < cap ∧ n ≤ cap ∧ cap < 1000 ∧ ∀ j, j < n → f j = some (e j))
theorem j_L.kept {G : b_G} {o ad n : Nat} {e : Nat → Nat} {h h1 : b_H} (hL : j_L G o ad n e h) (h0 : h1 o = h o) (h2 : n ≠ 0 ∨ h ad ≠ none → h1 ad = h ad) : j_L G o ad n e h1 := by
  obtain ⟨mc, q1, q2, q3⟩ := hL
  refine ⟨mc, h0.trans q1, q2, ?_⟩
  rcases q3 with q | ⟨cap, f, g1, g2⟩
  · exact Or.inl q
  · exact Or.inr ⟨cap, f, (h2 (Or.inr (by rw [g1]; exact fun e => by cases e))).trans g1, g2⟩
theorem j_L.cong {G : b_G} {o ad n : Nat} {e e1 : Nat → Nat} {h : b_H} (hL : j_L G o ad n e h) (h0 : ∀ j, j < n → e1 j = e j) : j_L G o ad n e1 h := by
  obtain ⟨mc, q1, q2, q3⟩ := hL
  refine ⟨mc, q1, q2, ?_⟩
  rcases q3 with q | ⟨cap, f, g1, g2, g3, g4, g5, g6⟩
  · exact Or.inl q
  · exact Or.inr ⟨cap, f, g1, g2, g3, g4, g5, fun j hj => by rw [g6 j hj, h0 j hj]⟩

set_option maxHeartbeats 4000000 in
theorem c_J9_floorMod_7cf53 (l : Launch) (G : b_G) {h : b_H} {sz : Nat} {x : Int} (hx : -100 ≤ x ∧ x ≤ 100) : Con l G yJ9_floorMod_7cf53 cJ9_floorMod_7cf53 3 (some .int) 0 0 0 0 [.int (zI x), .int (zI 12)] h sz (p_ro (some (.int (zI (x % 12)))) h sz) := by
  refine Con.ofK (by decide +kernel) rfl rfl ?_
  intro S M
  have hc := M.2.2.2.1
  have ho : s_own S = RJ9 := M.2.2.1
  have hFr : (s_R S).frames = 0 := by rw [M.2.2.2.2.2.2.2.1]
  have hLo : (s_R S).locals = 0 := by rw [M.2.2.2.2.2.2.2.1]
  have hCe : (s_R S).cells = 0 := by rw [M.2.2.2.2.2.2.2.1]
  have hSl : (s_R S).slots = 0 := by rw [M.2.2.2.2.2.2.2.1]
  refine v_iload_n hc dJ9_floorMod_7cf53_0 rfl ?_
  refine v_iload_n hc dJ9_floorMod_7cf53_1 rfl ?_
  refine z_irem hc dJ9_floorMod_7cf53_2 (by first | assumption | (unfold zb; omega)) (by first | assumption | (unfold zb; omega)) (by omega) ?_
  refine v_istore_n hc dJ9_floorMod_7cf53_3 (Nat.le_of_ble_eq_true rfl) ?_
  refine v_iload_n hc dJ9_floorMod_7cf53_4 rfl ?_
  refine v_iload_n hc dJ9_floorMod_7cf53_5 rfl ?_
  refine v_ixor hc dJ9_floorMod_7cf53_6 (zI_of _) ?_
  have hzx : zb (d_xo x 12) := zb_of _
  have hk := j_xs hx.1 hx.2
  have htm : -12 < x.tmod 12 ∧ x.tmod 12 < 12 := by have := Int.tmod_lt_of_pos x (b := 12) (by omega); have := Int.lt_tmod_of_pos x (b := 12) (by omega); omega
  change V _ _ _ _ _ _ _ (.int (zI (d_xo x 12)) :: _)
  generalize d_xo x 12 = u at hzx hk ⊢
  refine z_if_ge (tgt := 18) hc dJ9_floorMod_7cf53_7 (by decide) (by first | assumption | (unfold zb; omega)) (fun c_1 => ?_) (fun c_1 => ?_)
  · refine v_iload_n hc dJ9_floorMod_7cf53_18 rfl ?_
    refine z_iret M dJ9_floorMod_7cf53_19 (by omega) (by omega) ?_
    exact ⟨by rw [hk.2.2 (by omega)], rfl, rfl⟩
  · refine v_iload_n hc dJ9_floorMod_7cf53_10 rfl ?_
    refine z_if_eq (tgt := 18) hc dJ9_floorMod_7cf53_11 (by decide) (by first | assumption | (unfold zb; omega)) (fun c_2 => ?_) (fun c_2 => ?_)
    · refine v_iload_n hc dJ9_floorMod_7cf53_18 rfl ?_
      refine z_iret M dJ9_floorMod_7cf53_19 (by omega) (by omega) ?_
      exact ⟨by rw [hk.2.2 (by omega)], rfl, rfl⟩
    · refine v_iload_n hc dJ9_floorMod_7cf53_14 rfl ?_
      refine v_iload_n hc dJ9_floorMod_7cf53_15 rfl ?_
      refine z_iadd hc dJ9_floorMod_7cf53_16 ?_
      refine z_iret M dJ9_floorMod_7cf53_17 (by omega) (by omega) ?_
      exact ⟨by rw [hk.2.1 (by omega) (by omega)], rfl, rfl⟩
set_option maxHeartbeats 4000000 in
theorem c_J3_checkIndex_8e157 (l : Launch) (G : b_G) {h : b_H} {sz : Nat} {x y : Int} (hx : 0 ≤ x ∧ x < y ∧ y < 2147483648) : Con l G yJ3_checkIndex_8e157 cJ3_checkIndex_8e157 3 (some .int) 0 0 0 0 [.int (zI x), .int (zI y), .null] h sz (p_ro (some (.int (zI x))) h sz) := by
  refine Con.ofK (by decide +kernel) rfl rfl ?_
  intro S M
  have hc := M.2.2.2.1
  have ho : s_own S = RJ3 := M.2.2.1
  have hFr : (s_R S).frames = 0 := by rw [M.2.2.2.2.2.2.2.1]
  have hLo : (s_R S).locals = 0 := by rw [M.2.2.2.2.2.2.2.1]
  have hCe : (s_R S).cells = 0 := by rw [M.2.2.2.2.2.2.2.1]
  have hSl : (s_R S).slots = 0 := by rw [M.2.2.2.2.2.2.2.1]
  refine v_iload_n hc dJ3_checkIndex_8e157_0 rfl ?_
  refine z_if_lt (tgt := 9) hc dJ3_checkIndex_8e157_1 (by decide) (by first | assumption | exact hi _ | exact ha _ _ | (unfold zb; omega)) (fun c_1 => absurd c_1 (by omega)) (fun c_1 => ?_)
  refine v_iload_n hc dJ3_checkIndex_8e157_4 rfl ?_
  refine v_iload_n hc dJ3_checkIndex_8e157_5 rfl ?_
  refine z_icmp_lt (tgt := 16) hc dJ3_checkIndex_8e157_6 (by decide) (by first | assumption | exact hi _ | exact ha _ _ | (unfold zb; omega)) (by first | assumption | exact hi _ | exact ha _ _ | (unfold zb; omega)) (fun c_2 => ?_) (fun c_2 => absurd c_2 (by omega))
  refine v_iload_n hc dJ3_checkIndex_8e157_16 rfl ?_
  refine z_iret M dJ3_checkIndex_8e157_17 (by omega) (by omega) ?_
  exact ⟨rfl, rfl, rfl⟩
set_option maxHeartbeats 4000000 in
theorem c_J15_checkIndex_7cf53 (l : Launch) (G : b_G) {h : b_H} {sz : Nat} {x y : Int} (hx : 0 ≤ x ∧ x < y ∧ y < 2147483648) : Con l G yJ15_checkIndex_7cf53 cJ15_checkIndex_7cf53 2 (some .int) 1 22 0 0 [.int (zI x), .int (zI y)] h sz (p_ro (some (.int (zI x))) h sz) := by
  refine Con.ofK (by decide +kernel) rfl rfl ?_
  intro S M
  have hc := M.2.2.2.1
  have ho : s_own S = RJ15 := M.2.2.1
  have hFr : (s_R S).frames = 1 := by rw [M.2.2.2.2.2.2.2.1]
  have hLo : (s_R S).locals = 22 := by rw [M.2.2.2.2.2.2.2.1]
  have hCe : (s_R S).cells = 0 := by rw [M.2.2.2.2.2.2.2.1]
  have hSl : (s_R S).slots = 0 := by rw [M.2.2.2.2.2.2.2.1]
  refine v_iload_n hc dJ15_checkIndex_7cf53_0 rfl ?_
  refine v_iload_n hc dJ15_checkIndex_7cf53_1 rfl ?_
  refine v_null hc dJ15_checkIndex_7cf53_2 ?_
  refine v_callS (As := [.int (zI x), .int (zI y), .null]) hc ho dJ15_checkIndex_7cf53_3 KS_J15_105 KB_J3_checkIndex_8e157 (c_J3_checkIndex_8e157 _ _ (x := x) (y := y) hx) rfl (Nat.le_of_ble_eq_true rfl) ⟨by omega, by omega⟩ ⟨by omega, by omega⟩ (fun r_ h_ sz_ q_ z_ => ?_)
  obtain ⟨rfl, eh_, es_⟩ := q_
  have eh_ := eh_.symm
  subst eh_
  have es_ := es_.symm
  subst es_
  refine z_iret M dJ15_checkIndex_7cf53_6 (by omega) (by omega) ?_
  exact ⟨rfl, rfl, rfl⟩
set_option maxHeartbeats 4000000 in
theorem l_J7_fill {S : b_S} {l : Launch} {G : b_G} {hB : b_H} {sz : Nat} {post : Option Value → b_H → Nat → Prop} (M : b_M S l G RJ7 cJ7_fill_53178 4 none "fill" 0 0 0 0 hB sz post) {a N : Nat} {v : Int} {f0 : Nat → Int} (hN : N < 2147483648) (P : ∀ (h : b_H), h a = some (b_iA N (fun j : Nat => if (j : Int) < (N : Int) then v else f0 j)) → (∀ b, b ≠ a → h b = hB b) → post none h sz) : ∀ (d : Nat) (h : b_H) (x : Int), (((N : Int) - x).toNat = d) → (0 ≤ x) → (x ≤ N) → (h a = some (b_iA N (fun j : Nat => if (j : Int) < x then v else f0 j))) → (∀ b, b ≠ a → h b = hB b) → V S 0 0 h sz 5 [some (.ref a), some (.int (zI v)), some (.int (zI x)), some (.int (zI N))] [] := by
  have hc := M.2.2.2.1
  have ho : s_own S = RJ7 := M.2.2.1
  have hFr : (s_R S).frames = 0 := by rw [M.2.2.2.2.2.2.2.1]
  have hLo : (s_R S).locals = 0 := by rw [M.2.2.2.2.2.2.2.1]
  have hCe : (s_R S).cells = 0 := by rw [M.2.2.2.2.2.2.2.1]
  have hSl : (s_R S).slots = 0 := by rw [M.2.2.2.2.2.2.2.1]
  intro d
  induction d using Nat.strongRecOn with
  | ind d ih =>
    intro h x hd h0 h1 hA hfr
    refine v_iload_n hc dJ7_fill_53178_5 rfl ?_
    refine v_iload_n hc dJ7_fill_53178_6 rfl ?_
    refine z_icmp_ge (tgt := 20) hc dJ7_fill_53178_7 (by decide) (by first | assumption | exact hi _ | exact ha _ _ | (unfold zb; omega)) (by first | assumption | exact hi _ | exact ha _ _ | (unfold zb; omega)) (fun c_1 => ?_) (fun c_1 => ?_)
    · refine v_vret M dJ7_fill_53178_20 (by omega) (by omega) ?_
      exact P h (by rw [show x = N by omega] at hA; exact hA) hfr
    · refine v_aload_n hc dJ7_fill_53178_10 rfl ?_
      refine v_iload_n hc dJ7_fill_53178_11 rfl ?_
      refine v_iload_n hc dJ7_fill_53178_12 rfl ?_
      refine x_iast hc dJ7_fill_53178_13 hA (by omega) (by omega) (by omega) (fun h' e1 e2 => ?_)
      refine z_iinc hc dJ7_fill_53178_14 rfl ?_
      refine v_goto (tgt := 5) hc dJ7_fill_53178_17 (by decide) ?_
      refine ih _ (by omega) h' _ rfl (by omega) (by omega) (e1.trans ?_) (fun b hb => (e2 b hb).trans (hfr b hb))
      have : b_up (fun j : Nat => if (j : Int) < x then v else f0 j) x.toNat v = (fun j : Nat => if (j : Int) < (x + 1) then v else f0 j) := by
        funext j
        by_cases q : j = x.toNat
        · rw [q, b_up_eq, if_pos (by omega)]
        · rw [b_up_ne _ _ q]
          by_cases q2 : (j : Int) < x
          · rw [if_pos q2, if_pos (by omega)]
          · rw [if_neg q2, if_neg (by omega)]
      rw [this]
set_option maxHeartbeats 4000000 in
theorem c_J7_fill_53178 (l : Launch) (G : b_G) {h : b_H} {sz : Nat} {a N : Nat} {v : Int} {f : Nat → Int} (hA : h a = some (b_iA N f)) (hN : N < 2147483648) : Con l G yJ7_fill_53178 cJ7_fill_53178 4 none 0 0 0 0 [.ref a, .int (zI v)] h sz (fun r h2 s2 => r = none ∧ s2 = sz ∧ h2 a = some (b_iA N (fun j => if (j : Int) < (N : Int) then v else f j)) ∧ ∀ b, b ≠ a → h2 b = h b) := by
  refine Con.ofK (by decide +kernel) rfl rfl ?_
  intro S M
  have hc := M.2.2.2.1
  have ho : s_own S = RJ7 := M.2.2.1
  have hFr : (s_R S).frames = 0 := by rw [M.2.2.2.2.2.2.2.1]
  have hLo : (s_R S).locals = 0 := by rw [M.2.2.2.2.2.2.2.1]
  have hCe : (s_R S).cells = 0 := by rw [M.2.2.2.2.2.2.2.1]
  have hSl : (s_R S).slots = 0 := by rw [M.2.2.2.2.2.2.2.1]
  refine z_iconst hc dJ7_fill_53178_0 ?_
  refine v_istore_n hc dJ7_fill_53178_1 (Nat.le_of_ble_eq_true rfl) ?_
  refine v_aload_n hc dJ7_fill_53178_2 rfl ?_
  refine z_ilen hc dJ7_fill_53178_3 hA ?_
  refine v_istore_n hc dJ7_fill_53178_4 (Nat.le_of_ble_eq_true rfl) ?_
  exact l_J7_fill M (f0 := f) hN (fun h2 g1 g2 => ⟨rfl, rfl, g1, g2⟩) _ h _ rfl (by omega) (by omega) (by rw [hA]; congr 2) (fun _ _ => rfl)
set_option maxHeartbeats 4000000 in
theorem c_Jx4a65c_size_8abf5 (l : Launch) (G : b_G) {h : b_H} {sz : Nat} {o ad n : Nat} {e : Nat → Nat} (hj : j_L G o ad n e h) : Con l G yJx4a65c_size_8abf5 cJx4a65c_size_8abf5 1 (some .int) 0 0 0 0 [.ref o] h sz (p_ro (some (.int (zI n))) h sz) := by
  refine Con.ofK (by decide +kernel) rfl rfl ?_
  intro S M
  have hc := M.2.2.2.1
  have ho : s_own S = RJx4a65c := M.2.2.1
  have hFr : (s_R S).frames = 0 := by rw [M.2.2.2.2.2.2.2.1]
  have hLo : (s_R S).locals = 0 := by rw [M.2.2.2.2.2.2.2.1]
  have hCe : (s_R S).cells = 0 := by rw [M.2.2.2.2.2.2.2.1]
  have hSl : (s_R S).slots = 0 := by rw [M.2.2.2.2.2.2.2.1]
  obtain ⟨mc, hL, hn, -⟩ := hj
  refine v_aload_n hc dJx4a65c_size_8abf5_0 rfl ?_
  refine v_get hc ho dJx4a65c_size_8abf5_1 F_Jx4a65c_48 hL rfl ?_
  refine z_iret M dJx4a65c_size_8abf5_4 (by omega) (by omega) ?_
  exact ⟨rfl, rfl, rfl⟩
set_option maxHeartbeats 4000000 in
theorem c_Jx4a65c_isEmpty_aae02 (l : Launch) (G : b_G) {h : b_H} {sz : Nat} {o ad n : Nat} {e : Nat → Nat} (hj : j_L G o ad n e h) : Con l G yJx4a65c_isEmpty_aae02 cJx4a65c_isEmpty_aae02 1 (some .boolean) 0 0 0 0 [.ref o] h sz (p_ro (some (.int (zI (bI (n = 0))))) h sz) := by
  refine Con.ofK (by decide +kernel) rfl rfl ?_
  intro S M
  have hc := M.2.2.2.1
  have ho : s_own S = RJx4a65c := M.2.2.1
  have hFr : (s_R S).frames = 0 := by rw [M.2.2.2.2.2.2.2.1]
  have hLo : (s_R S).locals = 0 := by rw [M.2.2.2.2.2.2.2.1]
  have hCe : (s_R S).cells = 0 := by rw [M.2.2.2.2.2.2.2.1]
  have hSl : (s_R S).slots = 0 := by rw [M.2.2.2.2.2.2.2.1]
  obtain ⟨mc, hL, hn, -⟩ := hj
  refine v_aload_n hc dJx4a65c_isEmpty_aae02_0 rfl ?_
  refine v_get hc ho dJx4a65c_isEmpty_aae02_1 F_Jx4a65c_48 hL rfl ?_
  refine z_if_ne (tgt := 11) hc dJx4a65c_isEmpty_aae02_4 (by decide) (by first | assumption | exact hi _ | exact ha _ _ | (unfold zb; omega)) (fun c_1 => ?_) (fun c_1 => ?_)
  · refine z_iconst hc dJx4a65c_isEmpty_aae02_11 ?_
    refine z_zret M (by omega) dJx4a65c_isEmpty_aae02_12 (by omega) (by omega) ?_
    first | exact ⟨by rw [bI, if_pos (by omega)], rfl, rfl⟩ | exact ⟨by rw [bI, if_neg (by omega)], rfl, rfl⟩
  · refine z_iconst hc dJx4a65c_isEmpty_aae02_7 ?_
    refine v_goto (tgt := 12) hc dJx4a65c_isEmpty_aae02_8 (by decide) ?_
    refine z_zret M (by omega) dJx4a65c_isEmpty_aae02_12 (by omega) (by omega) ?_
    first | exact ⟨by rw [bI, if_pos (by omega)], rfl, rfl⟩ | exact ⟨by rw [bI, if_neg (by omega)], rfl, rfl⟩
set_option maxHeartbeats 4000000 in
theorem c_Jx4a65c_elementData_915e3 (l : Launch) (G : b_G) {h : b_H} {sz : Nat} {o ad n : Nat} {e : Nat → Nat} {x : Int} (hj : j_L G o ad n e h) (hx : 0 ≤ x ∧ x < n) : Con l G yJx4a65c_elementData_915e3 cJx4a65c_elementData_915e3 2 (some (.object "java/lang/Object")) 0 0 0 0 [.ref o, .int (zI x)] h sz (p_ro (some (.ref (e x.toNat))) h sz) := by
  refine Con.ofK (by decide +kernel) rfl rfl ?_
  intro S M
  have hc := M.2.2.2.1
  have ho : s_own S = RJx4a65c := M.2.2.1
  have hFr : (s_R S).frames = 0 := by rw [M.2.2.2.2.2.2.2.1]
  have hLo : (s_R S).locals = 0 := by rw [M.2.2.2.2.2.2.2.1]
  have hCe : (s_R S).cells = 0 := by rw [M.2.2.2.2.2.2.2.1]
  have hSl : (s_R S).slots = 0 := by rw [M.2.2.2.2.2.2.2.1]
  obtain ⟨mc, hL, hn, hq⟩ := hj
  obtain ⟨cap, f, hA, g2, g3, g4, g5, g6⟩ : ∃ (cap : Nat) (f : Nat → Option Nat), h ad = some (b_qA cap f) ∧ ad ≠ o ∧ 0 < cap ∧ n ≤ cap ∧ cap < 1000 ∧ ∀ j, j < n → f j = some (e j) := by
    rcases hq with q | q
    · omega
    · exact q
  refine v_aload_n hc dJx4a65c_elementData_915e3_0 rfl ?_
  refine v_get hc ho dJx4a65c_elementData_915e3_1 F_Jx4a65c_9 hL rfl ?_
  refine v_iload_n hc dJx4a65c_elementData_915e3_4 rfl ?_
  refine v_aald hc dJx4a65c_elementData_915e3_5 hA (by omega) (by omega) (by omega) ?_
  rw [g6 x.toNat (by omega)]
  refine v_aret M rfl (Or.inl ⟨_, rfl⟩) (Or.inr ⟨_, rfl⟩) dJx4a65c_elementData_915e3_6 (by omega) (by omega) ?_
  exact ⟨rfl, rfl, rfl⟩
set_option maxHeartbeats 4000000 in
theorem c_Jx4a65c_get_915e3 (l : Launch) (G : b_G) {h : b_H} {sz : Nat} {o ad n : Nat} {e : Nat → Nat} {x : Int} (hj : j_L G o ad n e h) (hx : 0 ≤ x ∧ x < n) : Con l G yJx4a65c_get_915e3 cJx4a65c_get_915e3 2 (some (.object "java/lang/Object")) 2 43 0 0 [.ref o, .int (zI x)] h sz (p_ro (some (.ref (e x.toNat))) h sz) := by
  refine Con.ofK (by decide +kernel) rfl rfl ?_
  intro S M
  have hc := M.2.2.2.1
  have ho : s_own S = RJx4a65c := M.2.2.1
  have hFr : (s_R S).frames = 2 := by rw [M.2.2.2.2.2.2.2.1]
  have hLo : (s_R S).locals = 43 := by rw [M.2.2.2.2.2.2.2.1]
  have hCe : (s_R S).cells = 0 := by rw [M.2.2.2.2.2.2.2.1]
  have hSl : (s_R S).slots = 0 := by rw [M.2.2.2.2.2.2.2.1]
  have hG : s_G S = G := M.2.1
  rw [← hG] at hj
  obtain ⟨mc, hL, hn, hq⟩ := id hj
  refine v_iload_n hc dJx4a65c_get_915e3_0 rfl ?_
  refine v_aload_n hc dJx4a65c_get_915e3_1 rfl ?_
  refine v_get hc ho dJx4a65c_get_915e3_2 F_Jx4a65c_48 hL rfl ?_
  refine v_callS (As := [.int (zI x), .int (zI n)]) hc ho dJx4a65c_get_915e3_5 KS_Jx4a65c_118 KB_J15_checkIndex_7cf53 (c_J15_checkIndex_7cf53 _ _ (x := x) (y := (n : Int)) (by omega)) rfl (Nat.le_of_ble_eq_true rfl) ⟨by omega, by omega⟩ ⟨by omega, by omega⟩ (fun r_ h_ sz_ q_ z_ => ?_)
  obtain ⟨rfl, eh_, es_⟩ := q_
  have eh_ := eh_.symm
  subst eh_
  have es_ := es_.symm
  subst es_
  refine v_pop hc dJx4a65c_get_915e3_8 rfl ?_
  refine v_aload_n hc dJx4a65c_get_915e3_9 rfl ?_
  refine v_iload_n hc dJx4a65c_get_915e3_10 rfl ?_
  refine v_callV (As := [.int (zI x)]) hc ho dJx4a65c_get_915e3_11 KV_Jx4a65c_123 KB_Jx4a65c_elementData_915e3 hL rfl rfl (c_Jx4a65c_elementData_915e3 _ _ (e := e) (x := x) hj hx) rfl (Nat.le_of_ble_eq_true rfl) ⟨by omega, by omega⟩ ⟨by omega, by omega⟩ (fun r_ h_ sz_ q_ z_ => ?_)
  obtain ⟨rfl, eh_, es_⟩ := q_
  have eh_ := eh_.symm
  subst eh_
  have es_ := es_.symm
  subst es_
  refine v_aret M rfl (Or.inl ⟨_, rfl⟩) (Or.inr ⟨_, rfl⟩) dJx4a65c_get_915e3_14 (by omega) (by omega) ?_
  exact ⟨rfl, rfl, rfl⟩
set_option maxHeartbeats 4000000 in
theorem c_Jxa1e45_init_da8c8 (l : Launch) (G : b_G) {h : b_H} {sz : Nat} {o : Nat} : Con l G yJxa1e45_init_da8c8 cJxa1e45_init_da8c8 1 none 1 20 0 0 [.ref o] h sz (p_ro none h sz) := by
  refine Con.ofK (by decide +kernel) rfl rfl ?_
  intro S M
  have hc := M.2.2.2.1
  have ho : s_own S = RJxa1e45 := M.2.2.1
  have hFr : (s_R S).frames = 1 := by rw [M.2.2.2.2.2.2.2.1]
  have hLo : (s_R S).locals = 20 := by rw [M.2.2.2.2.2.2.2.1]
  have hCe : (s_R S).cells = 0 := by rw [M.2.2.2.2.2.2.2.1]
  have hSl : (s_R S).slots = 0 := by rw [M.2.2.2.2.2.2.2.1]
  refine v_aload_n hc dJxa1e45_init_da8c8_0 rfl ?_
  refine v_obj hc ho dJxa1e45_init_da8c8_1 OI_Jxa1e45_1 (by omega) (by rw [hLo]; exact Nat.le_of_ble_eq_true rfl) ?_
  refine v_vret M dJxa1e45_init_da8c8_4 (by omega) (by omega) ?_
  exact ⟨rfl, rfl, rfl⟩
set_option maxHeartbeats 4000000 in
theorem c_Jxc12de_init_da8c8 (l : Launch) (G : b_G) {h : b_H} {sz : Nat} {o : Nat} (hL : h o = some (b_ob 8 [.int 0, .null, .int 0])) : Con l G yJxc12de_init_da8c8 cJxc12de_init_da8c8 1 none 2 40 0 0 [.ref o] h sz (fun r h2 s2 => r = none ∧ s2 = sz ∧ h2 o = some (b_ob 8 [.int (zI 0), .null, .int 0]) ∧ ∀ b, b ≠ o → h2 b = h b) := by
  refine Con.ofK (by decide +kernel) rfl rfl ?_
  intro S M
  have hc := M.2.2.2.1
  have ho : s_own S = RJxc12de := M.2.2.1
  have hFr : (s_R S).frames = 2 := by rw [M.2.2.2.2.2.2.2.1]
  have hLo : (s_R S).locals = 40 := by rw [M.2.2.2.2.2.2.2.1]
  have hCe : (s_R S).cells = 0 := by rw [M.2.2.2.2.2.2.2.1]
  have hSl : (s_R S).slots = 0 := by rw [M.2.2.2.2.2.2.2.1]
  refine v_aload_n hc dJxc12de_init_da8c8_0 rfl ?_
  refine v_callI (As := []) hc ho dJxc12de_init_da8c8_1 KI_Jxc12de_1 KB_Jxa1e45_init_da8c8 (c_Jxa1e45_init_da8c8 _ _) rfl (Nat.le_of_ble_eq_true rfl) ⟨by omega, by omega⟩ ⟨by omega, by omega⟩ (fun r_ h_ sz_ q_ z_ => ?_)
  obtain ⟨rfl, eh_, es_⟩ := q_
  have eh_ := eh_.symm
  subst eh_
  have es_ := es_.symm
  subst es_
  refine v_aload_n hc dJxc12de_init_da8c8_4 rfl ?_
  refine z_iconst hc dJxc12de_init_da8c8_5 ?_
  refine x_put hc ho dJxc12de_init_da8c8_6 F_Jxc12de_7 hL rfl ⟨rfl, rfl⟩ (fun h' e1 e2 => ?_)
  refine v_vret M dJxc12de_init_da8c8_9 (by omega) (by omega) ?_
  exact ⟨rfl, rfl, e1, e2⟩
set_option maxHeartbeats 4000000 in
theorem c_Jx4a65c_init_da8c8 (l : Launch) (G : b_G) {h : b_H} {sz : Nat} {o : Nat} {e : Nat → Nat} (hL : h o = some (b_ob 8 [.int 0, .null, .int 0])) : Con l G yJx4a65c_init_da8c8 cJx4a65c_init_da8c8 1 none 3 60 0 0 [.ref o] h sz (fun r h2 s2 => r = none ∧ s2 = sz ∧ j_L G o G.2.2.1 0 e h2 ∧ ∀ b, b ≠ o → h2 b = h b) := by
  refine Con.ofK (by decide +kernel) rfl rfl ?_
  intro S M
  have hc := M.2.2.2.1
  have ho : s_own S = RJx4a65c := M.2.2.1
  have hFr : (s_R S).frames = 3 := by rw [M.2.2.2.2.2.2.2.1]
  have hLo : (s_R S).locals = 60 := by rw [M.2.2.2.2.2.2.2.1]
  have hCe : (s_R S).cells = 0 := by rw [M.2.2.2.2.2.2.2.1]
  have hSl : (s_R S).slots = 0 := by rw [M.2.2.2.2.2.2.2.1]
  have hG : s_G S = G := M.2.1
  refine v_aload_n hc dJx4a65c_init_da8c8_0 rfl ?_
  refine v_callI (As := []) hc ho dJx4a65c_init_da8c8_1 KI_Jx4a65c_1 KB_Jxc12de_init_da8c8 (c_Jxc12de_init_da8c8 _ _ hL) rfl (Nat.le_of_ble_eq_true rfl) ⟨by omega, by omega⟩ ⟨by omega, by omega⟩ (fun r_ h_ sz_ q_ z_ => ?_)
  obtain ⟨rfl, es_, g1, g2⟩ := q_
  have es_ := es_.symm
  subst es_
  refine v_aload_n hc dJx4a65c_init_da8c8_4 rfl ?_
  refine v_gets hc ho dJx4a65c_init_da8c8_5 FS_Jx4a65c_39 ?_
  refine x_put hc ho dJx4a65c_init_da8c8_8 F_Jx4a65c_9 g1 rfl ⟨rfl, rfl⟩ (fun h' e1 e2 => ?_)
  refine v_vret M dJx4a65c_init_da8c8_11 (by omega) (by omega) ?_
  exact ⟨rfl, rfl, ⟨0, by rw [← hG]; exact e1, by omega, Or.inl ⟨rfl, rfl⟩⟩, fun b hb => (e2 b hb).trans (g2 b hb)⟩
set_option maxHeartbeats 4000000 in
theorem c_J8_newLength_cabcc (l : Launch) (G : b_G) {h : b_H} {sz : Nat} {x y z : Int} (hx : 1 ≤ x ∧ x ≤ 10000) (hy : 1 ≤ y ∧ y ≤ 10000) (hz : 0 ≤ z ∧ z ≤ 10000) : Con l G yJ8_newLength_cabcc cJ8_newLength_cabcc 4 (some .int) 1 21 0 0 [.int (zI x), .int (zI y), .int (zI z)] h sz (p_ro (some (.int (zI (x + max y z)))) h sz) := by
  refine Con.ofK (by decide +kernel) rfl rfl ?_
  intro S M
  have hc := M.2.2.2.1
  have ho : s_own S = RJ8 := M.2.2.1
  have hFr : (s_R S).frames = 1 := by rw [M.2.2.2.2.2.2.2.1]
  have hLo : (s_R S).locals = 21 := by rw [M.2.2.2.2.2.2.2.1]
  have hCe : (s_R S).cells = 0 := by rw [M.2.2.2.2.2.2.2.1]
  have hSl : (s_R S).slots = 0 := by rw [M.2.2.2.2.2.2.2.1]
  refine v_iload_n hc dJ8_newLength_cabcc_0 rfl ?_
  refine v_iload_n hc dJ8_newLength_cabcc_1 rfl ?_
  refine v_iload_n hc dJ8_newLength_cabcc_2 rfl ?_
  refine z_max hc ho dJ8_newLength_cabcc_3 MM_J8_194 (by first | assumption | exact hi _ | exact ha _ _ | (unfold zb; omega)) (by first | assumption | exact hi _ | exact ha _ _ | (unfold zb; omega)) (by omega) (by rw [hLo]; exact Nat.le_of_ble_eq_true rfl) (by omega) (by omega) ?_
  refine z_iadd hc dJ8_newLength_cabcc_6 ?_
  refine v_istore_n hc dJ8_newLength_cabcc_7 (Nat.le_of_ble_eq_true rfl) ?_
  refine z_iconst hc dJ8_newLength_cabcc_8 ?_
  refine v_iload_n hc dJ8_newLength_cabcc_9 rfl ?_
  refine z_icmp_ge (tgt := 21) hc dJ8_newLength_cabcc_10 (by decide) (by first | assumption | exact hi _ | exact ha _ _ | (unfold zb; omega)) (by first | assumption | exact hi _ | exact ha _ _ | (unfold zb; omega)) (fun c_1 => absurd c_1 (by omega)) (fun c_1 => ?_)
  refine v_iload_n hc dJ8_newLength_cabcc_13 rfl ?_
  refine z_ldc hc ho dJ8_newLength_cabcc_14 K_J8_200 ?_
  refine z_icmp_gt (tgt := 21) hc dJ8_newLength_cabcc_16 (by decide) (by first | assumption | exact hi _ | exact ha _ _ | (unfold zb; omega)) (by first | assumption | exact hi _ | exact ha _ _ | (unfold zb; omega)) (fun c_2 => absurd c_2 (by omega)) (fun c_2 => ?_)
  refine v_iload_n hc dJ8_newLength_cabcc_19 rfl ?_
  refine z_iret M dJ8_newLength_cabcc_20 (by omega) (by omega) ?_
  exact ⟨by rw [show x + max y z = x + max y z from rfl], rfl, rfl⟩
set_option maxHeartbeats 4000000 in
theorem c_J7_copyOf_6403c (l : Launch) (G : b_G) {h : b_H} {sz : Nat} {a n N : Nat} {f : Nat → Option Nat} (hA : h a = some (b_qA n f)) (hn : n ≤ N ∧ N ≤ 1000) {ci : Nat} {r : vw_C} (hr : b_C[ci]? = some r) (hca : Cond.castable r.1 "java/lang/Object" ∈ b_Ca) (hel : ∀ i : Nat, i < n → ∀ y : Nat, f i = some y → ∃ vs, h y = some (b_ob ci vs)) : Con l G yJ7_copyOf_6403c cJ7_copyOf_6403c 4 (some (.array (.object "java/lang/Object"))) 2 120 1 1000 [.ref a, .int (zI N), .ref G.2.2.2] h sz (fun r2 h2 s2 => r2 = some (.ref sz) ∧ s2 = sz + 1 ∧ h2 sz = some (b_qA N (fun j => if j < n then f j else none)) ∧ ∀ b, b ≠ sz → h2 b = h b) := by
  refine Con.ofK (by decide +kernel) rfl rfl ?_
  intro S M
  have hc := M.2.2.2.1
  have ho : s_own S = RJ7 := M.2.2.1
  have hFr : (s_R S).frames = 2 := by rw [M.2.2.2.2.2.2.2.1]
  have hLo : (s_R S).locals = 120 := by rw [M.2.2.2.2.2.2.2.1]
  have hCe : (s_R S).cells = 1 := by rw [M.2.2.2.2.2.2.2.1]
  have hSl : (s_R S).slots = 1000 := by rw [M.2.2.2.2.2.2.2.1]
  have hG : s_G S = G := M.2.1
  rw [← hG]
  refine v_aload_n hc dJ7_copyOf_6403c_0 rfl ?_
  refine v_ldcM hc ho dJ7_copyOf_6403c_1 CLk_J7_110 ?_
  refine v_acmp_ne (tgt := 13) hc dJ7_copyOf_6403c_3 (by decide) (fun c_ => absurd rfl c_) (fun _ => ?_)
  refine v_iload_n hc dJ7_copyOf_6403c_6 rfl ?_
  refine v_dom (fun hdom => ?_)
  refine x_newq hc ho dJ7_copyOf_6403c_7 CLk_J7_2 (N := N) rfl (by omega) (by omega) (by omega) (fun h' e1 e2 => ?_)
  have hne : a ≠ sz := fun q => by have := hdom a (by rw [hA]; exact fun e => by cases e); omega
  have hA1 : h' a = some (b_qA n f) := (e2 a hne).trans hA
  refine v_goto (tgt := 24) hc dJ7_copyOf_6403c_10 (by decide) ?_
  refine v_astore_n hc dJ7_copyOf_6403c_24 (Nat.le_of_ble_eq_true rfl) ?_
  refine v_aload_n hc dJ7_copyOf_6403c_25 rfl ?_
  refine z_iconst hc dJ7_copyOf_6403c_26 ?_
  refine v_aload_n hc dJ7_copyOf_6403c_27 rfl ?_
  refine z_iconst hc dJ7_copyOf_6403c_28 ?_
  refine v_aload_n hc dJ7_copyOf_6403c_29 rfl ?_
  refine z_qlen hc dJ7_copyOf_6403c_30 hA1 ?_
  refine v_iload_n hc dJ7_copyOf_6403c_31 rfl ?_
  refine z_min hc ho dJ7_copyOf_6403c_32 MM_J7_304 (by first | assumption | exact hi _ | exact ha _ _ | (unfold zb; omega)) (by first | assumption | exact hi _ | exact ha _ _ | (unfold zb; omega)) (by omega) (by rw [hLo]; exact Nat.le_of_ble_eq_true rfl) (by omega) (by omega) ?_
  rw [show min (n : Int) (N : Int) = ((n : Nat) : Int) by omega]
  refine v_copyq hc ho dJ7_copyOf_6403c_35 L5_ac L5_acn L5_acs L5_aci hA1 e1 (N := n) (by omega) (by omega) (by omega) hr hca (fun i hi y hy => ?_) (by omega) (by rw [hLo]; decide) (fun h2 e3 e4 => ?_)
  · obtain ⟨vs, hvs⟩ := hel i hi y hy
    exact ⟨vs, (e2 y (fun q => by have := hdom y (by rw [hvs]; exact fun e => by cases e); omega)).trans hvs⟩
  refine v_aload_n hc dJ7_copyOf_6403c_38 rfl ?_
  refine v_aret M rfl (Or.inr ⟨_, rfl⟩) (Or.inr ⟨_, rfl⟩) dJ7_copyOf_6403c_39 (by omega) (by omega) ?_
  exact ⟨rfl, rfl, e3, fun b hb => (e4 b hb).trans (e2 b hb)⟩
set_option maxHeartbeats 4000000 in
theorem c_J7_copyOf_1904c (l : Launch) (G : b_G) {h : b_H} {sz : Nat} {a n N : Nat} {f : Nat → Option Nat} (hA : h a = some (b_qA n f)) (hn : n ≤ N ∧ N ≤ 1000) {ci : Nat} {r : vw_C} (hr : b_C[ci]? = some r) (hca : Cond.castable r.1 "java/lang/Object" ∈ b_Ca) (hel : ∀ i : Nat, i < n → ∀ y : Nat, f i = some y → ∃ vs, h y = some (b_ob ci vs)) : Con l G yJ7_copyOf_1904c cJ7_copyOf_1904c 2 (some (.array (.object "java/lang/Object"))) 3 143 1 1000 [.ref a, .int (zI N)] h sz (fun r2 h2 s2 => r2 = some (.ref sz) ∧ s2 = sz + 1 ∧ h2 sz = some (b_qA N (fun j => if j < n then f j else none)) ∧ ∀ b, b ≠ sz → h2 b = h b) := by
  refine Con.ofK (by decide +kernel) rfl rfl ?_
  intro S M
  have hc := M.2.2.2.1
  have ho : s_own S = RJ7 := M.2.2.1
  have hFr : (s_R S).frames = 3 := by rw [M.2.2.2.2.2.2.2.1]
  have hLo : (s_R S).locals = 143 := by rw [M.2.2.2.2.2.2.2.1]
  have hCe : (s_R S).cells = 1 := by rw [M.2.2.2.2.2.2.2.1]
  have hSl : (s_R S).slots = 1000 := by rw [M.2.2.2.2.2.2.2.1]
  refine v_aload_n hc dJ7_copyOf_1904c_0 rfl ?_
  refine v_iload_n hc dJ7_copyOf_1904c_1 rfl ?_
  refine v_aload_n hc dJ7_copyOf_1904c_2 rfl ?_
  refine v_getC hc ho dJ7_copyOf_1904c_3 L5_gC L5_gCs L5_gCi L5_gCn hA (by omega) (by rw [hLo]; exact Nat.le_of_ble_eq_true rfl) ?_
  refine v_callS (As := [.ref a, .int (zI N), .ref (s_G S).2.2.2]) hc ho dJ7_copyOf_1904c_6 KS_J7_300 KB_J7_copyOf_6403c (c_J7_copyOf_6403c _ _ hA hn hr hca hel) rfl (Nat.le_of_ble_eq_true rfl) ⟨by omega, by omega⟩ ⟨by omega, by omega⟩ (fun r_ h_ sz_ q_ z_ => ?_)
  obtain ⟨rfl, rfl, g1, g2⟩ := q_
  refine v_aret M rfl (Or.inr ⟨_, rfl⟩) (Or.inr ⟨_, rfl⟩) dJ7_copyOf_1904c_9 (by omega) (by omega) ?_
  exact ⟨rfl, rfl, g1, g2⟩
set_option maxHeartbeats 4000000 in
theorem c_grow2_A (l : Launch) (G : b_G) {h : b_H} {sz : Nat} {o ad n : Nat} {e : Nat → Nat} {mc : Int} (hL : h o = some (b_ob 8 [.int (zI mc), .ref ad, .int (zI n)])) (hn : n = 0) (hads : ad = G.2.2.1) (ho2 : o < sz) : Con l G yJx4a65c_grow_92f84 cJx4a65c_grow_92f84 4 (some (.array (.object "java/lang/Object"))) 4 200 1 1000 [.ref o, .int (zI ((n : Int) + 1))] h sz (fun r2 h2 s2 => r2 = some (.ref sz) ∧ s2 = sz + 1 ∧ h2 o = some (b_ob 8 [.int (zI mc), .ref sz, .int (zI n)]) ∧ (∃ (cap : Nat) (f2 : Nat → Option Nat), h2 sz = some (b_qA cap f2) ∧ n < cap ∧ cap < 1000 ∧ ∀ j, j < n → f2 j = some (e j)) ∧ ∀ b, b ≠ sz → b ≠ o → h2 b = h b) := by
  refine Con.ofK (by decide +kernel) rfl rfl ?_
  intro S M
  have hc := M.2.2.2.1
  have ho : s_own S = RJx4a65c := M.2.2.1
  have hFr : (s_R S).frames = 4 := by rw [M.2.2.2.2.2.2.2.1]
  have hLo : (s_R S).locals = 200 := by rw [M.2.2.2.2.2.2.2.1]
  have hCe : (s_R S).cells = 1 := by rw [M.2.2.2.2.2.2.2.1]
  have hSl : (s_R S).slots = 1000 := by rw [M.2.2.2.2.2.2.2.1]
  have hG : s_G S = G := M.2.1
  rw [← hG] at hads
  refine v_aload_n hc dJx4a65c_grow_92f84_0 rfl ?_
  refine v_get hc ho dJx4a65c_grow_92f84_1 F_Jx4a65c_9 hL rfl ?_
  refine z_tlen hc dJx4a65c_grow_92f84_4 hads ?_
  refine v_istore_n hc dJx4a65c_grow_92f84_5 (Nat.le_of_ble_eq_true rfl) ?_
  refine v_iload_n hc dJx4a65c_grow_92f84_6 rfl ?_
  refine z_if_gt (tgt := 20) hc dJx4a65c_grow_92f84_7 (by decide) (by first | assumption | exact hi _ | exact ha _ _ | (unfold zb; omega)) (fun c_1 => absurd c_1 (by omega)) (fun c_1 => ?_)
  refine v_aload_n hc dJx4a65c_grow_92f84_10 rfl ?_
  refine v_get hc ho dJx4a65c_grow_92f84_11 F_Jx4a65c_9 hL rfl ?_
  refine v_gets hc ho dJx4a65c_grow_92f84_14 FS_Jx4a65c_39 ?_
  refine v_acmp_eq (tgt := 45) hc dJx4a65c_grow_92f84_17 (by decide) (fun _ => ?_) (fun c_ => absurd hads c_)
  refine v_aload_n hc dJx4a65c_grow_92f84_45 rfl ?_
  refine z_bipush hc dJx4a65c_grow_92f84_46 (by decide) ?_
  refine v_iload_n hc dJx4a65c_grow_92f84_48 rfl ?_
  refine z_max hc ho dJx4a65c_grow_92f84_49 MM_Jx4a65c_79 (by first | assumption | exact hi _ | exact ha _ _ | (unfold zb; omega)) (by first | assumption | exact hi _ | exact ha _ _ | (unfold zb; omega)) (by omega) (by rw [hLo]; exact Nat.le_of_ble_eq_true rfl) (by omega) (by omega) ?_
  rw [show max 10 ((n : Int) + 1) = ((10 : Nat) : Int) by omega]
  refine x_newq hc ho dJx4a65c_grow_92f84_52 CLk_Jx4a65c_7 (N := 10) rfl (by omega) (by omega) (by omega) (fun h' e1 e2 => ?_)
  have hL1 : h' o = some (b_ob 8 [.int (zI mc), .ref ad, .int (zI n)]) := (e2 o (by omega)).trans hL
  refine v_dup_x1 hc dJx4a65c_grow_92f84_55 rfl rfl ?_
  refine x_put hc ho dJx4a65c_grow_92f84_56 F_Jx4a65c_9 hL1 rfl ⟨rfl, rfl⟩ (fun h2 e3 e4 => ?_)
  refine v_aret M rfl (Or.inr ⟨_, rfl⟩) (Or.inr ⟨_, rfl⟩) dJx4a65c_grow_92f84_59 (by omega) (by omega) ?_
  exact ⟨rfl, rfl, e3, ⟨10, _, (e4 sz (by omega)).trans e1, by omega, by omega, fun j hj => by omega⟩, fun b hb hb2 => (e4 b hb2).trans (e2 b hb)⟩
set_option maxHeartbeats 4000000 in
theorem c_grow2_B (l : Launch) (G : b_G) {h : b_H} {sz : Nat} {o ad n : Nat} {e : Nat → Nat} {mc : Int} (hL : h o = some (b_ob 8 [.int (zI mc), .ref ad, .int (zI n)])) (hn : 1 ≤ n ∧ n ≤ 500) {f : Nat → Option Nat} (hA : h ad = some (b_qA n f)) (g6 : ∀ j, j < n → f j = some (e j)) (ho2 : o < sz) {ci : Nat} {r : vw_C} (hr : b_C[ci]? = some r) (hca : Cond.castable r.1 "java/lang/Object" ∈ b_Ca) (hel : ∀ j, j < n → ∃ vs, h (e j) = some (b_ob ci vs)) : Con l G yJx4a65c_grow_92f84 cJx4a65c_grow_92f84 4 (some (.array (.object "java/lang/Object"))) 4 200 1 1000 [.ref o, .int (zI ((n : Int) + 1))] h sz (fun r2 h2 s2 => r2 = some (.ref sz) ∧ s2 = sz + 1 ∧ h2 o = some (b_ob 8 [.int (zI mc), .ref sz, .int (zI n)]) ∧ (∃ (cap : Nat) (f2 : Nat → Option Nat), h2 sz = some (b_qA cap f2) ∧ n < cap ∧ cap < 1000 ∧ ∀ j, j < n → f2 j = some (e j)) ∧ ∀ b, b ≠ sz → b ≠ o → h2 b = h b) := by
  refine Con.ofK (by decide +kernel) rfl rfl ?_
  intro S M
  have hc := M.2.2.2.1
  have ho : s_own S = RJx4a65c := M.2.2.1
  have hFr : (s_R S).frames = 4 := by rw [M.2.2.2.2.2.2.2.1]
  have hLo : (s_R S).locals = 200 := by rw [M.2.2.2.2.2.2.2.1]
  have hCe : (s_R S).cells = 1 := by rw [M.2.2.2.2.2.2.2.1]
  have hSl : (s_R S).slots = 1000 := by rw [M.2.2.2.2.2.2.2.1]
  refine v_aload_n hc dJx4a65c_grow_92f84_0 rfl ?_
  refine v_get hc ho dJx4a65c_grow_92f84_1 F_Jx4a65c_9 hL rfl ?_
  refine z_qlen hc dJx4a65c_grow_92f84_4 hA ?_
  refine v_istore_n hc dJx4a65c_grow_92f84_5 (Nat.le_of_ble_eq_true rfl) ?_
  refine v_iload_n hc dJx4a65c_grow_92f84_6 rfl ?_
  refine z_if_gt (tgt := 20) hc dJx4a65c_grow_92f84_7 (by decide) (by first | assumption | exact hi _ | exact ha _ _ | (unfold zb; omega)) (fun c_1 => ?_) (fun c_1 => absurd c_1 (by omega))
  refine v_iload_n hc dJx4a65c_grow_92f84_20 rfl ?_
  refine v_iload_n hc dJx4a65c_grow_92f84_21 rfl ?_
  refine v_iload_n hc dJx4a65c_grow_92f84_22 rfl ?_
  refine z_isub hc dJx4a65c_grow_92f84_23 ?_
  refine v_iload_n hc dJx4a65c_grow_92f84_24 rfl ?_
  refine z_iconst hc dJx4a65c_grow_92f84_25 ?_
  refine v_ishr hc dJx4a65c_grow_92f84_26 (zI_shr (by omega) (by omega) (by omega) (by omega)) ?_
  have hz2 : 0 ≤ (n : Int) / 2 ^ (1 : Int).toNat ∧ (n : Int) / 2 ^ (1 : Int).toNat ≤ 10000 := by show 0 ≤ (n : Int) / 2 ∧ (n : Int) / 2 ≤ 10000; omega
  refine v_callS (As := [.int (zI n), .int (zI ((n : Int) + 1 - n)), .int (zI ((n : Int) / 2 ^ (1 : Int).toNat))]) hc ho dJx4a65c_grow_92f84_27 KS_Jx4a65c_73 KB_J8_newLength_cabcc (c_J8_newLength_cabcc _ _ (x := (n : Int)) (y := (n : Int) + 1 - n) (z := (n : Int) / 2 ^ (1 : Int).toNat) (by omega) (by omega) hz2) rfl (Nat.le_of_ble_eq_true rfl) ⟨by omega, by omega⟩ ⟨by omega, by omega⟩ (fun r_ h_ sz_ q_ z_ => ?_)
  obtain ⟨rfl, eh_, es_⟩ := q_
  have eh_ := eh_.symm
  subst eh_
  have es_ := es_.symm
  subst es_
  refine v_istore_n hc dJx4a65c_grow_92f84_30 (Nat.le_of_ble_eq_true rfl) ?_
  refine v_aload_n hc dJx4a65c_grow_92f84_31 rfl ?_
  refine v_aload_n hc dJx4a65c_grow_92f84_32 rfl ?_
  refine v_get hc ho dJx4a65c_grow_92f84_33 F_Jx4a65c_9 hL rfl ?_
  refine v_iload_n hc dJx4a65c_grow_92f84_36 rfl ?_
  rw [show (n : Int) + max ((n : Int) + 1 - n) ((n : Int) / 2 ^ (1 : Int).toNat) = ((n + max 1 (n / 2) : Nat) : Int) by show (n : Int) + max ((n : Int) + 1 - n) ((n : Int) / 2) = _; omega]
  refine v_callS (As := [.ref ad, .int (zI ((n + max 1 (n / 2) : Nat) : Int))]) hc ho dJx4a65c_grow_92f84_37 KS_Jx4a65c_66 KB_J7_copyOf_1904c (c_J7_copyOf_1904c _ _ hA (N := n + max 1 (n / 2)) (by omega) hr hca (fun i hi y hy => by rw [g6 i hi] at hy; cases hy; exact hel i hi)) rfl (Nat.le_of_ble_eq_true rfl) ⟨by omega, by omega⟩ ⟨by omega, by omega⟩ (fun r_ h_ sz_ q_ z_ => ?_)
  obtain ⟨rfl, rfl, e1, e2⟩ := q_
  have hL1 := (e2 o (by omega)).trans hL
  refine v_dup_x1 hc dJx4a65c_grow_92f84_40 rfl rfl ?_
  refine x_put hc ho dJx4a65c_grow_92f84_41 F_Jx4a65c_9 hL1 rfl ⟨rfl, rfl⟩ (fun h2 e3 e4 => ?_)
  refine v_aret M rfl (Or.inr ⟨_, rfl⟩) (Or.inr ⟨_, rfl⟩) dJx4a65c_grow_92f84_44 (by omega) (by omega) ?_
  exact ⟨rfl, rfl, e3, ⟨_, _, (e4 sz (by omega)).trans e1, by omega, by omega, fun j hj => by show (if j < n then f j else none) = _; rw [if_pos hj]; exact g6 j hj⟩, fun b hb hb2 => (e4 b hb2).trans (e2 b hb)⟩
set_option maxHeartbeats 4000000 in
theorem c_grow2 (l : Launch) (G : b_G) {h : b_H} {sz : Nat} {o ad n : Nat} {e : Nat → Nat} {mc : Int} (hL : h o = some (b_ob 8 [.int (zI mc), .ref ad, .int (zI n)])) (hq : (n = 0 ∧ ad = G.2.2.1) ∨ (1 ≤ n ∧ n ≤ 500 ∧ ∃ f : Nat → Option Nat, h ad = some (b_qA n f) ∧ ∀ j, j < n → f j = some (e j))) (ho2 : o < sz) {ci : Nat} {r : vw_C} (hr : b_C[ci]? = some r) (hca : Cond.castable r.1 "java/lang/Object" ∈ b_Ca) (hel : ∀ j, j < n → ∃ vs, h (e j) = some (b_ob ci vs)) : Con l G yJx4a65c_grow_92f84 cJx4a65c_grow_92f84 4 (some (.array (.object "java/lang/Object"))) 4 200 1 1000 [.ref o, .int (zI ((n : Int) + 1))] h sz (fun r2 h2 s2 => r2 = some (.ref sz) ∧ s2 = sz + 1 ∧ h2 o = some (b_ob 8 [.int (zI mc), .ref sz, .int (zI n)]) ∧ (∃ (cap : Nat) (f2 : Nat → Option Nat), h2 sz = some (b_qA cap f2) ∧ n < cap ∧ cap < 1000 ∧ ∀ j, j < n → f2 j = some (e j)) ∧ ∀ b, b ≠ sz → b ≠ o → h2 b = h b) := by
  rcases hq with ⟨q1, q2⟩ | ⟨q1, q2, f, q3, q4⟩
  · exact c_grow2_A l G hL q1 q2 ho2
  · exact c_grow2_B l G hL ⟨q1, q2⟩ q3 q4 ho2 hr hca hel
set_option maxHeartbeats 4000000 in
theorem c_Jx4a65c_grow_d5877 (l : Launch) (G : b_G) {h : b_H} {sz : Nat} {o ad n : Nat} {e : Nat → Nat} {mc : Int} (hL : h o = some (b_ob 8 [.int (zI mc), .ref ad, .int (zI n)])) (hq : (n = 0 ∧ ad = G.2.2.1) ∨ (1 ≤ n ∧ n ≤ 500 ∧ ∃ f : Nat → Option Nat, h ad = some (b_qA n f) ∧ ∀ j, j < n → f j = some (e j))) (ho2 : o < sz) {ci : Nat} {r : vw_C} (hr : b_C[ci]? = some r) (hca : Cond.castable r.1 "java/lang/Object" ∈ b_Ca) (hel : ∀ j, j < n → ∃ vs, h (e j) = some (b_ob ci vs)) : Con l G yJx4a65c_grow_d5877 cJx4a65c_grow_d5877 1 (some (.array (.object "java/lang/Object"))) 5 223 1 1000 [.ref o] h sz (fun r2 h2 s2 => r2 = some (.ref sz) ∧ s2 = sz + 1 ∧ h2 o = some (b_ob 8 [.int (zI mc), .ref sz, .int (zI n)]) ∧ (∃ (cap : Nat) (f2 : Nat → Option Nat), h2 sz = some (b_qA cap f2) ∧ n < cap ∧ cap < 1000 ∧ ∀ j, j < n → f2 j = some (e j)) ∧ ∀ b, b ≠ sz → b ≠ o → h2 b = h b) := by
  refine Con.ofK (by decide +kernel) rfl rfl ?_
  intro S M
  have hc := M.2.2.2.1
  have ho : s_own S = RJx4a65c := M.2.2.1
  have hFr : (s_R S).frames = 5 := by rw [M.2.2.2.2.2.2.2.1]
  have hLo : (s_R S).locals = 223 := by rw [M.2.2.2.2.2.2.2.1]
  have hCe : (s_R S).cells = 1 := by rw [M.2.2.2.2.2.2.2.1]
  have hSl : (s_R S).slots = 1000 := by rw [M.2.2.2.2.2.2.2.1]
  have hG : s_G S = G := M.2.1
  rw [← hG] at hq
  refine v_aload_n hc dJx4a65c_grow_d5877_0 rfl ?_
  refine v_aload_n hc dJx4a65c_grow_d5877_1 rfl ?_
  refine v_get hc ho dJx4a65c_grow_d5877_2 F_Jx4a65c_48 hL rfl ?_
  refine z_iconst hc dJx4a65c_grow_d5877_5 ?_
  refine z_iadd hc dJx4a65c_grow_d5877_6 ?_
  refine v_callV (As := [.int (zI ((n : Int) + 1))]) hc ho dJx4a65c_grow_d5877_7 KV_Jx4a65c_69 KB_Jx4a65c_grow_92f84 hL rfl rfl (c_grow2 _ _ hL hq ho2 hr hca hel) rfl (Nat.le_of_ble_eq_true rfl) ⟨by omega, by omega⟩ ⟨by omega, by omega⟩ (fun r_ h_ sz_ q_ z_ => ?_)
  obtain ⟨rfl, rfl, g1, g2, g3⟩ := q_
  refine v_aret M rfl (Or.inr ⟨_, rfl⟩) (Or.inr ⟨_, rfl⟩) dJx4a65c_grow_d5877_10 (by omega) (by omega) ?_
  exact ⟨rfl, rfl, g1, g2, g3⟩
set_option maxHeartbeats 4000000 in
theorem c_add3_A (l : Launch) (G : b_G) {h : b_H} {sz : Nat} {o ad n : Nat} {e : Nat → Nat} {mc : Int} {v : Nat} (hL : h o = some (b_ob 8 [.int (zI mc), .ref ad, .int (zI n)])) (hn : n ≤ 500) (hn0 : n = 0) (hads : ad = G.2.2.1) (ho2 : o < sz) {ci : Nat} {r : vw_C} (hr : b_C[ci]? = some r) (hca : Cond.castable r.1 "java/lang/Object" ∈ b_Ca) (hel : ∀ j, j < n → ∃ vs, h (e j) = some (b_ob ci vs)) {vv : List Value} (hv : h v = some (b_ob ci vv)) (hvo : v ≠ o)  : Con l G yJx4a65c_add_72be8 cJx4a65c_add_72be8 4 none 6 250 1 1000 [.ref o, .ref v, .ref ad, .int (zI n)] h sz (fun r2 h2 s2 => r2 = none ∧ ∃ ad2 : Nat, ((ad2 = ad ∧ s2 = sz ∧ n ≠ 0) ∨ (ad2 = sz ∧ s2 = sz + 1)) ∧ j_L G o ad2 (n + 1) (b_up e n v) h2 ∧ ∀ b, b ≠ o → b ≠ ad2 → h2 b = h b) := by
  refine Con.ofK (by decide +kernel) rfl rfl ?_
  intro S M
  have hc := M.2.2.2.1
  have ho : s_own S = RJx4a65c := M.2.2.1
  have hFr : (s_R S).frames = 6 := by rw [M.2.2.2.2.2.2.2.1]
  have hLo : (s_R S).locals = 250 := by rw [M.2.2.2.2.2.2.2.1]
  have hCe : (s_R S).cells = 1 := by rw [M.2.2.2.2.2.2.2.1]
  have hSl : (s_R S).slots = 1000 := by rw [M.2.2.2.2.2.2.2.1]
  have hG : s_G S = G := M.2.1
  refine v_dom (fun hdom => ?_)
  rw [← hG] at hads
  have hsh : (n = 0 ∧ ad = (s_G S).2.2.1) ∨ (1 ≤ n ∧ n ≤ 500 ∧ ∃ f : Nat → Option Nat, h ad = some (b_qA n f) ∧ ∀ j, j < n → f j = some (e j)) := Or.inl ⟨hn0, hads⟩
  refine v_iload_n hc dJx4a65c_add_72be8_0 rfl ?_
  refine v_aload_n hc dJx4a65c_add_72be8_1 rfl ?_
  refine z_tlen hc dJx4a65c_add_72be8_2 hads ?_
  refine z_icmp_ne (tgt := 11) hc dJx4a65c_add_72be8_3 (by decide) (by first | assumption | exact hi _ | exact ha _ _ | (unfold zb; omega)) (by first | assumption | exact hi _ | exact ha _ _ | (unfold zb; omega)) (fun c_1 => absurd c_1 (by omega)) (fun c_1 => ?_)
  refine v_aload_n hc dJx4a65c_add_72be8_6 rfl ?_
  refine v_callV (As := []) hc ho dJx4a65c_add_72be8_7 KV_Jx4a65c_129 KB_Jx4a65c_grow_d5877 hL rfl rfl (c_Jx4a65c_grow_d5877 _ _ hL (e := e) hsh ho2 hr hca hel) rfl (Nat.le_of_ble_eq_true rfl) ⟨by omega, by omega⟩ ⟨by omega, by omega⟩ (fun r_ h_ sz_ q_ z_ => ?_)
  obtain ⟨rfl, rfl, hL2, ⟨cap, f2, hA2, g3, g5, g6⟩, g7⟩ := q_
  have hvz : v ≠ sz := fun q => by have := hdom v (by rw [hv]; exact fun e => by cases e); omega
  have hv2 := (g7 v hvz hvo).trans hv
  have hoz : o ≠ sz := by omega
  refine v_astore_n hc dJx4a65c_add_72be8_10 (Nat.le_of_ble_eq_true rfl) ?_
  refine v_aload_n hc dJx4a65c_add_72be8_11 rfl ?_
  refine v_iload_n hc dJx4a65c_add_72be8_12 rfl ?_
  refine v_aload_n hc dJx4a65c_add_72be8_13 rfl ?_
  refine x_aast hc dJx4a65c_add_72be8_14 hA2 (by omega) (by omega) (by omega) hv2 hr hca (fun h3 e3 e4 => ?_)
  have hL3 := (e4 o (Ne.symm (Ne.symm hoz))).trans hL2
  refine v_aload_n hc dJx4a65c_add_72be8_15 rfl ?_
  refine v_iload_n hc dJx4a65c_add_72be8_16 rfl ?_
  refine z_iconst hc dJx4a65c_add_72be8_17 ?_
  refine z_iadd hc dJx4a65c_add_72be8_18 ?_
  refine x_put hc ho dJx4a65c_add_72be8_19 F_Jx4a65c_48 hL3 rfl ⟨rfl, rfl⟩ (fun h5 e5 e6 => ?_)
  refine v_vret M dJx4a65c_add_72be8_22 (by omega) (by omega) ?_
  exact ⟨rfl, sz, Or.inr ⟨rfl, rfl⟩, ⟨mc, e5, by omega, Or.inr ⟨cap, _, (e6 _ (Ne.symm hoz)).trans e3, (Ne.symm hoz), by omega, by omega, by omega, (fun j hj => by
      by_cases q : j = n
      · rw [q, Int.toNat_natCast, b_up_eq, b_up_eq]
      · rw [Int.toNat_natCast, b_up_ne _ _ q, b_up_ne _ _ q]; exact g6 j (by omega))⟩⟩, fun b hb hb2 => ((e6 b hb).trans (e4 b hb2)).trans (g7 b hb2 hb)⟩
set_option maxHeartbeats 4000000 in
theorem c_add3_B (l : Launch) (G : b_G) {h : b_H} {sz : Nat} {o ad n : Nat} {e : Nat → Nat} {mc : Int} {v : Nat} (hL : h o = some (b_ob 8 [.int (zI mc), .ref ad, .int (zI n)])) (hn : n ≤ 500) {cap : Nat} {f : Nat → Option Nat} (hA : h ad = some (b_qA cap f)) (hao : ad ≠ o) (hcap : n < cap ∧ cap < 1000) (hn0 : n ≠ 0) (g6 : ∀ j, j < n → f j = some (e j)) (ho2 : o < sz) {ci : Nat} {r : vw_C} (hr : b_C[ci]? = some r) (hca : Cond.castable r.1 "java/lang/Object" ∈ b_Ca) (hel : ∀ j, j < n → ∃ vs, h (e j) = some (b_ob ci vs)) {vv : List Value} (hv : h v = some (b_ob ci vv)) (hvo : v ≠ o)  : Con l G yJx4a65c_add_72be8 cJx4a65c_add_72be8 4 none 6 250 1 1000 [.ref o, .ref v, .ref ad, .int (zI n)] h sz (fun r2 h2 s2 => r2 = none ∧ ∃ ad2 : Nat, ((ad2 = ad ∧ s2 = sz ∧ n ≠ 0) ∨ (ad2 = sz ∧ s2 = sz + 1)) ∧ j_L G o ad2 (n + 1) (b_up e n v) h2 ∧ ∀ b, b ≠ o → b ≠ ad2 → h2 b = h b) := by
  refine Con.ofK (by decide +kernel) rfl rfl ?_
  intro S M
  have hc := M.2.2.2.1
  have ho : s_own S = RJx4a65c := M.2.2.1
  have hFr : (s_R S).frames = 6 := by rw [M.2.2.2.2.2.2.2.1]
  have hLo : (s_R S).locals = 250 := by rw [M.2.2.2.2.2.2.2.1]
  have hCe : (s_R S).cells = 1 := by rw [M.2.2.2.2.2.2.2.1]
  have hSl : (s_R S).slots = 1000 := by rw [M.2.2.2.2.2.2.2.1]
  have hG : s_G S = G := M.2.1
  refine v_dom (fun hdom => ?_)
  refine v_iload_n hc dJx4a65c_add_72be8_0 rfl ?_
  refine v_aload_n hc dJx4a65c_add_72be8_1 rfl ?_
  refine z_qlen hc dJx4a65c_add_72be8_2 hA ?_
  refine z_icmp_ne (tgt := 11) hc dJx4a65c_add_72be8_3 (by decide) (by first | assumption | exact hi _ | exact ha _ _ | (unfold zb; omega)) (by first | assumption | exact hi _ | exact ha _ _ | (unfold zb; omega)) (fun c_1 => ?_) (fun c_1 => absurd c_1 (by omega))
  refine v_aload_n hc dJx4a65c_add_72be8_11 rfl ?_
  refine v_iload_n hc dJx4a65c_add_72be8_12 rfl ?_
  refine v_aload_n hc dJx4a65c_add_72be8_13 rfl ?_
  refine x_aast hc dJx4a65c_add_72be8_14 hA (by omega) (by omega) (by omega) hv hr hca (fun h3 e3 e4 => ?_)
  have hL3 := (e4 o (Ne.symm hao)).trans hL
  refine v_aload_n hc dJx4a65c_add_72be8_15 rfl ?_
  refine v_iload_n hc dJx4a65c_add_72be8_16 rfl ?_
  refine z_iconst hc dJx4a65c_add_72be8_17 ?_
  refine z_iadd hc dJx4a65c_add_72be8_18 ?_
  refine x_put hc ho dJx4a65c_add_72be8_19 F_Jx4a65c_48 hL3 rfl ⟨rfl, rfl⟩ (fun h5 e5 e6 => ?_)
  refine v_vret M dJx4a65c_add_72be8_22 (by omega) (by omega) ?_
  exact ⟨rfl, ad, Or.inl ⟨rfl, rfl, hn0⟩, ⟨mc, e5, by omega, Or.inr ⟨cap, _, (e6 _ hao).trans e3, hao, by omega, by omega, by omega, (fun j hj => by
      by_cases q : j = n
      · rw [q, Int.toNat_natCast, b_up_eq, b_up_eq]
      · rw [Int.toNat_natCast, b_up_ne _ _ q, b_up_ne _ _ q]; exact g6 j (by omega))⟩⟩, fun b hb hb2 => ((e6 b hb).trans (e4 b hb2)).trans rfl⟩
set_option maxHeartbeats 4000000 in
theorem c_add3_C (l : Launch) (G : b_G) {h : b_H} {sz : Nat} {o ad n : Nat} {e : Nat → Nat} {mc : Int} {v : Nat} (hL : h o = some (b_ob 8 [.int (zI mc), .ref ad, .int (zI n)])) (hn : n ≤ 500) {f : Nat → Option Nat} (hA : h ad = some (b_qA n f)) (hn1 : 1 ≤ n) (g60 : ∀ j, j < n → f j = some (e j)) (ho2 : o < sz) {ci : Nat} {r : vw_C} (hr : b_C[ci]? = some r) (hca : Cond.castable r.1 "java/lang/Object" ∈ b_Ca) (hel : ∀ j, j < n → ∃ vs, h (e j) = some (b_ob ci vs)) {vv : List Value} (hv : h v = some (b_ob ci vv)) (hvo : v ≠ o)  : Con l G yJx4a65c_add_72be8 cJx4a65c_add_72be8 4 none 6 250 1 1000 [.ref o, .ref v, .ref ad, .int (zI n)] h sz (fun r2 h2 s2 => r2 = none ∧ ∃ ad2 : Nat, ((ad2 = ad ∧ s2 = sz ∧ n ≠ 0) ∨ (ad2 = sz ∧ s2 = sz + 1)) ∧ j_L G o ad2 (n + 1) (b_up e n v) h2 ∧ ∀ b, b ≠ o → b ≠ ad2 → h2 b = h b) := by
  refine Con.ofK (by decide +kernel) rfl rfl ?_
  intro S M
  have hc := M.2.2.2.1
  have ho : s_own S = RJx4a65c := M.2.2.1
  have hFr : (s_R S).frames = 6 := by rw [M.2.2.2.2.2.2.2.1]
  have hLo : (s_R S).locals = 250 := by rw [M.2.2.2.2.2.2.2.1]
  have hCe : (s_R S).cells = 1 := by rw [M.2.2.2.2.2.2.2.1]
  have hSl : (s_R S).slots = 1000 := by rw [M.2.2.2.2.2.2.2.1]
  have hG : s_G S = G := M.2.1
  refine v_dom (fun hdom => ?_)
  have hsh : (n = 0 ∧ ad = (s_G S).2.2.1) ∨ (1 ≤ n ∧ n ≤ 500 ∧ ∃ f : Nat → Option Nat, h ad = some (b_qA n f) ∧ ∀ j, j < n → f j = some (e j)) := Or.inr ⟨by omega, by omega, f, hA, g60⟩
  refine v_iload_n hc dJx4a65c_add_72be8_0 rfl ?_
  refine v_aload_n hc dJx4a65c_add_72be8_1 rfl ?_
  refine z_qlen hc dJx4a65c_add_72be8_2 hA ?_
  refine z_icmp_ne (tgt := 11) hc dJx4a65c_add_72be8_3 (by decide) (by first | assumption | exact hi _ | exact ha _ _ | (unfold zb; omega)) (by first | assumption | exact hi _ | exact ha _ _ | (unfold zb; omega)) (fun c_1 => absurd c_1 (by omega)) (fun c_1 => ?_)
  refine v_aload_n hc dJx4a65c_add_72be8_6 rfl ?_
  refine v_callV (As := []) hc ho dJx4a65c_add_72be8_7 KV_Jx4a65c_129 KB_Jx4a65c_grow_d5877 hL rfl rfl (c_Jx4a65c_grow_d5877 _ _ hL (e := e) hsh ho2 hr hca hel) rfl (Nat.le_of_ble_eq_true rfl) ⟨by omega, by omega⟩ ⟨by omega, by omega⟩ (fun r_ h_ sz_ q_ z_ => ?_)
  obtain ⟨rfl, rfl, hL2, ⟨cap, f2, hA2, g3, g5, g6⟩, g7⟩ := q_
  have hvz : v ≠ sz := fun q => by have := hdom v (by rw [hv]; exact fun e => by cases e); omega
  have hv2 := (g7 v hvz hvo).trans hv
  have hoz : o ≠ sz := by omega
  refine v_astore_n hc dJx4a65c_add_72be8_10 (Nat.le_of_ble_eq_true rfl) ?_
  refine v_aload_n hc dJx4a65c_add_72be8_11 rfl ?_
  refine v_iload_n hc dJx4a65c_add_72be8_12 rfl ?_
  refine v_aload_n hc dJx4a65c_add_72be8_13 rfl ?_
  refine x_aast hc dJx4a65c_add_72be8_14 hA2 (by omega) (by omega) (by omega) hv2 hr hca (fun h3 e3 e4 => ?_)
  have hL3 := (e4 o (Ne.symm (Ne.symm hoz))).trans hL2
  refine v_aload_n hc dJx4a65c_add_72be8_15 rfl ?_
  refine v_iload_n hc dJx4a65c_add_72be8_16 rfl ?_
  refine z_iconst hc dJx4a65c_add_72be8_17 ?_
  refine z_iadd hc dJx4a65c_add_72be8_18 ?_
  refine x_put hc ho dJx4a65c_add_72be8_19 F_Jx4a65c_48 hL3 rfl ⟨rfl, rfl⟩ (fun h5 e5 e6 => ?_)
  refine v_vret M dJx4a65c_add_72be8_22 (by omega) (by omega) ?_
  exact ⟨rfl, sz, Or.inr ⟨rfl, rfl⟩, ⟨mc, e5, by omega, Or.inr ⟨cap, _, (e6 _ (Ne.symm hoz)).trans e3, (Ne.symm hoz), by omega, by omega, by omega, (fun j hj => by
      by_cases q : j = n
      · rw [q, Int.toNat_natCast, b_up_eq, b_up_eq]
      · rw [Int.toNat_natCast, b_up_ne _ _ q, b_up_ne _ _ q]; exact g6 j (by omega))⟩⟩, fun b hb hb2 => ((e6 b hb).trans (e4 b hb2)).trans (g7 b hb2 hb)⟩
set_option maxHeartbeats 4000000 in
theorem c_add3 (l : Launch) (G : b_G) {h : b_H} {sz : Nat} {o ad n v : Nat} {e : Nat → Nat} {mc : Int} (hj : h o = some (b_ob 8 [.int (zI mc), .ref ad, .int (zI n)])) (hq : (n = 0 ∧ ad = G.2.2.1) ∨ ∃ (cap : Nat) (f : Nat → Option Nat), h ad = some (b_qA cap f) ∧ ad ≠ o ∧ 0 < cap ∧ n ≤ cap ∧ cap < 1000 ∧ ∀ j, j < n → f j = some (e j)) (hz0 : n = 0 → ad = G.2.2.1) (hn : n ≤ 500) (ho2 : o < sz) {ci : Nat} {r : vw_C} (hr : b_C[ci]? = some r) (hca : Cond.castable r.1 "java/lang/Object" ∈ b_Ca) (hel : ∀ j, j < n → ∃ vs, h (e j) = some (b_ob ci vs)) {vv : List Value} (hv : h v = some (b_ob ci vv)) (hvo : v ≠ o)  : Con l G yJx4a65c_add_72be8 cJx4a65c_add_72be8 4 none 6 250 1 1000 [.ref o, .ref v, .ref ad, .int (zI n)] h sz (fun r2 h2 s2 => r2 = none ∧ ∃ ad2 : Nat, ((ad2 = ad ∧ s2 = sz ∧ n ≠ 0) ∨ (ad2 = sz ∧ s2 = sz + 1)) ∧ j_L G o ad2 (n + 1) (b_up e n v) h2 ∧ ∀ b, b ≠ o → b ≠ ad2 → h2 b = h b) := by
  by_cases hn0 : n = 0
  · exact c_add3_A l G hj hn hn0 (hz0 hn0) ho2 hr hca hel hv hvo
  · rcases hq with ⟨q1, q2⟩ | ⟨cap, f, q1, q2, q3, q4, q5, q6⟩
    · exact absurd q1 hn0
    · by_cases q : n = cap
      · subst q
        exact c_add3_C l G hj hn q1 (by omega) q6 ho2 hr hca hel hv hvo
      · exact c_add3_B l G hj hn q1 q2 ⟨by omega, by omega⟩ hn0 q6 ho2 hr hca hel hv hvo
set_option maxHeartbeats 4000000 in
theorem c_Jx4a65c_add_9ea2d (l : Launch) (G : b_G) {h : b_H} {sz : Nat} {o ad n v : Nat} {e : Nat → Nat} (hj : j_L G o ad n e h) (hz0 : n = 0 → ad = G.2.2.1) (hn : n ≤ 500) (ho2 : o < sz) {ci : Nat} {r : vw_C} (hr : b_C[ci]? = some r) (hca : Cond.castable r.1 "java/lang/Object" ∈ b_Ca) (hci : ci ≠ 8) (hel : ∀ j, j < n → ∃ vs, h (e j) = some (b_ob ci vs)) {vv : List Value} (hv : h v = some (b_ob ci vv)) (hvo : v ≠ o)  : Con l G yJx4a65c_add_9ea2d cJx4a65c_add_9ea2d 2 (some .boolean) 7 273 1 1000 [.ref o, .ref v] h sz (fun r2 h2 s2 => r2 = some (.int (zI 1)) ∧ ∃ ad2 : Nat, ((ad2 = ad ∧ s2 = sz ∧ n ≠ 0) ∨ (ad2 = sz ∧ s2 = sz + 1)) ∧ j_L G o ad2 (n + 1) (b_up e n v) h2 ∧ ∀ b, b ≠ o → b ≠ ad2 → h2 b = h b) := by
  refine Con.ofK (by decide +kernel) rfl rfl ?_
  intro S M
  have hc := M.2.2.2.1
  have ho : s_own S = RJx4a65c := M.2.2.1
  have hFr : (s_R S).frames = 7 := by rw [M.2.2.2.2.2.2.2.1]
  have hLo : (s_R S).locals = 273 := by rw [M.2.2.2.2.2.2.2.1]
  have hCe : (s_R S).cells = 1 := by rw [M.2.2.2.2.2.2.2.1]
  have hSl : (s_R S).slots = 1000 := by rw [M.2.2.2.2.2.2.2.1]
  have hG : s_G S = G := M.2.1
  rw [← hG] at hj hz0
  obtain ⟨mc, hL, hn9, hq⟩ := hj
  have hL0 := hL
  refine v_aload_n hc dJx4a65c_add_9ea2d_0 rfl ?_
  refine v_dup hc dJx4a65c_add_9ea2d_1 rfl ?_
  refine v_get hc ho dJx4a65c_add_9ea2d_2 F_Jx4a65c_63 hL rfl ?_
  refine z_iconst hc dJx4a65c_add_9ea2d_5 ?_
  refine z_iadd hc dJx4a65c_add_9ea2d_6 ?_
  refine x_put hc ho dJx4a65c_add_9ea2d_7 F_Jx4a65c_63 hL rfl ⟨rfl, rfl⟩ (fun h1 e1 e2 => ?_)
  have hL := e1
  have hq : (n = 0 ∧ ad = (s_G S).2.2.1) ∨ ∃ (cap : Nat) (f : Nat → Option Nat), h1 ad = some (b_qA cap f) ∧ ad ≠ o ∧ 0 < cap ∧ n ≤ cap ∧ cap < 1000 ∧ ∀ j, j < n → f j = some (e j) := by
    rcases hq with q | ⟨cap, f, q1, q2, q3⟩
    · exact Or.inl q
    · exact Or.inr ⟨cap, f, (e2 ad q2).trans q1, q2, q3⟩
  refine v_aload_n hc dJx4a65c_add_9ea2d_10 rfl ?_
  refine v_aload_n hc dJx4a65c_add_9ea2d_11 rfl ?_
  refine v_aload_n hc dJx4a65c_add_9ea2d_12 rfl ?_
  refine v_get hc ho dJx4a65c_add_9ea2d_13 F_Jx4a65c_9 hL rfl ?_
  refine v_aload_n hc dJx4a65c_add_9ea2d_16 rfl ?_
  refine v_get hc ho dJx4a65c_add_9ea2d_17 F_Jx4a65c_48 hL rfl ?_
  refine v_callV (As := [.ref v, .ref ad, .int (zI n)]) hc ho dJx4a65c_add_9ea2d_20 KV_Jx4a65c_131 KB_Jx4a65c_add_72be8 hL rfl rfl (c_add3 _ _ (v := v) (e := e) hL hq hz0 hn ho2 hr hca (fun j hj => by obtain ⟨vs, hvs⟩ := hel j hj; exact ⟨vs, (e2 _ (fun q => by rw [q, hL0] at hvs; exact hci (by injection hvs with hvs; injection hvs with hvs; injection hvs with hvs; injection hvs with hvs; exact (Prod.ext_iff.mp hvs).1.symm))).trans hvs⟩) ((e2 v hvo).trans hv) hvo) rfl (Nat.le_of_ble_eq_true rfl) ⟨by omega, by omega⟩ ⟨by omega, by omega⟩ (fun r_ h_ sz_ q_ z_ => ?_)
  obtain ⟨rfl, ad2, g1, g2, g3⟩ := q_
  rw [hG] at g2
  refine z_iconst hc dJx4a65c_add_9ea2d_23 ?_
  refine z_zret M (by omega) dJx4a65c_add_9ea2d_24 (by omega) (by omega) ?_
  exact ⟨rfl, ad2, g1, g2, fun b hb hb2 => (g3 b hb hb2).trans (e2 b hb)⟩
