/-! the reference: ways, on -/
theorem w_hw_mono {a : Nat → Nat → Int} {p b : Int} {x : Nat} (h : w_hw a p b x = true) : ∀ n : Nat, w_hw a p b (x + n) = true
  | 0 => h
  | n + 1 => by rw [← Nat.add_assoc, w_hw, w_hw_mono h n]; rfl
theorem w_cong {a a0 : Nat → Nat → Int} (hE : ∀ k, k ≠ 16 → a k = a0 k) (p : Int) : (∀ b n, w_hw a p b n = w_hw a0 p b n) ∧ (∀ n b, w_bg a p n b = w_bg a0 p n b) ∧ w_N a p = w_N a0 p := by
  obtain ⟨h1, h2, h3, h4⟩ := w_E_cong hE p
  have hb : ∀ n b, w_bg a p n b = w_bg a0 p n b := fun n b => by unfold w_bg; rw [h1, h3]
  refine ⟨fun b n => ?_, hb, by unfold w_N; rw [hE 15 (by decide)]⟩
  induction n with
  | zero => rfl
  | succ n ih => rw [w_hw, w_hw, ih, hb, h4]

set_option maxHeartbeats 4000000 in
theorem l_X7_hasWay_2 {S : b_S} {l : Launch} {G : b_G} {o : Nat} {ad : Nat → Nat} {i : Nat → Int} {a : Nat → Nat → Int} {h : b_H} {sz : Nat} {post : Option Value → b_H → Nat → Prop} (M : b_M S l G RX7 cX7_hasWay 5 (some .boolean) "hasWay" 1 22 0 0 h sz post) (hO : r_O K7 7 o ad i a h) (hI : m_P i a) {p b : Int} (hp : 0 ≤ p ∧ p ≤ 11) (hb : 0 ≤ b ∧ b ≤ 400) (hD : m_D (a 16) (a 12 p.toNat) (w_E a p) 17 0 0) (P1 : w_hw a p b 16 = true → post (some (.int (zI 1))) h sz) (P0 : w_hw a p b 16 = false → post (some (.int (zI 0))) h sz) : ∀ (d : Nat) (n : Int) (x4 : Option Value), ((17 - n).toNat = d) → (1 ≤ n) → (n ≤ 17) → (w_hw a p b (n - 1).toNat = false) → V S 0 0 h sz 2 [some (.ref o), some (.int (zI p)), some (.int (zI b)), some (.int (zI n)), x4] [] := by
  have hc := M.2.2.2.1
  have ho : s_own S = RX7 := M.2.2.1
  have hFr : (s_R S).frames = 1 := by rw [M.2.2.2.2.2.2.2.1]
  have hLo : (s_R S).locals = 22 := by rw [M.2.2.2.2.2.2.2.1]
  have hCe : (s_R S).cells = 0 := by rw [M.2.2.2.2.2.2.2.1]
  have hSl : (s_R S).slots = 0 := by rw [M.2.2.2.2.2.2.2.1]
  have hi := hO.2.2.2.1
  have ha := hO.2.2.2.2
  obtain ⟨hI5, hIbk, hIsf, hIky, hImd, hIth, hIfe, hIbt, hIb1, hIhw, hInx, hIen⟩ := id hI
  intro d
  induction d using Nat.strongRecOn with
  | ind d ih =>
    intro n x4 hd h0 h1 hr
    have hbk := hIbk p.toNat
    refine v_iload_n hc dX7_hasWay_2 rfl ?_
    refine z_bipush hc dX7_hasWay_3 (by decide) ?_
    refine z_icmp_gt (tgt := 61) hc dX7_hasWay_5 (by decide) (by first | assumption | exact hi _ | exact ha _ _ | (unfold zb; omega)) (by first | assumption | exact hi _ | exact ha _ _ | (unfold zb; omega)) (fun c_1 => ?_) (fun c_1 => ?_)
    · refine z_iconst hc dX7_hasWay_61 ?_
      refine z_zret M (by omega) dX7_hasWay_62 (by omega) (by omega) ?_
      exact P0 (by rw [show n - 1 = 16 by omega] at hr; exact hr)
    · refine z_iconst hc dX7_hasWay_8 ?_
      refine v_istore hc dX7_hasWay_9 (Nat.le_of_ble_eq_true rfl) ?_
      refine l_X7_hasWay_11 M hO hI hp hb hD (n := n) (by omega) (fun q => P1 ?_) (fun q => ?_) _ _ rfl (by omega) (by omega) rfl
      · have z := w_hw_mono (a := a) (p := p) (b := b) (x := n.toNat) (by rw [show n.toNat = (n - 1).toNat + 1 by omega, w_hw, show (n - 1).toNat + 1 = n.toNat by omega, q, Bool.or_true]) (16 - n.toNat)
        rw [show n.toNat + (16 - n.toNat) = 16 by omega] at z; exact z
      · refine z_iinc hc dX7_hasWay_55 rfl ?_
        refine v_goto (tgt := 2) hc dX7_hasWay_58 (by decide) ?_
        exact ih _ (by omega) _ _ rfl (by omega) (by omega) (by rw [show (n + 1 - 1).toNat = (n - 1).toNat + 1 by omega, w_hw, hr, show (n - 1).toNat + 1 = n.toNat by omega, q]; rfl)
set_option maxHeartbeats 4000000 in
theorem c_X7_hasWay (l : Launch) (G : b_G) {o : Nat} {ad : Nat → Nat} {i : Nat → Int} {a : Nat → Nat → Int} {h : b_H} {sz : Nat} (hO : r_O K7 7 o ad i a h) (hI : m_P i a) {p b : Int} (hp : 0 ≤ p ∧ p ≤ 11) (hb : 0 ≤ b ∧ b ≤ 400) (hD : m_D (a 16) (a 12 p.toNat) (w_E a p) 17 0 0) : Con l G yX7_hasWay cX7_hasWay 5 (some .boolean) 1 22 0 0 [.ref o, .int (zI p), .int (zI b)] h sz (p_ro (some (.int (zI (bI (w_hw a p b 16 = true))))) h sz) := by
  refine Con.ofK (by decide +kernel) rfl rfl ?_
  intro S M
  have hc := M.2.2.2.1
  have ho : s_own S = RX7 := M.2.2.1
  have hFr : (s_R S).frames = 1 := by rw [M.2.2.2.2.2.2.2.1]
  have hLo : (s_R S).locals = 22 := by rw [M.2.2.2.2.2.2.2.1]
  have hCe : (s_R S).cells = 0 := by rw [M.2.2.2.2.2.2.2.1]
  have hSl : (s_R S).slots = 0 := by rw [M.2.2.2.2.2.2.2.1]
  have hi := hO.2.2.2.1
  have ha := hO.2.2.2.2
  obtain ⟨hI5, hIbk, hIsf, hIky, hImd, hIth, hIfe, hIbt, hIb1, hIhw, hInx, hIen⟩ := id hI
  refine z_iconst hc dX7_hasWay_0 ?_
  refine v_istore_n hc dX7_hasWay_1 (Nat.le_of_ble_eq_true rfl) ?_
  exact l_X7_hasWay_2 M hO hI hp hb hD (fun q => ⟨by rw [bI, if_pos q], rfl, rfl⟩) (fun q => ⟨by rw [bI, if_neg (by rw [q]; decide)], rfl, rfl⟩) _ _ _ rfl (by omega) (by omega) rfl
theorem p_mf_bd {lo hi t : Int} (h1 : 0 ≤ lo ∧ lo ≤ 240000) (h2 : 0 ≤ hi ∧ hi ≤ 240000) (h3 : 0 ≤ t ∧ t ≤ 100000) : 0 ≤ p_mf lo hi t ∧ p_mf lo hi t ≤ 340000 := by
  unfold p_mf p_of
  split
  · omega
  · split <;> split <;> split <;> omega

set_option maxHeartbeats 4000000 in
theorem l_X7_bestFor_6 {S : b_S} {l : Launch} {G : b_G} {o : Nat} {ad : Nat → Nat} {i : Nat → Int} {a : Nat → Nat → Int} {h : b_H} {sz : Nat} {post : Option Value → b_H → Nat → Prop} (M : b_M S l G RX7 cX7_bestFor 5 (some .int) "bestFor" 2 47 0 0 h sz post) (hO : r_O K7 7 o ad i a h) (hI : m_P i a) {p t : Int} (hp : 0 ≤ p ∧ p < i 5) (ht : 0 ≤ t ∧ t ≤ 100000) (hD : m_D (a 16) (a 12 p.toNat) (w_E a p) 17 0 0) (P : post (some (.int (zI (q_bt (fun b => w_hw a p (b : Int) 16 = true) (fun b => p_mf (600 * b / a 9 p.toNat) (600 * b / a 8 p.toNat) t) 400)))) h sz) : ∀ (d : Nat) (r x : Int), ((401 - x).toNat = d) → (1 ≤ x) → (x ≤ 401) → (r = q_bt (fun b => w_hw a p (b : Int) 16 = true) (fun b => p_mf (600 * b / a 9 p.toNat) (600 * b / a 8 p.toNat) t) (x - 1).toNat) → V S 0 0 h sz 6 [some (.ref o), some (.int (zI p)), some (.int (zI t)), some (.int (zI r)), some (.int (zI x))] [] := by
  have hc := M.2.2.2.1
  have ho : s_own S = RX7 := M.2.2.1
  have hFr : (s_R S).frames = 2 := by rw [M.2.2.2.2.2.2.2.1]
  have hLo : (s_R S).locals = 47 := by rw [M.2.2.2.2.2.2.2.1]
  have hCe : (s_R S).cells = 0 := by rw [M.2.2.2.2.2.2.2.1]
  have hSl : (s_R S).slots = 0 := by rw [M.2.2.2.2.2.2.2.1]
  have hi := hO.2.2.2.1
  have ha := hO.2.2.2.2
  obtain ⟨hI5, hIbk, hIsf, hIky, hImd, hIth, hIfe, hIbt, hIb1, hIhw, hInx, hIen⟩ := id hI
  intro d
  induction d using Nat.strongRecOn with
  | ind d ih =>
    intro r x hd h0 h1 hr
    have hrb := q_bt_bd (fun b => w_hw a p (b : Int) 16 = true) (fun b => p_mf (600 * b / a 9 p.toNat) (600 * b / a 8 p.toNat) t) (x - 1).toNat
    rw [← hr] at hrb
    have hsf := hIsf p.toNat (by omega)
    refine v_iload hc dX7_bestFor_6 rfl ?_
    refine z_sipush hc dX7_bestFor_8 (by decide) ?_
    refine z_icmp_gt (tgt := 55) hc dX7_bestFor_11 (by decide) (by first | assumption | exact hi _ | exact ha _ _ | (unfold zb; omega)) (by first | assumption | exact hi _ | exact ha _ _ | (unfold zb; omega)) (fun c_1 => ?_) (fun c_1 => ?_)
    · refine v_iload_n hc dX7_bestFor_55 rfl ?_
      refine z_iret M dX7_bestFor_56 (by omega) (by omega) ?_
      rw [hr, show x - 1 = 400 by omega]
      exact P
    · refine v_aload_n hc dX7_bestFor_14 rfl ?_
      refine v_iload_n hc dX7_bestFor_15 rfl ?_
      refine v_iload hc dX7_bestFor_16 rfl ?_
      refine v_callV (As := [.int (zI p), .int (zI x)]) hc ho dX7_bestFor_18 KV_X7_191 KB_X7_hasWay hO.1 rfl rfl (c_X7_hasWay _ _ hO hI (p := p) (b := x) (by omega) (by omega) hD) rfl (Nat.le_of_ble_eq_true rfl) ⟨by omega, by omega⟩ ⟨by omega, by omega⟩ (fun r_ h_ sz_ q_ z_ => ?_)
      obtain ⟨rfl, rfl, rfl⟩ := q_
      have hw0 := @bI_0 (w_hw a p x 16 = true) _
      have hw1 := @bI_1 (w_hw a p x 16 = true) _
      have hwb := bI_bd (w_hw a p x 16 = true)
      refine z_if_eq (tgt := 49) hc dX7_bestFor_21 (by decide) (by first | assumption | exact hi _ | exact ha _ _ | (unfold zb; omega)) (fun c_2 => ?_) (fun c_2 => ?_)
      · refine z_iinc hc dX7_bestFor_49 rfl ?_
        refine v_goto (tgt := 6) hc dX7_bestFor_52 (by decide) ?_
        exact ih _ (by omega) _ _ rfl (by omega) (by omega) (by rw [show (x + 1 - 1).toNat = (x - 1).toNat + 1 by omega, q_bt, ← hr, show (((x - 1).toNat + 1 : Nat) : Int) = x by omega, show (((x - 1).toNat : Nat) : Int) + 1 = x by omega]; first | (rw [if_pos ⟨hw1.mp (by assumption), by omega⟩]; done) | (rw [if_neg (fun z => by have z2 := z.2; omega)]; done) | (rw [if_neg (fun z => (hw0.mp (by assumption)) z.1)]; done))
      · refine v_iload_n hc dX7_bestFor_24 rfl ?_
        refine z_if_lt (tgt := 46) hc dX7_bestFor_25 (by decide) (by first | assumption | exact hi _ | exact ha _ _ | (unfold zb; omega)) (fun c_3 => ?_) (fun c_3 => ?_)
        · refine v_iload hc dX7_bestFor_46 rfl ?_
          refine v_istore_n hc dX7_bestFor_48 (Nat.le_of_ble_eq_true rfl) ?_
          refine z_iinc hc dX7_bestFor_49 rfl ?_
          refine v_goto (tgt := 6) hc dX7_bestFor_52 (by decide) ?_
          exact ih _ (by omega) _ _ rfl (by omega) (by omega) (by rw [show (x + 1 - 1).toNat = (x - 1).toNat + 1 by omega, q_bt, ← hr, show (((x - 1).toNat + 1 : Nat) : Int) = x by omega, show (((x - 1).toNat : Nat) : Int) + 1 = x by omega]; first | (rw [if_pos ⟨hw1.mp (by assumption), by omega⟩]; done) | (rw [if_neg (fun z => by have z2 := z.2; omega)]; done) | (rw [if_neg (fun z => (hw0.mp (by assumption)) z.1)]; done))
        · refine v_aload_n hc dX7_bestFor_28 rfl ?_
          refine v_iload_n hc dX7_bestFor_29 rfl ?_
          refine v_iload hc dX7_bestFor_30 rfl ?_
          refine v_iload_n hc dX7_bestFor_32 rfl ?_
          refine v_callV (As := [.int (zI p), .int (zI x), .int (zI t)]) hc ho dX7_bestFor_33 KV_X7_188 KB_X7_misfitOf hO.1 rfl rfl (c_X7_misfitOf _ _ hO hI (p := p) (b := x) (t := t) (by omega) (by omega) ht) rfl (Nat.le_of_ble_eq_true rfl) ⟨by omega, by omega⟩ ⟨by omega, by omega⟩ (fun r_ h_ sz_ q_ z_ => ?_)
          obtain ⟨rfl, rfl, rfl⟩ := q_
          refine v_aload_n hc dX7_bestFor_36 rfl ?_
          refine v_iload_n hc dX7_bestFor_37 rfl ?_
          refine v_iload_n hc dX7_bestFor_38 rfl ?_
          refine v_iload_n hc dX7_bestFor_39 rfl ?_
          refine v_callV (As := [.int (zI p), .int (zI r), .int (zI t)]) hc ho dX7_bestFor_40 KV_X7_188 KB_X7_misfitOf hO.1 rfl rfl (c_X7_misfitOf _ _ hO hI (p := p) (b := r) (t := t) (by omega) (by omega) ht) rfl (Nat.le_of_ble_eq_true rfl) ⟨by omega, by omega⟩ ⟨by omega, by omega⟩ (fun r_ h_ sz_ q_ z_ => ?_)
          obtain ⟨rfl, rfl, rfl⟩ := q_
          have hx1 := b_div_bd (x := 600 * x) (y := a 9 p.toNat) (by omega) (by omega)
          have hx2 := b_div_bd (x := 600 * x) (y := a 8 p.toNat) (by omega) (by omega)
          have hr1 := b_div_bd (x := 600 * r) (y := a 9 p.toNat) (by omega) (by omega)
          have hr2 := b_div_bd (x := 600 * r) (y := a 8 p.toNat) (by omega) (by omega)
          have hm1 := p_mf_bd (lo := 600 * x / a 9 p.toNat) (hi := 600 * x / a 8 p.toNat) (t := t) (by omega) (by omega) ht
          have hm2 := p_mf_bd (lo := 600 * r / a 9 p.toNat) (hi := 600 * r / a 8 p.toNat) (t := t) (by omega) (by omega) ht
          refine z_icmp_ge (tgt := 49) hc dX7_bestFor_43 (by decide) (by first | assumption | exact hi _ | exact ha _ _ | (unfold zb; omega)) (by first | assumption | exact hi _ | exact ha _ _ | (unfold zb; omega)) (fun c_4 => ?_) (fun c_4 => ?_)
          · refine z_iinc hc dX7_bestFor_49 rfl ?_
            refine v_goto (tgt := 6) hc dX7_bestFor_52 (by decide) ?_
            exact ih _ (by omega) _ _ rfl (by omega) (by omega) (by rw [show (x + 1 - 1).toNat = (x - 1).toNat + 1 by omega, q_bt, ← hr, show (((x - 1).toNat + 1 : Nat) : Int) = x by omega, show (((x - 1).toNat : Nat) : Int) + 1 = x by omega]; first | (rw [if_pos ⟨hw1.mp (by assumption), by omega⟩]; done) | (rw [if_neg (fun z => by have z2 := z.2; omega)]; done) | (rw [if_neg (fun z => (hw0.mp (by assumption)) z.1)]; done))
          · refine v_iload hc dX7_bestFor_46 rfl ?_
            refine v_istore_n hc dX7_bestFor_48 (Nat.le_of_ble_eq_true rfl) ?_
            refine z_iinc hc dX7_bestFor_49 rfl ?_
            refine v_goto (tgt := 6) hc dX7_bestFor_52 (by decide) ?_
            exact ih _ (by omega) _ _ rfl (by omega) (by omega) (by rw [show (x + 1 - 1).toNat = (x - 1).toNat + 1 by omega, q_bt, ← hr, show (((x - 1).toNat + 1 : Nat) : Int) = x by omega, show (((x - 1).toNat : Nat) : Int) + 1 = x by omega]; first | (rw [if_pos ⟨hw1.mp (by assumption), by omega⟩]; done) | (rw [if_neg (fun z => by have z2 := z.2; omega)]; done) | (rw [if_neg (fun z => (hw0.mp (by assumption)) z.1)]; done))
set_option maxHeartbeats 4000000 in
theorem c_X7_bestFor (l : Launch) (G : b_G) {o : Nat} {ad : Nat → Nat} {i : Nat → Int} {a : Nat → Nat → Int} {h : b_H} {sz : Nat} (hO : r_O K7 7 o ad i a h) (hI : m_P i a) {p t : Int} (hp : 0 ≤ p ∧ p < i 5) (ht : 0 ≤ t ∧ t ≤ 100000) (hD : m_D (a 16) (a 12 p.toNat) (w_E a p) 17 0 0) : Con l G yX7_bestFor cX7_bestFor 5 (some .int) 2 47 0 0 [.ref o, .int (zI p), .int (zI t)] h sz (p_ro (some (.int (zI (q_bt (fun b => w_hw a p (b : Int) 16 = true) (fun b => p_mf (600 * b / a 9 p.toNat) (600 * b / a 8 p.toNat) t) 400)))) h sz) := by
  refine Con.ofK (by decide +kernel) rfl rfl ?_
  intro S M
  have hc := M.2.2.2.1
  have ho : s_own S = RX7 := M.2.2.1
  have hFr : (s_R S).frames = 2 := by rw [M.2.2.2.2.2.2.2.1]
  have hLo : (s_R S).locals = 47 := by rw [M.2.2.2.2.2.2.2.1]
  have hCe : (s_R S).cells = 0 := by rw [M.2.2.2.2.2.2.2.1]
  have hSl : (s_R S).slots = 0 := by rw [M.2.2.2.2.2.2.2.1]
  have hi := hO.2.2.2.1
  have ha := hO.2.2.2.2
  obtain ⟨hI5, hIbk, hIsf, hIky, hImd, hIth, hIfe, hIbt, hIb1, hIhw, hInx, hIen⟩ := id hI
  refine z_bipush hc dX7_bestFor_0 (by decide) ?_
  refine v_istore_n hc dX7_bestFor_2 (Nat.le_of_ble_eq_true rfl) ?_
  refine z_iconst hc dX7_bestFor_3 ?_
  refine v_istore hc dX7_bestFor_4 (Nat.le_of_ble_eq_true rfl) ?_
  exact l_X7_bestFor_6 M hO hI hp ht hD ⟨rfl, rfl, rfl⟩ _ _ _ rfl (by omega) (by omega) rfl
set_option maxHeartbeats 4000000 in
theorem c_X7_best (l : Launch) (G : b_G) {o : Nat} {ad : Nat → Nat} {i : Nat → Int} {a : Nat → Nat → Int} {h : b_H} {sz : Nat} (hO : r_O K7 7 o ad i a h) (hI : m_P i a) {p t : Int} (hp : zb p) (ht : zb t) : Con l G yX7_best cX7_best 3 (some .int) 3 71 0 0 [.ref o, .int (zI p), .int (zI t)] h sz (p_wr K7 7 o ad h sz (fun r i2 a2 => (¬ ((0 ≤ p ∧ p ≤ i 5 - 1) ∧ 0 ≤ t ∧ t ≤ 100000) ∧ r = some (.int (zI (-1))) ∧ i2 = i ∧ a2 = a) ∨ (((0 ≤ p ∧ p ≤ i 5 - 1) ∧ 0 ≤ t ∧ t ≤ 100000) ∧ r = some (.int (zI (q_bt (fun b => w_hw a p (b : Int) 16 = true) (fun b => p_mf (600 * b / a 9 p.toNat) (600 * b / a 8 p.toNat) t) 400))) ∧ i2 = i ∧ m_P i2 a2 ∧ ∀ k, k ≠ 16 → a2 k = a k))) := by
  refine Con.ofK (by decide +kernel) rfl rfl ?_
  intro S M
  have hc := M.2.2.2.1
  have ho : s_own S = RX7 := M.2.2.1
  have hFr : (s_R S).frames = 3 := by rw [M.2.2.2.2.2.2.2.1]
  have hLo : (s_R S).locals = 71 := by rw [M.2.2.2.2.2.2.2.1]
  have hCe : (s_R S).cells = 0 := by rw [M.2.2.2.2.2.2.2.1]
  have hSl : (s_R S).slots = 0 := by rw [M.2.2.2.2.2.2.2.1]
  have hi := hO.2.2.2.1
  have ha := hO.2.2.2.2
  obtain ⟨hI5, hIbk, hIsf, hIky, hImd, hIth, hIfe, hIbt, hIb1, hIhw, hInx, hIen⟩ := id hI
  have hfr : ∀ b, ¬ r_own K7 o ad b → h b = h b := fun _ _ => rfl
  refine v_aload_n hc dX7_best_0 rfl ?_
  refine v_iload_n hc dX7_best_1 rfl ?_
  refine v_callV (As := [.int (zI p)]) hc ho dX7_best_2 KV_X7_155 KB_X7_isPiece hO.1 rfl rfl (c_X7_isPiece _ _ hO hI (x := p) (by first | assumption | exact hi _ | exact ha _ _ | (unfold zb; omega))) rfl (Nat.le_of_ble_eq_true rfl) ⟨by omega, by omega⟩ ⟨by omega, by omega⟩ (fun r_ h_ sz_ q_ z_ => ?_)
  obtain ⟨rfl, rfl, rfl⟩ := q_
  have hp0 := @bI_0 (0 ≤ p ∧ p ≤ i 5 - 1) _
  have hp1 := @bI_1 (0 ≤ p ∧ p ≤ i 5 - 1) _
  have hpb := bI_bd (0 ≤ p ∧ p ≤ i 5 - 1)
  refine z_if_eq (tgt := 18) hc dX7_best_5 (by decide) (by first | assumption | exact hi _ | exact ha _ _ | (unfold zb; omega)) (fun c_1 => ?_) (fun c_1 => ?_)
  · refine z_iconst hc dX7_best_18 ?_
    refine z_iret M dX7_best_19 (by omega) (by omega) ?_
    exact ⟨rfl, _, _, Or.inl ⟨by omega, rfl, rfl, rfl⟩, hO, hfr⟩
  · refine v_iload_n hc dX7_best_8 rfl ?_
    refine z_iconst hc dX7_best_9 ?_
    refine z_ldc hc ho dX7_best_10 K_X7_187 ?_
    refine v_callS (As := [.int (zI (t)), .int (zI (0)), .int (zI (100000))]) hc ho dX7_best_12 KS_X7_130 KB_X7_in (c_X7_in _ _ (x := t) (y := 0) (z := 100000) (by first | assumption | exact hi _ | exact ha _ _ | (unfold zb; omega)) (by first | assumption | exact hi _ | exact ha _ _ | (unfold zb; omega)) (by first | assumption | exact hi _ | exact ha _ _ | (unfold zb; omega))) rfl (Nat.le_of_ble_eq_true rfl) ⟨by omega, by omega⟩ ⟨by omega, by omega⟩ (fun r_ h_ sz_ q_ z_ => ?_)
    obtain ⟨rfl, rfl, rfl⟩ := q_
    have hq0 := @bI_0 (0 ≤ t ∧ t ≤ 100000) _
    have hq1 := @bI_1 (0 ≤ t ∧ t ≤ 100000) _
    have hqb := bI_bd (0 ≤ t ∧ t ≤ 100000)
    refine z_if_ne (tgt := 20) hc dX7_best_15 (by decide) (by first | assumption | exact hi _ | exact ha _ _ | (unfold zb; omega)) (fun c_2 => ?_) (fun c_2 => ?_)
    · refine v_aload_n hc dX7_best_20 rfl ?_
      refine v_iload_n hc dX7_best_21 rfl ?_
      refine v_callV (As := [.int (zI p)]) hc ho dX7_best_22 KV_X7_170 KB_X7_findWays hO.1 rfl rfl (c_X7_findWays _ _ hO hI (p := p) (by omega)) rfl (Nat.le_of_ble_eq_true rfl) ⟨by omega, by omega⟩ ⟨by omega, by omega⟩ (fun r_ h_ sz_ q_ z_ => ?_)
      obtain ⟨rfl, i3, a3, ⟨rfl, rfl, hI3, hE3, hD3⟩, hO3, hfr3⟩ := q_
      obtain ⟨hwE, hwB, hwH, h12⟩ := w_E_cong hE3 p
      obtain ⟨hwh, hwb, hwN⟩ := w_cong hE3 p
      have hD4 : m_D (a3 16) (a3 12 p.toNat) (w_E a3 p) 17 0 0 := by rw [h12, hwE]; exact hD3
      have hfr := hfr3
      have hO := hO3
      have e8 := hE3 8 (by decide)
      have e9 := hE3 9 (by decide)
      refine v_aload_n hc dX7_best_25 rfl ?_
      refine v_iload_n hc dX7_best_26 rfl ?_
      refine v_iload_n hc dX7_best_27 rfl ?_
      refine v_callV (As := [.int (zI p), .int (zI t)]) hc ho dX7_best_28 KV_X7_194 KB_X7_bestFor hO.1 rfl rfl (c_X7_bestFor _ _ hO hI3 (p := p) (t := t) (by omega) (by omega) hD4) rfl (Nat.le_of_ble_eq_true rfl) ⟨by omega, by omega⟩ ⟨by omega, by omega⟩ (fun r_ h_ sz_ q_ z_ => ?_)
      obtain ⟨rfl, rfl, rfl⟩ := q_
      refine z_iret M dX7_best_31 (by omega) (by omega) ?_
      exact ⟨rfl, _, _, Or.inr ⟨by omega, by simp only [hwh, e8, e9], rfl, hI3, hE3⟩, hO, hfr⟩
    · refine z_iconst hc dX7_best_18 ?_
      refine z_iret M dX7_best_19 (by omega) (by omega) ?_
      exact ⟨rfl, _, _, Or.inl ⟨by omega, rfl, rfl, rfl⟩, hO, hfr⟩
