/-! the law: the calls that only ask -/
set_option maxHeartbeats 4000000 in
theorem law_stretches {S : b_S} {b Ls : Nat} {xs : Nat → Int32} (hC : lw_ctx S b Ls xs) {o6 o7 : Nat} {c x : Int} {k m : Nat} {h : b_H} {sz : Nat} (hI : lw_I (s_G S) o6 o7 c k m h sz) (hc5 : c < 512) (hx : 0 ≤ x ∧ x + 5 ≤ Ls) (K : ∀ (k m : Nat) (h : b_H) (sz : Nat), lw_I (s_G S) o6 o7 (c + 1) k m h sz → V S k m h sz 954 [some (.ref b), some (.ref o6), some (.ref o7), some (.int (zI x))] []) : V S k m h sz 226 [some (.ref b), some (.ref o6), some (.ref o7), some (.int (zI x))] [] := by
  obtain ⟨hSX, hSh, hc, ho, hFr, hLo, hCe, hSl, hLs⟩ := hC
  obtain ⟨ad, L, n, I, A, nf, LN, PI, PR, PB, hn, mf, SN, SI, SR, SB, i, s, j, a, hX, hO, hR, hk, hm⟩ := hI
  obtain ⟨hc0, hF, hD, hK, hP, hG, hN, hCc⟩ := id hR
  obtain ⟨fs, h6⟩ := hX.obj
  obtain ⟨hP5, hn12, hmP, hpp, hp0⟩ := id hP
  have hq : ∀ p, p < n → q_J (I (p + 20)) (A (p + 20)) := fun p hp => (hpp p hp).2
  have hL786 := hK.2.2.2.2.1
  obtain ⟨y1, e1, z1⟩ : ∃ y, (xs (x + 1).toNat).toInt = y ∧ zb y := ⟨_, rfl, zb_of _⟩
  obtain ⟨y2, e2, z2⟩ : ∃ y, (xs (x + 2).toNat).toInt = y ∧ zb y := ⟨_, rfl, zb_of _⟩
  obtain ⟨y3, e3, z3⟩ : ∃ y, (xs (x + 3).toNat).toInt = y ∧ zb y := ⟨_, rfl, zb_of _⟩
  obtain ⟨y4, e4, z4⟩ : ∃ y, (xs (x + 4).toNat).toInt = y ∧ zb y := ⟨_, rfl, zb_of _⟩
  refine v_aload_n hc dL_law_226 rfl ?_
  refine v_callV (As := []) hc ho dL_law_227 KV_L_22 KB_X6_stretches h6 rfl rfl (c_X6_stretches _ _ hX hF.2.1) rfl (Nat.le_of_ble_eq_true rfl) ⟨by omega, by omega⟩ ⟨by omega, by omega⟩ (fun r6 h6_ s6 q6 z6 => ?_)
  obtain ⟨rfl, eh_, es_⟩ := q6
  have eh_ := eh_.symm
  subst eh_
  have es_ := es_.symm
  subst es_
  refine v_aload_n hc dL_law_230 rfl ?_
  refine v_callV (As := []) hc ho dL_law_231 KV_L_26 KB_X7_stretches hO.1 rfl rfl (c_X7_stretches _ _ hO hF.2.2) rfl (Nat.le_of_ble_eq_true rfl) ⟨by omega, by omega⟩ ⟨by omega, by omega⟩ (fun r7 h7_ s7 q7 z7 => ?_)
  obtain ⟨rfl, eh_, es_⟩ := q7
  have eh_ := eh_.symm
  subst eh_
  have es_ := es_.symm
  subst es_
  rw [e_stretches hF]
  refine v_icmp_same (tgt := 954) hc dL_law_234 (by decide) ?_
  exact K _ _ _ _ ⟨ad, L, n, I, A, nf, LN, PI, PR, PB, hn, mf, SN, SI, SR, SB, i, s, j, a, hX, hO, hR.mono, by push_cast; omega, by push_cast; omega⟩

set_option maxHeartbeats 4000000 in
theorem law_stretch {S : b_S} {b Ls : Nat} {xs : Nat → Int32} (hC : lw_ctx S b Ls xs) {o6 o7 : Nat} {c x : Int} {k m : Nat} {h : b_H} {sz : Nat} (hI : lw_I (s_G S) o6 o7 c k m h sz) (hc5 : c < 512) (hx : 0 ≤ x ∧ x + 5 ≤ Ls) (K : ∀ (k m : Nat) (h : b_H) (sz : Nat), lw_I (s_G S) o6 o7 (c + 1) k m h sz → V S k m h sz 954 [some (.ref b), some (.ref o6), some (.ref o7), some (.int (zI x))] []) : V S k m h sz 239 [some (.ref b), some (.ref o6), some (.ref o7), some (.int (zI x))] [] := by
  obtain ⟨hSX, hSh, hc, ho, hFr, hLo, hCe, hSl, hLs⟩ := hC
  obtain ⟨ad, L, n, I, A, nf, LN, PI, PR, PB, hn, mf, SN, SI, SR, SB, i, s, j, a, hX, hO, hR, hk, hm⟩ := hI
  obtain ⟨hc0, hF, hD, hK, hP, hG, hN, hCc⟩ := id hR
  obtain ⟨fs, h6⟩ := hX.obj
  obtain ⟨hP5, hn12, hmP, hpp, hp0⟩ := id hP
  have hq : ∀ p, p < n → q_J (I (p + 20)) (A (p + 20)) := fun p hp => (hpp p hp).2
  have hL786 := hK.2.2.2.2.1
  obtain ⟨y1, e1, z1⟩ : ∃ y, (xs (x + 1).toNat).toInt = y ∧ zb y := ⟨_, rfl, zb_of _⟩
  obtain ⟨y2, e2, z2⟩ : ∃ y, (xs (x + 2).toNat).toInt = y ∧ zb y := ⟨_, rfl, zb_of _⟩
  obtain ⟨y3, e3, z3⟩ : ∃ y, (xs (x + 3).toNat).toInt = y ∧ zb y := ⟨_, rfl, zb_of _⟩
  obtain ⟨y4, e4, z4⟩ : ∃ y, (xs (x + 4).toNat).toInt = y ∧ zb y := ⟨_, rfl, zb_of _⟩
  refine v_aload_n hc dL_law_239 rfl ?_
  refine v_aload_n hc dL_law_240 rfl ?_
  refine v_iload_n hc dL_law_241 rfl ?_
  refine z_iconst hc dL_law_242 ?_
  refine z_iadd hc dL_law_243 ?_
  refine v_sld hSX hSh hc dL_law_244 (by omega) (by omega) hLs ?_
  rw [e1]
  refine v_aload_n hc dL_law_245 rfl ?_
  refine v_iload_n hc dL_law_246 rfl ?_
  refine z_iconst hc dL_law_247 ?_
  refine z_iadd hc dL_law_248 ?_
  refine v_sld hSX hSh hc dL_law_249 (by omega) (by omega) hLs ?_
  rw [e2]
  refine v_callV (As := [.int (zI y1), .int (zI y2)]) hc ho dL_law_250 KV_L_27 KB_X6_stretch h6 rfl rfl (c_X6_stretch _ _ hX hF.2.1 z1 z2) rfl (Nat.le_of_ble_eq_true rfl) ⟨by omega, by omega⟩ ⟨by omega, by omega⟩ (fun r6 h6_ s6 q6 z6 => ?_)
  obtain ⟨rfl, eh_, es_⟩ := q6
  have eh_ := eh_.symm
  subst eh_
  have es_ := es_.symm
  subst es_
  refine v_aload_n hc dL_law_253 rfl ?_
  refine v_aload_n hc dL_law_254 rfl ?_
  refine v_iload_n hc dL_law_255 rfl ?_
  refine z_iconst hc dL_law_256 ?_
  refine z_iadd hc dL_law_257 ?_
  refine v_sld hSX hSh hc dL_law_258 (by omega) (by omega) hLs ?_
  rw [e1]
  refine v_aload_n hc dL_law_259 rfl ?_
  refine v_iload_n hc dL_law_260 rfl ?_
  refine z_iconst hc dL_law_261 ?_
  refine z_iadd hc dL_law_262 ?_
  refine v_sld hSX hSh hc dL_law_263 (by omega) (by omega) hLs ?_
  rw [e2]
  refine v_callV (As := [.int (zI y1), .int (zI y2)]) hc ho dL_law_264 KV_L_30 KB_X7_stretch hO.1 rfl rfl (c_X7_stretch _ _ hO hF.2.2 z1 z2) rfl (Nat.le_of_ble_eq_true rfl) ⟨by omega, by omega⟩ ⟨by omega, by omega⟩ (fun r7 h7_ s7 q7 z7 => ?_)
  obtain ⟨rfl, eh_, es_⟩ := q7
  have eh_ := eh_.symm
  subst eh_
  have es_ := es_.symm
  subst es_
  rw [e_stretch hF]
  refine v_icmp_same (tgt := 954) hc dL_law_267 (by decide) ?_
  exact K _ _ _ _ ⟨ad, L, n, I, A, nf, LN, PI, PR, PB, hn, mf, SN, SI, SR, SB, i, s, j, a, hX, hO, hR.mono, by push_cast; omega, by push_cast; omega⟩

set_option maxHeartbeats 4000000 in
theorem law_tenths {S : b_S} {b Ls : Nat} {xs : Nat → Int32} (hC : lw_ctx S b Ls xs) {o6 o7 : Nat} {c x : Int} {k m : Nat} {h : b_H} {sz : Nat} (hI : lw_I (s_G S) o6 o7 c k m h sz) (hc5 : c < 512) (hx : 0 ≤ x ∧ x + 5 ≤ Ls) (K : ∀ (k m : Nat) (h : b_H) (sz : Nat), lw_I (s_G S) o6 o7 (c + 1) k m h sz → V S k m h sz 954 [some (.ref b), some (.ref o6), some (.ref o7), some (.int (zI x))] []) : V S k m h sz 272 [some (.ref b), some (.ref o6), some (.ref o7), some (.int (zI x))] [] := by
  obtain ⟨hSX, hSh, hc, ho, hFr, hLo, hCe, hSl, hLs⟩ := hC
  obtain ⟨ad, L, n, I, A, nf, LN, PI, PR, PB, hn, mf, SN, SI, SR, SB, i, s, j, a, hX, hO, hR, hk, hm⟩ := hI
  obtain ⟨hc0, hF, hD, hK, hP, hG, hN, hCc⟩ := id hR
  obtain ⟨fs, h6⟩ := hX.obj
  obtain ⟨hP5, hn12, hmP, hpp, hp0⟩ := id hP
  have hq : ∀ p, p < n → q_J (I (p + 20)) (A (p + 20)) := fun p hp => (hpp p hp).2
  have hL786 := hK.2.2.2.2.1
  obtain ⟨y1, e1, z1⟩ : ∃ y, (xs (x + 1).toNat).toInt = y ∧ zb y := ⟨_, rfl, zb_of _⟩
  obtain ⟨y2, e2, z2⟩ : ∃ y, (xs (x + 2).toNat).toInt = y ∧ zb y := ⟨_, rfl, zb_of _⟩
  obtain ⟨y3, e3, z3⟩ : ∃ y, (xs (x + 3).toNat).toInt = y ∧ zb y := ⟨_, rfl, zb_of _⟩
  obtain ⟨y4, e4, z4⟩ : ∃ y, (xs (x + 4).toNat).toInt = y ∧ zb y := ⟨_, rfl, zb_of _⟩
  refine v_aload_n hc dL_law_272 rfl ?_
  refine v_aload_n hc dL_law_273 rfl ?_
  refine v_iload_n hc dL_law_274 rfl ?_
  refine z_iconst hc dL_law_275 ?_
  refine z_iadd hc dL_law_276 ?_
  refine v_sld hSX hSh hc dL_law_277 (by omega) (by omega) hLs ?_
  rw [e1]
  refine v_aload_n hc dL_law_278 rfl ?_
  refine v_iload_n hc dL_law_279 rfl ?_
  refine z_iconst hc dL_law_280 ?_
  refine z_iadd hc dL_law_281 ?_
  refine v_sld hSX hSh hc dL_law_282 (by omega) (by omega) hLs ?_
  rw [e2]
  refine v_callV (As := [.int (zI y1), .int (zI y2)]) hc ho dL_law_283 KV_L_31 KB_X6_tenths h6 rfl rfl (c_X6_tenths _ _ hX hF.2.1 z1 z2) rfl (Nat.le_of_ble_eq_true rfl) ⟨by omega, by omega⟩ ⟨by omega, by omega⟩ (fun r6 h6_ s6 q6 z6 => ?_)
  obtain ⟨rfl, eh_, es_⟩ := q6
  have eh_ := eh_.symm
  subst eh_
  have es_ := es_.symm
  subst es_
  refine v_aload_n hc dL_law_286 rfl ?_
  refine v_aload_n hc dL_law_287 rfl ?_
  refine v_iload_n hc dL_law_288 rfl ?_
  refine z_iconst hc dL_law_289 ?_
  refine z_iadd hc dL_law_290 ?_
  refine v_sld hSX hSh hc dL_law_291 (by omega) (by omega) hLs ?_
  rw [e1]
  refine v_aload_n hc dL_law_292 rfl ?_
  refine v_iload_n hc dL_law_293 rfl ?_
  refine z_iconst hc dL_law_294 ?_
  refine z_iadd hc dL_law_295 ?_
  refine v_sld hSX hSh hc dL_law_296 (by omega) (by omega) hLs ?_
  rw [e2]
  refine v_callV (As := [.int (zI y1), .int (zI y2)]) hc ho dL_law_297 KV_L_34 KB_X7_tenths hO.1 rfl rfl (c_X7_tenths _ _ hO hF.2.2 z1 z2) rfl (Nat.le_of_ble_eq_true rfl) ⟨by omega, by omega⟩ ⟨by omega, by omega⟩ (fun r7 h7_ s7 q7 z7 => ?_)
  obtain ⟨rfl, eh_, es_⟩ := q7
  have eh_ := eh_.symm
  subst eh_
  have es_ := es_.symm
  subst es_
  rw [e_tenths hF]
  refine v_icmp_same (tgt := 954) hc dL_law_300 (by decide) ?_
  exact K _ _ _ _ ⟨ad, L, n, I, A, nf, LN, PI, PR, PB, hn, mf, SN, SI, SR, SB, i, s, j, a, hX, hO, hR.mono, by push_cast; omega, by push_cast; omega⟩

set_option maxHeartbeats 4000000 in
theorem law_misfit {S : b_S} {b Ls : Nat} {xs : Nat → Int32} (hC : lw_ctx S b Ls xs) {o6 o7 : Nat} {c x : Int} {k m : Nat} {h : b_H} {sz : Nat} (hI : lw_I (s_G S) o6 o7 c k m h sz) (hc5 : c < 512) (hx : 0 ≤ x ∧ x + 5 ≤ Ls) (K : ∀ (k m : Nat) (h : b_H) (sz : Nat), lw_I (s_G S) o6 o7 (c + 1) k m h sz → V S k m h sz 954 [some (.ref b), some (.ref o6), some (.ref o7), some (.int (zI x))] []) : V S k m h sz 487 [some (.ref b), some (.ref o6), some (.ref o7), some (.int (zI x))] [] := by
  obtain ⟨hSX, hSh, hc, ho, hFr, hLo, hCe, hSl, hLs⟩ := hC
  obtain ⟨ad, L, n, I, A, nf, LN, PI, PR, PB, hn, mf, SN, SI, SR, SB, i, s, j, a, hX, hO, hR, hk, hm⟩ := hI
  obtain ⟨hc0, hF, hD, hK, hP, hG, hN, hCc⟩ := id hR
  obtain ⟨fs, h6⟩ := hX.obj
  obtain ⟨hP5, hn12, hmP, hpp, hp0⟩ := id hP
  have hq : ∀ p, p < n → q_J (I (p + 20)) (A (p + 20)) := fun p hp => (hpp p hp).2
  have hL786 := hK.2.2.2.2.1
  obtain ⟨y1, e1, z1⟩ : ∃ y, (xs (x + 1).toNat).toInt = y ∧ zb y := ⟨_, rfl, zb_of _⟩
  obtain ⟨y2, e2, z2⟩ : ∃ y, (xs (x + 2).toNat).toInt = y ∧ zb y := ⟨_, rfl, zb_of _⟩
  obtain ⟨y3, e3, z3⟩ : ∃ y, (xs (x + 3).toNat).toInt = y ∧ zb y := ⟨_, rfl, zb_of _⟩
  obtain ⟨y4, e4, z4⟩ : ∃ y, (xs (x + 4).toNat).toInt = y ∧ zb y := ⟨_, rfl, zb_of _⟩
  refine v_aload_n hc dL_law_487 rfl ?_
  refine v_aload_n hc dL_law_488 rfl ?_
  refine v_iload_n hc dL_law_489 rfl ?_
  refine z_iconst hc dL_law_490 ?_
  refine z_iadd hc dL_law_491 ?_
  refine v_sld hSX hSh hc dL_law_492 (by omega) (by omega) hLs ?_
  rw [e1]
  refine v_aload_n hc dL_law_493 rfl ?_
  refine v_iload_n hc dL_law_494 rfl ?_
  refine z_iconst hc dL_law_495 ?_
  refine z_iadd hc dL_law_496 ?_
  refine v_sld hSX hSh hc dL_law_497 (by omega) (by omega) hLs ?_
  rw [e2]
  refine v_aload_n hc dL_law_498 rfl ?_
  refine v_iload_n hc dL_law_499 rfl ?_
  refine z_iconst hc dL_law_500 ?_
  refine z_iadd hc dL_law_501 ?_
  refine v_sld hSX hSh hc dL_law_502 (by omega) (by omega) hLs ?_
  rw [e3]
  refine v_callV (As := [.int (zI y1), .int (zI y2), .int (zI y3)]) hc ho dL_law_503 KV_L_53 KB_X6_misfit h6 rfl rfl (c_X6_misfit _ _ hX hn12 hq z1 z2 z3) rfl (Nat.le_of_ble_eq_true rfl) ⟨by omega, by omega⟩ ⟨by omega, by omega⟩ (fun r6 h6_ s6 q6 z6 => ?_)
  obtain ⟨rfl, eh_, es_⟩ := q6
  have eh_ := eh_.symm
  subst eh_
  have es_ := es_.symm
  subst es_
  refine v_aload_n hc dL_law_506 rfl ?_
  refine v_aload_n hc dL_law_507 rfl ?_
  refine v_iload_n hc dL_law_508 rfl ?_
  refine z_iconst hc dL_law_509 ?_
  refine z_iadd hc dL_law_510 ?_
  refine v_sld hSX hSh hc dL_law_511 (by omega) (by omega) hLs ?_
  rw [e1]
  refine v_aload_n hc dL_law_512 rfl ?_
  refine v_iload_n hc dL_law_513 rfl ?_
  refine z_iconst hc dL_law_514 ?_
  refine z_iadd hc dL_law_515 ?_
  refine v_sld hSX hSh hc dL_law_516 (by omega) (by omega) hLs ?_
  rw [e2]
  refine v_aload_n hc dL_law_517 rfl ?_
  refine v_iload_n hc dL_law_518 rfl ?_
  refine z_iconst hc dL_law_519 ?_
  refine z_iadd hc dL_law_520 ?_
  refine v_sld hSX hSh hc dL_law_521 (by omega) (by omega) hLs ?_
  rw [e3]
  refine v_callV (As := [.int (zI y1), .int (zI y2), .int (zI y3)]) hc ho dL_law_522 KV_L_56 KB_X7_misfit hO.1 rfl rfl (c_X7_misfit _ _ hO hmP z1 z2 z3) rfl (Nat.le_of_ble_eq_true rfl) ⟨by omega, by omega⟩ ⟨by omega, by omega⟩ (fun r7 h7_ s7 q7 z7 => ?_)
  obtain ⟨rfl, eh_, es_⟩ := q7
  have eh_ := eh_.symm
  subst eh_
  have es_ := es_.symm
  subst es_
  rw [e_misfit hP]
  refine v_icmp_same (tgt := 954) hc dL_law_525 (by decide) ?_
  exact K _ _ _ _ ⟨ad, L, n, I, A, nf, LN, PI, PR, PB, hn, mf, SN, SI, SR, SB, i, s, j, a, hX, hO, hR.mono, by push_cast; omega, by push_cast; omega⟩

set_option maxHeartbeats 4000000 in
theorem law_step {S : b_S} {b Ls : Nat} {xs : Nat → Int32} (hC : lw_ctx S b Ls xs) {o6 o7 : Nat} {c x : Int} {k m : Nat} {h : b_H} {sz : Nat} (hI : lw_I (s_G S) o6 o7 c k m h sz) (hc5 : c < 512) (hx : 0 ≤ x ∧ x + 5 ≤ Ls) (K : ∀ (k m : Nat) (h : b_H) (sz : Nat), lw_I (s_G S) o6 o7 (c + 1) k m h sz → V S k m h sz 954 [some (.ref b), some (.ref o6), some (.ref o7), some (.int (zI x))] []) : V S k m h sz 563 [some (.ref b), some (.ref o6), some (.ref o7), some (.int (zI x))] [] := by
  obtain ⟨hSX, hSh, hc, ho, hFr, hLo, hCe, hSl, hLs⟩ := hC
  obtain ⟨ad, L, n, I, A, nf, LN, PI, PR, PB, hn, mf, SN, SI, SR, SB, i, s, j, a, hX, hO, hR, hk, hm⟩ := hI
  obtain ⟨hc0, hF, hD, hK, hP, hG, hN, hCc⟩ := id hR
  obtain ⟨fs, h6⟩ := hX.obj
  obtain ⟨hP5, hn12, hmP, hpp, hp0⟩ := id hP
  have hq : ∀ p, p < n → q_J (I (p + 20)) (A (p + 20)) := fun p hp => (hpp p hp).2
  have hL786 := hK.2.2.2.2.1
  obtain ⟨y1, e1, z1⟩ : ∃ y, (xs (x + 1).toNat).toInt = y ∧ zb y := ⟨_, rfl, zb_of _⟩
  obtain ⟨y2, e2, z2⟩ : ∃ y, (xs (x + 2).toNat).toInt = y ∧ zb y := ⟨_, rfl, zb_of _⟩
  obtain ⟨y3, e3, z3⟩ : ∃ y, (xs (x + 3).toNat).toInt = y ∧ zb y := ⟨_, rfl, zb_of _⟩
  obtain ⟨y4, e4, z4⟩ : ∃ y, (xs (x + 4).toNat).toInt = y ∧ zb y := ⟨_, rfl, zb_of _⟩
  refine v_aload_n hc dL_law_563 rfl ?_
  refine v_aload_n hc dL_law_564 rfl ?_
  refine v_iload_n hc dL_law_565 rfl ?_
  refine z_iconst hc dL_law_566 ?_
  refine z_iadd hc dL_law_567 ?_
  refine v_sld hSX hSh hc dL_law_568 (by omega) (by omega) hLs ?_
  rw [e1]
  refine v_aload_n hc dL_law_569 rfl ?_
  refine v_iload_n hc dL_law_570 rfl ?_
  refine z_iconst hc dL_law_571 ?_
  refine z_iadd hc dL_law_572 ?_
  refine v_sld hSX hSh hc dL_law_573 (by omega) (by omega) hLs ?_
  rw [e2]
  refine v_callV (As := [.int (zI y1), .int (zI y2)]) hc ho dL_law_574 KV_L_61 KB_X6_step h6 rfl rfl (c_X6_step _ _ hX z1 z2) rfl (Nat.le_of_ble_eq_true rfl) ⟨by omega, by omega⟩ ⟨by omega, by omega⟩ (fun r6 h6_ s6 q6 z6 => ?_)
  obtain ⟨rfl, eh_, es_⟩ := q6
  have eh_ := eh_.symm
  subst eh_
  have es_ := es_.symm
  subst es_
  refine v_aload_n hc dL_law_577 rfl ?_
  refine v_aload_n hc dL_law_578 rfl ?_
  refine v_iload_n hc dL_law_579 rfl ?_
  refine z_iconst hc dL_law_580 ?_
  refine z_iadd hc dL_law_581 ?_
  refine v_sld hSX hSh hc dL_law_582 (by omega) (by omega) hLs ?_
  rw [e1]
  refine v_aload_n hc dL_law_583 rfl ?_
  refine v_iload_n hc dL_law_584 rfl ?_
  refine z_iconst hc dL_law_585 ?_
  refine z_iadd hc dL_law_586 ?_
  refine v_sld hSX hSh hc dL_law_587 (by omega) (by omega) hLs ?_
  rw [e2]
  refine v_callV (As := [.int (zI y1), .int (zI y2)]) hc ho dL_law_588 KV_L_64 KB_X7_step hO.1 rfl rfl (c_X7_step _ _ z1 z2) rfl (Nat.le_of_ble_eq_true rfl) ⟨by omega, by omega⟩ ⟨by omega, by omega⟩ (fun r7 h7_ s7 q7 z7 => ?_)
  obtain ⟨rfl, eh_, es_⟩ := q7
  have eh_ := eh_.symm
  subst eh_
  have es_ := es_.symm
  subst es_
  skip
  refine v_icmp_same (tgt := 954) hc dL_law_591 (by decide) ?_
  exact K _ _ _ _ ⟨ad, L, n, I, A, nf, LN, PI, PR, PB, hn, mf, SN, SI, SR, SB, i, s, j, a, hX, hO, hR.mono, by push_cast; omega, by push_cast; omega⟩

set_option maxHeartbeats 4000000 in
theorem law_given {S : b_S} {b Ls : Nat} {xs : Nat → Int32} (hC : lw_ctx S b Ls xs) {o6 o7 : Nat} {c x : Int} {k m : Nat} {h : b_H} {sz : Nat} (hI : lw_I (s_G S) o6 o7 c k m h sz) (hc5 : c < 512) (hx : 0 ≤ x ∧ x + 5 ≤ Ls) (K : ∀ (k m : Nat) (h : b_H) (sz : Nat), lw_I (s_G S) o6 o7 (c + 1) k m h sz → V S k m h sz 954 [some (.ref b), some (.ref o6), some (.ref o7), some (.int (zI x))] []) : V S k m h sz 652 [some (.ref b), some (.ref o6), some (.ref o7), some (.int (zI x))] [] := by
  obtain ⟨hSX, hSh, hc, ho, hFr, hLo, hCe, hSl, hLs⟩ := hC
  obtain ⟨ad, L, n, I, A, nf, LN, PI, PR, PB, hn, mf, SN, SI, SR, SB, i, s, j, a, hX, hO, hR, hk, hm⟩ := hI
  obtain ⟨hc0, hF, hD, hK, hP, hG, hN, hCc⟩ := id hR
  obtain ⟨fs, h6⟩ := hX.obj
  obtain ⟨hP5, hn12, hmP, hpp, hp0⟩ := id hP
  have hq : ∀ p, p < n → q_J (I (p + 20)) (A (p + 20)) := fun p hp => (hpp p hp).2
  have hL786 := hK.2.2.2.2.1
  obtain ⟨y1, e1, z1⟩ : ∃ y, (xs (x + 1).toNat).toInt = y ∧ zb y := ⟨_, rfl, zb_of _⟩
  obtain ⟨y2, e2, z2⟩ : ∃ y, (xs (x + 2).toNat).toInt = y ∧ zb y := ⟨_, rfl, zb_of _⟩
  obtain ⟨y3, e3, z3⟩ : ∃ y, (xs (x + 3).toNat).toInt = y ∧ zb y := ⟨_, rfl, zb_of _⟩
  obtain ⟨y4, e4, z4⟩ : ∃ y, (xs (x + 4).toNat).toInt = y ∧ zb y := ⟨_, rfl, zb_of _⟩
  refine v_aload_n hc dL_law_652 rfl ?_
  refine v_aload_n hc dL_law_653 rfl ?_
  refine v_iload_n hc dL_law_654 rfl ?_
  refine z_iconst hc dL_law_655 ?_
  refine z_iadd hc dL_law_656 ?_
  refine v_sld hSX hSh hc dL_law_657 (by omega) (by omega) hLs ?_
  rw [e1]
  refine v_aload_n hc dL_law_658 rfl ?_
  refine v_iload_n hc dL_law_659 rfl ?_
  refine z_iconst hc dL_law_660 ?_
  refine z_iadd hc dL_law_661 ?_
  refine v_sld hSX hSh hc dL_law_662 (by omega) (by omega) hLs ?_
  rw [e2]
  refine v_callV (As := [.int (zI y1), .int (zI y2)]) hc ho dL_law_663 KV_L_74 KB_X6_given h6 rfl rfl (c_X6_given _ _ hX z1 z2) rfl (Nat.le_of_ble_eq_true rfl) ⟨by omega, by omega⟩ ⟨by omega, by omega⟩ (fun r6 h6_ s6 q6 z6 => ?_)
  obtain ⟨rfl, eh_, es_⟩ := q6
  have eh_ := eh_.symm
  subst eh_
  have es_ := es_.symm
  subst es_
  refine v_aload_n hc dL_law_666 rfl ?_
  refine v_aload_n hc dL_law_667 rfl ?_
  refine v_iload_n hc dL_law_668 rfl ?_
  refine z_iconst hc dL_law_669 ?_
  refine z_iadd hc dL_law_670 ?_
  refine v_sld hSX hSh hc dL_law_671 (by omega) (by omega) hLs ?_
  rw [e1]
  refine v_aload_n hc dL_law_672 rfl ?_
  refine v_iload_n hc dL_law_673 rfl ?_
  refine z_iconst hc dL_law_674 ?_
  refine z_iadd hc dL_law_675 ?_
  refine v_sld hSX hSh hc dL_law_676 (by omega) (by omega) hLs ?_
  rw [e2]
  refine v_callV (As := [.int (zI y1), .int (zI y2)]) hc ho dL_law_677 KV_L_77 KB_X7_given hO.1 rfl rfl (c_X7_given _ _ hO hG.2.2.2.1.1 (fun q hq2 => by have := (hG.2.2.2.1.2 q hq2).1; omega) hmP.2.2.2.1 z1 z2) rfl (Nat.le_of_ble_eq_true rfl) ⟨by omega, by omega⟩ ⟨by omega, by omega⟩ (fun r7 h7_ s7 q7 z7 => ?_)
  obtain ⟨rfl, eh_, es_⟩ := q7
  have eh_ := eh_.symm
  subst eh_
  have es_ := es_.symm
  subst es_
  rw [e_given hG]
  refine v_icmp_same (tgt := 954) hc dL_law_680 (by decide) ?_
  exact K _ _ _ _ ⟨ad, L, n, I, A, nf, LN, PI, PR, PB, hn, mf, SN, SI, SR, SB, i, s, j, a, hX, hO, hR.mono, by push_cast; omega, by push_cast; omega⟩

set_option maxHeartbeats 4000000 in
theorem law_now {S : b_S} {b Ls : Nat} {xs : Nat → Int32} (hC : lw_ctx S b Ls xs) {o6 o7 : Nat} {c x : Int} {k m : Nat} {h : b_H} {sz : Nat} (hI : lw_I (s_G S) o6 o7 c k m h sz) (hc5 : c < 512) (hx : 0 ≤ x ∧ x + 5 ≤ Ls) (K : ∀ (k m : Nat) (h : b_H) (sz : Nat), lw_I (s_G S) o6 o7 (c + 1) k m h sz → V S k m h sz 954 [some (.ref b), some (.ref o6), some (.ref o7), some (.int (zI x))] []) : V S k m h sz 757 [some (.ref b), some (.ref o6), some (.ref o7), some (.int (zI x))] [] := by
  obtain ⟨hSX, hSh, hc, ho, hFr, hLo, hCe, hSl, hLs⟩ := hC
  obtain ⟨ad, L, n, I, A, nf, LN, PI, PR, PB, hn, mf, SN, SI, SR, SB, i, s, j, a, hX, hO, hR, hk, hm⟩ := hI
  obtain ⟨hc0, hF, hD, hK, hP, hG, hN, hCc⟩ := id hR
  obtain ⟨fs, h6⟩ := hX.obj
  obtain ⟨hP5, hn12, hmP, hpp, hp0⟩ := id hP
  have hq : ∀ p, p < n → q_J (I (p + 20)) (A (p + 20)) := fun p hp => (hpp p hp).2
  have hL786 := hK.2.2.2.2.1
  obtain ⟨y1, e1, z1⟩ : ∃ y, (xs (x + 1).toNat).toInt = y ∧ zb y := ⟨_, rfl, zb_of _⟩
  obtain ⟨y2, e2, z2⟩ : ∃ y, (xs (x + 2).toNat).toInt = y ∧ zb y := ⟨_, rfl, zb_of _⟩
  obtain ⟨y3, e3, z3⟩ : ∃ y, (xs (x + 3).toNat).toInt = y ∧ zb y := ⟨_, rfl, zb_of _⟩
  obtain ⟨y4, e4, z4⟩ : ∃ y, (xs (x + 4).toNat).toInt = y ∧ zb y := ⟨_, rfl, zb_of _⟩
  have hnw : ¬ j 32 = 0 → (0 ≤ j 42 ∧ j 42 ≤ 7) ∧ 0 ≤ j 44 ∧ (1 ≤ a 39 (j 42).toNat ∧ a 39 (j 42).toNat ≤ 16) ∧ 0 ≤ j 43 ∧ 0 ≤ a 37 (j 42).toNat ∧ 0 < a 38 (j 42).toNat := fun q => by
    obtain ⟨g1, g2, g3, g4, g5, g6⟩ := hN.2.2.2.2.2 (hN.1.mpr q)
    obtain ⟨j1, j2, j3, j4, -⟩ := g5.1
    obtain ⟨p1, p2, p3, p4, -⟩ := g4 (j 42).toNat (by omega)
    exact ⟨by omega, by omega, p4, by omega, by omega, by omega⟩
  refine v_aload_n hc dL_law_757 rfl ?_
  refine v_aload_n hc dL_law_758 rfl ?_
  refine v_iload_n hc dL_law_759 rfl ?_
  refine z_iconst hc dL_law_760 ?_
  refine z_iadd hc dL_law_761 ?_
  refine v_sld hSX hSh hc dL_law_762 (by omega) (by omega) hLs ?_
  rw [e1]
  refine v_callV (As := [.int (zI y1)]) hc ho dL_law_763 KV_L_94 KB_X6_now h6 rfl rfl (c_X6_now _ _ hX (fun q => (hN.2.2.2.2.2 q).1) z1) rfl (Nat.le_of_ble_eq_true rfl) ⟨by omega, by omega⟩ ⟨by omega, by omega⟩ (fun r6 h6_ s6 q6 z6 => ?_)
  obtain ⟨rfl, eh_, es_⟩ := q6
  have eh_ := eh_.symm
  subst eh_
  have es_ := es_.symm
  subst es_
  refine v_aload_n hc dL_law_766 rfl ?_
  refine v_aload_n hc dL_law_767 rfl ?_
  refine v_iload_n hc dL_law_768 rfl ?_
  refine z_iconst hc dL_law_769 ?_
  refine z_iadd hc dL_law_770 ?_
  refine v_sld hSX hSh hc dL_law_771 (by omega) (by omega) hLs ?_
  rw [e1]
  refine v_callV (As := [.int (zI y1)]) hc ho dL_law_772 KV_L_97 KB_X7_now hO.1 rfl rfl (c_X7_now _ _ hO hN.2.2.2.2.1 (fun q => (hnw q).1) (fun q => (hnw q).2.1) (fun q => (hnw q).2.2.1) (fun q => (hnw q).2.2.2.1) (fun q => (hnw q).2.2.2.2.1) (fun q => (hnw q).2.2.2.2.2) z1) rfl (Nat.le_of_ble_eq_true rfl) ⟨by omega, by omega⟩ ⟨by omega, by omega⟩ (fun r7 h7_ s7 q7 z7 => ?_)
  obtain ⟨rfl, eh_, es_⟩ := q7
  have eh_ := eh_.symm
  subst eh_
  have es_ := es_.symm
  subst es_
  rw [e_now hN]
  refine v_icmp_same (tgt := 954) hc dL_law_775 (by decide) ?_
  exact K _ _ _ _ ⟨ad, L, n, I, A, nf, LN, PI, PR, PB, hn, mf, SN, SI, SR, SB, i, s, j, a, hX, hO, hR.mono, by push_cast; omega, by push_cast; omega⟩

set_option maxHeartbeats 4000000 in
theorem law_played {S : b_S} {b Ls : Nat} {xs : Nat → Int32} (hC : lw_ctx S b Ls xs) {o6 o7 : Nat} {c x : Int} {k m : Nat} {h : b_H} {sz : Nat} (hI : lw_I (s_G S) o6 o7 c k m h sz) (hc5 : c < 512) (hx : 0 ≤ x ∧ x + 5 ≤ Ls) (K : ∀ (k m : Nat) (h : b_H) (sz : Nat), lw_I (s_G S) o6 o7 (c + 1) k m h sz → V S k m h sz 954 [some (.ref b), some (.ref o6), some (.ref o7), some (.int (zI x))] []) : V S k m h sz 780 [some (.ref b), some (.ref o6), some (.ref o7), some (.int (zI x))] [] := by
  obtain ⟨hSX, hSh, hc, ho, hFr, hLo, hCe, hSl, hLs⟩ := hC
  obtain ⟨ad, L, n, I, A, nf, LN, PI, PR, PB, hn, mf, SN, SI, SR, SB, i, s, j, a, hX, hO, hR, hk, hm⟩ := hI
  obtain ⟨hc0, hF, hD, hK, hP, hG, hN, hCc⟩ := id hR
  obtain ⟨fs, h6⟩ := hX.obj
  obtain ⟨hP5, hn12, hmP, hpp, hp0⟩ := id hP
  have hq : ∀ p, p < n → q_J (I (p + 20)) (A (p + 20)) := fun p hp => (hpp p hp).2
  have hL786 := hK.2.2.2.2.1
  obtain ⟨y1, e1, z1⟩ : ∃ y, (xs (x + 1).toNat).toInt = y ∧ zb y := ⟨_, rfl, zb_of _⟩
  obtain ⟨y2, e2, z2⟩ : ∃ y, (xs (x + 2).toNat).toInt = y ∧ zb y := ⟨_, rfl, zb_of _⟩
  obtain ⟨y3, e3, z3⟩ : ∃ y, (xs (x + 3).toNat).toInt = y ∧ zb y := ⟨_, rfl, zb_of _⟩
  obtain ⟨y4, e4, z4⟩ : ∃ y, (xs (x + 4).toNat).toInt = y ∧ zb y := ⟨_, rfl, zb_of _⟩
  refine v_aload_n hc dL_law_780 rfl ?_
  refine v_aload_n hc dL_law_781 rfl ?_
  refine v_iload_n hc dL_law_782 rfl ?_
  refine z_iconst hc dL_law_783 ?_
  refine z_iadd hc dL_law_784 ?_
  refine v_sld hSX hSh hc dL_law_785 (by omega) (by omega) hLs ?_
  rw [e1]
  refine v_callV (As := [.int (zI y1)]) hc ho dL_law_786 KV_L_98 KB_X6_played h6 rfl rfl (c_X6_played _ _ hX hn12 hq z1) rfl (Nat.le_of_ble_eq_true rfl) ⟨by omega, by omega⟩ ⟨by omega, by omega⟩ (fun r6 h6_ s6 q6 z6 => ?_)
  obtain ⟨rfl, eh_, es_⟩ := q6
  have eh_ := eh_.symm
  subst eh_
  have es_ := es_.symm
  subst es_
  refine v_aload_n hc dL_law_789 rfl ?_
  refine v_aload_n hc dL_law_790 rfl ?_
  refine v_iload_n hc dL_law_791 rfl ?_
  refine z_iconst hc dL_law_792 ?_
  refine z_iadd hc dL_law_793 ?_
  refine v_sld hSX hSh hc dL_law_794 (by omega) (by omega) hLs ?_
  rw [e1]
  refine v_callV (As := [.int (zI y1)]) hc ho dL_law_795 KV_L_101 KB_X7_played hO.1 rfl rfl (c_X7_played _ _ hO hmP z1) rfl (Nat.le_of_ble_eq_true rfl) ⟨by omega, by omega⟩ ⟨by omega, by omega⟩ (fun r7 h7_ s7 q7 z7 => ?_)
  obtain ⟨rfl, eh_, es_⟩ := q7
  have eh_ := eh_.symm
  subst eh_
  have es_ := es_.symm
  subst es_
  rw [e_played hP]
  refine v_icmp_same (tgt := 954) hc dL_law_798 (by decide) ?_
  exact K _ _ _ _ ⟨ad, L, n, I, A, nf, LN, PI, PR, PB, hn, mf, SN, SI, SR, SB, i, s, j, a, hX, hO, hR.mono, by push_cast; omega, by push_cast; omega⟩

set_option maxHeartbeats 4000000 in
theorem law_fees {S : b_S} {b Ls : Nat} {xs : Nat → Int32} (hC : lw_ctx S b Ls xs) {o6 o7 : Nat} {c x : Int} {k m : Nat} {h : b_H} {sz : Nat} (hI : lw_I (s_G S) o6 o7 c k m h sz) (hc5 : c < 512) (hx : 0 ≤ x ∧ x + 5 ≤ Ls) (K : ∀ (k m : Nat) (h : b_H) (sz : Nat), lw_I (s_G S) o6 o7 (c + 1) k m h sz → V S k m h sz 954 [some (.ref b), some (.ref o6), some (.ref o7), some (.int (zI x))] []) : V S k m h sz 803 [some (.ref b), some (.ref o6), some (.ref o7), some (.int (zI x))] [] := by
  obtain ⟨hSX, hSh, hc, ho, hFr, hLo, hCe, hSl, hLs⟩ := hC
  obtain ⟨ad, L, n, I, A, nf, LN, PI, PR, PB, hn, mf, SN, SI, SR, SB, i, s, j, a, hX, hO, hR, hk, hm⟩ := hI
  obtain ⟨hc0, hF, hD, hK, hP, hG, hN, hCc⟩ := id hR
  obtain ⟨fs, h6⟩ := hX.obj
  obtain ⟨hP5, hn12, hmP, hpp, hp0⟩ := id hP
  have hq : ∀ p, p < n → q_J (I (p + 20)) (A (p + 20)) := fun p hp => (hpp p hp).2
  have hL786 := hK.2.2.2.2.1
  obtain ⟨y1, e1, z1⟩ : ∃ y, (xs (x + 1).toNat).toInt = y ∧ zb y := ⟨_, rfl, zb_of _⟩
  obtain ⟨y2, e2, z2⟩ : ∃ y, (xs (x + 2).toNat).toInt = y ∧ zb y := ⟨_, rfl, zb_of _⟩
  obtain ⟨y3, e3, z3⟩ : ∃ y, (xs (x + 3).toNat).toInt = y ∧ zb y := ⟨_, rfl, zb_of _⟩
  obtain ⟨y4, e4, z4⟩ : ∃ y, (xs (x + 4).toNat).toInt = y ∧ zb y := ⟨_, rfl, zb_of _⟩
  refine v_aload_n hc dL_law_803 rfl ?_
  refine v_callV (As := []) hc ho dL_law_804 KV_L_102 KB_X6_fees h6 rfl rfl (c_X6_fees _ _ hX hn12) rfl (Nat.le_of_ble_eq_true rfl) ⟨by omega, by omega⟩ ⟨by omega, by omega⟩ (fun r6 h6_ s6 q6 z6 => ?_)
  obtain ⟨rfl, eh_, es_⟩ := q6
  have eh_ := eh_.symm
  subst eh_
  have es_ := es_.symm
  subst es_
  refine v_aload_n hc dL_law_807 rfl ?_
  refine v_callV (As := []) hc ho dL_law_808 KV_L_105 KB_X7_fees hO.1 rfl rfl (c_X7_fees _ _ hO) rfl (Nat.le_of_ble_eq_true rfl) ⟨by omega, by omega⟩ ⟨by omega, by omega⟩ (fun r7 h7_ s7 q7 z7 => ?_)
  obtain ⟨rfl, eh_, es_⟩ := q7
  have eh_ := eh_.symm
  subst eh_
  have es_ := es_.symm
  subst es_
  rw [← hCc.2.1]
  refine v_icmp_same (tgt := 954) hc dL_law_811 (by decide) ?_
  exact K _ _ _ _ ⟨ad, L, n, I, A, nf, LN, PI, PR, PB, hn, mf, SN, SI, SR, SB, i, s, j, a, hX, hO, hR.mono, by push_cast; omega, by push_cast; omega⟩

set_option maxHeartbeats 4000000 in
theorem law_free {S : b_S} {b Ls : Nat} {xs : Nat → Int32} (hC : lw_ctx S b Ls xs) {o6 o7 : Nat} {c x : Int} {k m : Nat} {h : b_H} {sz : Nat} (hI : lw_I (s_G S) o6 o7 c k m h sz) (hc5 : c < 512) (hx : 0 ≤ x ∧ x + 5 ≤ Ls) (K : ∀ (k m : Nat) (h : b_H) (sz : Nat), lw_I (s_G S) o6 o7 (c + 1) k m h sz → V S k m h sz 954 [some (.ref b), some (.ref o6), some (.ref o7), some (.int (zI x))] []) : V S k m h sz 882 [some (.ref b), some (.ref o6), some (.ref o7), some (.int (zI x))] [] := by
  obtain ⟨hSX, hSh, hc, ho, hFr, hLo, hCe, hSl, hLs⟩ := hC
  obtain ⟨ad, L, n, I, A, nf, LN, PI, PR, PB, hn, mf, SN, SI, SR, SB, i, s, j, a, hX, hO, hR, hk, hm⟩ := hI
  obtain ⟨hc0, hF, hD, hK, hP, hG, hN, hCc⟩ := id hR
  obtain ⟨fs, h6⟩ := hX.obj
  obtain ⟨hP5, hn12, hmP, hpp, hp0⟩ := id hP
  have hq : ∀ p, p < n → q_J (I (p + 20)) (A (p + 20)) := fun p hp => (hpp p hp).2
  have hL786 := hK.2.2.2.2.1
  obtain ⟨y1, e1, z1⟩ : ∃ y, (xs (x + 1).toNat).toInt = y ∧ zb y := ⟨_, rfl, zb_of _⟩
  obtain ⟨y2, e2, z2⟩ : ∃ y, (xs (x + 2).toNat).toInt = y ∧ zb y := ⟨_, rfl, zb_of _⟩
  obtain ⟨y3, e3, z3⟩ : ∃ y, (xs (x + 3).toNat).toInt = y ∧ zb y := ⟨_, rfl, zb_of _⟩
  obtain ⟨y4, e4, z4⟩ : ∃ y, (xs (x + 4).toNat).toInt = y ∧ zb y := ⟨_, rfl, zb_of _⟩
  refine v_aload_n hc dL_law_882 rfl ?_
  refine v_aload_n hc dL_law_883 rfl ?_
  refine v_iload_n hc dL_law_884 rfl ?_
  refine z_iconst hc dL_law_885 ?_
  refine z_iadd hc dL_law_886 ?_
  refine v_sld hSX hSh hc dL_law_887 (by omega) (by omega) hLs ?_
  rw [e1]
  refine v_callV (As := [.int (zI y1)]) hc ho dL_law_888 KV_L_114 KB_X6_free h6 rfl rfl (c_X6_free _ _ hX hD.2.1 z1) rfl (Nat.le_of_ble_eq_true rfl) ⟨by omega, by omega⟩ ⟨by omega, by omega⟩ (fun r6 h6_ s6 q6 z6 => ?_)
  obtain ⟨rfl, eh_, es_⟩ := q6
  have eh_ := eh_.symm
  subst eh_
  have es_ := es_.symm
  subst es_
  refine v_aload_n hc dL_law_891 rfl ?_
  refine v_aload_n hc dL_law_892 rfl ?_
  refine v_iload_n hc dL_law_893 rfl ?_
  refine z_iconst hc dL_law_894 ?_
  refine z_iadd hc dL_law_895 ?_
  refine v_sld hSX hSh hc dL_law_896 (by omega) (by omega) hLs ?_
  rw [e1]
  refine v_callV (As := [.int (zI y1)]) hc ho dL_law_897 KV_L_117 KB_X7_free hO.1 rfl rfl (c_X7_free _ _ hO hD.2.2 z1) rfl (Nat.le_of_ble_eq_true rfl) ⟨by omega, by omega⟩ ⟨by omega, by omega⟩ (fun r7 h7_ s7 q7 z7 => ?_)
  obtain ⟨rfl, eh_, es_⟩ := q7
  have eh_ := eh_.symm
  subst eh_
  have es_ := es_.symm
  subst es_
  rw [e_free hD]
  refine v_icmp_same (tgt := 954) hc dL_law_900 (by decide) ?_
  exact K _ _ _ _ ⟨ad, L, n, I, A, nf, LN, PI, PR, PB, hn, mf, SN, SI, SR, SB, i, s, j, a, hX, hO, hR.mono, by push_cast; omega, by push_cast; omega⟩

set_option maxHeartbeats 4000000 in
theorem law_clash {S : b_S} {b Ls : Nat} {xs : Nat → Int32} (hC : lw_ctx S b Ls xs) {o6 o7 : Nat} {c x : Int} {k m : Nat} {h : b_H} {sz : Nat} (hI : lw_I (s_G S) o6 o7 c k m h sz) (hc5 : c < 512) (hx : 0 ≤ x ∧ x + 5 ≤ Ls) (K : ∀ (k m : Nat) (h : b_H) (sz : Nat), lw_I (s_G S) o6 o7 (c + 1) k m h sz → V S k m h sz 954 [some (.ref b), some (.ref o6), some (.ref o7), some (.int (zI x))] []) : V S k m h sz 905 [some (.ref b), some (.ref o6), some (.ref o7), some (.int (zI x))] [] := by
  obtain ⟨hSX, hSh, hc, ho, hFr, hLo, hCe, hSl, hLs⟩ := hC
  obtain ⟨ad, L, n, I, A, nf, LN, PI, PR, PB, hn, mf, SN, SI, SR, SB, i, s, j, a, hX, hO, hR, hk, hm⟩ := hI
  obtain ⟨hc0, hF, hD, hK, hP, hG, hN, hCc⟩ := id hR
  obtain ⟨fs, h6⟩ := hX.obj
  obtain ⟨hP5, hn12, hmP, hpp, hp0⟩ := id hP
  have hq : ∀ p, p < n → q_J (I (p + 20)) (A (p + 20)) := fun p hp => (hpp p hp).2
  have hL786 := hK.2.2.2.2.1
  obtain ⟨y1, e1, z1⟩ : ∃ y, (xs (x + 1).toNat).toInt = y ∧ zb y := ⟨_, rfl, zb_of _⟩
  obtain ⟨y2, e2, z2⟩ : ∃ y, (xs (x + 2).toNat).toInt = y ∧ zb y := ⟨_, rfl, zb_of _⟩
  obtain ⟨y3, e3, z3⟩ : ∃ y, (xs (x + 3).toNat).toInt = y ∧ zb y := ⟨_, rfl, zb_of _⟩
  obtain ⟨y4, e4, z4⟩ : ∃ y, (xs (x + 4).toNat).toInt = y ∧ zb y := ⟨_, rfl, zb_of _⟩
  refine v_aload_n hc dL_law_905 rfl ?_
  refine v_callV (As := []) hc ho dL_law_906 KV_L_118 KB_X6_clash h6 rfl rfl (c_X6_clash _ _ hX hD.2.1) rfl (Nat.le_of_ble_eq_true rfl) ⟨by omega, by omega⟩ ⟨by omega, by omega⟩ (fun r6 h6_ s6 q6 z6 => ?_)
  obtain ⟨rfl, eh_, es_⟩ := q6
  have eh_ := eh_.symm
  subst eh_
  have es_ := es_.symm
  subst es_
  refine v_aload_n hc dL_law_909 rfl ?_
  refine v_callV (As := []) hc ho dL_law_910 KV_L_121 KB_X7_clash hO.1 rfl rfl (c_X7_clash _ _ hO hD.2.2) rfl (Nat.le_of_ble_eq_true rfl) ⟨by omega, by omega⟩ ⟨by omega, by omega⟩ (fun r7 h7_ s7 q7 z7 => ?_)
  obtain ⟨rfl, eh_, es_⟩ := q7
  have eh_ := eh_.symm
  subst eh_
  have es_ := es_.symm
  subst es_
  rw [e_clash hD]
  refine v_icmp_same (tgt := 954) hc dL_law_913 (by decide) ?_
  exact K _ _ _ _ ⟨ad, L, n, I, A, nf, LN, PI, PR, PB, hn, mf, SN, SI, SR, SB, i, s, j, a, hX, hO, hR.mono, by push_cast; omega, by push_cast; omega⟩

set_option maxHeartbeats 4000000 in
theorem law_left {S : b_S} {b Ls : Nat} {xs : Nat → Int32} (hC : lw_ctx S b Ls xs) {o6 o7 : Nat} {c x : Int} {k m : Nat} {h : b_H} {sz : Nat} (hI : lw_I (s_G S) o6 o7 c k m h sz) (hc5 : c < 512) (hx : 0 ≤ x ∧ x + 5 ≤ Ls) (K : ∀ (k m : Nat) (h : b_H) (sz : Nat), lw_I (s_G S) o6 o7 (c + 1) k m h sz → V S k m h sz 954 [some (.ref b), some (.ref o6), some (.ref o7), some (.int (zI x))] []) : V S k m h sz 918 [some (.ref b), some (.ref o6), some (.ref o7), some (.int (zI x))] [] := by
  obtain ⟨hSX, hSh, hc, ho, hFr, hLo, hCe, hSl, hLs⟩ := hC
  obtain ⟨ad, L, n, I, A, nf, LN, PI, PR, PB, hn, mf, SN, SI, SR, SB, i, s, j, a, hX, hO, hR, hk, hm⟩ := hI
  obtain ⟨hc0, hF, hD, hK, hP, hG, hN, hCc⟩ := id hR
  obtain ⟨fs, h6⟩ := hX.obj
  obtain ⟨hP5, hn12, hmP, hpp, hp0⟩ := id hP
  have hq : ∀ p, p < n → q_J (I (p + 20)) (A (p + 20)) := fun p hp => (hpp p hp).2
  have hL786 := hK.2.2.2.2.1
  obtain ⟨y1, e1, z1⟩ : ∃ y, (xs (x + 1).toNat).toInt = y ∧ zb y := ⟨_, rfl, zb_of _⟩
  obtain ⟨y2, e2, z2⟩ : ∃ y, (xs (x + 2).toNat).toInt = y ∧ zb y := ⟨_, rfl, zb_of _⟩
  obtain ⟨y3, e3, z3⟩ : ∃ y, (xs (x + 3).toNat).toInt = y ∧ zb y := ⟨_, rfl, zb_of _⟩
  obtain ⟨y4, e4, z4⟩ : ∃ y, (xs (x + 4).toNat).toInt = y ∧ zb y := ⟨_, rfl, zb_of _⟩
  refine v_aload_n hc dL_law_918 rfl ?_
  refine v_callV (As := []) hc ho dL_law_919 KV_L_122 KB_X6_left h6 rfl rfl (c_X6_left _ _ hX hD.2.1) rfl (Nat.le_of_ble_eq_true rfl) ⟨by omega, by omega⟩ ⟨by omega, by omega⟩ (fun r6 h6_ s6 q6 z6 => ?_)
  obtain ⟨rfl, eh_, es_⟩ := q6
  have eh_ := eh_.symm
  subst eh_
  have es_ := es_.symm
  subst es_
  refine v_aload_n hc dL_law_922 rfl ?_
  refine v_callV (As := []) hc ho dL_law_923 KV_L_125 KB_X7_left hO.1 rfl rfl (c_X7_left _ _ hO hD.2.2) rfl (Nat.le_of_ble_eq_true rfl) ⟨by omega, by omega⟩ ⟨by omega, by omega⟩ (fun r7 h7_ s7 q7 z7 => ?_)
  obtain ⟨rfl, eh_, es_⟩ := q7
  have eh_ := eh_.symm
  subst eh_
  have es_ := es_.symm
  subst es_
  rw [e_left hD]
  refine v_icmp_same (tgt := 954) hc dL_law_926 (by decide) ?_
  exact K _ _ _ _ ⟨ad, L, n, I, A, nf, LN, PI, PR, PB, hn, mf, SN, SI, SR, SB, i, s, j, a, hX, hO, hR.mono, by push_cast; omega, by push_cast; omega⟩

set_option maxHeartbeats 4000000 in
theorem law_count {S : b_S} {b Ls : Nat} {xs : Nat → Int32} (hC : lw_ctx S b Ls xs) {o6 o7 : Nat} {c x : Int} {k m : Nat} {h : b_H} {sz : Nat} (hI : lw_I (s_G S) o6 o7 c k m h sz) (hc5 : c < 512) (hx : 0 ≤ x ∧ x + 5 ≤ Ls) (K : ∀ (k m : Nat) (h : b_H) (sz : Nat), lw_I (s_G S) o6 o7 (c + 1) k m h sz → V S k m h sz 954 [some (.ref b), some (.ref o6), some (.ref o7), some (.int (zI x))] []) : V S k m h sz 931 [some (.ref b), some (.ref o6), some (.ref o7), some (.int (zI x))] [] := by
  obtain ⟨hSX, hSh, hc, ho, hFr, hLo, hCe, hSl, hLs⟩ := hC
  obtain ⟨ad, L, n, I, A, nf, LN, PI, PR, PB, hn, mf, SN, SI, SR, SB, i, s, j, a, hX, hO, hR, hk, hm⟩ := hI
  obtain ⟨hc0, hF, hD, hK, hP, hG, hN, hCc⟩ := id hR
  obtain ⟨fs, h6⟩ := hX.obj
  obtain ⟨hP5, hn12, hmP, hpp, hp0⟩ := id hP
  have hq : ∀ p, p < n → q_J (I (p + 20)) (A (p + 20)) := fun p hp => (hpp p hp).2
  have hL786 := hK.2.2.2.2.1
  obtain ⟨y1, e1, z1⟩ : ∃ y, (xs (x + 1).toNat).toInt = y ∧ zb y := ⟨_, rfl, zb_of _⟩
  obtain ⟨y2, e2, z2⟩ : ∃ y, (xs (x + 2).toNat).toInt = y ∧ zb y := ⟨_, rfl, zb_of _⟩
  obtain ⟨y3, e3, z3⟩ : ∃ y, (xs (x + 3).toNat).toInt = y ∧ zb y := ⟨_, rfl, zb_of _⟩
  obtain ⟨y4, e4, z4⟩ : ∃ y, (xs (x + 4).toNat).toInt = y ∧ zb y := ⟨_, rfl, zb_of _⟩
  refine v_aload_n hc dL_law_931 rfl ?_
  refine v_aload_n hc dL_law_932 rfl ?_
  refine v_iload_n hc dL_law_933 rfl ?_
  refine z_iconst hc dL_law_934 ?_
  refine z_iadd hc dL_law_935 ?_
  refine v_sld hSX hSh hc dL_law_936 (by omega) (by omega) hLs ?_
  rw [e1]
  refine v_callV (As := [.int (zI y1)]) hc ho dL_law_937 KV_L_126 KB_X6_count h6 rfl rfl (c_X6_count _ _ hX hF.2.1 hD.2.1 hn12 (fun p hp => (hq p hp).1.1) z1) rfl (Nat.le_of_ble_eq_true rfl) ⟨by omega, by omega⟩ ⟨by omega, by omega⟩ (fun r6 h6_ s6 q6 z6 => ?_)
  obtain ⟨rfl, eh_, es_⟩ := q6
  have eh_ := eh_.symm
  subst eh_
  have es_ := es_.symm
  subst es_
  refine v_aload_n hc dL_law_940 rfl ?_
  refine v_aload_n hc dL_law_941 rfl ?_
  refine v_iload_n hc dL_law_942 rfl ?_
  refine z_iconst hc dL_law_943 ?_
  refine z_iadd hc dL_law_944 ?_
  refine v_sld hSX hSh hc dL_law_945 (by omega) (by omega) hLs ?_
  rw [e1]
  refine v_callV (As := [.int (zI y1)]) hc ho dL_law_946 KV_L_129 KB_X7_count hO.1 rfl rfl (c_X7_count _ _ hO hF.2.2 hmP.1 z1) rfl (Nat.le_of_ble_eq_true rfl) ⟨by omega, by omega⟩ ⟨by omega, by omega⟩ (fun r7 h7_ s7 q7 z7 => ?_)
  obtain ⟨rfl, eh_, es_⟩ := q7
  have eh_ := eh_.symm
  subst eh_
  have es_ := es_.symm
  subst es_
  rw [e_count hF hD hP hCc]
  refine v_icmp_same (tgt := 954) hc dL_law_949 (by decide) ?_
  exact K _ _ _ _ ⟨ad, L, n, I, A, nf, LN, PI, PR, PB, hn, mf, SN, SI, SR, SB, i, s, j, a, hX, hO, hR.mono, by push_cast; omega, by push_cast; omega⟩
