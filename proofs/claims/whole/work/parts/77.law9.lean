/-! the law: its loop and its entry -/
theorem lw_and31 (u : Int32) : ∃ v : Int, u &&& zI 31 = zI v ∧ 0 ≤ v ∧ v ≤ 31 := by
  have h1 : u = zI ((u.toBitVec.toNat : Nat) : Int) := by
    apply Int32.toBitVec_inj.mp
    show u.toBitVec = BitVec.ofInt 32 _
    rw [BitVec.ofInt_natCast, BitVec.ofNat_toNat, BitVec.setWidth_eq]
  have h3 : u.toBitVec.toNat &&& 31 ≤ 31 := Nat.and_le_right
  refine ⟨((u.toBitVec.toNat &&& 31 : Nat) : Int), ?_, Int.natCast_nonneg _, Int.ofNat_le.mpr h3⟩
  have h2 := zI_land u.toBitVec.toNat 31
  rw [← h1] at h2
  exact h2
theorem lw_I.mono {G : b_G} {o6 o7 : Nat} {c : Int} {k m : Nat} {h : b_H} {sz : Nat} (hI : lw_I G o6 o7 c k m h sz) : lw_I G o6 o7 (c + 1) k m h sz := by
  obtain ⟨ad, L, n, I, A, nf, LN, PI, PR, PB, hn, mf, SN, SI, SR, SB, i, s, j, a, hX, hO, hR, hk, hm⟩ := hI
  exact ⟨ad, L, n, I, A, nf, LN, PI, PR, PB, hn, mf, SN, SI, SR, SB, i, s, j, a, hX, hO, hR.mono, by omega, by omega⟩
set_option maxHeartbeats 4000000 in
theorem law_loop {S : b_S} {b Ls : Nat} {xs : Nat → Int32} (hC : lw_ctx S b Ls xs) {o6 o7 : Nat} (hend : ∀ (k m : Nat) (h : b_H) (sz : Nat) (lv : List (Option Value)), k ≤ 600000 → m ≤ 7302250 → V S k m h sz 961 lv [.int (zI 1)]) : ∀ (d : Nat) {c x : Int} {k m : Nat} {h : b_H} {sz : Nat}, lw_I (s_G S) o6 o7 c k m h sz → x = 5 * c → x ≤ Ls → ((Ls : Int) - x).toNat = d → V S k m h sz 18 [some (.ref b), some (.ref o6), some (.ref o7), some (.int (zI x))] [] := by
  intro d
  induction d using Nat.strongRecOn with
  | _ d ih =>
  intro c x k m h sz hI hxc hxL hd
  obtain ⟨hSX, hSh, hc, ho, hFr, hLo, hCe, hSl, hLs⟩ := id hC
  have hbd : 0 ≤ c ∧ (k : Int) ≤ 100 + 50 * c ∧ (m : Int) ≤ 60000 + 8600 * c + 1572864 := by
    obtain ⟨ad, L, n, I, A, nf, LN, PI, PR, PB, hn, mf, SN, SI, SR, SB, i, s, j, a, hX, hO, hR, hk, hm⟩ := hI
    have h1 := hR.1
    have h2 := hR.2.2.2.1.2.2.2.2.1
    exact ⟨h1, hk, by omega⟩
  refine v_iload_n hc dL_law_18 rfl ?_
  refine v_aload_n hc dL_law_19 rfl ?_
  refine v_slen hSX hSh hc dL_law_20 ?_
  refine z_iconst hc dL_law_21 ?_
  refine z_isub hc dL_law_22 ?_
  refine z_icmp_gt (tgt := 960) hc dL_law_23 (by decide) ⟨by omega, by omega⟩ ⟨by omega, by omega⟩ (fun q => ?_) (fun q => ?_)
  · refine z_iconst hc dL_law_960 ?_
    exact hend _ _ _ _ _ (by omega) (by omega)
  · have hx : 0 ≤ x ∧ x + 5 ≤ Ls := by omega
    have hc5 : c < 512 := by omega
    have K : ∀ (k m : Nat) (h : b_H) (sz : Nat), lw_I (s_G S) o6 o7 (c + 1) k m h sz → V S k m h sz 954 [some (.ref b), some (.ref o6), some (.ref o7), some (.int (zI x))] [] := fun k m h sz hI2 => by
      refine z_iinc hc dL_law_954 rfl ?_
      refine v_goto (tgt := 18) hc dL_law_957 (by decide) ?_
      exact ih ((Ls : Int) - (x + 5)).toNat (by omega) hI2 (by omega) (by omega) rfl
    refine v_aload_n hc dL_law_26 rfl ?_
    refine v_iload_n hc dL_law_27 rfl ?_
    refine v_sld hSX hSh hc dL_law_28 (by omega) (by omega) hLs ?_
    refine z_bipush hc dL_law_29 (by decide) ?_
    obtain ⟨r, er, r0, r1⟩ := lw_and31 (zI (xs x.toNat).toInt)
    refine v_iand hc dL_law_31 er ?_
    by_cases q27 : 27 < r
    · refine z_tableOut (tgt := 954) hc dL_law_32 ⟨by omega, by omega⟩ (Or.inr q27) (by decide) ?_
      exact K _ _ _ _ hI.mono
    · have hr : r = 0 ∨ r = 1 ∨ r = 2 ∨ r = 3 ∨ r = 4 ∨ r = 5 ∨ r = 6 ∨ r = 7 ∨ r = 8 ∨ r = 9 ∨ r = 10 ∨ r = 11 ∨ r = 12 ∨ r = 13 ∨ r = 14 ∨ r = 15 ∨ r = 16 ∨ r = 17 ∨ r = 18 ∨ r = 19 ∨ r = 20 ∨ r = 21 ∨ r = 22 ∨ r = 23 ∨ r = 24 ∨ r = 25 ∨ r = 26 ∨ r = 27 := by omega
      rcases hr with hr | hr | hr | hr | hr | hr | hr | hr | hr | hr | hr | hr | hr | hr | hr | hr | hr | hr | hr | hr | hr | hr | hr | hr | hr | hr | hr | hr
      · subst hr
        exact z_tableIn (tgt := 160) (off := 128) hc dL_law_32 ⟨by omega, by omega⟩ (by omega) (by omega) rfl (by decide) (law_shot hC hI hc5 hx K)
      · subst hr
        exact z_tableIn (tgt := 193) (off := 161) hc dL_law_32 ⟨by omega, by omega⟩ (by omega) (by omega) rfl (by decide) (law_cue hC hI hc5 hx K)
      · subst hr
        exact z_tableIn (tgt := 226) (off := 194) hc dL_law_32 ⟨by omega, by omega⟩ (by omega) (by omega) rfl (by decide) (law_stretches hC hI hc5 hx K)
      · subst hr
        exact z_tableIn (tgt := 239) (off := 207) hc dL_law_32 ⟨by omega, by omega⟩ (by omega) (by omega) rfl (by decide) (law_stretch hC hI hc5 hx K)
      · subst hr
        exact z_tableIn (tgt := 272) (off := 240) hc dL_law_32 ⟨by omega, by omega⟩ (by omega) (by omega) rfl (by decide) (law_tenths hC hI hc5 hx K)
      · subst hr
        exact z_tableIn (tgt := 305) (off := 273) hc dL_law_32 ⟨by omega, by omega⟩ (by omega) (by omega) rfl (by decide) (law_piece hC hI hc5 hx K)
      · subst hr
        exact z_tableIn (tgt := 358) (off := 326) hc dL_law_32 ⟨by omega, by omega⟩ (by omega) (by omega) rfl (by decide) (law_block hC hI hc5 hx K)
      · subst hr
        exact z_tableIn (tgt := 411) (off := 379) hc dL_law_32 ⟨by omega, by omega⟩ (by omega) (by omega) rfl (by decide) (law_way hC hI hc5 hx K)
      · subst hr
        exact z_tableIn (tgt := 444) (off := 412) hc dL_law_32 ⟨by omega, by omega⟩ (by omega) (by omega) rfl (by decide) (law_along hC hI hc5 hx K)
      · subst hr
        exact z_tableIn (tgt := 487) (off := 455) hc dL_law_32 ⟨by omega, by omega⟩ (by omega) (by omega) rfl (by decide) (law_misfit hC hI hc5 hx K)
      · subst hr
        exact z_tableIn (tgt := 530) (off := 498) hc dL_law_32 ⟨by omega, by omega⟩ (by omega) (by omega) rfl (by decide) (law_best hC hI hc5 hx K)
      · subst hr
        exact z_tableIn (tgt := 563) (off := 531) hc dL_law_32 ⟨by omega, by omega⟩ (by omega) (by omega) rfl (by decide) (law_step hC hI hc5 hx K)
      · subst hr
        exact z_tableIn (tgt := 596) (off := 564) hc dL_law_32 ⟨by omega, by omega⟩ (by omega) (by omega) rfl (by decide) (law_rule hC hI hc5 hx K)
      · subst hr
        exact z_tableIn (tgt := 629) (off := 597) hc dL_law_32 ⟨by omega, by omega⟩ (by omega) (by omega) rfl (by decide) (law_programme hC hI hc5 hx K)
      · subst hr
        exact z_tableIn (tgt := 652) (off := 620) hc dL_law_32 ⟨by omega, by omega⟩ (by omega) (by omega) rfl (by decide) (law_given hC hI hc5 hx K)
      · subst hr
        exact z_tableIn (tgt := 685) (off := 653) hc dL_law_32 ⟨by omega, by omega⟩ (by omega) (by omega) rfl (by decide) (law_begin hC hI hc5 hx K)
      · subst hr
        exact z_tableIn (tgt := 698) (off := 666) hc dL_law_32 ⟨by omega, by omega⟩ (by omega) (by omega) rfl (by decide) (law_go hC hI hc5 hx K)
      · subst hr
        exact z_tableIn (tgt := 721) (off := 689) hc dL_law_32 ⟨by omega, by omega⟩ (by omega) (by omega) rfl (by decide) (law_seen hC hI hc5 hx K)
      · subst hr
        exact z_tableIn (tgt := 734) (off := 702) hc dL_law_32 ⟨by omega, by omega⟩ (by omega) (by omega) rfl (by decide) (law_reel hC hI hc5 hx K)
      · subst hr
        exact z_tableIn (tgt := 757) (off := 725) hc dL_law_32 ⟨by omega, by omega⟩ (by omega) (by omega) rfl (by decide) (law_now hC hI hc5 hx K)
      · subst hr
        exact z_tableIn (tgt := 780) (off := 748) hc dL_law_32 ⟨by omega, by omega⟩ (by omega) (by omega) rfl (by decide) (law_played hC hI hc5 hx K)
      · subst hr
        exact z_tableIn (tgt := 803) (off := 771) hc dL_law_32 ⟨by omega, by omega⟩ (by omega) (by omega) rfl (by decide) (law_fees hC hI hc5 hx K)
      · subst hr
        exact z_tableIn (tgt := 816) (off := 784) hc dL_law_32 ⟨by omega, by omega⟩ (by omega) (by omega) rfl (by decide) (law_effect hC hI hc5 hx K)
      · subst hr
        exact z_tableIn (tgt := 859) (off := 827) hc dL_law_32 ⟨by omega, by omega⟩ (by omega) (by omega) rfl (by decide) (law_hands hC hI hc5 hx K)
      · subst hr
        exact z_tableIn (tgt := 882) (off := 850) hc dL_law_32 ⟨by omega, by omega⟩ (by omega) (by omega) rfl (by decide) (law_free hC hI hc5 hx K)
      · subst hr
        exact z_tableIn (tgt := 905) (off := 873) hc dL_law_32 ⟨by omega, by omega⟩ (by omega) (by omega) rfl (by decide) (law_clash hC hI hc5 hx K)
      · subst hr
        exact z_tableIn (tgt := 918) (off := 886) hc dL_law_32 ⟨by omega, by omega⟩ (by omega) (by omega) rfl (by decide) (law_left hC hI hc5 hx K)
      · subst hr
        exact z_tableIn (tgt := 931) (off := 899) hc dL_law_32 ⟨by omega, by omega⟩ (by omega) (by omega) rfl (by decide) (law_count hC hI hc5 hx K)
theorem y_R_0 {LN : Nat → Nat} {PI PR PB : Nat → Nat → Int} {mf : Nat} {SN : Nat → Nat} {SI SR SB : Nat → Nat → Int} {i s : Nat → Int} : y_R 0 0 0 x_I0 (fun _ _ _ => 0) 0 LN PI PR PB false mf SN SI SR SB i s (fun k => if k = 19 then 1 else if k = 20 then 6 else if k = 57 then 2 else 0) (fun _ _ => 0) := by
  have z0 : ∀ {M : Int}, 0 ≤ M → (0 : Int) ≤ 0 ∧ (0 : Int) ≤ M := fun q => ⟨Int.le_refl 0, q⟩
  have zn : ∀ {P : Prop} (q : Nat), (q : Int) < 0 → P := fun q hq => absurd hq (by omega)
  refine ⟨Int.le_refl 0, ⟨⟨rfl, rfl, rfl, rfl⟩, ?_, ?_⟩, ⟨⟨rfl, rfl, rfl, rfl, rfl⟩, ?_, ?_⟩, ⟨⟨rfl, rfl⟩, ?_, ?_, Int.le_refl 0, by omega, fun _ => z0 (by decide)⟩, ⟨rfl, by omega, ?_, fun p hp => absurd hp (by omega), fun p _ => ⟨rfl, rfl, rfl⟩⟩, ⟨rfl, by omega, fun q hq => absurd hq (by omega), ⟨z0 (by decide), fun q hq => zn q hq⟩, fun q hq => absurd hq (by omega)⟩, ⟨⟨fun q => absurd q (by decide), fun q => absurd rfl q⟩, z0 (by decide), ⟨show (-8 : Int) ≤ 0 by decide, show (0 : Int) ≤ 8 by decide⟩, z0 (by decide), z0 (by decide), fun q => absurd q (by decide)⟩, ⟨⟨fun _ => z0 (by decide), z0 (by decide), z0 (by decide)⟩, rfl, rfl⟩⟩
  · exact ⟨z0 (by decide), fun _ => z0 (by decide), fun _ => z0 (by decide), fun _ => z0 (by decide)⟩
  · exact ⟨z0 (by decide), fun _ => z0 (by decide), fun _ => z0 (by decide), fun _ => z0 (by decide)⟩
  · exact ⟨z0 (by decide), ⟨show (0 : Int) ≤ 2 by decide, show (2 : Int) ≤ 4 by decide⟩, fun _ => z0 (by decide), fun _ => z0 (by decide)⟩
  · exact ⟨z0 (by decide), ⟨show (0 : Int) ≤ 2 by decide, show (2 : Int) ≤ 4 by decide⟩, fun _ => z0 (by decide), fun _ => z0 (by decide)⟩
  · exact ⟨⟨show (0 : Int) ≤ 1 by decide, show (1 : Int) ≤ 99 by decide⟩, ⟨show (0 : Int) ≤ 6 by decide, show (6 : Int) ≤ 6 by decide⟩⟩
  · exact ⟨⟨show (0 : Int) ≤ 1 by decide, show (1 : Int) ≤ 99 by decide⟩, ⟨show (0 : Int) ≤ 6 by decide, show (6 : Int) ≤ 6 by decide⟩, z0 (by decide), fun _ => ⟨show (-2 : Int) ≤ 0 by decide, show (0 : Int) ≤ 100000 by decide⟩, fun _ => ⟨Int.le_refl 0, Or.inl (show (0 : Int) ≤ 594 by decide)⟩, fun _ => ⟨Int.le_refl 0, show (0 : Int) < (0 + 1) * 1048576 by decide⟩, by omega⟩
  · exact ⟨z0 (by decide), fun _ => z0 (by decide), fun q hq => zn q hq, fun _ => z0 (by decide), fun _ => z0 (by decide), fun _ => z0 (by decide), fun _ => z0 (by decide), fun _ => z0 (by decide), fun _ q _ hq => zn q hq, fun _ => z0 (by decide), fun _ => z0 (by decide), fun _ => z0 (by decide)⟩
set_option maxHeartbeats 4000000 in
theorem law_all {S : b_S} {b Ls : Nat} {xs : Nat → Int32} (hC : lw_ctx S b Ls xs) (hend : ∀ (k m : Nat) (h : b_H) (sz : Nat) (lv : List (Option Value)), k ≤ 600000 → m ≤ 7302250 → V S k m h sz 961 lv [.int (zI 1)]) {sz : Nat} : V S 0 0 (fun _ => none) sz 0 [some (.ref b), none, none, none] [] := by
  obtain ⟨hSX, hSh, hc, ho, hFr, hLo, hCe, hSl, hLs⟩ := id hC
  refine x_new hc ho dL_law_0 NW_L_7 (by omega) (by omega) (fun h1 e1 f1 => ?_)
  refine v_dup hc dL_law_3 rfl ?_
  refine v_callI (As := []) hc ho dL_law_4 KI_L_9 KB_X6_init (c_X6_init _ _ e1 (by omega)) rfl (Nat.le_of_ble_eq_true rfl) ⟨by omega, by omega⟩ ⟨by omega, by omega⟩ (fun r2 h2 s2 q2 z2 => ?_)
  obtain ⟨rfl, es2, f2, hX2⟩ := q2
  refine v_astore_n hc dL_law_7 (Nat.le_of_ble_eq_true rfl) ?_
  refine v_dom (fun hdom => ?_)
  refine x_new hc ho dL_law_8 NW_L_10 (by omega) (by omega) (fun h3 e3 f3 => ?_)
  refine v_dup hc dL_law_11 rfl ?_
  refine v_callI (As := []) hc ho dL_law_12 KI_L_12 KB_X7_init (c_X7_init _ _ e3 (by omega)) rfl (Nat.le_of_ble_eq_true rfl) ⟨by omega, by omega⟩ ⟨by omega, by omega⟩ (fun r4 h4 s4 q4 z4 => ?_)
  obtain ⟨rfl, es4, hO4, f4⟩ := q4
  refine v_astore_n hc dL_law_15 (Nat.le_of_ble_eq_true rfl) ?_
  refine z_iconst hc dL_law_16 ?_
  refine v_istore_n hc dL_law_17 (Nat.le_of_ble_eq_true rfl) ?_
  refine law_loop hC hend _ (c := 0) (x := 0) ?_ (by omega) (by omega) rfl
  refine ⟨(fun k => s2 + 1 + r_ix K7 k), 0, 0, x_I0, (fun _ _ _ => 0), 0, (fun _ => 0), (fun _ _ => 0), (fun _ _ => 0), (fun _ _ => 0), false, 0, (fun _ => 0), (fun _ _ => 0), (fun _ _ => 0), (fun _ _ => 0), (fun _ => 0), (fun _ => 0), _, _, ?_, hO4, y_R_0, by omega, by omega⟩
  refine (hX2 _ _ _ _ _ _ _ _ _ _ _).grow hdom (fun v hv => (f4 v (by omega) (by omega)).trans (f3 v (by omega))) (fun v hv => ?_)
  have hl : (K7.filterMap id).length = 35 := by decide
  have h5 := r_own_rg hv
  rw [hl] at h5
  omega
