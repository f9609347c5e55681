/-! V rows: getClass of an array of Objects, its mirror, arraycopy of references -/
section R5
variable {S : b_S} {k n : Nat} {h : b_H} {sz pc : Nat} {lv : List (Option Value)} {rest : List Value} {cc : ByteArray} {own : String}
abbrev b_gC : MethodName := ⟨"java/lang/Object", "getClass", "()Ljava/lang/Class;"⟩
theorem v_getC (hc : s_cc S = cc) (ho : s_own S = own) {idx : Nat} (hd : decode cc pc = .ok (.invokevirtual idx, 3)) (hl : Cond.methodLink own idx b_gC ∈ b_T) (hsel : Cond.selects "[Ljava/lang/Object;" b_gC b_gC ∈ b_T) (hin : Cond.instanceMethod b_gC ∈ b_T) (hnat : Cond.native b_gC ∈ b_T) {a N : Nat} {f : Nat → Option Nat} (ha : h a = some (b_qA N f)) (hfr : 1 ≤ (s_R S).frames) (hlo : (rest.map fun v => v.category).sum + 14 ≤ (s_R S).locals) (K : V S k n h sz (pc + 3) lv (.ref (s_G S).2.2.2 :: rest)) : V S k n h sz pc lv (.ref a :: rest) := by
  intro p e s m args below meth c H ls locs C B
  obtain ⟨hx, hb, hml, hret, hlk, hnm, hown, hts, hE, hX, hs0, hZ⟩ := id C
  have hc0 : H[a]? = some (vp_cell ((s_G S).2.1 2) (N, .inr (.inr (.inr (.inr f))))) := B.2.1 a _ ha
  exact va_getC (C := "[Ljava/lang/Object;") hx (hb.trans hc) (hml.trans (B.2.2.2.2.1.1.trans B.2.2.2.2.2).symm) (ho ▸ hown) (hts _ hl) (va_Dc.use hE.2.2.2.2.2) (hts _ hsel) (hts _ hin) (hts _ hnat) hE.2.2.2.2.1 ⟨_, hc0, rfl, va_nmO (hE.1.2 2 _ rfl).2 (by decide)⟩ hfr hlo hd (K p e s m args below meth c H ls locs C B)
theorem v_ldcM (hc : s_cc S = cc) (ho : s_own S = own) {idx : Nat} (hd : decode cc pc = .ok (.ldc idx, 2)) (hl : Cond.classLink own idx "[Ljava/lang/Object;" ∈ b_T) (K : V S k n h sz (pc + 2) lv (.ref (s_G S).2.2.2 :: rest)) : V S k n h sz pc lv rest := by
  intro p e s m args below meth c H ls locs C B
  obtain ⟨hx, hb, hml, hret, hlk, hnm, hown, hts, hE, hX, hs0, hZ⟩ := id C
  exact va_ldcM hx (hb.trans hc) (ho ▸ hown) (hts _ hl) hE.2.2.2.2.1 hd (K p e s m args below meth c H ls locs C B)
theorem v_copyq (hc : s_cc S = cc) (ho : s_own S = own) {idx : Nat} (hd : decode cc pc = .ok (.invokestatic idx, 3)) (hl : Cond.methodLink own idx arraycopyName ∈ b_T) (hnat : Cond.native arraycopyName ∈ b_T) (hst : Cond.static arraycopyName ∈ b_T) (hin : Cond.initialized "java/lang/System" ∈ b_T) {a0 a N0 N1 : Nat} {f g : Nat → Option Nat} (ha0 : h a0 = some (b_qA N0 f)) (ha : h a = some (b_qA N1 g)) {N : Nat} (h4 : N ≤ N0) (h5 : N ≤ N1) (hN : N < 2147483648) {ci : Nat} {r : vw_C} (hr : b_C[ci]? = some r) (hca : Cond.castable r.1 "java/lang/Object" ∈ b_Ca) (hel : ∀ i : Nat, i < N → ∀ y : Nat, f i = some y → ∃ vs, h y = some (b_ob ci vs)) (hfr : 1 ≤ (s_R S).frames) (hlo : (rest.map fun v => v.category).sum + (nativeFrameWords "java/lang/System" "arraycopy" 5 + 11) ≤ (s_R S).locals)
    (K : ∀ h' : b_H, h' a = some (b_qA N1 (fun j => if j < N then f j else g j)) → (∀ b, b ≠ a → h' b = h b) → V S k n h' sz (pc + 3) lv rest) : V S k n h sz pc lv (.int (zI N) :: .int (zI 0) :: .ref a :: .int (zI 0) :: .ref a0 :: rest) := by
  intro p e s m args below meth c H ls locs C B
  obtain ⟨hx, hb, hml, hret, hlk, hnm, hown, hts, hE, hX, hs0, hZ⟩ := id C
  have hK := hE.1
  have hcls := (hK.1 ci r hr).2
  have z0 : (zI 0).toNatClampNeg = 0 := by rw [zI_clamp ⟨by omega, by omega⟩]; rfl
  have zN : (zI N).toNatClampNeg = N := by rw [zI_clamp ⟨by omega, by omega⟩]; omega
  have i0 : (zI 0).toInt = 0 := by decide
  have iN : (zI N).toInt = N := zI_toInt ⟨by omega, by omega⟩
  have n0 : ¬ zI 0 < 0 := by decide
  have nN : ¬ zI N < 0 := fun q => by have := (zI_lt (a := (N : Int)) (b := 0) ⟨by omega, by omega⟩ ⟨by omega, by omega⟩).mp q; omega
  intro T hT X
  have hc0 : H[a0]? = some (vp_cell ((s_G S).2.1 2) (N0, .inr (.inr (.inr (.inr f))))) := B.2.1 a0 _ ha0
  have hc1 : H[a]? = some (vp_cell ((s_G S).2.1 2) (N1, .inr (.inr (.inr (.inr g))))) := B.2.1 a _ ha
  obtain ⟨-, k0, hk0, cm0, hkk0⟩ := (hK.2 2 _ rfl).1 N0 (fun j => va_rf (f j))
  obtain ⟨-, k1, hk1, cm1, hkk1⟩ := (hK.2 2 _ rfl).1 N1 (fun j => va_rf (g j))
  obtain ⟨vm', X', step⟩ := X.arraycopy hx (ho ▸ hown) (hts _ hl) (hts _ hnat) (hts _ hst) (hts _ hin) (src := a0) (dst := a) (cs := vp_cell ((s_G S).2.1 2) (N0, .inr (.inr (.inr (.inr f))))) (cd := vp_cell ((s_G S).2.1 2) (N1, .inr (.inr (.inr (.inr g))))) (srcPos := zI 0) (destPos := zI 0) (n := zI N) (by rw [hT]; exact hc0) (by rw [hT]; exact hc1)
    (fun _ h => by cases h) (fun _ h => by cases h) (fun h => by cases h) (fun h => by cases h) hk0 hk1 hkk0 hkk1 rfl n0 n0 nN
    (by rw [i0, iN]; show ¬ _ > ((arrV _ N0 (fun j => va_rf (f j))).slots.size : Int); rw [arrV_size]; omega)
    (by rw [i0, iN]; show ¬ _ > ((arrV _ N1 (fun j => va_rf (g j))).slots.size : Int); rw [arrV_size]; omega)
    (fun vm₁ hal i hi => by
      rw [zN] at hi
      rw [z0, Nat.zero_add]
      have e : (vp_cell ((s_G S).2.1 2) (N0, .inr (.inr (.inr (.inr f))))).slots.getD i .null = va_rf (f i) := by
        show (arrV _ N0 (fun j => va_rf (f j))).slots.getD _ _ = _
        rw [Array.getD_eq_getD_getElem?, arrV_read _ _ (by omega)]
        rfl
      rw [e]
      cases hy : f i with
      | none => exact ⟨rfl, trivial⟩
      | some y =>
        obtain ⟨vs, hvs⟩ := hel i hi y hy
        obtain ⟨r', hr', cellV, g1, g2, g3, -⟩ := B.2.1 y _ hvs
        obtain ⟨kA, comp, r1, r2, r3, -⟩ := (hK.2 2 _ rfl).2
        cases hk1.symm.trans r1
        cases hkk1.symm.trans r2
        obtain ⟨c0, t1, f1, f2, f3⟩ := Cond.castable_spec (va_Nw.use (A := args) rfl (hE.2.2.1 _ hca))
        cases hcls.1.symm.trans f1
        cases r3.symm.trans f2
        obtain ⟨kC, hkC, -⟩ := hcls.2
        obtain ⟨kE, hkE, -⟩ := Vm.findClass_spec r3
        obtain ⟨kC', hkC', -⟩ := hal.2.2 _ _ hkC
        obtain ⟨kE', hkE', -⟩ := hal.2.2 _ _ hkE
        refine ⟨rfl, cellV, (show T.heap[y]? = some cellV by rw [hT]; exact g1), (fun q h => by rw [g3] at h; cases h), ⟨kC', by rw [g2]; exact hkC'⟩, ⟨kE', hkE'⟩, ?_⟩
        show vm₁.assignable _ _ = true
        rw [hal.assignable, g2]
        exact f3)
    (g := F0 m pc ls (.int (zI N) :: .int (zI 0) :: .ref a :: .int (zI 0) :: .ref a0 :: rest)) rfl (by rw [hml]; exact B.2.2.2.2.1.1.trans B.2.2.2.2.2) (rest := rest) rfl (by rw [hb, hc]; exact hd) hfr (by show 2 * 0 + _ + _ ≤ _; omega)
  have e1 : copied (vp_cell ((s_G S).2.1 2) (N0, .inr (.inr (.inr (.inr f))))) (vp_cell ((s_G S).2.1 2) (N1, .inr (.inr (.inr (.inr g))))) (zI 0) (zI 0) (zI N) = vp_cell ((s_G S).2.1 2) (N1, .inr (.inr (.inr (.inr (va_cpy f g 0 0 N))))) := by
    rw [vp_cell_q, vp_cell_q, vp_cell_q]
    show (arrV _ N1 (fun j => va_rf (g j))).storeRun (zI 0).toNatClampNeg ((arrV _ N0 (fun j => va_rf (f j))).stretch (zI 0).toNatClampNeg (zI N).toNatClampNeg) = _
    rw [z0, zN]
    exact va_copied (fun z => va_rf z) ((s_G S).2.1 2) ((s_G S).2.1 2) (n1 := N1) f g (sp := 0) (dp := 0) (n := N) (n0 := N0) (by omega)
  have e2 : va_cpy f g 0 0 N = (fun j => if j < N then f j else g j) := by
    funext j
    simp [va_cpy]
  rw [e1, e2] at X' step
  have hls : a < H.size := (Array.getElem?_eq_some_iff.mp hc1).1
  generalize hcv : vp_cell ((s_G S).2.1 2) (N1, .inr (.inr (.inr (.inr (fun j => if j < N then f j else g j))))) = cv at X' step
  have oq : ∀ q : Nat, q ≠ a → (H.setIfInBounds a cv)[q]? = H[q]? := fun q hq => by simp [Array.getElem?_setIfInBounds, Ne.symm hq]
  have eq : (H.setIfInBounds a cv)[a]? = some cv := by simp [Array.getElem?_setIfInBounds, hls]
  have hheap : ((T.setVm vm').setCell a cv).heap = H.setIfInBounds a cv := by rw [← hT]; rfl
  have hA := B.2.2.1 a (b_some ha)
  obtain ⟨t, a1, b1⟩ := K (b_set h a (b_qA N1 (fun j => if j < N then f j else g j))) (b_set_eq _ _ _) (fun b q => b_set_ne _ _ q) p e s m args below meth c (H.setIfInBounds a cv) ls _ C ⟨by rw [Array.size_setIfInBounds]; exact B.1, b_R.set B.2.1 (by show (H.setIfInBounds a cv)[a]? = some (vp_cell _ _); rw [eq, ← hcv]) oq, fun b q => by
      by_cases eb : b = a
      · rw [eb]; exact hA
      · rw [b_set_ne _ _ eb] at q; exact B.2.2.1 b q, ⟨by rw [Array.size_setIfInBounds]; exact B.2.2.2.1.1, fun q g1 g2 => by
      rw [oq q (fun e => g2 (by rw [e]; exact hA))]
      exact B.2.2.2.1.2.1 q g1 g2, fun q hq => by
      rcases List.mem_append.mp hq with h | h
      · exact B.2.2.2.1.2.2 q h
      · obtain ⟨z, -, hz⟩ := List.mem_map.mp h
        rw [← hz]
        exact hA⟩, B.2.2.2.2.1, B.2.2.2.2.2⟩ _ hheap X'
  exact ⟨t, step t a1, b1⟩
end R5
theorem L5_gC : Cond.methodLink RJ7 86 b_gC ∈ b_T := b_in 364 (by decide +kernel) rfl
theorem L5_gCs : Cond.selects "[Ljava/lang/Object;" b_gC b_gC ∈ b_T := b_in 1258 (by decide +kernel) rfl
theorem L5_gCi : Cond.instanceMethod b_gC ∈ b_T := b_in 365 (by decide +kernel) rfl
theorem L5_gCn : Cond.native b_gC ∈ b_T := b_in 376 (by decide +kernel) rfl
theorem L5_ac : Cond.methodLink RJ7 150 arraycopyName ∈ b_T := b_in 386 (by decide +kernel) rfl
theorem L5_acs : Cond.static arraycopyName ∈ b_T := b_in 387 (by decide +kernel) rfl
theorem L5_acn : Cond.native arraycopyName ∈ b_T := b_in 388 (by decide +kernel) rfl
theorem L5_aci : Cond.initialized "java/lang/System" ∈ b_T := b_in 59 (by decide +kernel) rfl
