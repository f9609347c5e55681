/-! contracts over pictures of the whole heap; calls; ends -/
def b_PX (G : b_G) (av : List Value) (h : b_H) (sz : Nat) : Array Value → State → Prop := fun v U => v = av.toArray ∧ U.heap.size = sz ∧ b_E G U ∧ b_Z G (b_A h sz) U U.heap ∧ b_R G h U.heap
def b_QX (G : b_G) (h : b_H) (sz : Nat) (post : Option Value → b_H → Nat → Prop) : Array Value → State → Outcome → State → Prop := fun _ st o t => ∃ (r : Option Value) (h' : b_H), o = .returned r ∧ post r h' t.heap.size ∧ b_R G h' t.heap ∧ (∀ a, h' a ≠ none → b_A h sz a) ∧ va_F (b_A h sz) st t
/-- a method's contract: called with these arguments over this heap it answers as 'post' says; fr frames, lo words of locals, mc cells of ms slots are its room -/
def Con (l : Launch) (G : b_G) (y : MethodName) (cc : ByteArray) (nL : Nat) (ret : Option FieldType) (fr lo mc ms : Nat) (av : List Value) (h : b_H) (sz : Nat) (post : Option Value → b_H → Nat → Prop) : Prop :=
  Met l y (Cond.code y cc nL ret :: b_T) { frames := fr, cells := mc, slots := ms, locals := lo } (b_PX G av h sz) (b_QX G h sz post) mc ms (b_A h sz)
theorem b_PX.blind (G : b_G) (av : List Value) (h : b_H) (sz : Nat) : FrameBlind (b_PX G av h sz) := by
  intro a U g mk q
  obtain ⟨h1, h2, h3, h4, h5⟩ := q
  exact ⟨h1, h2, b_E.same (s := U) (U := U.calling g mk a) rfl h3, b_Z.moved (s := U) (U := U.calling g mk a) (Vm.Alike.refl U.vm) h4, h5⟩
/-- what a body knows of itself -/
def b_M (S : b_S) (l : Launch) (G : b_G) (own : String) (cc : ByteArray) (nL : Nat) (ret : Option FieldType) (nm : String) (fr lo mc ms : Nat) (h : b_H) (sz : Nat) (post : Option Value → b_H → Nat → Prop) : Prop :=
  s_l S = l ∧ s_G S = G ∧ s_own S = own ∧ s_cc S = cc ∧ s_nL S = nL ∧ s_ret S = ret ∧ s_nm S = nm ∧ s_R S = { frames := fr, cells := mc, slots := ms, locals := lo } ∧ s_h S = h ∧ s_sz S = sz ∧ s_Q S = (fun args below s => MQ below (b_QX G h sz post) args s mc ms (b_A h sz))
def b_ent (av : List Value) (nL : Nat) : List (Option Value) := av.map some ++ List.replicate (nL - av.length) none
theorem b_L_ent (av : List Value) (nL : Nat) (hl : av.length ≤ nL) (hcat : ∀ v ∈ av, v.category = 1) : b_L ((av.map Slot.val ++ List.replicate (nL - av.length) Slot.unset).toArray) (b_ent av nL) := by
  refine ⟨by simp [b_ent], ⟨fun i v hv hc => ?_, fun i hi => ?_⟩, fun i v hv => ?_⟩
  · exfalso
    simp only [List.getElem?_toArray, List.getElem?_append, List.getElem?_map, List.length_map] at hv
    split at hv
    · cases hx : av[i]? with
      | none => simp [hx] at hv
      | some w =>
        simp [hx] at hv
        subst hv
        have := hcat w (List.mem_of_getElem? hx)
        omega
    · simp [List.getElem?_replicate] at hv
  · exfalso
    simp only [List.getElem?_toArray, List.getElem?_append, List.getElem?_map, List.length_map] at hi
    split at hi
    · cases hx : av[i]? with
      | none => simp [hx] at hi
      | some w => simp [hx] at hi
    · simp [List.getElem?_replicate] at hi
  · simp only [b_ent, List.getElem?_append, List.getElem?_map, List.length_map] at hv
    split at hv
    · cases hx : av[i]? with
      | none => simp [hx] at hv
      | some w =>
        simp [hx] at hv
        subst hv
        refine ⟨?_, hcat w (List.mem_of_getElem? hx)⟩
        simp only [List.getElem?_toArray, List.getElem?_append, List.getElem?_map, List.length_map]
        rename_i hi
        rw [if_pos hi, hx]
        rfl
    · simp [List.getElem?_replicate] at hv
theorem Con.of {l : Launch} {G : b_G} {y : MethodName} {cc : ByteArray} {nL : Nat} {ret : Option FieldType} {fr lo mc ms : Nat} {av : List Value} {h : b_H} {sz : Nat} {post : Option Value → b_H → Nat → Prop} (hy : plainFor y = true) (hl : av.length ≤ nL) (hcat : ∀ v ∈ av, v.category = 1)
    (body : ∀ S : b_S, b_M S l G y.cls cc nL ret y.name fr lo mc ms h sz post → V S 0 0 h sz 0 (b_ent av nL) []) : Con l G y cc nL ret fr lo mc ms av h sz post := by
  refine va_MetF (cc := cc) (maxL := nL) (ret := ret) hy rfl ?_
  intro p e s m args below meth c s₁ B hml hv
  obtain ⟨rfl, hsz, hE, hZ, hR⟩ := hv
  have hts := atoms_spec (ws := Cond.code y cc nL ret :: b_T) B.pre
  have hown : s.vm.findClass y.cls = some m.cls := findClass_of_methodNamed B.named
  have K := body (l, { frames := fr, cells := mc, slots := ms, locals := lo }, y.cls, cc, nL, ret, y.name, G, (fun _ => True), h, sz, (fun args below s => MQ below (b_QX G h sz post) args s mc ms (b_A h sz))) ⟨rfl, rfl, rfl, rfl, rfl, rfl, rfl, rfl, rfl, rfl, rfl⟩
  have K2 := K p e s m av.toArray below meth c s.heap ((av.map Slot.val ++ List.replicate (nL - av.length) Slot.unset).toArray) [] ⟨B.exec, B.bytes, hml, B.returns, B.notSynchronized, (name_of_methodNamed B.named B.method).1, hown, fun w hw => hts w (List.mem_cons_of_mem _ hw), hE, trivial, hsz, hZ⟩ ⟨hsz, hR, fun a ha => Or.inl ha, va_S.rf, b_L_ent av nL hl hcat, by simp [b_ent, s_nL]; omega⟩
  rw [entry_eq m av hcat nL]
  exact K2
/-- links of a call -/
def b_KB (y : MethodName) (cc : ByteArray) (nL : Nat) (ret : Option FieldType) (na : Nat) : Prop := Cond.code y cc nL ret ∈ b_T ∧ Cond.initialized y.cls ∈ b_T ∧ (y.cls ≠ "java/lang/invoke/MethodHandle" ∧ y.cls ≠ "java/lang/invoke/VarHandle" ∧ (parseMethodDescriptor y.desc).map (fun d => d.parameters.length) = some na)
def b_KV (own : String) (idx : Nat) (y : MethodName) : Prop := Cond.methodLink own idx y ∈ b_T ∧ Cond.instanceMethod y ∈ b_T ∧ Cond.selects y.cls y y ∈ b_T
def b_KS (own : String) (idx : Nat) (y : MethodName) : Prop := Cond.methodLink own idx y ∈ b_T ∧ Cond.static y ∈ b_T
def b_KI (own : String) (idx : Nat) (y : MethodName) : Prop := Cond.methodLink own idx y ∈ b_T ∧ Cond.instanceMethod y ∈ b_T ∧ y.name = "<init>"
def b_KSN (own : String) (idx : Nat) (y : MethodName) : Prop := (∃ host, Cond.methodLinkNest own idx y host ∈ b_N) ∧ Cond.static y ∈ b_T
def b_KIN (own : String) (idx : Nat) (y : MethodName) : Prop := (∃ host, Cond.methodLinkNest own idx y host ∈ b_N) ∧ Cond.instanceMethod y ∈ b_T ∧ y.name = "<init>"
theorem b_goodIn {y : MethodName} {cc : ByteArray} {nL : Nat} {ret : Option FieldType} (h : Cond.code y cc nL ret ∈ b_T) : GoodIn b_T (Cond.code y cc nL ret :: b_T) := by
  intro w hw
  rcases List.mem_cons.mp hw with rfl | hw
  · exact ⟨h, b_good h⟩
  · exact ⟨hw, b_good hw⟩
section BC
variable {S : b_S} {k n : Nat} {h : b_H} {sz pc : Nat} {lv : List (Option Value)} {rest : List Value} {cc : ByteArray}
theorem v_run {p : Program} {e : Env} {s : State} {m : MethodId} {args : Array Value} {below : List Frame} {meth : Method} {c : Code} {H : Heap} {ls : Array Slot} {locs : List Loc} {mc ms : Nat} {st0 : List Value} {a : Array Value} {post : Option Value → b_H → Nat → Prop} (C : b_V0 S p s m args meth c) (B : b_V1 S h sz lv s H ls locs)
    (hr : va_Run p (s_l S) e (s_R S) s m args below meth c H locs k n mc ms (F0 m pc ls st0) rest (b_QX (s_G S) h sz post a) (b_A h sz)) (K : ∀ (r : Option Value) (h' : b_H) (sz' : Nat), post r h' sz' → sz ≤ sz' → V S (k + mc) (n + ms) h' sz' (pc + 3) lv (r.toList ++ rest)) : W p (s_l S) e (s_R S) s m args below meth c H locs k n (s_Q S args below s) (F0 m pc ls st0) := by
  intro T hT X
  obtain ⟨v, st₀, t, T', L, h0, X', hL, e1, e2, ⟨r, h', hv, hp, hR', hdom, hz, hk⟩, st⟩ := hr T hT X
  cases hv
  obtain ⟨b1, b2, b3, b4, b5, b6⟩ := B
  obtain ⟨hx, hb, hml, hrt, hlk, hnm, hown, hts, hE, hX, hs0, hZ⟩ := id C
  rw [h0] at hz hk
  have hsub : ∀ q, b_A h sz q → b_A (s_h S) (s_sz S) q := by
    intro q hq
    rcases hq with hq | hq
    · exact b3 q hq
    · exact Or.inr (by rw [← hs0]; exact Nat.le_trans b4.1 (by rw [b1]; exact hq))
  have K2 := K v h' t.heap.size hp (by rw [← b1]; exact hz) p e s m args below meth c t.heap ls (locs ++ L) C ⟨rfl, hR', fun a ha => hsub a (hdom a ha), ⟨Nat.le_trans b4.1 hz, fun q q1 q2 => by rw [hk q (Nat.lt_of_lt_of_le q1 b4.1) (fun z => q2 (hsub q z))]; exact b4.2.1 q q1 q2, fun q hq => by
      rcases List.mem_append.mp hq with z | z
      · exact b4.2.2 q z
      · exact hsub _ (hL q z)⟩, b5, b6⟩
  obtain ⟨t2, a1, c1⟩ := K2 T' e1 X'
  exact ⟨t2, st t2 a1, c1⟩
theorem b_pre {G : b_G} {s : State} {H : Heap} {av : List Value} {A0 : Nat → Prop} (hE : b_E G s) (hZ : b_Z G A0 s s.heap) {locs : List Loc} (hS : va_S A0 s.heap H locs) (hsz : H.size = sz) (hR : b_R G h H) (hsub : ∀ q, b_A h sz q → A0 q) : PreS s H (b_PX G av h sz) av := by
  refine ⟨b_PX.blind G av h sz, fun U hU hW => ⟨rfl, by rw [hU]; exact hsz, b_E.moved hW hE, ?_, by rw [hU]; exact hR⟩⟩
  have h1 := va_Z.narrow (B := b_A h sz) (va_Z.kept hZ.1 (H1 := H) hS.2.1) hsub
  have h2 := va_T.narrow (B := b_A h sz) (va_T.kept hZ.2 (H1 := H) hS.2.1) hsub
  rw [hU]
  exact b_Z.moved hW.alike ⟨h1, h2⟩
theorem b_sub {p : Program} {s : State} {m : MethodId} {args : Array Value} {meth : Method} {c : Code} {H : Heap} {ls : Array Slot} {locs : List Loc} (C : b_V0 S p s m args meth c) (B : b_V1 S h sz lv s H ls locs) : ∀ q, b_A h sz q → b_A (s_h S) (s_sz S) q := by
  obtain ⟨b1, b2, b3, b4, b5, b6⟩ := B
  obtain ⟨hx, hb, hml, hrt, hlk, hnm, hown, hts, hE, hX, hs0, hZ⟩ := id C
  intro q hq
  rcases hq with hq | hq
  · exact b3 q hq
  · exact Or.inr (by rw [← hs0]; exact Nat.le_trans b4.1 (by rw [b1]; exact hq))
variable {y : MethodName} {c2 : ByteArray} {n2 na fr lo mc ms idx : Nat} {r2 : Option FieldType} {As : List Value} {post : Option Value → b_H → Nat → Prop} {own : String}
theorem v_callV (hc : s_cc S = cc) (ho : s_own S = own) (hd : decode cc pc = .ok (.invokevirtual idx, 3)) (L : b_KV own idx y) (L2 : b_KB y c2 n2 r2 na) {b ci : Nat} {fs : List Value} {q : vw_C} (hb : h b = some (b_ob ci fs)) (hq : b_C[ci]? = some q) (hqn : q.1 = y.cls) (M : Con (s_l S) (s_G S) y c2 n2 r2 fr lo mc ms (.ref b :: As) h sz post)
    (hn : As.length = na) (hW : (rest.map fun v => v.category).sum ≤ 8) (hR : fr + 1 ≤ (s_R S).frames ∧ 8 + (n2 + 11) + lo ≤ (s_R S).locals) (hf : k + mc ≤ (s_R S).cells ∧ n + ms ≤ (s_R S).slots)
    (K : ∀ (r : Option Value) (h' : b_H) (sz' : Nat), post r h' sz' → sz ≤ sz' → V S (k + mc) (n + ms) h' sz' (pc + 3) lv (r.toList ++ rest)) : V S k n h sz pc lv (As.reverse ++ .ref b :: rest) := by
  intro p e s m args below meth c H ls locs C B
  obtain ⟨hx, hcb, hml, hrt, hlk, hnm, hown, hts, hE, hX, hs0, hZ⟩ := id C
  have hT : GoodIn b_T (wsV own idx y.cls y (Cond.code y c2 n2 r2 :: b_T)) := by
    intro w hw
    rcases List.mem_append.mp hw with hw | hw
    · simp only [List.mem_cons, List.not_mem_nil, or_false] at hw
      rcases hw with rfl | rfl | rfl | rfl
      · exact ⟨L.1, b_good L.1⟩
      · exact ⟨L.2.1, b_good L.2.1⟩
      · exact ⟨L.2.2, b_good L.2.2⟩
      · exact ⟨L2.2.1, b_good L2.2.1⟩
    · exact b_goodIn L2.1 w hw
  have hrec := va_recv hE.1 (b_P1 B.2.1 hb) hq (q0 := 0) rfl
  rw [hqn] at hrec
  have hpre := b_pre (av := .ref b :: As) hE hZ B.2.2.2.1 B.1 B.2.1 (b_sub C B)
  exact v_run C B (va_runV (As := As) (rest := rest) ⟨hx, hcb.trans hc, hml, ho ▸ hown, hts⟩ M (cwV na hts hT rfl rfl rfl ⟨rfl, L2.2.2⟩ hR) ⟨hpre.1, hrec, hpre.2⟩ rfl hn (B.2.2.2.2.1.1.trans B.2.2.2.2.2) rfl (by show 2 * 0 + _ ≤ 8; omega) hd hf) K
theorem v_callS (hc : s_cc S = cc) (ho : s_own S = own) (hd : decode cc pc = .ok (.invokestatic idx, 3)) (L : b_KS own idx y) (L2 : b_KB y c2 n2 r2 na) (M : Con (s_l S) (s_G S) y c2 n2 r2 fr lo mc ms As h sz post)
    (hn : As.length = na) (hW : (rest.map fun v => v.category).sum ≤ 8) (hR : fr + 1 ≤ (s_R S).frames ∧ 8 + (n2 + 11) + lo ≤ (s_R S).locals) (hf : k + mc ≤ (s_R S).cells ∧ n + ms ≤ (s_R S).slots)
    (K : ∀ (r : Option Value) (h' : b_H) (sz' : Nat), post r h' sz' → sz ≤ sz' → V S (k + mc) (n + ms) h' sz' (pc + 3) lv (r.toList ++ rest)) : V S k n h sz pc lv (As.reverse ++ rest) := by
  intro p e s m args below meth c H ls locs C B
  obtain ⟨hx, hcb, hml, hrt, hlk, hnm, hown, hts, hE, hX, hs0, hZ⟩ := id C
  have hT : GoodIn b_T (va_wsS own idx y (Cond.code y c2 n2 r2 :: b_T)) := by
    intro w hw
    rcases List.mem_append.mp hw with hw | hw
    · simp only [List.mem_cons, List.not_mem_nil, or_false] at hw
      rcases hw with rfl | rfl | rfl
      · exact ⟨L.1, b_good L.1⟩
      · exact ⟨L.2, b_good L.2⟩
      · exact ⟨L2.2.1, b_good L2.2.1⟩
    · exact b_goodIn L2.1 w hw
  exact v_run C B (va_runS (As := As) (rest := rest) ⟨hx, hcb.trans hc, hml, ho ▸ hown, hts⟩ M (va_cwS na hts hT rfl rfl rfl L2.2.2 hR) (b_pre hE hZ B.2.2.2.1 B.1 B.2.1 (b_sub C B)) rfl hn (B.2.2.2.2.1.1.trans B.2.2.2.2.2) rfl (by show 2 * 0 + _ ≤ 8; omega) hd hf) K
theorem v_callSN (hc : s_cc S = cc) (ho : s_own S = own) (hd : decode cc pc = .ok (.invokestatic idx, 3)) (L : b_KSN own idx y) (L2 : b_KB y c2 n2 r2 na) (M : Con (s_l S) (s_G S) y c2 n2 r2 fr lo mc ms As h sz post)
    (hn : As.length = na) (hW : (rest.map fun v => v.category).sum ≤ 8) (hR : fr + 1 ≤ (s_R S).frames ∧ 8 + (n2 + 11) + lo ≤ (s_R S).locals) (hf : k + mc ≤ (s_R S).cells ∧ n + ms ≤ (s_R S).slots)
    (K : ∀ (r : Option Value) (h' : b_H) (sz' : Nat), post r h' sz' → sz ≤ sz' → V S (k + mc) (n + ms) h' sz' (pc + 3) lv (r.toList ++ rest)) : V S k n h sz pc lv (As.reverse ++ rest) := by
  intro p e s m args below meth c H ls locs C B
  obtain ⟨hx, hcb, hml, hrt, hlk, hnm, hown, hts, hE, hX, hs0, hZ⟩ := id C
  obtain ⟨⟨host, hN⟩, hst⟩ := L
  exact v_run C B (va_runSN (As := As) (rest := rest) ⟨hx, hcb.trans hc, hml, ho ▸ hown, hts⟩ M ⟨va_cnB (host := host) na hts (b_goodIn L2.1) rfl rfl rfl (hE.2.1 _ hN) (hts _ L2.2.1) L2.2.2 hR, hts _ hst, trivial⟩ (b_pre hE hZ B.2.2.2.1 B.1 B.2.1 (b_sub C B)) rfl hn (B.2.2.2.2.1.1.trans B.2.2.2.2.2) rfl (by show 2 * 0 + _ ≤ 8; omega) hd hf) K
theorem v_callI (hc : s_cc S = cc) (ho : s_own S = own) (hd : decode cc pc = .ok (.invokespecial idx, 3)) (L : b_KI own idx y) {b : Nat} (L2 : b_KB y c2 n2 none na) (M : Con (s_l S) (s_G S) y c2 n2 none fr lo mc ms (.ref b :: As) h sz post)
    (hn : As.length = na) (hW : (rest.map fun v => v.category).sum ≤ 8) (hR : fr + 1 ≤ (s_R S).frames ∧ 8 + (n2 + 11) + lo ≤ (s_R S).locals) (hf : k + mc ≤ (s_R S).cells ∧ n + ms ≤ (s_R S).slots)
    (K : ∀ (r : Option Value) (h' : b_H) (sz' : Nat), post r h' sz' → sz ≤ sz' → V S (k + mc) (n + ms) h' sz' (pc + 3) lv (r.toList ++ rest)) : V S k n h sz pc lv (As.reverse ++ .ref b :: rest) := by
  intro p e s m args below meth c H ls locs C B
  obtain ⟨hx, hcb, hml, hrt, hlk, hnm, hown, hts, hE, hX, hs0, hZ⟩ := id C
  exact v_run C B (va_runI (As := As) (rest := rest) ⟨hx, hcb.trans hc, hml, ho ▸ hown, hts⟩ M (cwI na hts (b_goodIn L2.1) rfl rfl rfl (hts _ L2.2.1) (hts _ L.1) (hts _ L.2.1) L.2.2 L2.2.2 hR) (b_pre hE hZ B.2.2.2.1 B.1 B.2.1 (b_sub C B)) rfl hn (B.2.2.2.2.1.1.trans B.2.2.2.2.2) rfl (by show 2 * 0 + _ ≤ 8; omega) hd hf) K
theorem v_callIN (hc : s_cc S = cc) (ho : s_own S = own) (hd : decode cc pc = .ok (.invokespecial idx, 3)) (L : b_KIN own idx y) {b : Nat} (L2 : b_KB y c2 n2 none na) (M : Con (s_l S) (s_G S) y c2 n2 none fr lo mc ms (.ref b :: As) h sz post)
    (hn : As.length = na) (hW : (rest.map fun v => v.category).sum ≤ 8) (hR : fr + 1 ≤ (s_R S).frames ∧ 8 + (n2 + 11) + lo ≤ (s_R S).locals) (hf : k + mc ≤ (s_R S).cells ∧ n + ms ≤ (s_R S).slots)
    (K : ∀ (r : Option Value) (h' : b_H) (sz' : Nat), post r h' sz' → sz ≤ sz' → V S (k + mc) (n + ms) h' sz' (pc + 3) lv (r.toList ++ rest)) : V S k n h sz pc lv (As.reverse ++ .ref b :: rest) := by
  intro p e s m args below meth c H ls locs C B
  obtain ⟨hx, hcb, hml, hrt, hlk, hnm, hown, hts, hE, hX, hs0, hZ⟩ := id C
  obtain ⟨⟨host, hN⟩, hst, hin⟩ := L
  exact v_run C B (va_runIN (As := As) (rest := rest) ⟨hx, hcb.trans hc, hml, ho ▸ hown, hts⟩ M ⟨va_cnB (host := host) na hts (b_goodIn L2.1) rfl rfl rfl (hE.2.1 _ hN) (hts _ L2.2.1) L2.2.2 hR, hin, hts _ hst⟩ (b_pre hE hZ B.2.2.2.1 B.1 B.2.1 (b_sub C B)) rfl hn (B.2.2.2.2.1.1.trans B.2.2.2.2.2) rfl (by show 2 * 0 + _ ≤ 8; omega) hd hf) K
theorem v_obj (hc : s_cc S = cc) (ho : s_own S = own) (hd : decode cc pc = .ok (.invokespecial idx, 3)) (hl : Cond.methodLink own idx objectInit ∈ b_T ∧ Cond.instanceMethod objectInit ∈ b_T ∧ Cond.code objectInit ⟨#[0xb1]⟩ 1 none ∈ b_T) {a : Nat} (hf : 1 ≤ (s_R S).frames) (hlo : (rest.map fun v => v.category).sum + 12 ≤ (s_R S).locals) (K : V S k n h sz (pc + 3) lv rest) : V S k n h sz pc lv (.ref a :: rest) := by
  intro p e s m args below meth c H ls locs C B
  obtain ⟨hx, hcb, hml, hrt, hlk, hnm, hown, hts, hE, hX, hs0, hZ⟩ := id C
  exact W.objInit hx (hcb.trans hc) (ho ▸ hown) (hts _ hl.1) (hts _ hl.2.1) (hts _ hl.2.2) rfl (by rw [hml]; exact B.2.2.2.2.1.1.trans B.2.2.2.2.2) rfl hd hf (by show 2 * 0 + _ + 12 ≤ _; omega) (K p e s m args below meth c H ls locs C B)
def b_MM (y : MethodName) (b : ByteArray) (nn : Nat) (own : String) (idx : Nat) : Prop := Cond.methodLink own idx y ∈ b_T ∧ Cond.static y ∈ b_T ∧ Cond.initialized "java/lang/Math" ∈ b_T ∧ Cond.code y b nn (some .int) ∈ b_T
theorem z_max (hc : s_cc S = cc) (ho : s_own S = own) (hd : decode cc pc = .ok (.invokestatic idx, 3)) (L : b_MM Lib.Math.max.name Lib.Math.max.code 2 own idx) {x y : Int} (hx : zb x) (hy : zb y) (hf : 1 ≤ (s_R S).frames) (hlo : (rest.map fun v => v.category).sum + 13 ≤ (s_R S).locals) (hk : k ≤ (s_R S).cells) (hn : n ≤ (s_R S).slots) (K : V S k n h sz (pc + 3) lv (.int (zI (max x y)) :: rest)) : V S k n h sz pc lv (.int (zI y) :: .int (zI x) :: rest) := by
  intro p e s m args below meth c H ls locs C B
  obtain ⟨hx1, hcb, hml, hrt, hlk, hnm, hown, hts, hE, hX, hs0, hZ⟩ := id C
  refine va_mmax hx1 (hcb.trans hc) (by rw [hml]; exact (B.2.2.2.2.1.1.trans B.2.2.2.2.2).symm) (ho ▸ hown) (hts _ L.1) (hts _ L.2.1) (hts _ L.2.2.1) (hts _ L.2.2.2) hf hlo hk hn hd ?_
  rw [show (if zI x < zI y then zI y else zI x) = zI (max x y) by simp only [zI_lt hx hy]; split <;> congr 1 <;> omega]
  exact K p e s m args below meth c H ls locs C B
theorem z_min (hc : s_cc S = cc) (ho : s_own S = own) (hd : decode cc pc = .ok (.invokestatic idx, 3)) (L : b_MM Lib.Math.min.name Lib.Math.min.code 2 own idx) {x y : Int} (hx : zb x) (hy : zb y) (hf : 1 ≤ (s_R S).frames) (hlo : (rest.map fun v => v.category).sum + 13 ≤ (s_R S).locals) (hk : k ≤ (s_R S).cells) (hn : n ≤ (s_R S).slots) (K : V S k n h sz (pc + 3) lv (.int (zI (min x y)) :: rest)) : V S k n h sz pc lv (.int (zI y) :: .int (zI x) :: rest) := by
  intro p e s m args below meth c H ls locs C B
  obtain ⟨hx1, hcb, hml, hrt, hlk, hnm, hown, hts, hE, hX, hs0, hZ⟩ := id C
  refine va_mmin hx1 (hcb.trans hc) (by rw [hml]; exact (B.2.2.2.2.1.1.trans B.2.2.2.2.2).symm) (ho ▸ hown) (hts _ L.1) (hts _ L.2.1) (hts _ L.2.2.1) (hts _ L.2.2.2) hf hlo hk hn hd ?_
  rw [show (if zI y < zI x then zI y else zI x) = zI (min x y) by simp only [zI_lt hy hx]; split <;> congr 1 <;> omega]
  exact K p e s m args below meth c H ls locs C B
theorem z_abs (hc : s_cc S = cc) (ho : s_own S = own) (hd : decode cc pc = .ok (.invokestatic idx, 3)) (L : b_MM Lib.Math.abs.name Lib.Math.abs.code 1 own idx) {x : Int} (hx : zb x) (hf : 1 ≤ (s_R S).frames) (hlo : (rest.map fun v => v.category).sum + 13 ≤ (s_R S).locals) (hk : k ≤ (s_R S).cells) (hn : n ≤ (s_R S).slots) (K : V S k n h sz (pc + 3) lv (.int (zI (if 0 ≤ x then x else -x)) :: rest)) : V S k n h sz pc lv (.int (zI x) :: rest) := by
  intro p e s m args below meth c H ls locs C B
  obtain ⟨hx1, hcb, hml, hrt, hlk, hnm, hown, hts, hE, hX, hs0, hZ⟩ := id C
  refine va_mabs hx1 (hcb.trans hc) (by rw [hml]; exact (B.2.2.2.2.1.1.trans B.2.2.2.2.2).symm) (ho ▸ hown) (hts _ L.1) (hts _ L.2.1) (hts _ L.2.2.1) (hts _ L.2.2.2) hf hlo hk hn hd ?_
  have hz : (0 : Int32) = zI 0 := rfl
  rw [show (if 0 ≤ zI x then zI x else 0 - zI x) = zI (if 0 ≤ x then x else -x) by
    rw [hz, zI_sub]; simp only [zI_le (a := 0) ⟨by omega, by omega⟩ hx]; split <;> congr 1; omega]
  exact K p e s m args below meth c H ls locs C B
variable {l : Launch} {G : b_G} {nL : Nat} {ret : Option FieldType} {nm : String} {h0 : b_H} {sz0 : Nat}
theorem b_end {p : Program} {s : State} {m : MethodId} {args : Array Value} {meth : Method} {c : Code} {H : Heap} {ls : Array Slot} {locs : List Loc} (M : b_M S l G own cc nL ret nm fr lo mc ms h0 sz0 post) (C : b_V0 S p s m args meth c) (B : b_V1 S h sz lv s H ls locs) {r : Option Value} (P : post r h sz) (t : State) (ht : t.heap = H) : b_QX G h0 sz0 post args s (.returned r) t := by
  obtain ⟨m1, m2, m3, m4, m5, m6, m7, m8, m9, m10, m11⟩ := M
  obtain ⟨b1, b2, b3, b4, b5, b6⟩ := B
  subst m2; subst m9; subst m10
  refine ⟨r, h, rfl, by rw [ht, b1]; exact P, by rw [ht]; exact b2, b3, b4.F ht⟩
theorem z_iret (M : b_M S l G own cc nL (some .int) nm fr lo mc ms h0 sz0 post) {x : Int32} (hd : decode cc pc = .ok (.ireturn, 1)) (hk : k ≤ mc) (hn : n ≤ ms) (P : post (some (.int x)) h sz) : V S k n h sz pc lv [.int x] := by
  intro p e s m args below meth c H ls locs C B
  obtain ⟨m1, m2, m3, m4, m5, m6, m7, m8, m9, m10, m11⟩ := id M
  obtain ⟨hx1, hcb, hml, hrt, hlk, hnm, hown, hts, hE, hX, hs0, hZ⟩ := id C
  rw [m11]
  exact W.widen hk hn (W.iret hx1 (hcb.trans m4) (hrt.trans m6) (fun t ht _ => b_end M C B P t ht) (by rw [← m9, ← m10]; exact B.2.2.2.1.2.2) hd)
theorem z_zret (M : b_M S l G own cc nL (some .boolean) nm fr lo mc ms h0 sz0 post) {x : Int} (hx : x = 0 ∨ x = 1) (hd : decode cc pc = .ok (.ireturn, 1)) (hk : k ≤ mc) (hn : n ≤ ms) (P : post (some (.int (zI x))) h sz) : V S k n h sz pc lv [.int (zI x)] := by
  intro p e s m args below meth c H ls locs C B
  obtain ⟨m1, m2, m3, m4, m5, m6, m7, m8, m9, m10, m11⟩ := id M
  obtain ⟨hx1, hcb, hml, hrt, hlk, hnm, hown, hts, hE, hX, hs0, hZ⟩ := id C
  rw [m11]
  exact W.widen hk hn (W.zret hx1 (hcb.trans m4) (hrt.trans m6) (by rcases hx with rfl | rfl <;> decide) (fun t ht _ => b_end M C B P t ht) (by rw [← m9, ← m10]; exact B.2.2.2.1.2.2) hd)
theorem v_aret (M : b_M S l G own cc nL ret nm fr lo mc ms h0 sz0 post) {rt : FieldType} (hr : ret = some rt) (hrt : (∃ n, rt = .object n) ∨ ∃ t, rt = .array t) {v : Value} (hv : v = .null ∨ ∃ a, v = .ref a) (hd : decode cc pc = .ok (.areturn, 1)) (hk : k ≤ mc) (hn : n ≤ ms) (P : post (some v) h sz) : V S k n h sz pc lv [v] := by
  intro p e s m args below meth c H ls locs C B
  obtain ⟨m1, m2, m3, m4, m5, m6, m7, m8, m9, m10, m11⟩ := id M
  obtain ⟨hx1, hcb, hml, hrt2, hlk, hnm, hown, hts, hE, hX, hs0, hZ⟩ := id C
  rw [m11]
  exact W.widen hk hn (W.aret hx1 (hcb.trans m4) (hrt2.trans (m6.trans hr)) hrt hv (fun t ht _ => b_end M C B P t ht) (by rw [← m9, ← m10]; exact B.2.2.2.1.2.2) hd)
theorem v_vret (M : b_M S l G own cc nL none nm fr lo mc ms h0 sz0 post) (hd : decode cc pc = .ok (.return_, 1)) (hk : k ≤ mc) (hn : n ≤ ms) (P : post none h sz) : V S k n h sz pc lv [] := by
  intro p e s m args below meth c H ls locs C B
  obtain ⟨m1, m2, m3, m4, m5, m6, m7, m8, m9, m10, m11⟩ := id M
  obtain ⟨hx1, hcb, hml, hrt, hlk, hnm, hown, hts, hE, hX, hs0, hZ⟩ := id C
  rw [m11]
  exact W.widen hk hn (W.vret hx1 (hcb.trans m4) (hrt.trans m6) (fun t ht _ => b_end M C B P t ht) (by rw [← m9, ← m10]; exact B.2.2.2.1.2.2) hd)
end BC
