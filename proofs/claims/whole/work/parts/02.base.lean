/-! THE V LAYER: a heap as a function from addresses to pictures of cells; one judgement V with everything else of the machine hidden -/
abbrev b_C : List vw_C := [(RX0, TX0, 5), (RX1, TX1, 4), (RX2, TX2, 13), (RX3, TX3, 9), (RX4, TX4, 14), (RX5, TX5, 13), (RX6, TX6, 6), (RX7, TX7, 58), (RJx4a65c, TJx4a65c, 3)]
def b_T : List Cond := lw_tbl.filter goodWord
theorem b_in {w : Cond} (i : Nat) (h : lw_tbl[i]? = some w) (hg : goodWord w = true) : w ∈ b_T := List.mem_filter.mpr ⟨List.mem_of_getElem? h, hg⟩
theorem b_good {w : Cond} (h : w ∈ b_T) : (w.onTables && w.keeps) = true ∨ ∃ ty, w = .arrayClass ty := good_of_word (List.mem_filter.mp h).2
def b_N : List Cond := tables_1.filter (fun w => match w with | .methodLinkNest .. => true | _ => false)
def b_Ca : List Cond := tables_1.filter (fun w => match w with | .castable .. => true | _ => false)
def zI (a : Int) : Int32 := Int32.ofInt a
/-- a cell's picture: an int array, a boolean array, an array of Objects, an object (its class's number, its fields) -/
abbrev b_X : Type := (Nat × (Nat → Int)) ⊕ (Nat × (Nat → Int)) ⊕ (Nat × (Nat → Option Nat)) ⊕ (Nat × List Value)
abbrev b_H : Type := Nat → Option b_X
abbrev b_iA (n : Nat) (f : Nat → Int) : b_X := .inl (n, f)
abbrev b_zA (n : Nat) (f : Nat → Int) : b_X := .inr (.inl (n, f))
abbrev b_qA (n : Nat) (f : Nat → Option Nat) : b_X := .inr (.inr (.inl (n, f)))
abbrev b_ob (ci : Nat) (fs : List Value) : b_X := .inr (.inr (.inr (ci, fs)))
/-- the launch's numbers: classes and slots, array classes (ints, booleans, Objects), the empty list's array, the array class's mirror -/
abbrev b_G : Type := va_G × (Nat → ClassId) × Nat × Nat
def b_e (G : b_G) : b_X → va_E
  | .inl q => .inl (G.2.1 0, q.1, .inl (fun j => zI (q.2 j)))
  | .inr (.inl q) => .inl (G.2.1 1, q.1, .inl (fun j => zI (q.2 j)))
  | .inr (.inr (.inl q)) => .inl (G.2.1 2, q.1, .inr (.inr (.inr (.inr q.2))))
  | .inr (.inr (.inr q)) => .inr q
def b_R (G : b_G) (h : b_H) (H : Heap) : Prop := ∀ (a : Nat) (x : b_X), h a = some x → va_at G.1 b_C (a, b_e G x) H
def b_ty (G : b_G) : List (ClassId × FieldType) := [(G.2.1 0, .int), (G.2.1 1, .boolean), (G.2.1 2, .object "java/lang/Object")]
def b_E (G : b_G) (U : State) : Prop := va_K G.1 b_C (b_ty G) U ∧ (∀ w ∈ b_N, va_Nw w U) ∧ (∀ w ∈ b_Ca, va_Nw w U) ∧ va_AO "java/lang/Object" U ∧ va_Mi "[Ljava/lang/Object;" G.2.2.2 U ∧ va_Dc U
def b_Z (G : b_G) (A : Nat → Prop) (U : State) (H : Heap) : Prop := va_Z "java/util/ArrayList" "DEFAULTCAPACITY_EMPTY_ELEMENTDATA" "[Ljava/lang/Object;" (.ref G.2.2.1) A U H ∧ va_T (.object "java/lang/Object") G.2.2.1 0 (fun _ => .null) A U H
def b_A (h : b_H) (sz : Nat) : Nat → Prop := fun q => h q ≠ none ∨ sz ≤ q
def b_set (h : b_H) (a : Nat) (x : b_X) : b_H := fun b => if b = a then some x else h b
theorem b_set_eq (h : b_H) (a : Nat) (x : b_X) : b_set h a x a = some x := if_pos rfl
theorem b_set_ne (h : b_H) {a b : Nat} (x : b_X) (e : b ≠ a) : b_set h a x b = h b := if_neg e
theorem b_E.moved {G : b_G} {s U : State} (hW : s.WarmedH U.vm) (h : b_E G s) : b_E G U := by
  obtain ⟨h1, h2, h3, h4, h5, h6⟩ := h
  refine ⟨va_K.moved hW.alike h1, fun w hw => ?_, fun w hw => ?_, va_AO.moved hW.alike h4, va_Mi.moved hW.alike h5, va_Dc.moved hW.alike h6⟩
  · have hk := (List.mem_filter.mp hw).2
    have h9 := h2 w hw
    revert h9
    cases w <;> first | (intro h9; exact va_Nw.warmM hW h9) | (simp at hk; done)
  · have hk := (List.mem_filter.mp hw).2
    have h9 := h3 w hw
    revert h9
    cases w <;> first | (intro h9; exact va_Nw.warmC hW h9) | (simp at hk; done)
theorem b_E.same {G : b_G} {s U : State} (hv : s.vm = U.vm) (h : b_E G s) : b_E G U := by
  obtain ⟨h1, h2, h3, h4, h5, h6⟩ := h
  have hal : s.vm.Alike U.vm := by rw [← hv]; exact Vm.Alike.refl s.vm
  refine ⟨va_K.moved hal h1, fun w hw => ?_, fun w hw => ?_, va_AO.moved hal h4, va_Mi.moved hal h5, va_Dc.moved hal h6⟩
  · have hk := (List.mem_filter.mp hw).2
    refine va_Nw.same ?_ hv (h2 w hw)
    cases w <;> first | rfl | (simp at hk; done)
  · have hk := (List.mem_filter.mp hw).2
    refine va_Nw.same ?_ hv (h3 w hw)
    cases w <;> first | rfl | (simp at hk; done)
theorem b_Z.moved {G : b_G} {A : Nat → Prop} {s U : State} {H : Heap} (hv : s.vm.Alike U.vm) (h : b_Z G A s H) : b_Z G A U H := ⟨va_Z.moved hv h.1, va_T.moved hv h.2⟩
theorem b_R.lt {G : b_G} {h : b_H} {H : Heap} (hR : b_R G h H) {a : Nat} (ha : h a ≠ none) : a < H.size := by
  cases hx : h a with
  | none => exact absurd hx ha
  | some x => exact (hR a x hx).lt
theorem b_R.set {G : b_G} {h : b_H} {H H1 : Heap} {a : Nat} {x : b_X} (hR : b_R G h H) (he : va_at G.1 b_C (a, b_e G x) H1) (oq : ∀ q : Nat, q ≠ a → H1[q]? = H[q]?) : b_R G (b_set h a x) H1 := by
  intro b y hb
  by_cases e : b = a
  · subst e
    rw [b_set_eq] at hb
    cases hb
    exact he
  · rw [b_set_ne _ _ e] at hb
    exact (hR b y hb).kept (oq b e)
/-- locals: what is known of each; a value of one slot each -/
def b_L (ls : Array Slot) (lv : List (Option Value)) : Prop := ls.size = lv.length ∧ lv_wf ls ∧ ∀ (i : Nat) (v : Value), lv[i]? = some (some v) → ls[i]? = some (.val v) ∧ v.category = 1
def b_al : Nat → List (Option Value) → List (Nat × Value)
  | _, [] => []
  | k, none :: t => b_al (k + 1) t
  | k, some v :: t => (k, v) :: b_al (k + 1) t
theorem b_al_mem : ∀ (lv : List (Option Value)) (k : Nat) (q : Nat × Value), q ∈ b_al k lv ↔ ∃ j, q.1 = k + j ∧ lv[j]? = some (some q.2)
  | [], k, q => by simp [b_al]
  | none :: t, k, q => by
    rw [b_al, b_al_mem t (k + 1) q]
    constructor
    · rintro ⟨j, h1, h2⟩; exact ⟨j + 1, by omega, by simpa using h2⟩
    · rintro ⟨j, h1, h2⟩
      cases j with
      | zero => simp at h2
      | succ j => exact ⟨j, by omega, by simpa using h2⟩
  | some v :: t, k, q => by
    rw [b_al, List.mem_cons, b_al_mem t (k + 1) q]
    constructor
    · rintro (rfl | ⟨j, h1, h2⟩)
      · exact ⟨0, rfl, rfl⟩
      · exact ⟨j + 1, by omega, by simpa using h2⟩
    · rintro ⟨j, h1, h2⟩
      cases j with
      | zero => left; simp at h2; exact Prod.ext h1 h2.symm
      | succ j => right; exact ⟨j, by omega, by simpa using h2⟩
theorem b_L.has {ls : Array Slot} {lv : List (Option Value)} (h : b_L ls lv) : lv_has ls lv.length (b_al 0 lv) := by
  refine ⟨h.1, h.2.1, fun q hq => ?_⟩
  obtain ⟨j, h1, h2⟩ := (b_al_mem lv 0 q).mp hq
  rw [show q.1 = j by omega]
  exact (h.2.2 j q.2 h2).1
theorem b_L.set {ls ls' : Array Slot} {lv : List (Option Value)} {i : Nat} {v : Value} (h : b_L ls lv) (hc : v.category = 1) (hl : lv_has ls' lv.length ((i, v) :: (b_al 0 lv).filter (fun q => !(q.1 == i) && !(q.1 + 1 == i && q.2.category == 2)))) : b_L ls' (lv.set i (some v)) := by
  refine ⟨by rw [List.length_set]; exact hl.1, hl.2.1, fun j w hj => ?_⟩
  by_cases e : i = j
  · subst e
    rw [List.getElem?_set] at hj
    simp only [if_true] at hj
    split at hj
    · cases hj; exact ⟨hl.2.2 (i, v) List.mem_cons_self, hc⟩
    · cases hj
  · rw [List.getElem?_set_ne e] at hj
    have h2 := h.2.2 j w hj
    refine ⟨hl.2.2 (j, w) (List.mem_cons_of_mem _ (List.mem_filter.mpr ⟨(b_al_mem lv 0 (j, w)).mpr ⟨j, by omega, hj⟩, ?_⟩)), h2.2⟩
    simp [Ne.symm e, h2.2]
/-- a body: launch, room, class, bytes, locals, return type, name, numbers, what is known of the start, the heap at the start and its size, the end -/
abbrev b_S : Type := Launch × Room × String × ByteArray × Nat × Option FieldType × String × b_G × (State → Prop) × b_H × Nat × (Array Value → List Frame → State → State → Prop)
def s_l (S : b_S) : Launch := S.1
def s_R (S : b_S) : Room := S.2.1
def s_own (S : b_S) : String := S.2.2.1
def s_cc (S : b_S) : ByteArray := S.2.2.2.1
def s_nL (S : b_S) : Nat := S.2.2.2.2.1
def s_ret (S : b_S) : Option FieldType := S.2.2.2.2.2.1
def s_nm (S : b_S) : String := S.2.2.2.2.2.2.1
def s_G (S : b_S) : b_G := S.2.2.2.2.2.2.2.1
def s_X (S : b_S) : State → Prop := S.2.2.2.2.2.2.2.2.1
def s_h (S : b_S) : b_H := S.2.2.2.2.2.2.2.2.2.1
def s_sz (S : b_S) : Nat := S.2.2.2.2.2.2.2.2.2.2.1
def s_Q (S : b_S) : Array Value → List Frame → State → State → Prop := S.2.2.2.2.2.2.2.2.2.2.2
def b_V0 (S : b_S) (p : Program) (s : State) (m : MethodId) (args : Array Value) (meth : Method) (c : Code) : Prop :=
  p.tables.exec = Jvm.exec ∧ c.code = s_cc S ∧ c.maxLocals = s_nL S ∧ meth.sig.returnType = s_ret S ∧ meth.locks = false ∧ meth.name = s_nm S ∧ s.vm.findClass (s_own S) = some m.cls ∧ (∀ w ∈ b_T, w.before args s = true) ∧ b_E (s_G S) s ∧ s_X S s ∧ s.heap.size = s_sz S ∧ b_Z (s_G S) (b_A (s_h S) (s_sz S)) s s.heap
def b_V1 (S : b_S) (h : b_H) (sz : Nat) (lv : List (Option Value)) (s : State) (H : Heap) (ls : Array Slot) (locs : List Loc) : Prop :=
  H.size = sz ∧ b_R (s_G S) h H ∧ (∀ a, h a ≠ none → b_A (s_h S) (s_sz S) a) ∧ va_S (b_A (s_h S) (s_sz S)) s.heap H locs ∧ b_L ls lv ∧ lv.length = s_nL S
def V (S : b_S) (k n : Nat) (h : b_H) (sz pc : Nat) (lv : List (Option Value)) (st : List Value) : Prop :=
  ∀ (p : Program) (e : Env) (s : State) (m : MethodId) (args : Array Value) (below : List Frame) (meth : Method) (c : Code) (H : Heap) (ls : Array Slot) (locs : List Loc), b_V0 S p s m args meth c → b_V1 S h sz lv s H ls locs →
    W p (s_l S) e (s_R S) s m args below meth c H locs k n (s_Q S args below s) (F0 m pc ls st)
