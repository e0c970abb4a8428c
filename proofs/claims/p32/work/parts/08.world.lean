/-! THE WORLD BY ROLES: a role (k, i) lies at ad k i; kind k has cn k roles; E says what each holds -/
abbrev vwCl : List vw_C := [(RX0, TX0, 8), (RX1, TX1, 2), (RX2, TX2, 6), (RX3, TX3, 4), (RX4, TX4, 4), (RX5, TX5, 16), (RX9, TX9, 1)]
abbrev Rl : Type := Nat → Nat → va_E
abbrev Mem : Type := Nat → Nat → Nat → Int32
def WW (D : va_G) (ad : Nat → Nat → Nat) (cn : Nat → Nat) (A : Nat → Prop) (E : Rl) (H : Heap) : Prop :=
  (∀ k i k' i', i < cn k → i' < cn k' → ad k i = ad k' i' → k = k' ∧ i = i') ∧ (∀ k i, i < cn k → A (ad k i)) ∧ ∀ k i, i < cn k → va_at D vwCl (ad k i, E k i) H
def uE (E : Rl) (k i : Nat) (e : va_E) : Rl := fun k' i' => if k' = k ∧ i' = i then e else E k' i'
theorem uE_s {E : Rl} {k i : Nat} {e : va_E} : uE E k i e k i = e := by simp [uE]
theorem uE_n {E : Rl} {k i k' i' : Nat} {e : va_E} (h : ¬ (k' = k ∧ i' = i)) : uE E k i e k' i' = E k' i' := if_neg h
theorem WW.put {D : va_G} {ad : Nat → Nat → Nat} {cn : Nat → Nat} {A : Nat → Prop} {E : Rl} {H H1 : Heap} {k i : Nat} {e : va_E} (h : WW D ad cn A E H) (hi : i < cn k) (he : va_at D vwCl (ad k i, e) H1) (oq : ∀ q : Nat, q ≠ ad k i → H1[q]? = H[q]?) : WW D ad cn A (uE E k i e) H1 := by
  refine ⟨h.1, h.2.1, fun k' i' hi' => ?_⟩
  by_cases hk : k' = k ∧ i' = i
  · obtain ⟨rfl, rfl⟩ := hk
    rw [uE_s]; exact he
  · rw [uE_n hk]
    exact (h.2.2 k' i' hi').kept (oq _ fun z => hk (h.1 _ _ _ _ hi' hi z))
theorem WW.wide {D : va_G} {ad : Nat → Nat → Nat} {cn : Nat → Nat} {A B : Nat → Prop} {E : Rl} {H : Heap} (h : WW D ad cn A E H) (hB : ∀ k i, i < cn k → B (ad k i)) : WW D ad cn B E H := ⟨h.1, hB, h.2.2⟩
/-- which cells a method may change: the roles, and what it makes -/
def AA (ad : Nat → Nat → Nat) (cn : Nat → Nat) (sz : Nat) : Nat → Prop := fun q => (∃ k i, i < cn k ∧ q = ad k i) ∨ sz ≤ q
def ZZ (A : Nat → Prop) (U : State) (H : Heap) : Prop := vx_Zq Bundle.tN "UNASSIGNED_STACK" Bundle.steD A U H ∧ vx_Zq Bundle.tN "SUPPRESSED_SENTINEL" Bundle.listD A U H
theorem ZZ.moved {A : Nat → Prop} {u U : State} {H : Heap} (hvm : u.vm.Alike U.vm) (h : ZZ A u H) : ZZ A U H := ⟨h.1.moved hvm, h.2.moved hvm⟩
theorem ZZ.kept {A : Nat → Prop} {U : State} {H H1 : Heap} (h : ZZ A U H) (hq : ∀ a : Nat, a < H.size → ¬ A a → H1[a]? = H[a]?) : ZZ A U H1 := ⟨h.1.kept hq, h.2.kept hq⟩
theorem ZZ.narrow {A B : Nat → Prop} {U : State} {H : Heap} (h : ZZ A U H) (hAB : ∀ q, B q → A q) : ZZ B U H := ⟨h.1.narrow hAB, h.2.narrow hAB⟩
/-! what the tables say beside the good words: classes and array classes, links to nest mates, texts, casts -/
def TYS (ca : Nat → ClassId) : List (ClassId × FieldType) := [(ca 0, .int), (ca 1, .object RX4), (ca 2, .object RX2), (ca 3, .object RX0)]
def NWq : List (String × Nat × MethodName × String) := [(RX5, 56, yX3_init, RX5), (RX5, 67, yX4_init, RX5), (RX0, 43, yX5_contains, RX5), (RX0, 47, yX5_with, RX5), (RX2, 43, yX5_cellOf, RX5), (RX3, 31, yX5_contains, RX5), (RX3, 38, yX5_with, RX5)]
def xIO : String := "java/lang/IndexOutOfBoundsException"
def xIS : String := "java/lang/IllegalStateException"
def xIA : String := "java/lang/IllegalArgumentException"
def XCq : List String := [xIO, xIS, xIA]
def XNq : List (String × String) := []
def AOq : List String := [RX4, RX2, RX0]
def XDq : List MethodName := [Bundle.initS "java/lang/RuntimeException", Bundle.initS "java/lang/Exception", Bundle.initS Bundle.tN]
def KK (D : va_G) (ca : Nat → ClassId) (SR : List (String × Nat × String)) (U : State) : Prop :=
  va_K D vwCl (TYS ca) U ∧ (∀ q ∈ NWq, va_Nw (.methodLinkNest q.1 q.2.1 q.2.2.1 q.2.2.2) U) ∧ (∀ q ∈ SR, ∃ a, vk_R q.1 q.2.1 q.2.2 a U) ∧ (∀ q ∈ XCq, va_Nw (.castable q q) U) ∧ (∀ q ∈ XNq, va_Nc q.1 q.2 U) ∧ (∀ q ∈ AOq, va_AO q U) ∧ ∀ q ∈ XDq, va_Nw (.declares q) U
theorem KK.warm {D : va_G} {ca : Nat → ClassId} {SR : List (String × Nat × String)} {s U : State} (hW : s.WarmedH U.vm) (h : KK D ca SR s) : KK D ca SR U :=
  ⟨va_K.moved hW.alike h.1, fun q hq => (h.2.1 q hq).warmM hW, fun q hq => by obtain ⟨a, ha⟩ := h.2.2.1 q hq; exact ⟨a, ha.warm hW⟩, fun q hq => (h.2.2.2.1 q hq).warmC hW, fun q hq => (h.2.2.2.2.1 q hq).moved hW.alike, fun q hq => (h.2.2.2.2.2.1 q hq).moved hW.alike, fun q hq => (h.2.2.2.2.2.2 q hq).warmD hW⟩
theorem KK.same {D : va_G} {ca : Nat → ClassId} {SR : List (String × Nat × String)} {u U : State} (hv : U.vm = u.vm) (h : KK D ca SR u) : KK D ca SR U := by
  have ha : u.vm.Alike U.vm := by rw [hv]; exact Vm.Alike.refl _
  exact ⟨va_K.moved ha h.1, fun q hq => (h.2.1 q hq).same rfl hv.symm, fun q hq => by obtain ⟨a, hq⟩ := h.2.2.1 q hq; exact ⟨a, vk_R.same hv hq⟩, fun q hq => (h.2.2.2.1 q hq).same rfl hv.symm, fun q hq => (h.2.2.2.2.1 q hq).moved ha, fun q hq => (h.2.2.2.2.2.1 q hq).moved ha, fun q hq => (h.2.2.2.2.2.2 q hq).same rfl hv.symm⟩
/-- a method's start -/
def PP (D : va_G) (ad : Nat → Nat → Nat) (cn : Nat → Nat) (ca : Nat → ClassId) (SR : List (String × Nat × String)) (E : Rl) (sz : Nat) (U : State) : Prop :=
  U.heap.size = sz ∧ WW D ad cn (AA ad cn sz) E U.heap ∧ KK D ca SR U ∧ ZZ (AA ad cn sz) U U.heap
theorem PP.blind {D : va_G} {ad : Nat → Nat → Nat} {cn : Nat → Nat} {ca : Nat → ClassId} {SR : List (String × Nat × String)} {E : Rl} {sz : Nat} {av : List Value} : FrameBlind (va_Pc av (PP D ad cn ca SR E sz)) := by
  intro a U g mk h
  obtain ⟨h0, h1, h2, h3, h4⟩ := h
  exact ⟨h0, h1, h2, h3.same (u := U) rfl, h4.moved (u := U) (U := U.calling g mk a) (Vm.Alike.refl U.vm)⟩
/-! contracts -/
section CON
variable (l : Launch) (y : MethodName) (cc : ByteArray) (maxL : Nat) (ret : Option FieldType) (rm : Room) (D : va_G) (ad : Nat → Nat → Nat) (cn : Nat → Nat) (ca : Nat → ClassId) (SR : List (String × Nat × String)) (E : Rl) (av : List Value)
/-- returns an int; the world behind it -/
def CI (P : Int32 → Rl → Prop) : Prop := ∀ sz, Met l y (WS y cc maxL ret) rm (va_Pc av (PP D ad cn ca SR E sz)) (va_Qi P (fun E' t => WW D ad cn (AA ad cn sz) E' t.heap) (AA ad cn sz)) rm.cells rm.slots (AA ad cn sz)
def CV (P : Rl → Prop) : Prop := ∀ sz, Met l y (WS y cc maxL ret) rm (va_Pc av (PP D ad cn ca SR E sz)) (va_Qv P (fun E' t => WW D ad cn (AA ad cn sz) E' t.heap) (AA ad cn sz)) rm.cells rm.slots (AA ad cn sz)
/-- how a throw ends: nothing of the world has changed -/
def XB (PX : String → Prop) (sz : Nat) : String → State → State → Prop := vx_X (S := Unit) (fun _ => True) (fun X _ t => PX X ∧ WW D ad cn (AA ad cn sz) E t.heap) (AA ad cn sz)
def CXI (P : Int32 → Rl → Prop) (PX : String → Prop) : Prop := ∀ sz, vx_Met l y (WS y cc maxL ret) rm (va_Pc av (PP D ad cn ca SR E sz)) (va_Qi P (fun E' t => WW D ad cn (AA ad cn sz) E' t.heap) (AA ad cn sz)) (XB D ad cn E PX sz) rm.cells rm.slots (AA ad cn sz)
def CXV (P : Rl → Prop) (PX : String → Prop) : Prop := ∀ sz, vx_Met l y (WS y cc maxL ret) rm (va_Pc av (PP D ad cn ca SR E sz)) (va_Qv P (fun E' t => WW D ad cn (AA ad cn sz) E' t.heap) (AA ad cn sz)) (XB D ad cn E PX sz) rm.cells rm.slots (AA ad cn sz)
/-- a method with handlers, that throws nothing -/
def CHI (hh : List (Nat × Nat × Nat × Nat)) (P : Int32 → Rl → Prop) : Prop := ∀ sz, Met l y (WH y cc maxL ret hh) rm (va_Pc av (PP D ad cn ca SR E sz)) (va_Qi P (fun E' t => WW D ad cn (AA ad cn sz) E' t.heap) (AA ad cn sz)) rm.cells rm.slots (AA ad cn sz)
end CON
/-- what a method's body knows -/
def MB (p : Program) (s : State) (m : MethodId) (args : Array Value) (meth : Method) (c : Code) (cc : ByteArray) (own : String) (nL : Nat) (D : va_G) (ca : Nat → ClassId) (SR : List (String × Nat × String)) (A : Nat → Prop) : Prop :=
  p.tables.exec = Jvm.exec ∧ c.code = cc ∧ c.maxLocals = nL ∧ s.vm.findClass own = some m.cls ∧ (∀ w ∈ Tw, w.before args s = true) ∧ KK D ca SR s ∧ (∀ q, s.heap.size ≤ q → A q) ∧ ZZ A s s.heap ∧ meth.locks = false
/-- the machine at pc with these locals and this stack, over the world E -/
def G (p : Program) (l : Launch) (e : Env) (R : Room) (s : State) (m : MethodId) (args : Array Value) (below : List Frame) (meth : Method) (c : Code) (D : va_G) (ad : Nat → Nat → Nat) (A : Nat → Prop) (nL : Nat) (Q : State → Prop) (cells slots : Nat) (cn : Nat → Nat) (E : Rl) (pc : Nat) (lvs : List (Nat × Value)) (st : List Value) : Prop :=
  ∀ (H : Heap) (locs : List Loc) (ls : Array Slot), WW D ad cn A E H → va_S A s.heap H locs → lv_has ls nL lvs → W p l e R s m args below meth c H locs cells slots Q (F0 m pc ls st)
def lget : List (Nat × Value) → Nat → Option Value
  | [], _ => none
  | (j, v) :: t, i => bif Nat.beq j i then some v else lget t i
def lset (i : Nat) (v : Value) : List (Nat × Value) → List (Nat × Value)
  | [] => [(i, v)]
  | (j, w) :: t => bif Nat.beq j i || (Nat.beq (j + 1) i && Nat.beq w.category 2) then lset i v t else (j, w) :: lset i v t
theorem lget_in : ∀ {L : List (Nat × Value)} {i : Nat} {v : Value}, lget L i = some v → (i, v) ∈ L
  | [], _, _, h => by cases h
  | (j, w) :: t, i, v, h => by
    unfold lget at h
    by_cases hj : j = i
    · subst hj
      rw [show Nat.beq j j = true from Nat.beq_refl j] at h
      cases h
      exact List.mem_cons_self
    · have hb : Nat.beq j i = false := by
        cases hb : Nat.beq j i
        · rfl
        · exact absurd (Nat.eq_of_beq_eq_true hb) hj
      rw [hb] at h
      exact List.mem_cons_of_mem _ (lget_in h)
theorem lset_in {i : Nat} {v : Value} : ∀ {L : List (Nat × Value)} {q : Nat × Value}, q ∈ lset i v L → q = (i, v) ∨ (q ∈ L ∧ q.1 ≠ i ∧ ¬ (q.1 + 1 = i ∧ q.2.category = 2))
  | [], q, h => Or.inl (List.mem_singleton.mp h)
  | (j, w) :: t, q, h => by
    unfold lset at h
    cases hb : (Nat.beq j i || (Nat.beq (j + 1) i && Nat.beq w.category 2)) with
    | true =>
      rw [hb] at h
      rcases lset_in (L := t) h with h | ⟨h, h2⟩
      · exact Or.inl h
      · exact Or.inr ⟨List.mem_cons_of_mem _ h, h2⟩
    | false =>
      rw [hb] at h
      rcases List.mem_cons.mp h with h | h
      · subst h
        simp only [Bool.or_eq_false_iff, Bool.and_eq_false_iff] at hb
        refine Or.inr ⟨List.mem_cons_self, fun z => ?_, fun z => ?_⟩
        · have := Nat.ne_of_beq_eq_false hb.1; exact this z
        · rcases hb.2 with h3 | h3
          · exact Nat.ne_of_beq_eq_false h3 z.1
          · exact Nat.ne_of_beq_eq_false h3 z.2
      · rcases lset_in (L := t) h with h | ⟨h, h2⟩
        · exact Or.inl h
        · exact Or.inr ⟨List.mem_cons_of_mem _ h, h2⟩
theorem lget_at {ls : Array Slot} {nL : Nat} {L : List (Nat × Value)} (h : lv_has ls nL L) {i : Nat} {v : Value} (hk : lget L i = some v) : ls[i]? = some (.val v) := h.2.2 (i, v) (lget_in hk)
theorem lset_of {ls : Array Slot} {nL i : Nat} {v : Value} {L : List (Nat × Value)} (h : lv_has ls nL ((i, v) :: L.filter (fun q => !(q.1 == i) && !(q.1 + 1 == i && q.2.category == 2)))) : lv_has ls nL (lset i v L) := by
  refine ⟨h.1, h.2.1, fun q hq => ?_⟩
  rcases lset_in hq with rfl | ⟨h1, h2, h3⟩
  · exact h.2.2 _ List.mem_cons_self
  · refine h.2.2 q (List.mem_cons_of_mem _ (List.mem_filter.mpr ⟨h1, ?_⟩))
    simp only [Bool.and_eq_true, Bool.not_eq_true', beq_eq_false_iff_ne, ne_eq, Bool.and_eq_false_iff]
    refine ⟨h2, ?_⟩
    by_cases z : q.1 + 1 = i
    · exact Or.inr fun z2 => h3 ⟨z, z2⟩
    · exact Or.inl z
