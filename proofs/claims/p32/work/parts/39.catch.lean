/-! the law's helpers: each calls the class, and tells what was thrown -/
section GH
variable {p : Program} {l : Launch} {e : Env} {R : Room} {s : State} {m : MethodId} {args : Array Value} {below : List Frame} {meth : Method} {c : Code} {D : va_G} {ad : Nat → Nat → Nat} {A : Nat → Prop} {nL : Nat} {Q : State → Prop} {cells slots : Nat} {cn : Nat → Nat} {E : Rl} {lvs : List (Nat × Value)} {st rest As : List Value} {cc : ByteArray} {own : String} {ca : Nat → ClassId} {pc : Nat} {SR : List (String × Nat × String)}
variable {y : MethodName} {cy : ByteArray} {my : Nat} {ret : Option FieldType} {rm : Room} {P : Int32 → Rl → Prop} {PV : Rl → Prop} {PX PY : String → Prop} {C : String} {idx : Nat} {mc ms : Nat} {hh : List (Nat × Nat × Nat × Nat)}
theorem CHI.of (av : List Value) (own : String) (hy : plainName y.cls = true) (ho : y.cls = own) (hav : (lg_sl av).length ≤ my)
    (body : ∀ p e s m args below meth c A, MB p s m args meth c cy own my D ca SR A → meth.sig.returnType = ret → c.exceptionTable.toList = tableOf hh → G p l e rm s m args below meth c D ad A my (MQ below (va_Qi P (fun E' t => WW D ad cn A E' t.heap) A) args s rm.cells rm.slots A) 0 0 cn E 0 (lv_args 0 av) []) : CHI l y cy my ret rm D ad cn ca SR E av hh P := by
  intro sz
  refine va_MetW (cc := cy) (maxL := my) (ret := ret) (hh := hh) hy rfl ?_
  intro p e s m args below meth c s1 B hml hv
  obtain ⟨rfl, hpp⟩ := hv
  have hts := atoms_spec (ws := WH y cy my ret hh) B.pre
  have hown : s.vm.findClass own = some m.cls := by rw [← ho]; exact findClass_of_methodNamed B.named
  have hB := MB.of (av := av) B (fun w hw => hts w (List.mem_cons_of_mem _ hw)) hown hml hpp
  have hT := vx_table (x := y) B (hts _ List.mem_cons_self)
  obtain ⟨h0, h1, h2, h3⟩ := hpp
  subst h0
  rw [lg_entry_eq]
  exact body p e s m _ below meth c _ hB B.returns hT s.heap [] _ h1 va_S.rf (lv_entry av hav)
def CA (own : String) (pc : Nat) (hh : List (Nat × Nat × Nat × Nat)) (X : String) (pre : List (Nat × Nat × Nat × Nat)) (x : Nat × Nat × Nat × Nat) (suf : List (Nat × Nat × Nat × Nat)) : Prop :=
  hh = pre ++ x :: suf ∧ (∀ z ∈ pre, z.2.2.2 ≠ 0 ∧ ∃ nm : String, Cond.classLink own z.2.2.2 nm ∈ Tw ∧ (X, nm) ∈ XNq) ∧ (decide (x.1 ≤ pc) && decide (pc < x.2.1)) = true ∧ x.2.2.2 ≠ 0 ∧ Cond.classLink own x.2.2.2 X ∈ Tw ∧ X ∈ XCq
theorem ca0 {X : String} {x : Nat × Nat × Nat × Nat} {suf : List (Nat × Nat × Nat × Nat)} (h : hh = [] ++ x :: suf) (h1 : (decide (x.1 ≤ pc) && decide (pc < x.2.1)) = true) (h2 : x.2.2.2 ≠ 0) (h3 : X ∈ XCq) (h4 : Cond.classLink own x.2.2.2 X ∈ Tw) (_ : True) : CA own pc hh X [] x suf := ⟨h, (fun z hz => nomatch hz), h1, h2, h4, h3⟩
theorem ca1 {X n0 : String} {x z0 : Nat × Nat × Nat × Nat} {suf : List (Nat × Nat × Nat × Nat)} (h : hh = [z0] ++ x :: suf) (h1 : (decide (x.1 ≤ pc) && decide (pc < x.2.1)) = true) (h2 : x.2.2.2 ≠ 0) (h3 : X ∈ XCq) (h4 : Cond.classLink own x.2.2.2 X ∈ Tw) (_ : True) (g0 : z0.2.2.2 ≠ 0) (l0 : Cond.classLink own z0.2.2.2 n0 ∈ Tw) (c0 : (X, n0) ∈ XNq) : CA own pc hh X [z0] x suf :=
  ⟨h, fun z hz => by rw [List.mem_singleton.mp hz]; exact ⟨g0, n0, l0, c0⟩, h1, h2, h4, h3⟩
theorem ca2 {X n0 n1 : String} {x z0 z1 : Nat × Nat × Nat × Nat} {suf : List (Nat × Nat × Nat × Nat)} (h : hh = [z0, z1] ++ x :: suf) (h1 : (decide (x.1 ≤ pc) && decide (pc < x.2.1)) = true) (h2 : x.2.2.2 ≠ 0) (h3 : X ∈ XCq) (h4 : Cond.classLink own x.2.2.2 X ∈ Tw) (_ : True) (g0 : z0.2.2.2 ≠ 0) (l0 : Cond.classLink own z0.2.2.2 n0 ∈ Tw) (c0 : (X, n0) ∈ XNq) (g1 : z1.2.2.2 ≠ 0) (l1 : Cond.classLink own z1.2.2.2 n1 ∈ Tw) (c1 : (X, n1) ∈ XNq) : CA own pc hh X [z0, z1] x suf :=
  ⟨h, fun z hz => by
    rcases List.mem_cons.mp hz with rfl | hz
    · exact ⟨g0, n0, l0, c0⟩
    · rw [List.mem_singleton.mp hz]; exact ⟨g1, n1, l1, c1⟩, h1, h2, h4, h3⟩
theorem pxc1 {a X : String} {code : Nat} (h : PXm [a] code X) : code = 1 ∧ X = a := by
  obtain ⟨h0, h1⟩ := h
  obtain ⟨k, rfl⟩ : ∃ k, code = k + 1 := ⟨code - 1, by omega⟩
  match k, h1 with
  | 0, h1 => exact ⟨rfl, (Option.some.inj h1).symm⟩
theorem pxc2 {a b X : String} {code : Nat} (h : PXm [a, b] code X) : (code = 1 ∧ X = a) ∨ (code = 2 ∧ X = b) := by
  obtain ⟨h0, h1⟩ := h
  obtain ⟨k, rfl⟩ : ∃ k, code = k + 1 := ⟨code - 1, by omega⟩
  match k, h1 with
  | 0, h1 => exact Or.inl ⟨rfl, (Option.some.inj h1).symm⟩
  | 1, h1 => exact Or.inr ⟨rfl, (Option.some.inj h1).symm⟩
theorem pxc3 {a b d X : String} {code : Nat} (h : PXm [a, b, d] code X) : (code = 1 ∧ X = a) ∨ (code = 2 ∧ X = b) ∨ (code = 3 ∧ X = d) := by
  obtain ⟨h0, h1⟩ := h
  obtain ⟨k, rfl⟩ : ∃ k, code = k + 1 := ⟨code - 1, by omega⟩
  match k, h1 with
  | 0, h1 => exact Or.inl ⟨rfl, (Option.some.inj h1).symm⟩
  | 1, h1 => exact Or.inr (Or.inl ⟨rfl, (Option.some.inj h1).symm⟩)
  | 2, h1 => exact Or.inr (Or.inr ⟨rfl, (Option.some.inj h1).symm⟩)
theorem g_catch (hB : MB p s m args meth c cc own nL D ca SR A) (hT : c.exceptionTable.toList = tableOf hh) {X : String} {pre suf : List (Nat × Nat × Nat × Nat)} {x : Nat × Nat × Nat × Nat} (h : CA own pc hh X pre x suf) {H1 : Heap} {locs1 : List Loc} {ls : Array Slot} {ce : Cell} {q9 : Addr}
    (h1 : WW D ad cn A E H1) (hS1 : va_S A s.heap H1 locs1) (h3 : lv_has ls nL lvs) (hce : H1[q9]? = some ce) (hcv : ce.vm = .none) (hcl : s.vm.findClass X = some ce.cls)
    (kk : G p l e R s m args below meth c D ad A nL Q cells slots cn E x.2.2.1 lvs [.ref q9]) : vx_W p l e R s m args below meth c H1 locs1 cells slots Q (F0 m pc ls rest) q9 := by
  obtain ⟨g1, g2, g3, g4, g5, g6⟩ := h
  have hK := hB.2.2.2.2.2.1
  refine vx_catch hB.2.2.2.1 (tableOf pre) ⟨x.1, x.2.1, x.2.2.1, x.2.2.2⟩ (tableOf suf) (by rw [hT, g1]; unfold tableOf; rw [List.map_append, List.map_cons]) (fun z hz => ?_) g3 g4 (hB.2.2.2.2.1 _ g5) (va_Nw.use rfl (hK.2.2.2.1 X g6)) hce hcv hcl (kk H1 locs1 ls h1 hS1 h3)
  obtain ⟨w, hw, rfl⟩ := List.mem_map.mp hz
  obtain ⟨a1, nm, a2, a3⟩ := g2 w hw
  exact Or.inr ⟨a1, nm, hB.2.2.2.2.1 _ a2, hK.2.2.2.2.1 (X, nm) a3⟩
theorem g_callCVI (hB : MB p s m args meth c cc own nL D ca SR A) (hT : c.exceptionTable.toList = tableOf hh) {k i : Nat} (hc : CXI l y cy my ret rm D ad cn ca SR E (.ref (ad k i) :: As) P PY) (hG : GoodIn Tw (wsV own idx C y (WS y cy my ret))) (hyC : y.cls = C) (hy : yOK y As.length) (hR : rm.frames + 1 ≤ R.frames ∧ 8 + (my + 11) + rm.locals ≤ R.locals) (hrecv : recv ad cn E C k i) (hst : st = As.reverse ++ .ref (ad k i) :: rest) (hw : (rest.map fun v => v.category).sum ≤ 8) (hcs : cells + rm.cells ≤ R.cells ∧ slots + rm.slots ≤ R.slots) (hdg : decode cc pc = .ok (.invokevirtual idx, 3))
    (kx : ∀ X, PY X → ∃ pre x suf, CA own pc hh X pre x suf ∧ ∀ q, G p l e R s m args below meth c D ad A nL Q (cells + rm.cells) (slots + rm.slots) cn E x.2.2.1 lvs [.ref q]) (kk : ∀ r E', P r E' → G p l e R s m args below meth c D ad A nL Q (cells + rm.cells) (slots + rm.slots) cn E' (pc + 3) lvs (.int r :: rest)) : G p l e R s m args below meth c D ad A nL Q cells slots cn E pc lvs st := by
  intro H locs ls h1 h2 h3
  have hsub := AA_sub hB h1 h2
  exact vx_calli (vx_runV (As := As) (rest := rest) ⟨hB.1, hB.2.1, hB.2.2.1, hB.2.2.2.1, hB.2.2.2.2.1⟩ (hc H.size) (cwV As.length hB.2.2.2.2.1 hG rfl rfl rfl ⟨hyC, hy⟩ hR) ⟨PP.blind, recv_at hB h1 hrecv, fun U hU hW => ⟨rfl, PP_at hB h1 h2 hU hW⟩⟩ rfl rfl h3.1 hst (lv_room (pc := pc) (m := m) (ls := ls) (rest := st) hw) hdg hcs) h2 (fun q _ h => hsub q h) hsub (fun q _ h => hsub q h)
    (fun X ce q9 u t H1 locs1 ht hvm _ hb hz hk hS1 hce hcv hcl => by
      obtain ⟨pre, x, suf, hCA, hq⟩ := kx X hb.1
      exact g_catch hB hT hCA (WW_back h1 hb.2 ht) hS1 h3 hce hcv hcl (hq q9))
    (fun r u t H1 locs1 ht hvm hp hb hz hk hS1 => kk r u hp H1 locs1 ls (WW_back h1 hb ht) hS1 h3)
theorem g_callCVV (hB : MB p s m args meth c cc own nL D ca SR A) (hT : c.exceptionTable.toList = tableOf hh) {k i : Nat} (hc : CXV l y cy my ret rm D ad cn ca SR E (.ref (ad k i) :: As) PV PY) (hG : GoodIn Tw (wsV own idx C y (WS y cy my ret))) (hyC : y.cls = C) (hy : yOK y As.length) (hR : rm.frames + 1 ≤ R.frames ∧ 8 + (my + 11) + rm.locals ≤ R.locals) (hrecv : recv ad cn E C k i) (hst : st = As.reverse ++ .ref (ad k i) :: rest) (hw : (rest.map fun v => v.category).sum ≤ 8) (hcs : cells + rm.cells ≤ R.cells ∧ slots + rm.slots ≤ R.slots) (hdg : decode cc pc = .ok (.invokevirtual idx, 3))
    (kx : ∀ X, PY X → ∃ pre x suf, CA own pc hh X pre x suf ∧ ∀ q, G p l e R s m args below meth c D ad A nL Q (cells + rm.cells) (slots + rm.slots) cn E x.2.2.1 lvs [.ref q]) (kk : ∀ E', PV E' → G p l e R s m args below meth c D ad A nL Q (cells + rm.cells) (slots + rm.slots) cn E' (pc + 3) lvs rest) : G p l e R s m args below meth c D ad A nL Q cells slots cn E pc lvs st := by
  intro H locs ls h1 h2 h3
  have hsub := AA_sub hB h1 h2
  exact vx_callv (vx_runV (As := As) (rest := rest) ⟨hB.1, hB.2.1, hB.2.2.1, hB.2.2.2.1, hB.2.2.2.2.1⟩ (hc H.size) (cwV As.length hB.2.2.2.2.1 hG rfl rfl rfl ⟨hyC, hy⟩ hR) ⟨PP.blind, recv_at hB h1 hrecv, fun U hU hW => ⟨rfl, PP_at hB h1 h2 hU hW⟩⟩ rfl rfl h3.1 hst (lv_room (pc := pc) (m := m) (ls := ls) (rest := st) hw) hdg hcs) h2 (fun q _ h => hsub q h) hsub (fun q _ h => hsub q h)
    (fun X ce q9 u t H1 locs1 ht hvm _ hb hz hk hS1 hce hcv hcl => by
      obtain ⟨pre, x, suf, hCA, hq⟩ := kx X hb.1
      exact g_catch hB hT hCA (WW_back h1 hb.2 ht) hS1 h3 hce hcv hcl (hq q9))
    (fun u t H1 locs1 ht hvm hp hb hz hk hS1 => kk u hp H1 locs1 ls (WW_back h1 hb ht) hS1 h3)
end GH
