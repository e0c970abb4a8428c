/-! entries, ends, calls -/
section GC
variable {p : Program} {l : Launch} {e : Env} {R : Room} {s : State} {m : MethodId} {args : Array Value} {below : List Frame} {meth : Method} {c : Code} {D : va_G} {ad : Nat → Nat → Nat} {A : Nat → Prop} {nL : Nat} {Q : State → Prop} {cells slots : Nat} {cn : Nat → Nat} {E : Rl} {lvs : List (Nat × Value)} {st rest As : List Value} {cc : ByteArray} {own : String} {ca : Nat → ClassId} {SR : List (String × Nat × String)} {pc : Nat}
variable {y : MethodName} {cy : ByteArray} {my : Nat} {ret : Option FieldType} {rm : Room} {P : Int32 → Rl → Prop} {PV : Rl → Prop} {PX : String → Prop} {C : String} {idx : Nat} {hh : List (Nat × Nat × Nat × Nat)}
theorem PP.AAin {sz : Nat} : ∀ k i, i < cn k → AA ad cn sz (ad k i) := fun k i h => Or.inl ⟨k, i, h, rfl⟩
theorem MB.of {av : List Value} {sz : Nat} {S : Spec} {s1 : State} {x : MethodName} (B : BodyLoose p l x S cc nL ret e s m args below meth c s1) (hw : ∀ w ∈ Tw, w.before args s = true) (hown : s.vm.findClass own = some m.cls) (hml : c.maxLocals = nL) (h : PP D ad cn ca SR E sz s) : MB p s m args meth c cc own nL D ca SR (AA ad cn s.heap.size) := by
  obtain ⟨h0, h1, h2, h3⟩ := h
  subst h0
  exact ⟨B.exec, B.bytes, hml, hown, hw, h2, fun q hq => Or.inr hq, h3, B.notSynchronized⟩
theorem CI.of (av : List Value) (own : String) (hy : plainName y.cls = true) (ho : y.cls = own) (hav : (lg_sl av).length ≤ my)
    (body : ∀ p e s m args below meth c A, MB p s m args meth c cy own my D ca SR A → meth.sig.returnType = ret → (meth.name = y.name) → G p l e rm s m args below meth c D ad A my (MQ below (va_Qi P (fun E' t => WW D ad cn A E' t.heap) A) args s rm.cells rm.slots A) 0 0 cn E 0 (lv_args 0 av) []) : CI l y cy my ret rm D ad cn ca SR E av P := by
  intro sz
  refine Met.ofW (cc := cy) (maxL := my) (ret := ret) hy rfl ?_
  intro p e s m args below meth c s1 B hml hv
  obtain ⟨rfl, hpp⟩ := hv
  have hts := atoms_spec (ws := WS y cy my ret) B.pre
  have hown : s.vm.findClass own = some m.cls := by rw [← ho]; exact findClass_of_methodNamed B.named
  have hB := MB.of (av := av) B (fun w hw => hts w (List.mem_cons_of_mem _ hw)) hown hml hpp
  obtain ⟨h0, h1, h2, h3⟩ := hpp
  subst h0
  rw [lg_entry_eq]
  exact body p e s m _ below meth c _ hB B.returns (name_of_methodNamed B.named B.method).1 s.heap [] _ h1 va_S.rf (lv_entry av hav)
theorem CV.of (av : List Value) (own : String) (hy : plainName y.cls = true) (ho : y.cls = own) (hav : (lg_sl av).length ≤ my)
    (body : ∀ p e s m args below meth c A, MB p s m args meth c cy own my D ca SR A → meth.sig.returnType = ret → (meth.name = y.name) → G p l e rm s m args below meth c D ad A my (MQ below (va_Qv PV (fun E' t => WW D ad cn A E' t.heap) A) args s rm.cells rm.slots A) 0 0 cn E 0 (lv_args 0 av) []) : CV l y cy my ret rm D ad cn ca SR E av PV := by
  intro sz
  refine Met.ofW (cc := cy) (maxL := my) (ret := ret) hy rfl ?_
  intro p e s m args below meth c s1 B hml hv
  obtain ⟨rfl, hpp⟩ := hv
  have hts := atoms_spec (ws := WS y cy my ret) B.pre
  have hown : s.vm.findClass own = some m.cls := by rw [← ho]; exact findClass_of_methodNamed B.named
  have hB := MB.of (av := av) B (fun w hw => hts w (List.mem_cons_of_mem _ hw)) hown hml hpp
  obtain ⟨h0, h1, h2, h3⟩ := hpp
  subst h0
  rw [lg_entry_eq]
  exact body p e s m _ below meth c _ hB B.returns (name_of_methodNamed B.named B.method).1 s.heap [] _ h1 va_S.rf (lv_entry av hav)
theorem CXI.of (av : List Value) (own : String) (hy : plainName y.cls = true) (ho : y.cls = own) (hav : (lg_sl av).length ≤ my)
    (body : ∀ p e s m args below meth c A, MB p s m args meth c cy own my D ca SR A → meth.sig.returnType = ret → (∀ x ∈ c.exceptionTable.toList, False) → G p l e rm s m args below meth c D ad A my (vx_MQ below (va_Qi P (fun E' t => WW D ad cn A E' t.heap) A) (vx_X (S := Unit) (fun _ => True) (fun X _ t => PX X ∧ WW D ad cn A E t.heap) A) args s rm.cells rm.slots A) 0 0 cn E 0 (lv_args 0 av) []) : CXI l y cy my ret rm D ad cn ca SR E av P PX := by
  intro sz
  refine vx_ofW (cc := cy) (maxL := my) (ret := ret) hy rfl ?_
  intro p e s m args below meth c s1 B hml hex hv
  obtain ⟨rfl, hpp⟩ := hv
  have hts := atoms_spec (ws := WS y cy my ret) B.pre
  have hown : s.vm.findClass own = some m.cls := by rw [← ho]; exact findClass_of_methodNamed B.named
  have hB := MB.of (av := av) B (fun w hw => hts w (List.mem_cons_of_mem _ hw)) hown hml hpp
  obtain ⟨h0, h1, h2, h3⟩ := hpp
  subst h0
  rw [lg_entry_eq]
  exact body p e s m _ below meth c _ hB B.returns hex s.heap [] _ h1 va_S.rf (lv_entry av hav)
theorem CXV.of (av : List Value) (own : String) (hy : plainName y.cls = true) (ho : y.cls = own) (hav : (lg_sl av).length ≤ my)
    (body : ∀ p e s m args below meth c A, MB p s m args meth c cy own my D ca SR A → meth.sig.returnType = ret → (∀ x ∈ c.exceptionTable.toList, False) → G p l e rm s m args below meth c D ad A my (vx_MQ below (va_Qv PV (fun E' t => WW D ad cn A E' t.heap) A) (vx_X (S := Unit) (fun _ => True) (fun X _ t => PX X ∧ WW D ad cn A E t.heap) A) args s rm.cells rm.slots A) 0 0 cn E 0 (lv_args 0 av) []) : CXV l y cy my ret rm D ad cn ca SR E av PV PX := by
  intro sz
  refine vx_ofW (cc := cy) (maxL := my) (ret := ret) hy rfl ?_
  intro p e s m args below meth c s1 B hml hex hv
  obtain ⟨rfl, hpp⟩ := hv
  have hts := atoms_spec (ws := WS y cy my ret) B.pre
  have hown : s.vm.findClass own = some m.cls := by rw [← ho]; exact findClass_of_methodNamed B.named
  have hB := MB.of (av := av) B (fun w hw => hts w (List.mem_cons_of_mem _ hw)) hown hml hpp
  obtain ⟨h0, h1, h2, h3⟩ := hpp
  subst h0
  rw [lg_entry_eq]
  exact body p e s m _ below meth c _ hB B.returns hex s.heap [] _ h1 va_S.rf (lv_entry av hav)
/-! ends -/
theorem g_iret (hB : MB p s m args meth c cc own nL D ca SR A) {ty : FieldType} {v : Int32} {mc ms : Nat} (hr : meth.sig.returnType = some ty) (hn : narrow ty (.int v) = .int v) (hc : cells ≤ mc) (hs : slots ≤ ms) (hP : P v E) (hdg : decode cc pc = .ok (.ireturn, 1)) :
    G p l e R s m args below meth c D ad A nL (MQ below (va_Qi P (fun E' t => WW D ad cn A E' t.heap) A) args s mc ms A) cells slots cn E pc lvs [.int v] := by
  intro H locs ls h1 h2 h3
  refine W.widen hc hs ?_
  exact W.zret hB.1 hB.2.1 hr hn (fun t ht hW => ⟨⟨v, E, rfl, hP, by show WW D ad cn A E t.heap; rw [ht]; exact h1⟩, h2.F ht⟩) h2.2.2 hdg hB.2.2.2.2.2.2.2.2
theorem g_vret (hB : MB p s m args meth c cc own nL D ca SR A) {mc ms : Nat} (hr : meth.sig.returnType = none) (hc : cells ≤ mc) (hs : slots ≤ ms) (hP : PV E) (hdg : decode cc pc = .ok (.return_, 1)) :
    G p l e R s m args below meth c D ad A nL (MQ below (va_Qv PV (fun E' t => WW D ad cn A E' t.heap) A) args s mc ms A) cells slots cn E pc lvs [] := by
  intro H locs ls h1 h2 h3
  refine W.widen hc hs ?_
  exact W.vret hB.1 hB.2.1 hr (fun t ht hW => ⟨⟨E, rfl, hP, by show WW D ad cn A E t.heap; rw [ht]; exact h1⟩, h2.F ht⟩) h2.2.2 hdg hB.2.2.2.2.2.2.2.2
theorem g_vx {Qc : Array Value → State → Outcome → State → Prop} {XC : String → State → State → Prop} {mc ms : Nat} (k : G p l e R s m args below meth c D ad A nL (MQ below Qc args s mc ms A) cells slots cn E pc lvs st) : G p l e R s m args below meth c D ad A nL (vx_MQ below Qc XC args s mc ms A) cells slots cn E pc lvs st := fun H locs ls h1 h2 h3 => vx_ret (k H locs ls h1 h2 h3)
theorem g_ixret (hB : MB p s m args meth c cc own nL D ca SR A) {ty : FieldType} {v : Int32} {mc ms : Nat} {XC : String → State → State → Prop} (hr : meth.sig.returnType = some ty) (hn : narrow ty (.int v) = .int v) (hc : cells ≤ mc) (hs : slots ≤ ms) (hP : P v E) (hdg : decode cc pc = .ok (.ireturn, 1)) :
    G p l e R s m args below meth c D ad A nL (vx_MQ below (va_Qi P (fun E' t => WW D ad cn A E' t.heap) A) XC args s mc ms A) cells slots cn E pc lvs [.int v] := by
  intro H locs ls h1 h2 h3
  refine W.widen hc hs ?_
  exact vx_ret (W.zret hB.1 hB.2.1 hr hn (fun t ht hW => ⟨⟨v, E, rfl, hP, by show WW D ad cn A E t.heap; rw [ht]; exact h1⟩, h2.F ht⟩) h2.2.2 hdg hB.2.2.2.2.2.2.2.2)
theorem g_vxret (hB : MB p s m args meth c cc own nL D ca SR A) {mc ms : Nat} {XC : String → State → State → Prop} (hr : meth.sig.returnType = none) (hc : cells ≤ mc) (hs : slots ≤ ms) (hP : PV E) (hdg : decode cc pc = .ok (.return_, 1)) :
    G p l e R s m args below meth c D ad A nL (vx_MQ below (va_Qv PV (fun E' t => WW D ad cn A E' t.heap) A) XC args s mc ms A) cells slots cn E pc lvs [] := by
  intro H locs ls h1 h2 h3
  refine W.widen hc hs ?_
  exact vx_ret (W.vret hB.1 hB.2.1 hr (fun t ht hW => ⟨⟨E, rfl, hP, by show WW D ad cn A E t.heap; rw [ht]; exact h1⟩, h2.F ht⟩) h2.2.2 hdg hB.2.2.2.2.2.2.2.2)
/-! calls: what the callee asks and gives -/
theorem AA_sub (hB : MB p s m args meth c cc own nL D ca SR A) {H : Heap} {locs : List Loc} (h1 : WW D ad cn A E H) (h2 : va_S A s.heap H locs) : ∀ q, AA ad cn H.size q → A q := by
  rintro q (⟨k, i, hi, rfl⟩ | h)
  · exact h1.2.1 k i hi
  · exact hB.2.2.2.2.2.2.1 q (Nat.le_trans h2.1 h)
theorem PP_at (hB : MB p s m args meth c cc own nL D ca SR A) {H : Heap} {locs : List Loc} (h1 : WW D ad cn A E H) (h2 : va_S A s.heap H locs) {U : State} (hU : U.heap = H) (hW : s.WarmedH U.vm) : PP D ad cn ca SR E H.size U := by
  refine ⟨by rw [hU], ?_, hB.2.2.2.2.2.1.warm hW, ?_⟩
  · rw [hU]; exact h1.wide PP.AAin
  · rw [hU]
    exact ((hB.2.2.2.2.2.2.2.1.kept h2.2.1).narrow (AA_sub hB h1 h2)).moved hW.alike
def recv (ad : Nat → Nat → Nat) (cn : Nat → Nat) (E : Rl) (C : String) (k i : Nat) : Prop := i < cn k ∧ ∃ (ci : Nat) (fs : List Value) (q : vw_C), E k i = .inr (ci, fs) ∧ vwCl[ci]? = some q ∧ q.1 = C
theorem recv_at (hB : MB p s m args meth c cc own nL D ca SR A) {H : Heap} (h1 : WW D ad cn A E H) {k i : Nat} (hr : recv ad cn E C k i) : ∃ cellB : Cell, H[ad k i]? = some cellB ∧ cellB.vm.isStatics = false ∧ s.vm.findClass C = some cellB.cls := by
  obtain ⟨hi, ci, fs, q, hE, hq, rfl⟩ := hr
  exact va_recv hB.2.2.2.2.2.1.1 (wp1 h1 hi hE) hq (q0 := 0) rfl
def yOK (y : MethodName) (n : Nat) : Prop := y.cls ≠ "java/lang/invoke/MethodHandle" ∧ y.cls ≠ "java/lang/invoke/VarHandle" ∧ (parseMethodDescriptor y.desc).map (fun d => d.parameters.length) = some n
theorem WW_back {H H1 : Heap} {A' : Nat → Prop} {t : State} {E' : Rl} (h1 : WW D ad cn A E H) (hb : WW D ad cn A' E' t.heap) (ht : t.heap = H1) : WW D ad cn A E' H1 := ⟨h1.1, h1.2.1, by rw [← ht]; exact hb.2.2⟩
theorem g_callVI (hB : MB p s m args meth c cc own nL D ca SR A) {k i : Nat} (hc : CI l y cy my ret rm D ad cn ca SR E (.ref (ad k i) :: As) P) (hG : GoodIn Tw (wsV own idx C y (WS y cy my ret))) (hyC : y.cls = C) (hy : yOK y As.length) (hR : rm.frames + 1 ≤ R.frames ∧ 8 + (my + 11) + rm.locals ≤ R.locals) (hrecv : recv ad cn E C k i) (hst : st = As.reverse ++ .ref (ad k i) :: rest) (hw : (rest.map fun v => v.category).sum ≤ 8) (hcs : cells + rm.cells ≤ R.cells ∧ slots + rm.slots ≤ R.slots) (hdg : decode cc pc = .ok (.invokevirtual idx, 3))
    (kk : ∀ r E', P r E' → G p l e R s m args below meth c D ad A nL Q (cells + rm.cells) (slots + rm.slots) cn E' (pc + 3) lvs (.int r :: rest)) : G p l e R s m args below meth c D ad A nL Q cells slots cn E pc lvs st := by
  intro H locs ls h1 h2 h3
  have hsub := AA_sub hB h1 h2
  exact va_calli (va_runV (As := As) (rest := rest) ⟨hB.1, hB.2.1, hB.2.2.1, hB.2.2.2.1, hB.2.2.2.2.1⟩ (hc H.size) (cwV As.length hB.2.2.2.2.1 hG rfl rfl rfl ⟨hyC, hy⟩ hR) ⟨PP.blind, recv_at hB h1 hrecv, fun U hU hW => ⟨rfl, PP_at hB h1 h2 hU hW⟩⟩ rfl rfl h3.1 hst (lv_room (pc := pc) (m := m) (ls := ls) (rest := st) hw) hdg hcs) h2 (fun q _ h => hsub q h) hsub
    (fun r u t H1 locs1 ht hvm hp hb hz hk hS1 => kk r u hp H1 locs1 ls (WW_back h1 hb ht) hS1 h3)
theorem g_callVV (hB : MB p s m args meth c cc own nL D ca SR A) {k i : Nat} (hc : CV l y cy my ret rm D ad cn ca SR E (.ref (ad k i) :: As) PV) (hG : GoodIn Tw (wsV own idx C y (WS y cy my ret))) (hyC : y.cls = C) (hy : yOK y As.length) (hR : rm.frames + 1 ≤ R.frames ∧ 8 + (my + 11) + rm.locals ≤ R.locals) (hrecv : recv ad cn E C k i) (hst : st = As.reverse ++ .ref (ad k i) :: rest) (hw : (rest.map fun v => v.category).sum ≤ 8) (hcs : cells + rm.cells ≤ R.cells ∧ slots + rm.slots ≤ R.slots) (hdg : decode cc pc = .ok (.invokevirtual idx, 3))
    (kk : ∀ E', PV E' → G p l e R s m args below meth c D ad A nL Q (cells + rm.cells) (slots + rm.slots) cn E' (pc + 3) lvs rest) : G p l e R s m args below meth c D ad A nL Q cells slots cn E pc lvs st := by
  intro H locs ls h1 h2 h3
  have hsub := AA_sub hB h1 h2
  exact va_callv (va_runV (As := As) (rest := rest) ⟨hB.1, hB.2.1, hB.2.2.1, hB.2.2.2.1, hB.2.2.2.2.1⟩ (hc H.size) (cwV As.length hB.2.2.2.2.1 hG rfl rfl rfl ⟨hyC, hy⟩ hR) ⟨PP.blind, recv_at hB h1 hrecv, fun U hU hW => ⟨rfl, PP_at hB h1 h2 hU hW⟩⟩ rfl rfl h3.1 hst (lv_room (pc := pc) (m := m) (ls := ls) (rest := st) hw) hdg hcs) h2 (fun q _ h => hsub q h) hsub
    (fun u t H1 locs1 ht hvm hp hb hz hk hS1 => kk u hp H1 locs1 ls (WW_back h1 hb ht) hS1 h3)
theorem g_callSI (hB : MB p s m args meth c cc own nL D ca SR A) (hc : CI l y cy my ret rm D ad cn ca SR E As P) (hG : GoodIn Tw (va_wsS own idx y (WS y cy my ret))) (hy : yOK y As.length) (hR : rm.frames + 1 ≤ R.frames ∧ 8 + (my + 11) + rm.locals ≤ R.locals) (hst : st = As.reverse ++ rest) (hw : (rest.map fun v => v.category).sum ≤ 8) (hcs : cells + rm.cells ≤ R.cells ∧ slots + rm.slots ≤ R.slots) (hdg : decode cc pc = .ok (.invokestatic idx, 3))
    (kk : ∀ r E', P r E' → G p l e R s m args below meth c D ad A nL Q (cells + rm.cells) (slots + rm.slots) cn E' (pc + 3) lvs (.int r :: rest)) : G p l e R s m args below meth c D ad A nL Q cells slots cn E pc lvs st := by
  intro H locs ls h1 h2 h3
  have hsub := AA_sub hB h1 h2
  exact va_calli (va_runS (As := As) (rest := rest) ⟨hB.1, hB.2.1, hB.2.2.1, hB.2.2.2.1, hB.2.2.2.2.1⟩ (hc H.size) (va_cwS As.length hB.2.2.2.2.1 hG rfl rfl rfl hy hR) ⟨PP.blind, fun U hU hW => ⟨rfl, PP_at hB h1 h2 hU hW⟩⟩ rfl rfl h3.1 hst (lv_room (pc := pc) (m := m) (ls := ls) (rest := st) hw) hdg hcs) h2 (fun q _ h => hsub q h) hsub
    (fun r u t H1 locs1 ht hvm hp hb hz hk hS1 => kk r u hp H1 locs1 ls (WW_back h1 hb ht) hS1 h3)
theorem g_callSV (hB : MB p s m args meth c cc own nL D ca SR A) (hc : CV l y cy my ret rm D ad cn ca SR E As PV) (hG : GoodIn Tw (va_wsS own idx y (WS y cy my ret))) (hy : yOK y As.length) (hR : rm.frames + 1 ≤ R.frames ∧ 8 + (my + 11) + rm.locals ≤ R.locals) (hst : st = As.reverse ++ rest) (hw : (rest.map fun v => v.category).sum ≤ 8) (hcs : cells + rm.cells ≤ R.cells ∧ slots + rm.slots ≤ R.slots) (hdg : decode cc pc = .ok (.invokestatic idx, 3))
    (kk : ∀ E', PV E' → G p l e R s m args below meth c D ad A nL Q (cells + rm.cells) (slots + rm.slots) cn E' (pc + 3) lvs rest) : G p l e R s m args below meth c D ad A nL Q cells slots cn E pc lvs st := by
  intro H locs ls h1 h2 h3
  have hsub := AA_sub hB h1 h2
  exact va_callv (va_runS (As := As) (rest := rest) ⟨hB.1, hB.2.1, hB.2.2.1, hB.2.2.2.1, hB.2.2.2.2.1⟩ (hc H.size) (va_cwS As.length hB.2.2.2.2.1 hG rfl rfl rfl hy hR) ⟨PP.blind, fun U hU hW => ⟨rfl, PP_at hB h1 h2 hU hW⟩⟩ rfl rfl h3.1 hst (lv_room (pc := pc) (m := m) (ls := ls) (rest := st) hw) hdg hcs) h2 (fun q _ h => hsub q h) hsub
    (fun u t H1 locs1 ht hvm hp hb hz hk hS1 => kk u hp H1 locs1 ls (WW_back h1 hb ht) hS1 h3)
theorem g_callNI (hB : MB p s m args meth c cc own nL D ca SR A) {host : String} (hc : CI l y cy my ret rm D ad cn ca SR E As P) (hG : Cond.code y cy my ret ∈ Tw) (hN : (own, idx, y, host) ∈ NWq) (hini : Cond.initialized y.cls ∈ Tw) (hstat : Cond.static y ∈ Tw) (hy : yOK y As.length) (hR : rm.frames + 1 ≤ R.frames ∧ 8 + (my + 11) + rm.locals ≤ R.locals) (hst : st = As.reverse ++ rest) (hw : (rest.map fun v => v.category).sum ≤ 8) (hcs : cells + rm.cells ≤ R.cells ∧ slots + rm.slots ≤ R.slots) (hdg : decode cc pc = .ok (.invokestatic idx, 3))
    (kk : ∀ r E', P r E' → G p l e R s m args below meth c D ad A nL Q (cells + rm.cells) (slots + rm.slots) cn E' (pc + 3) lvs (.int r :: rest)) : G p l e R s m args below meth c D ad A nL Q cells slots cn E pc lvs st := by
  intro H locs ls h1 h2 h3
  have hsub := AA_sub hB h1 h2
  exact va_calli (va_runSN (host := host) (As := As) (rest := rest) ⟨hB.1, hB.2.1, hB.2.2.1, hB.2.2.2.1, hB.2.2.2.2.1⟩ (hc H.size) ⟨va_cnB As.length hB.2.2.2.2.1 (Tw_good (WS_all hG)) rfl rfl rfl (hB.2.2.2.2.2.1.2.1 _ hN) (hB.2.2.2.2.1 _ hini) hy hR, hB.2.2.2.2.1 _ hstat, trivial⟩ ⟨PP.blind, fun U hU hW => ⟨rfl, PP_at hB h1 h2 hU hW⟩⟩ rfl rfl h3.1 hst (lv_room (pc := pc) (m := m) (ls := ls) (rest := st) hw) hdg hcs) h2 (fun q _ h => hsub q h) hsub
    (fun r u t H1 locs1 ht hvm hp hb hz hk hS1 => kk r u hp H1 locs1 ls (WW_back h1 hb ht) hS1 h3)
end GC
