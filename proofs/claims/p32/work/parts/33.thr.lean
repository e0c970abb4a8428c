/-! throws, and calls of what throws -/

abbrev SR : List (String × Nat × String) := [(RX5, 112, "days is out of range"), (RX5, 279, "no such group"), (RX5, 125, "there are 10 groups"), (RX5, 130, "there are 12 machines"), (RX5, 288, "no such change"), (RX5, 283, "no such place"), (RX5, 277, "no such key"), (RX5, 281, "no such machine"), (RX5, 236, "no such layer"), (RX5, 275, "no such person"), (RX5, 161, "what is out of range"), (RX5, 166, "the person is not in service, or there are 40 changes"), (RX5, 189, "the person can not approve the change now"), (RX5, 88, "the person is not in service"), (RX5, 151, "the machine is busy or stopped"), (RX5, 142, "the machine is busy"), (RX5, 206, "both keys are the same"), (RX5, 74, "remainder or persons is out of range"), (RX5, 153, "machines is out of range"), (RX5, 110, "the person is in service, or left under suspicion"), (RX5, 204, "the change is not OPEN")]
def xNM : List String := ["java/lang/RuntimeException", "java/lang/Exception"]
def xBB (cls : String) : List Cond := [.castable cls cls, .declares (Bundle.initS "java/lang/RuntimeException"), .declares (Bundle.initS "java/lang/Exception"), .declares (Bundle.initS Bundle.tN)]
def TH (ik ic : Nat) (cls : String) : Prop := Cond.classLink RX5 ik cls ∈ Tw ∧ Cond.initialized cls ∈ Tw ∧ Bundle.fit cls = true ∧ ((vx_atS RX5 ic cls xNM).filter goodWord).all (fun w => lw_tbl.contains w) = true ∧ ((vx_atS RX5 ic cls xNM).filter (fun w => !goodWord w)).all (fun w => (xBB cls).contains w) = true ∧ (Cond.classLink RX5 ik cls :: Cond.initialized cls :: vx_atS RX5 ic cls xNM).all vx_ot = true ∧ cls ∈ XCq
theorem th_IO : TH 234 238 xIO := ⟨tw_cl_X5_234, tw_ini_IOOBE, by decide +kernel, by decide +kernel, by decide +kernel, by decide +kernel, by decide⟩
theorem th_IA : TH 72 76 xIA := ⟨tw_cl_X5_72, tw_ini_IAE, by decide +kernel, by decide +kernel, by decide +kernel, by decide +kernel, by decide⟩
theorem th_IS : TH 86 90 xIS := ⟨tw_cl_X5_86, tw_ini_ISE, by decide +kernel, by decide +kernel, by decide +kernel, by decide +kernel, by decide⟩
theorem xNM_fit : ∀ n ∈ xNM, Bundle.fit n = true := by
  intro n hn
  have h : xNM.all Bundle.fit = true := by decide +kernel
  exact List.all_eq_true.mp h n hn
section GX
variable {p : Program} {l : Launch} {e : Env} {R : Room} {s : State} {m : MethodId} {args : Array Value} {below : List Frame} {meth : Method} {c : Code} {D : va_G} {ad : Nat → Nat → Nat} {A : Nat → Prop} {nL : Nat} {Qc : Array Value → State → Outcome → State → Prop} {cells slots : Nat} {cn : Nat → Nat} {E : Rl} {lvs : List (Nat × Value)} {st rest As : List Value} {cc : ByteArray} {own : String} {ca : Nat → ClassId} {pc : Nat}
variable {y : MethodName} {cy : ByteArray} {my : Nat} {ret : Option FieldType} {rm : Room} {P : Int32 → Rl → Prop} {PV : Rl → Prop} {PX PY : String → Prop} {C : String} {idx : Nat} {mc ms : Nat}
theorem th_hat {cls : String} {ik ic : Nat} (hB : MB p s m args meth c cc own nL D ca SR A) (hT : TH ik ic cls) : ∀ w ∈ vx_atS RX5 ic cls xNM, w.before args s = true := by
  have hK := hB.2.2.2.2.2.1
  refine vx_hat (B := xBB cls) (fun w hw => ?_) (fun w hw => ?_) ?_
  · have h := List.all_eq_true.mp hT.2.2.2.1 w hw
    exact hB.2.2.2.2.1 w (List.mem_filter.mpr ⟨List.contains_iff_mem.mp h, (List.mem_filter.mp hw).2⟩)
  · exact List.contains_iff_mem.mp (List.all_eq_true.mp hT.2.2.2.2.1 w hw)
  · exact vx_c (va_Nw.use rfl (hK.2.2.2.1 cls hT.2.2.2.2.2.2)) (vx_c (va_Nw.use rfl (hK.2.2.2.2.2.2 _ (by simp [XDq]))) (vx_c (va_Nw.use rfl (hK.2.2.2.2.2.2 _ (by simp [XDq]))) (vx_c (va_Nw.use rfl (hK.2.2.2.2.2.2 _ (by simp [XDq]))) vx_n)))
theorem WW_ext {H H1 : Heap} (h : WW D ad cn A E H) (hq : ∀ q : Nat, q < H.size → H1[q]? = H[q]?) : WW D ad cn A E H1 := ⟨h.1, h.2.1, fun k i hi => (h.2.2 k i hi).kept (hq _ (h.2.2 k i hi).lt)⟩
theorem F_ext {H : Heap} {locs : List Loc} {t : State} (h2 : va_S A s.heap H locs) (h : H.size ≤ t.heap.size) (hq : ∀ q : Nat, q < H.size → t.heap[q]? = H[q]?) : va_F A s t := ⟨Nat.le_trans h2.1 h, fun q h3 h4 => (hq q (Nat.lt_of_lt_of_le h3 h2.1)).trans (h2.2.1 q h3 h4)⟩
abbrev QX (below : List Frame) (Qc : Array Value → State → Outcome → State → Prop) (PX : String → Prop) (D : va_G) (ad : Nat → Nat → Nat) (cn : Nat → Nat) (A : Nat → Prop) (E : Rl) (args : Array Value) (s : State) (mc ms : Nat) : State → Prop := vx_MQ below Qc (vx_X (S := Unit) (fun _ => True) (fun X _ t => PX X ∧ WW D ad cn A E t.heap) A) args s mc ms A
theorem g_throwS (hl : l.stackTraces = false) (hB : MB p s m args meth c cc RX5 nL D ca SR A) (hex : ∀ x ∈ c.exceptionTable.toList, False) {cls : String} {ik is ic : Nat} (text : String) (hT : TH ik ic cls) (hs : (RX5, is, text) ∈ SR)
    (d0 : decode cc pc = .ok (.new ik, 3)) (d3 : decode cc (pc + 3) = .ok (.dup, 1)) (d4 : decode cc (pc + 4) = .ok (.ldc is, 2)) (d6 : decode cc (pc + 6) = .ok (.invokespecial ic, 3)) (d9 : decode cc (pc + 9) = .ok (.athrow, 1))
    (hR : 6 ≤ R.frames ∧ 82 ≤ R.locals ∧ cells + 1 ≤ R.cells ∧ slots + 6 ≤ R.slots) (hc : cells + 1 ≤ mc ∧ slots + 6 ≤ ms) (hx : PX cls) :
    G p l e R s m args below meth c D ad A nL (QX below Qc PX D ad cn A E args s mc ms) cells slots cn E pc lvs [] := by
  intro H locs ls h1 h2 h3
  obtain ⟨sa, hsa⟩ := hB.2.2.2.2.2.1.2.2.1 _ hs
  exact vx_throwS hB.1 hB.2.1 hl (names := xNM) hB.2.2.2.1 hT.2.2.1 xNM_fit (hB.2.2.2.2.1 _ hT.1) (hB.2.2.2.2.1 _ hT.2.1) hsa (th_hat hB hT) (fun w hw => List.all_eq_true.mp hT.2.2.2.2.2.1 w hw) hB.2.2.2.2.2.2.2.1.1 hB.2.2.2.2.2.2.2.1.2 h2 (h3.1.trans hB.2.2.1.symm)
    d0 d3 d4 d6 d9 (fun x hx => (hex x hx).elim) (show 2 + 3 < R.frames from hR.1) (show 0 + (13 * (2 + 1) + 43) ≤ R.locals from hR.2.1) hR.2.2.1 hR.2.2.2 hB.2.2.2.2.2.2.2.2
    (fun t hvm hz hq => ⟨(), trivial, ⟨hx, WW_ext h1 hq⟩, F_ext h2 hz hq⟩) h2.2.2 hc.1 hc.2
theorem g_throwSW (hl : l.stackTraces = false) (hB : MB p s m args meth c cc RX5 nL D ca SR A) (hex : ∀ x ∈ c.exceptionTable.toList, False) {cls : String} {ik is ic : Nat} (text : String) (hT : TH ik ic cls) (hs : (RX5, is, text) ∈ SR)
    (d0 : decode cc pc = .ok (.new ik, 3)) (d3 : decode cc (pc + 3) = .ok (.dup, 1)) (d4 : decode cc (pc + 4) = .ok (.ldc_w is, 3)) (d7 : decode cc (pc + 7) = .ok (.invokespecial ic, 3)) (d10 : decode cc (pc + 10) = .ok (.athrow, 1))
    (hR : 6 ≤ R.frames ∧ 82 ≤ R.locals ∧ cells + 1 ≤ R.cells ∧ slots + 6 ≤ R.slots) (hc : cells + 1 ≤ mc ∧ slots + 6 ≤ ms) (hx : PX cls) :
    G p l e R s m args below meth c D ad A nL (QX below Qc PX D ad cn A E args s mc ms) cells slots cn E pc lvs [] := by
  intro H locs ls h1 h2 h3
  obtain ⟨sa, hsa⟩ := hB.2.2.2.2.2.1.2.2.1 _ hs
  exact vx_throwSW hB.1 hB.2.1 hl (names := xNM) hB.2.2.2.1 hT.2.2.1 xNM_fit (hB.2.2.2.2.1 _ hT.1) (hB.2.2.2.2.1 _ hT.2.1) hsa (th_hat hB hT) (fun w hw => List.all_eq_true.mp hT.2.2.2.2.2.1 w hw) hB.2.2.2.2.2.2.2.1.1 hB.2.2.2.2.2.2.2.1.2 h2 (h3.1.trans hB.2.2.1.symm)
    d0 d3 d4 d7 d10 (fun x hx => (hex x hx).elim) (show 2 + 3 < R.frames from hR.1) (show 0 + (13 * (2 + 1) + 43) ≤ R.locals from hR.2.1) hR.2.2.1 hR.2.2.2 hB.2.2.2.2.2.2.2.2
    (fun t hvm hz hq => ⟨(), trivial, ⟨hx, WW_ext h1 hq⟩, F_ext h2 hz hq⟩) h2.2.2 hc.1 hc.2
/-- a throw that leaves this method as well -/
theorem x_out (hB : MB p s m args meth c cc own nL D ca SR A) (hex : ∀ x ∈ c.exceptionTable.toList, False) {H : Heap} {locs1 : List Loc} {ls : Array Slot} {sz : Nat} (h1 : WW D ad cn A E H) {X : String} {ce : Cell} {q9 : Addr} {t : State} {H1 : Heap}
    (ht : t.heap = H1) (hb : WW D ad cn (AA ad cn sz) E t.heap) (hS1 : va_S A s.heap H1 locs1) (hce : H1[q9]? = some ce) (hcv : ce.vm = .none) (hcl : s.vm.findClass X = some ce.cls) (hc : cells ≤ mc) (hs : slots ≤ ms) (hx : PX X) :
    vx_W p l e R s m args below meth c H1 locs1 cells slots (QX below Qc PX D ad cn A E args s mc ms) (F0 m pc ls rest) q9 :=
  vx_out (fun x hx => (hex x hx).elim) hB.2.2.2.2.2.2.2.2 hce hcv hcl (fun t' ht' hW => ⟨(), trivial, ⟨hx, by show WW D ad cn A E t'.heap; rw [ht']; exact WW_back h1 hb ht⟩, hS1.F ht'⟩) hS1.2.2 hc hs
theorem g_callXVV (hB : MB p s m args meth c cc own nL D ca SR A) (hex : ∀ x ∈ c.exceptionTable.toList, False) {k i : Nat} (hc : CXV l y cy my ret rm D ad cn ca SR E (.ref (ad k i) :: As) PV PY) (hG : GoodIn Tw (wsV own idx C y (WS y cy my ret))) (hyC : y.cls = C) (hy : yOK y As.length) (hR : rm.frames + 1 ≤ R.frames ∧ 8 + (my + 11) + rm.locals ≤ R.locals) (hrecv : recv ad cn E C k i) (hst : st = As.reverse ++ .ref (ad k i) :: rest) (hw : (rest.map fun v => v.category).sum ≤ 8) (hcs : cells + rm.cells ≤ R.cells ∧ slots + rm.slots ≤ R.slots) (hdg : decode cc pc = .ok (.invokevirtual idx, 3))
    (hm : cells + rm.cells ≤ mc ∧ slots + rm.slots ≤ ms) (px : ∀ X, PY X → PX X) (kk : ∀ E', PV E' → G p l e R s m args below meth c D ad A nL (QX below Qc PX D ad cn A E args s mc ms) (cells + rm.cells) (slots + rm.slots) cn E' (pc + 3) lvs rest) : G p l e R s m args below meth c D ad A nL (QX below Qc PX D ad cn A E args s mc ms) cells slots cn E pc lvs st := by
  intro H locs ls h1 h2 h3
  have hsub := AA_sub hB h1 h2
  exact vx_callv (vx_runV (As := As) (rest := rest) ⟨hB.1, hB.2.1, hB.2.2.1, hB.2.2.2.1, hB.2.2.2.2.1⟩ (hc H.size) (cwV As.length hB.2.2.2.2.1 hG rfl rfl rfl ⟨hyC, hy⟩ hR) ⟨PP.blind, recv_at hB h1 hrecv, fun U hU hW => ⟨rfl, PP_at hB h1 h2 hU hW⟩⟩ rfl rfl h3.1 hst (lv_room (pc := pc) (m := m) (ls := ls) (rest := st) hw) hdg hcs) h2 (fun q _ h => hsub q h) hsub (fun q _ h => hsub q h)
    (fun X ce q9 u t H1 locs1 ht hvm _ hb hz hk hS1 hce hcv hcl => x_out hB hex h1 ht hb.2 hS1 hce hcv hcl hm.1 hm.2 (px X hb.1))
    (fun u t H1 locs1 ht hvm hp hb hz hk hS1 => kk u hp H1 locs1 ls (WW_back h1 hb ht) hS1 h3)
theorem g_callXVI (hB : MB p s m args meth c cc own nL D ca SR A) (hex : ∀ x ∈ c.exceptionTable.toList, False) {k i : Nat} (hc : CXI l y cy my ret rm D ad cn ca SR E (.ref (ad k i) :: As) P PY) (hG : GoodIn Tw (wsV own idx C y (WS y cy my ret))) (hyC : y.cls = C) (hy : yOK y As.length) (hR : rm.frames + 1 ≤ R.frames ∧ 8 + (my + 11) + rm.locals ≤ R.locals) (hrecv : recv ad cn E C k i) (hst : st = As.reverse ++ .ref (ad k i) :: rest) (hw : (rest.map fun v => v.category).sum ≤ 8) (hcs : cells + rm.cells ≤ R.cells ∧ slots + rm.slots ≤ R.slots) (hdg : decode cc pc = .ok (.invokevirtual idx, 3))
    (hm : cells + rm.cells ≤ mc ∧ slots + rm.slots ≤ ms) (px : ∀ X, PY X → PX X) (kk : ∀ r E', P r E' → G p l e R s m args below meth c D ad A nL (QX below Qc PX D ad cn A E args s mc ms) (cells + rm.cells) (slots + rm.slots) cn E' (pc + 3) lvs (.int r :: rest)) : G p l e R s m args below meth c D ad A nL (QX below Qc PX D ad cn A E args s mc ms) cells slots cn E pc lvs st := by
  intro H locs ls h1 h2 h3
  have hsub := AA_sub hB h1 h2
  exact vx_calli (vx_runV (As := As) (rest := rest) ⟨hB.1, hB.2.1, hB.2.2.1, hB.2.2.2.1, hB.2.2.2.2.1⟩ (hc H.size) (cwV As.length hB.2.2.2.2.1 hG rfl rfl rfl ⟨hyC, hy⟩ hR) ⟨PP.blind, recv_at hB h1 hrecv, fun U hU hW => ⟨rfl, PP_at hB h1 h2 hU hW⟩⟩ rfl rfl h3.1 hst (lv_room (pc := pc) (m := m) (ls := ls) (rest := st) hw) hdg hcs) h2 (fun q _ h => hsub q h) hsub (fun q _ h => hsub q h)
    (fun X ce q9 u t H1 locs1 ht hvm _ hb hz hk hS1 hce hcv hcl => x_out hB hex h1 ht hb.2 hS1 hce hcv hcl hm.1 hm.2 (px X hb.1))
    (fun r u t H1 locs1 ht hvm hp hb hz hk hS1 => kk r u hp H1 locs1 ls (WW_back h1 hb ht) hS1 h3)
theorem g_callXSV (hB : MB p s m args meth c cc own nL D ca SR A) (hex : ∀ x ∈ c.exceptionTable.toList, False) (hc : CXV l y cy my ret rm D ad cn ca SR E As PV PY) (hG : GoodIn Tw (va_wsS own idx y (WS y cy my ret))) (hy : yOK y As.length) (hR : rm.frames + 1 ≤ R.frames ∧ 8 + (my + 11) + rm.locals ≤ R.locals) (hst : st = As.reverse ++ rest) (hw : (rest.map fun v => v.category).sum ≤ 8) (hcs : cells + rm.cells ≤ R.cells ∧ slots + rm.slots ≤ R.slots) (hdg : decode cc pc = .ok (.invokestatic idx, 3))
    (hm : cells + rm.cells ≤ mc ∧ slots + rm.slots ≤ ms) (px : ∀ X, PY X → PX X) (kk : ∀ E', PV E' → G p l e R s m args below meth c D ad A nL (QX below Qc PX D ad cn A E args s mc ms) (cells + rm.cells) (slots + rm.slots) cn E' (pc + 3) lvs rest) : G p l e R s m args below meth c D ad A nL (QX below Qc PX D ad cn A E args s mc ms) cells slots cn E pc lvs st := by
  intro H locs ls h1 h2 h3
  have hsub := AA_sub hB h1 h2
  exact vx_callv (vx_runS (As := As) (rest := rest) ⟨hB.1, hB.2.1, hB.2.2.1, hB.2.2.2.1, hB.2.2.2.2.1⟩ (hc H.size) (va_cwS As.length hB.2.2.2.2.1 hG rfl rfl rfl hy hR) ⟨PP.blind, fun U hU hW => ⟨rfl, PP_at hB h1 h2 hU hW⟩⟩ rfl rfl h3.1 hst (lv_room (pc := pc) (m := m) (ls := ls) (rest := st) hw) hdg hcs) h2 (fun q _ h => hsub q h) hsub (fun q _ h => hsub q h)
    (fun X ce q9 u t H1 locs1 ht hvm _ hb hz hk hS1 hce hcv hcl => x_out hB hex h1 ht hb.2 hS1 hce hcv hcl hm.1 hm.2 (px X hb.1))
    (fun u t H1 locs1 ht hvm hp hb hz hk hS1 => kk u hp H1 locs1 ls (WW_back h1 hb ht) hS1 h3)
end GX
