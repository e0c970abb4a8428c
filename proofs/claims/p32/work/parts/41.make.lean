/-! making: new cells get roles; addresses ad and counts cn grow -/
def adU (ad : Nat → Nat → Nat) (k i q : Nat) : Nat → Nat → Nat := fun k' i' => if k' = k ∧ i' = i then q else ad k' i'
def cnU (cn : Nat → Nat) (k n : Nat) : Nat → Nat := fun k' => if k' = k then n else cn k'
theorem adU_s {ad : Nat → Nat → Nat} {k i q : Nat} : adU ad k i q k i = q := if_pos ⟨rfl, rfl⟩
theorem adU_n {ad : Nat → Nat → Nat} {k i q k' i' : Nat} (h : ¬ (k' = k ∧ i' = i)) : adU ad k i q k' i' = ad k' i' := if_neg h
theorem cnU_s {cn : Nat → Nat} {k n : Nat} : cnU cn k n k = n := if_pos rfl
theorem cnU_n {cn : Nat → Nat} {k n k' : Nat} (h : k' ≠ k) : cnU cn k n k' = cn k' := if_neg h
theorem WW.push {D : va_G} {ad : Nat → Nat → Nat} {cn : Nat → Nat} {A : Nat → Prop} {E : Rl} {H H1 : Heap} {k i : Nat} {x : va_E} (h : WW D ad cn A E H) (hi : cn k = i) (hA : A H.size) (he : va_at D vwCl (H.size, x) H1) (o : ∀ q : Nat, q < H.size → H1[q]? = H[q]?) : WW D (adU ad k i H.size) (cnU cn k (i + 1)) A (uE E k i x) H1 := by
  have lt : ∀ k1 i1, i1 < cn k1 → ad k1 i1 < H.size := fun k1 i1 h1 => (h.2.2 k1 i1 h1).lt
  have role : ∀ k1 i1, i1 < cnU cn k (i + 1) k1 → (k1 = k ∧ i1 = i) ∨ (¬ (k1 = k ∧ i1 = i) ∧ i1 < cn k1) := by
    intro k1 i1 h1
    unfold cnU at h1
    by_cases hk : k1 = k
    · rw [if_pos hk] at h1
      rcases Nat.lt_or_ge i1 i with z | z
      · exact Or.inr ⟨fun y => by omega, by rw [hk]; omega⟩
      · exact Or.inl ⟨hk, by omega⟩
    · rw [if_neg hk] at h1
      exact Or.inr ⟨fun y => hk y.1, h1⟩
  refine ⟨fun k1 i1 k2 i2 h1 h2 e => ?_, fun k1 i1 h1 => ?_, fun k1 i1 h1 => ?_⟩
  · rcases role k1 i1 h1 with ⟨rfl, rfl⟩ | ⟨a1, a2⟩ <;> rcases role k2 i2 h2 with ⟨rfl, rfl⟩ | ⟨b1, b2⟩
    · exact ⟨rfl, rfl⟩
    · rw [adU_s, adU_n b1] at e
      have := lt _ _ b2; omega
    · rw [adU_s, adU_n a1] at e
      have := lt _ _ a2; omega
    · rw [adU_n a1, adU_n b1] at e
      exact h.1 _ _ _ _ a2 b2 e
  · rcases role k1 i1 h1 with ⟨rfl, rfl⟩ | ⟨a1, a2⟩
    · rw [adU_s]; exact hA
    · rw [adU_n a1]; exact h.2.1 _ _ a2
  · rcases role k1 i1 h1 with ⟨rfl, rfl⟩ | ⟨a1, a2⟩
    · rw [adU_s, uE_s]; exact he
    · rw [adU_n a1, uE_n a1]; exact (h.2.2 k1 i1 a2).kept (o _ (lt _ _ a2))
theorem S_push {A : Nat → Prop} {H0 H H1 : Heap} {locs : List Loc} (h : va_S A H0 H locs) (z : H1.size = H.size + 1) (o : ∀ q : Nat, q < H.size → H1[q]? = H[q]?) : va_S A H0 H1 locs := ⟨Nat.le_trans h.1 (by omega), fun x h1 h2 => (o x (Nat.lt_of_lt_of_le h1 h.1)).trans (h.2.1 x h1 h2), h.2.2⟩
section GN
variable {p : Program} {l : Launch} {e : Env} {R : Room} {s : State} {m : MethodId} {args : Array Value} {below : List Frame} {meth : Method} {c : Code} {D : va_G} {ad : Nat → Nat → Nat} {A : Nat → Prop} {nL : Nat} {Q : State → Prop} {cells slots : Nat} {cn : Nat → Nat} {E : Rl} {lvs : List (Nat × Value)} {st rest As : List Value} {cc : ByteArray} {own : String} {ca : Nat → ClassId} {pc : Nat} {SR : List (String × Nat × String)}
variable {y : MethodName} {cy : ByteArray} {my : Nat} {rm : Room} {idx : Nat} {mc ms : Nat} {cn' : Nat → Nat} {P : (Nat → Nat → Nat) → Rl → Prop}
theorem g_newa (hB : MB p s m args meth c cc own nL D ca SR A) (k i N : Nat) (hi : cn k = i) (hN : N ≤ 1000) (hdg : decode cc pc = .ok (.newarray .int, 2)) (hr : cells + 1 ≤ R.cells ∧ slots + N ≤ R.slots)
    (kk : ∀ q, G p l e R s m args below meth c D (adU ad k i q) A nL Q (cells + 1) (slots + N) (cnU cn k (i + 1)) (uE E k i (.inl (ca 0, N, .inl (fun _ => 0)))) (pc + 2) lvs (.ref q :: st)) : G p l e R s m args below meth c D ad A nL Q cells slots cn E pc lvs (.int (nI N) :: st) := by
  intro H locs ls h1 h2 h3
  refine va_newaK (atype := .int) hB.1 hB.2.1 (hB.2.2.2.2.1 _ tw_ac_int) (g := F0 m pc ls (.int (nI N) :: st)) rfl hdg rfl (by rw [i32_lt, toInt_nI (by omega)]; have z : (0 : Int32).toInt = 0 := rfl; omega) (nI_clamp (by omega)) (by show N * 4 ≤ _; omega) hr.1 hr.2 rfl fun H1 cA e1 z1 o1 hAr hNm => ?_
  have hca : ca 0 = cA := Option.some.inj (((hB.2.2.2.2.2.1.1.2 0 (ca 0, .int) rfl).2).symm.trans hNm)
  exact kk H.size H1 locs ls (h1.push hi (hB.2.2.2.2.2.2.1 _ h2.1) (by show H1[H.size]? = some (vp_cell _ _); rw [vp_cell_i, hca]; exact e1) o1) (S_push h2 z1 o1) h3
theorem g_newq (hB : MB p s m args meth c cc own nL D ca SR A) (k i N t0 : Nat) {C : String} (hi : cn k = i) (hN : N ≤ 1000) (ht : (TYS ca)[t0]? = some (ca t0, .object C)) (hAO : C ∈ AOq) (hcl : Cond.classLink own idx C ∈ Tw) (hdg : decode cc pc = .ok (.anewarray idx, 3)) (hr : cells + 1 ≤ R.cells ∧ slots + N ≤ R.slots)
    (kk : ∀ q, G p l e R s m args below meth c D (adU ad k i q) A nL Q (cells + 1) (slots + N) (cnU cn k (i + 1)) (uE E k i (.inl (ca t0, N, .inr (.inr (.inr (.inr (fun _ => none))))))) (pc + 3) lvs (.ref q :: st)) : G p l e R s m args below meth c D ad A nL Q cells slots cn E pc lvs (.int (nI N) :: st) := by
  intro H locs ls h1 h2 h3
  have hcN : (nI N).toNatClampNeg = N := nI_clamp (by omega)
  refine W.anew hB.1 hB.2.1 hB.2.2.2.1 (hB.2.2.2.2.1 _ hcl) (va_AO.use (hB.2.2.2.2.2.1.2.2.2.2.2.1 C hAO)) (g := F0 m pc ls (.int (nI N) :: st)) rfl hdg rfl (by rw [i32_lt, toInt_nI (by omega)]; have z : (0 : Int32).toInt = 0 := rfl; omega) (by rw [hcN]; omega) hr.1 (by rw [hcN]; exact hr.2) fun cA kA comp f1 f2 f3 f4 => ?_
  have hRA : va_RA s (ca t0) (.object C) := (hB.2.2.2.2.2.1.1.2 t0 _ ht).2
  obtain ⟨kA', comp', g1, g2, g3, g4⟩ := hRA
  have hca : ca t0 = cA := Option.some.inj (g4.symm.trans f1)
  rw [hcN]
  refine kk H.size _ locs ls (h1.push hi (hB.2.2.2.2.2.2.1 _ h2.1) ?_ ?_) (S_push h2 (by rw [Array.size_push]) ?_) h3
  · show _ = some (vp_cell _ _)
    rw [vp_cell_q, hca, Array.getElem?_push_size]
    exact congrArg some (arrV_new cA N .null)
  · intro q hq; rw [Array.getElem?_push, if_neg (Nat.ne_of_lt hq)]
  · intro q hq; rw [Array.getElem?_push, if_neg (Nat.ne_of_lt hq)]
theorem g_newo (hB : MB p s m args meth c cc own nL D ca SR A) {C : String} {T : u_T} {N ci : Nat} (hin : ∀ w ∈ u_ws C T N, w ∈ Tw) (hc : vwCl[ci]? = some (C, T, N)) (ty : Nat → FieldType) (hty : ∀ k, k < N → parseFieldDescriptor (T k).2.2.1 = some (ty k)) (k i : Nat) (hi : cn k = i) (fs : List Value) (hfs : ∀ j, j < N → defaultValue (ty j) = vp_V fs j) (hcl : Cond.classLink own idx C ∈ Tw) (hins : Cond.instantiable C N ∈ Tw) (hini : Cond.initialized C ∈ Tw)
    (hdg : decode cc pc = .ok (.new idx, 3)) (hr : cells + 1 ≤ R.cells ∧ slots + N ≤ R.slots)
    (kk : ∀ q, G p l e R s m args below meth c D (adU ad k i q) A nL Q (cells + 1) (slots + N) (cnU cn k (i + 1)) (uE E k i (.inr (ci, fs))) (pc + 3) lvs (.ref q :: st)) : G p l e R s m args below meth c D ad A nL Q cells slots cn E pc lvs st := by
  intro H locs ls h1 h2 h3
  have hKn := hB.2.2.2.2.2.1.1.1 ci _ hc
  refine W.newcK hB.1 hB.2.1 hB.2.2.2.1 (hB.2.2.2.2.1 _ hcl) (hB.2.2.2.2.1 _ hins) (hB.2.2.2.2.1 _ hini) (g := F0 m pc ls st) rfl hdg hr.1 hr.2 hKn.2.1 rfl fun H1 kC hkC e1 z1 o1 => ?_
  exact kk H.size H1 locs ls (h1.push hi (hB.2.2.2.2.2.2.1 _ h2.1) ⟨_, hc, (u_born ty hB.2.2.2.2.1 hin hKn hkC e1 hty).to hfs⟩ o1) (S_push h2 z1 o1) h3
theorem g_aast (hB : MB p s m args meth c cc own nL D ca SR A) (k i k2 i2 t0 ci j : Nat) {r : vw_C} {n : Nat} {f : Nat → Option Nat} {vs : List Value} (hi : i < cn k) (hi2 : i2 < cn k2) (hE : E k i = .inl (ca t0, n, .inr (.inr (.inr (.inr f))))) (hE2 : E k2 i2 = .inr (ci, vs)) (ht : (TYS ca)[t0]? = some (ca t0, .object r.1)) (hc : vwCl[ci]? = some r) (hj : j < n) (hn : n < 2 ^ 31) (hdg : decode cc pc = .ok (.aastore, 1))
    (kk : G p l e R s m args below meth c D ad A nL Q cells slots cn (uE E k i (.inl (ca t0, n, .inr (.inr (.inr (.inr (va_up f j (some (ad k2 i2)))))))) ) (pc + 1) lvs st) : G p l e R s m args below meth c D ad A nL Q cells slots cn E pc lvs (.ref (ad k2 i2) :: .int (nI j) :: .ref (ad k i) :: st) := by
  intro H locs ls h1 h2 h3
  have ha := h1.2.2 k i hi
  rw [hE] at ha
  have hv := h1.2.2 k2 i2 hi2
  rw [hE2] at hv
  obtain ⟨r', hr', cellV, g1, g2, g3, -⟩ := hv
  have hK := hB.2.2.2.2.2.1.1
  have hcls := (hK.1 ci r hc).2
  obtain ⟨kA, comp, k1, k2', k3, -⟩ := (hK.2 t0 _ ht).2
  have hcomp : comp = D.1 ci := Option.some.inj (k3.symm.trans hcls.1)
  subst hcomp
  obtain ⟨kC, hkC, -⟩ := hcls.2
  have hjc : (nI j).toNatClampNeg = j := nI_clamp (by omega)
  refine W.aast hB.1 hB.2.1 ha (fun q h => by cases h) (fun h => by cases h) k1 k2' rfl hkC ⟨by rw [i32_lt, toInt_nI (by omega)]; have z : (0 : Int32).toInt = 0 := rfl; omega, by show _ < (arrV _ _ _).slots.size; rw [arrV_size, hjc]; exact hj⟩ g1 (fun q h => by rw [g3] at h; cases h) (by rw [g2]; exact hkC) (by rw [g2]; exact va_assign hcls) (g := F0 m pc ls (.ref (ad k2 i2) :: .int (nI j) :: .ref (ad k i) :: st)) rfl rfl hdg fun H1 e z oq => ?_
  refine kk H1 _ ls (h1.put hi ?_ oq) (h2.put z oq (h1.2.1 k i hi)) h3
  show H1[ad k i]? = some (vp_cell _ _)
  rw [e, vp_cell_q, vp_cell_q, arrV_store, hjc]
  congr 2
  funext q
  by_cases hq : q = j
  · subst hq
    simp [updV, va_up, va_rf]
  · simp [updV, va_up, hq]
theorem g_oinit (hB : MB p s m args meth c cc own nL D ca SR A) {a : Nat} (hl : Cond.methodLink own idx Lib.objectInit ∈ Tw) (hi : Cond.instanceMethod Lib.objectInit ∈ Tw) (hc : Cond.code Lib.objectInit ⟨#[0xb1]⟩ 1 none ∈ Tw) (hdg : decode cc pc = .ok (.invokespecial idx, 3)) (hR : 1 ≤ R.frames ∧ 12 ≤ R.locals)
    (kk : G p l e R s m args below meth c D ad A nL Q cells slots cn E (pc + 3) lvs []) : G p l e R s m args below meth c D ad A nL Q cells slots cn E pc lvs [.ref a] := by
  intro H locs ls h1 h2 h3
  exact W.objInit hB.1 hB.2.1 hB.2.2.2.1 (hB.2.2.2.2.1 _ hl) (hB.2.2.2.2.1 _ hi) (hB.2.2.2.2.1 _ hc) (g := F0 m pc ls [.ref a]) rfl (h3.1.trans hB.2.2.1.symm) rfl hdg hR.1 hR.2 (kk H locs ls h1 h2 h3)
/-- a constructor: the world grows to cn' -/
def CN (l : Launch) (y : MethodName) (cc : ByteArray) (maxL : Nat) (rm : Room) (D : va_G) (ad : Nat → Nat → Nat) (cn : Nat → Nat) (ca : Nat → ClassId) (SR : List (String × Nat × String)) (E : Rl) (av : List Value) (cn' : Nat → Nat) (P : (Nat → Nat → Nat) → Rl → Prop) : Prop :=
  ∀ sz, Met l y (WS y cc maxL none) rm (va_Pc av (PP D ad cn ca SR E sz)) (va_Qv (fun u : (Nat → Nat → Nat) × Rl => P u.1 u.2) (fun u t => WW D u.1 cn' (AA ad cn sz) u.2 t.heap) (AA ad cn sz)) rm.cells rm.slots (AA ad cn sz)
abbrev QN (below : List Frame) (P : (Nat → Nat → Nat) → Rl → Prop) (D : va_G) (cn' : Nat → Nat) (A : Nat → Prop) (args : Array Value) (s : State) (mc ms : Nat) : State → Prop := MQ below (va_Qv (fun u : (Nat → Nat → Nat) × Rl => P u.1 u.2) (fun u t => WW D u.1 cn' A u.2 t.heap) A) args s mc ms A
theorem CN.of (av : List Value) (own : String) (hy : plainName y.cls = true) (ho : y.cls = own) (hav : (lg_sl av).length ≤ my)
    (body : ∀ p e s m args below meth c A, MB p s m args meth c cy own my D ca SR A → meth.sig.returnType = none → meth.name = y.name → G p l e rm s m args below meth c D ad A my (QN below P D cn' A args s rm.cells rm.slots) 0 0 cn E 0 (lv_args 0 av) []) : CN l y cy my rm D ad cn ca SR E av cn' P := by
  intro sz
  refine Met.ofW (cc := cy) (maxL := my) (ret := none) hy rfl ?_
  intro p e s m args below meth c s1 B hml hv
  obtain ⟨rfl, hpp⟩ := hv
  have hts := atoms_spec (ws := WS y cy my none) B.pre
  have hown : s.vm.findClass own = some m.cls := by rw [← ho]; exact findClass_of_methodNamed B.named
  have hB := MB.of (av := av) B (fun w hw => hts w (List.mem_cons_of_mem _ hw)) hown hml hpp
  obtain ⟨h0, h1, h2, h3⟩ := hpp
  subst h0
  rw [lg_entry_eq]
  exact body p e s m _ below meth c _ hB B.returns (name_of_methodNamed B.named B.method).1 s.heap [] _ h1 va_S.rf (lv_entry av hav)
theorem g_nret (hB : MB p s m args meth c cc own nL D ca SR A) (hr : meth.sig.returnType = none) (hc : cells ≤ mc) (hs : slots ≤ ms) (hP : P ad E) (hdg : decode cc pc = .ok (.return_, 1)) :
    G p l e R s m args below meth c D ad A nL (QN below P D cn A args s mc ms) cells slots cn E pc lvs [] := by
  intro H locs ls h1 h2 h3
  refine W.widen hc hs ?_
  exact W.vret hB.1 hB.2.1 hr (fun t ht hW => ⟨⟨(ad, E), rfl, hP, by show WW D ad cn A E t.heap; rw [ht]; exact h1⟩, h2.F ht⟩) h2.2.2 hdg hB.2.2.2.2.2.2.2.2
theorem WW_backN {H1 : Heap} {A' : Nat → Prop} {t : State} {E' : Rl} {ad' : Nat → Nat → Nat} (hb : WW D ad' cn' A' E' t.heap) (hs : ∀ q, A' q → A q) (ht : t.heap = H1) : WW D ad' cn' A E' H1 := ⟨hb.1, fun k i hi => hs _ (hb.2.1 k i hi), by rw [← ht]; exact hb.2.2⟩
theorem g_callN (hB : MB p s m args meth c cc own nL D ca SR A) {a : Nat} (hc : CN l y cy my rm D ad cn ca SR E (.ref a :: As) cn' P) (hG : GoodIn Tw (WS y cy my none)) (hini : Cond.initialized y.cls ∈ Tw) (hl : Cond.methodLink own idx y ∈ Tw) (hin : Cond.instanceMethod y ∈ Tw) (hy1 : y.name = "<init>") (hy : yOK y As.length) (hR : rm.frames + 1 ≤ R.frames ∧ 8 + (my + 11) + rm.locals ≤ R.locals) (hst : st = As.reverse ++ .ref a :: rest) (hw : (rest.map fun v => v.category).sum ≤ 8) (hcs : cells + rm.cells ≤ R.cells ∧ slots + rm.slots ≤ R.slots) (hdg : decode cc pc = .ok (.invokespecial idx, 3))
    (kk : ∀ ad' E', P ad' E' → G p l e R s m args below meth c D ad' A nL Q (cells + rm.cells) (slots + rm.slots) cn' E' (pc + 3) lvs rest) : G p l e R s m args below meth c D ad A nL Q cells slots cn E pc lvs st := by
  intro H locs ls h1 h2 h3
  have hsub := AA_sub hB h1 h2
  exact va_callv (va_runI (As := As) (rest := rest) ⟨hB.1, hB.2.1, hB.2.2.1, hB.2.2.2.1, hB.2.2.2.2.1⟩ (hc H.size) (cwI As.length hB.2.2.2.2.1 hG rfl rfl rfl (hB.2.2.2.2.1 _ hini) (hB.2.2.2.2.1 _ hl) (hB.2.2.2.2.1 _ hin) hy1 hy hR) ⟨PP.blind, fun U hU hW => ⟨rfl, PP_at hB h1 h2 hU hW⟩⟩ rfl rfl h3.1 hst (lv_room (pc := pc) (m := m) (ls := ls) (rest := st) hw) hdg hcs) h2 (fun q _ h => hsub q h) hsub
    (fun u t H1 locs1 ht hvm hp hb hz hk hS1 => kk u.1 u.2 hp H1 locs1 ls (WW_backN hb hsub ht) hS1 h3)
theorem g_callNN (hB : MB p s m args meth c cc own nL D ca SR A) {a : Nat} {host : String} (hc : CN l y cy my rm D ad cn ca SR E (.ref a :: As) cn' P) (hG : GoodIn Tw (WS y cy my none)) (hini : Cond.initialized y.cls ∈ Tw) (hN : (own, idx, y, host) ∈ NWq) (hin : Cond.instanceMethod y ∈ Tw) (hy1 : y.name = "<init>") (hy : yOK y As.length) (hR : rm.frames + 1 ≤ R.frames ∧ 8 + (my + 11) + rm.locals ≤ R.locals) (hst : st = As.reverse ++ .ref a :: rest) (hw : (rest.map fun v => v.category).sum ≤ 8) (hcs : cells + rm.cells ≤ R.cells ∧ slots + rm.slots ≤ R.slots) (hdg : decode cc pc = .ok (.invokespecial idx, 3))
    (kk : ∀ ad' E', P ad' E' → G p l e R s m args below meth c D ad' A nL Q (cells + rm.cells) (slots + rm.slots) cn' E' (pc + 3) lvs rest) : G p l e R s m args below meth c D ad A nL Q cells slots cn E pc lvs st := by
  intro H locs ls h1 h2 h3
  have hsub := AA_sub hB h1 h2
  exact va_callv (va_runIN (host := host) (As := As) (rest := rest) ⟨hB.1, hB.2.1, hB.2.2.1, hB.2.2.2.1, hB.2.2.2.2.1⟩ (hc H.size) ⟨va_cnB As.length hB.2.2.2.2.1 hG rfl rfl rfl (hB.2.2.2.2.2.1.2.1 _ hN) (hB.2.2.2.2.1 _ hini) hy hR, hy1, hB.2.2.2.2.1 _ hin⟩ ⟨PP.blind, fun U hU hW => ⟨rfl, PP_at hB h1 h2 hU hW⟩⟩ rfl rfl h3.1 hst (lv_room (pc := pc) (m := m) (ls := ls) (rest := st) hw) hdg hcs) h2 (fun q _ h => hsub q h) hsub
    (fun u t H1 locs1 ht hvm hp hb hz hk hS1 => kk u.1 u.2 hp H1 locs1 ls (WW_backN hb hsub ht) hS1 h3)
end GN
