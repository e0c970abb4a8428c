/-! the law: a cell of the script, or what stands for it behind its end -/
section CELL
variable {p : Program} {l : Launch} {e : Env} {R : Room} {s : State} {m : MethodId} {args : Array Value} {below : List Frame} {meth : Method} {c : Code} {D : va_G} {ad : Nat → Nat → Nat} {A : Nat → Prop} {nL : Nat} {Q : State → Prop} {cells slots : Nat} {cn : Nat → Nat} {E : Rl} {lvs : List (Nat × Value)} {st rest : List Value} {cc : ByteArray} {own : String} {ca : Nat → ClassId} {pc : Nat} {SR : List (String × Nat × String)} {b L : Nat} {xs : Nat → Int32}
theorem g_sld (hB : MB p s m args meth c cc own nL D ca SR A) (hX : va_X b L xs s s.heap) (hbl : b < s.heap.size) (hbA : ¬ A b) (j : Nat) (hj : j < L) (hL : L < 2 ^ 31) (hdg : decode cc pc = .ok (.iaload, 1)) (kk : G p l e R s m args below meth c D ad A nL Q cells slots cn E (pc + 1) lvs (.int (xs j) :: st)) : G p l e R s m args below meth c D ad A nL Q cells slots cn E pc lvs (.int (nI j) :: .ref b :: st) := by
  intro H locs ls h1 h2 h3
  refine va_sld hB.1 hB.2.1 hX hbl hbA h2 (vp_in_nI hj hL) hdg ?_
  rw [nI_clamp (by omega)]
  exact kk H locs ls h1 h2 h3
theorem g_slen (hB : MB p s m args meth c cc own nL D ca SR A) (hX : va_X b L xs s s.heap) (hbl : b < s.heap.size) (hbA : ¬ A b) (hdg : decode cc pc = .ok (.arraylength, 1)) (kk : G p l e R s m args below meth c D ad A nL Q cells slots cn E (pc + 1) lvs (.int (nI L) :: st)) : G p l e R s m args below meth c D ad A nL Q cells slots cn E pc lvs (.ref b :: st) :=
  fun H locs ls h1 h2 h3 => va_slen hB.1 hB.2.1 hX hbl hbA h2 hdg (kk H locs ls h1 h2 h3)
theorem cell_G {rm : Room} (hB : MB p s m args meth c cL_cell RL 2 D ca SR A) (hr : meth.sig.returnType = some .int) (hX : va_X b L xs s s.heap) (hbl : b < s.heap.size) (hbA : ¬ A b) (hL : L ≤ 260) {i : Nat} (hi : i < 90) : G p l e rm s m args below meth c D ad A 2 (MQ below (va_Qi (fun _ E' => E' = E) (fun E' t => WW D ad cn A E' t.heap) A) args s 0 0 A) 0 0 cn E 0 [(0, .ref b), (1, .int (nI i))] [] := by
  refine g_iload_n hB 1 dL_cell_0 rfl rfl ?_
  refine g_aload_n hB 0 dL_cell_1 rfl rfl ?_
  refine g_slen hB hX hbl hbA dL_cell_2 ?_
  refine n_icmp_ge hB i L 12 dL_cell_3 (by decide) (by omega) (by omega) (fun c_3 => ?_) (fun c_3 => ?_)
  · refine g_ldc hB (52757) tw_ct_L_7 dL_cell_12 ?_
    refine g_iload_n hB 1 dL_cell_14 rfl rfl ?_
    refine g_bipush hB (nI 27) dL_cell_15 rfl ?_
    refine g_iadd hB dL_cell_17 ?_
    refine g_imul hB dL_cell_18 ?_
    refine g_ldc hB (2004163) tw_ct_L_8 dL_cell_19 ?_
    refine g_iadd hB dL_cell_21 ?_
    exact g_iret hB hr rfl (Nat.le_refl _) (Nat.le_refl _) rfl dL_cell_22
  · refine g_aload_n hB 0 dL_cell_6 rfl rfl ?_
    refine g_iload_n hB 1 dL_cell_7 rfl rfl ?_
    refine g_sld hB hX hbl hbA i (by omega) (by omega) dL_cell_8 ?_
    refine g_goto hB 22 dL_cell_9 (by decide) ?_
    exact g_iret hB hr rfl (Nat.le_refl _) (Nat.le_refl _) rfl dL_cell_22
def PPX (D : va_G) (ad : Nat → Nat → Nat) (cn : Nat → Nat) (ca : Nat → ClassId) (SR : List (String × Nat × String)) (E : Rl) (b L : Nat) (xs : Nat → Int32) (sz : Nat) (U : State) : Prop := PP D ad cn ca SR E sz U ∧ va_X b L xs U U.heap ∧ b < U.heap.size ∧ ¬ AA ad cn sz b
theorem PPX_blind {sz : Nat} {av : List Value} : FrameBlind (va_Pc av (PPX D ad cn ca SR E b L xs sz)) := by
  intro a U g mk h
  obtain ⟨h0, h1, h2, h3, h4⟩ := h
  exact ⟨h0, (PP.blind (av := av) a U g mk ⟨h0, h1⟩).2, h2.moved (Vm.Alike.refl U.vm), h3, h4⟩
theorem c_L_cell (hL : L ≤ 260) {i : Nat} (hi : i < 90) (sz : Nat) : Met l yL_cell (WS yL_cell cL_cell 2 (some .int)) { frames := 0, cells := 0, slots := 0, locals := 0 } (va_Pc [.ref b, .int (nI i)] (PPX D ad cn ca SR E b L xs sz)) (va_Qi (fun _ E' => E' = E) (fun E' t => WW D ad cn (AA ad cn sz) E' t.heap) (AA ad cn sz)) 0 0 (AA ad cn sz) := by
  refine Met.ofW (cc := cL_cell) (maxL := 2) (ret := some .int) (by decide +kernel) rfl ?_
  intro p e s m args below meth c s1 B hml hv
  obtain ⟨rfl, hpp, hX, hbl, hbA⟩ := hv
  have hts := atoms_spec (ws := WS yL_cell cL_cell 2 (some .int)) B.pre
  have hown : s.vm.findClass RL = some m.cls := findClass_of_methodNamed B.named
  have hB := MB.of (av := [.ref b, .int (nI i)]) B (fun w hw => hts w (List.mem_cons_of_mem _ hw)) hown hml hpp
  obtain ⟨h0, h1, h2, h3⟩ := hpp
  subst h0
  rw [lg_entry_eq]
  exact cell_G hB B.returns hX hbl hbA hL hi s.heap [] _ h1 va_S.rf (lv_entry [.ref b, .int (nI i)] (Nat.le_of_ble_eq_true rfl))
theorem g_cell (hB : MB p s m args meth c cc RL nL D ca SR A) (hX : va_X b L xs s s.heap) (hbl : b < s.heap.size) (hbA : ¬ A b) (hL : L ≤ 260) {i : Nat} (hi : i < 90) (hR : 1 ≤ R.frames ∧ 8 + (2 + 11) + 0 ≤ R.locals) (hw : (rest.map fun v => v.category).sum ≤ 8) (hcs : cells + 0 ≤ R.cells ∧ slots + 0 ≤ R.slots) (hdg : decode cc pc = .ok (.invokestatic 172, 3))
    (kk : ∀ r, G p l e R s m args below meth c D ad A nL Q cells slots cn E (pc + 3) lvs (.int r :: rest)) : G p l e R s m args below meth c D ad A nL Q cells slots cn E pc lvs (.int (nI i) :: .ref b :: rest) := by
  intro H locs ls h1 h2 h3
  have hsub := AA_sub hB h1 h2
  have hXH : va_X b L xs s H := hX.kept (h2.2.1 b hbl hbA)
  exact va_calli (va_runS (As := [.ref b, .int (nI i)]) (rest := rest) ⟨hB.1, hB.2.1, hB.2.2.1, hB.2.2.2.1, hB.2.2.2.2.1⟩ (c_L_cell (D := D) (ad := ad) (cn := cn) (ca := ca) (SR := SR) (E := E) (b := b) (L := L) (xs := xs) hL hi H.size) (va_cwS 2 hB.2.2.2.2.1 k_L_172 rfl rfl rfl yk_L_cell hR) ⟨PPX_blind, fun U hU hW => ⟨rfl, PP_at hB h1 h2 hU hW, by rw [hU]; exact hXH.moved hW.alike, by rw [hU]; exact Nat.lt_of_lt_of_le hbl h2.1, fun z => hbA (hsub b z)⟩⟩ rfl rfl h3.1 rfl (lv_room (pc := pc) (m := m) (ls := ls) (rest := .int (nI i) :: .ref b :: rest) hw) hdg hcs) h2 (fun q _ h => hsub q h) hsub
    (fun r u t H1 locs1 ht hvm hp hb hz hk hS1 => by subst hp; exact kk r H1 locs1 ls (WW_back h1 hb ht) hS1 h3)
end CELL
