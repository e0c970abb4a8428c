/-! the law: the script, the switch, the helpers' calls -/
section GL
variable {p : Program} {l : Launch} {e : Env} {R : Room} {s : State} {m : MethodId} {args : Array Value} {below : List Frame} {meth : Method} {c : Code} {D : va_G} {ad : Nat → Nat → Nat} {A : Nat → Prop} {nL : Nat} {Q : State → Prop} {cells slots : Nat} {cn : Nat → Nat} {E : Rl} {lvs : List (Nat × Value)} {st rest As : List Value} {cc : ByteArray} {own : String} {ca : Nat → ClassId} {pc : Nat} {SR : List (String × Nat × String)}
variable {y : MethodName} {cy : ByteArray} {my : Nat} {ret : Option FieldType} {rm : Room} {P : Int32 → Rl → Prop} {idx : Nat} {hh : List (Nat × Nat × Nat × Nat)} {b L : Nat} {xs : Nat → Int32}
theorem g_sld (hB : MB p s m args meth c cc own nL D ca SR A) (hX : va_X b L xs s s.heap) (hbl : b < s.heap.size) (hbA : ¬ A b) (j : Nat) (hj : j < L) (hL : L < 2 ^ 31) (hdg : decode cc pc = .ok (.iaload, 1)) (kk : G p l e R s m args below meth c D ad A nL Q cells slots cn E (pc + 1) lvs (.int (xs j) :: st)) : G p l e R s m args below meth c D ad A nL Q cells slots cn E pc lvs (.int (nI j) :: .ref b :: st) := by
  intro H locs ls h1 h2 h3
  refine va_sld hB.1 hB.2.1 hX hbl hbA h2 (vp_in_nI hj hL) hdg ?_
  rw [nI_clamp (by omega)]
  exact kk H locs ls h1 h2 h3
theorem g_slen (hB : MB p s m args meth c cc own nL D ca SR A) (hX : va_X b L xs s s.heap) (hbl : b < s.heap.size) (hbA : ¬ A b) (hdg : decode cc pc = .ok (.arraylength, 1)) (kk : G p l e R s m args below meth c D ad A nL Q cells slots cn E (pc + 1) lvs (.int (nI L) :: st)) : G p l e R s m args below meth c D ad A nL Q cells slots cn E pc lvs (.ref b :: st) :=
  fun H locs ls h1 h2 h3 => va_slen hB.1 hB.2.1 hX hbl hbA h2 hdg (kk H locs ls h1 h2 h3)
theorem g_tswO (hB : MB p s m args meth c cc own nL D ca SR A) {dflt lo hi : Int} {offs : Array Int} {len : Nat} {x : Int32} (tgt : Nat) (hdg : decode cc pc = .ok (.tableswitch dflt lo hi offs, len)) (h : x.toInt < lo ∨ hi < x.toInt) (ht : (pc : Int) + dflt = (tgt : Int)) (kk : G p l e R s m args below meth c D ad A nL Q cells slots cn E tgt lvs st) : G p l e R s m args below meth c D ad A nL Q cells slots cn E pc lvs (.int x :: st) :=
  fun H locs ls h1 h2 h3 => lv_tableOut hB.1 hB.2.1 hdg h ht (kk H locs ls h1 h2 h3)
theorem g_tswI (hB : MB p s m args meth c cc own nL D ca SR A) {dflt lo hi : Int} {offs : Array Int} {len : Nat} {x : Int32} {off : Int} (tgt : Nat) (hdg : decode cc pc = .ok (.tableswitch dflt lo hi offs, len)) (h1 : ¬ x.toInt < lo) (h2 : ¬ hi < x.toInt) (ho : offs[(x.toInt - lo).toNat]? = some off) (ht : (pc : Int) + off = (tgt : Int)) (kk : G p l e R s m args below meth c D ad A nL Q cells slots cn E tgt lvs st) : G p l e R s m args below meth c D ad A nL Q cells slots cn E pc lvs (.int x :: st) :=
  fun H locs ls a1 a2 a3 => lv_tableIn hB.1 hB.2.1 hdg h1 h2 ho ht (kk H locs ls a1 a2 a3)
theorem g_callHSI (hB : MB p s m args meth c cc own nL D ca SR A) (hc : CHI l y cy my ret rm D ad cn ca SR E As hh P) (hG : GoodIn Tw (va_wsS own idx y (WH y cy my ret hh))) (hy : yOK y As.length) (hR : rm.frames + 1 ≤ R.frames ∧ 8 + (my + 11) + rm.locals ≤ R.locals) (hst : st = As.reverse ++ rest) (hw : (rest.map fun v => v.category).sum ≤ 8) (hcs : cells + rm.cells ≤ R.cells ∧ slots + rm.slots ≤ R.slots) (hdg : decode cc pc = .ok (.invokestatic idx, 3))
    (kk : ∀ r E', P r E' → G p l e R s m args below meth c D ad A nL Q (cells + rm.cells) (slots + rm.slots) cn E' (pc + 3) lvs (.int r :: rest)) : G p l e R s m args below meth c D ad A nL Q cells slots cn E pc lvs st := by
  intro H locs ls h1 h2 h3
  have hsub := AA_sub hB h1 h2
  exact va_calli (vx_runSW (As := As) (rest := rest) ⟨hB.1, hB.2.1, hB.2.2.1, hB.2.2.2.1, hB.2.2.2.2.1⟩ (hc H.size) (vx_cwSW As.length hB.2.2.2.2.1 hG rfl rfl rfl hy hR) ⟨PP.blind, fun U hU hW => ⟨rfl, PP_at hB h1 h2 hU hW⟩⟩ rfl rfl h3.1 hst (lv_room (pc := pc) (m := m) (ls := ls) (rest := st) hw) hdg hcs) h2 (fun q _ h => hsub q h) hsub
    (fun r u t H1 locs1 ht hvm hp hb hz hk hS1 => kk r u hp H1 locs1 ls (WW_back h1 hb ht) hS1 h3)
end GL
/-- what a road of the switch hands on, at the loop's step -/
def KX (p : Program) (l : Launch) (e : Env) (s : State) (m : MethodId) (args : Array Value) (below : List Frame) (meth : Method) (c : Code) (D : va_G) (ad : Nat → Nat → Nat) (A : Nat → Prop) (Q : State → Prop) (ca : Nat → ClassId) (b i t mo K N : Nat) : Prop :=
  ∀ (T : Mem) (ng nm nc t' pa rk mo' : Nat), INV T ng nm nc t' pa rk mo' → t' ≤ t + 60 → mo' ≤ mo + 1 → G p l e room_1 s m args below meth c D ad A 7 Q K N CNT (SH ad ca T) 1923 [(0, .ref b), (1, .ref (ad 0 0)), (2, .ref (ad 17 0)), (3, .ref (ad 19 0)), (4, .int (nI i))] []
/-! the look at a machine, for the law -/
theorem TT_18 {S M : Mem} {code : Nat} {v : Int32} (h : M 18 = S 18) : TT S code (uM M 19 0 0 v) 18 = S 18 := by
  cases code with
  | zero => exact h
  | succ n => rfl
theorem grp_of {S : Mem} {x g : Nat} (h : S 18 3 x = nI g) (hg : g < 10) : grp S x = g := by unfold grp; rw [h]; exact ix_nI (by omega)
theorem ok_runs {S : Mem} {ng nm nc t pa rk mo x y g : Nat} (h : INV S ng nm nc t pa rk mo) (hx : x < nm) (hy : y < 6) (hg : g < 10) (hgm : S 18 3 x = nI g) (a b d : Nat → Int32) : OKR 0 (vsh (ruM S nc x) y) t mo (runV (uM (TT S 0 (uM (ruM S nc x) 19 0 0 (vsh (ruM S nc x) y))) 17 0 0 (nI 0)) nc x g y) (LK (uM (TT S 0 (uM (ruM S nc x) 19 0 0 (vsh (ruM S nc x) y))) 17 0 0 (nI 0)) a b d) := by
  refine okl (M := ruM S nc x) h (fun k i q1 q2 _ _ => ruM_fr q2 q1) ?_ a b d
  rw [runV_18 (S := S) (T := uM (TT S 0 (uM (ruM S nc x) 19 0 0 (vsh (ruM S nc x) y))) 17 0 0 (nI 0)) (ruM_hi (S := S) (nc := nc) (i := x) (k := 18) (by decide)), (ru_eq h hx hy).1, grp_of hgm hg]
theorem ok_layerOf {S : Mem} {ng nm nc t pa rk mo x y g : Nat} (h : INV S ng nm nc t pa rk mo) (hx : x < nm) (hy : y < 6) (hg : g < 10) (hgm : S 18 3 x = nI g) (a b d : Nat → Int32) : OKR 0 (loV (ruM S nc x) y) t mo (runL (uM (TT S 0 (uM (ruM S nc x) 19 0 0 (loV (ruM S nc x) y))) 17 0 0 (nI 0)) nc x g y) (LK (uM (TT S 0 (uM (ruM S nc x) 19 0 0 (loV (ruM S nc x) y))) 17 0 0 (nI 0)) a b d) := by
  refine okl (M := ruM S nc x) h (fun k i q1 q2 _ _ => ruM_fr q2 q1) ?_ a b d
  rw [runL_18 (S := S) (T := uM (TT S 0 (uM (ruM S nc x) 19 0 0 (loV (ruM S nc x) y))) 17 0 0 (nI 0)) (ruM_hi (S := S) (nc := nc) (i := x) (k := 18) (by decide)), (ru_eq h hx hy).2, grp_of hgm hg]
theorem ok_due {S : Mem} {ng nm nc t pa rk mo x y g : Nat} (h : INV S ng nm nc t pa rk mo) (hx : x < nm) (hy : y < 6) (hg : g < 10) (hgm : S 18 3 x = nI g) (a b d : Nat → Int32) : OKR 0 (vsh (duM S nc x) y) t mo (dueV (uM (TT S 0 (uM (duM S nc x) 19 0 0 (vsh (duM S nc x) y))) 17 0 0 (nI 0)) nc x g y) (LK (uM (TT S 0 (uM (duM S nc x) 19 0 0 (vsh (duM S nc x) y))) 17 0 0 (nI 0)) a b d) := by
  refine okl (M := duM S nc x) h (fun k i q1 q2 _ _ => duM_fr q2 q1) ?_ a b d
  rw [dueV_18 (S := S) (T := uM (TT S 0 (uM (duM S nc x) 19 0 0 (vsh (duM S nc x) y))) 17 0 0 (nI 0)) (duM_hi (S := S) (nc := nc) (i := x) (k := 18) (by decide)), (du_eq h hx).2 y hy, grp_of hgm hg]
theorem ok_dueAnew {S : Mem} {ng nm nc t pa rk mo x y g : Nat} (h : INV S ng nm nc t pa rk mo) (hx : x < nm) (hy : y < 6) (hg : g < 10) (hgm : S 18 3 x = nI g) (a b d : Nat → Int32) : OKR 0 (vsh (daM S nc x) y) t mo (dueV (uM (TT S 0 (uM (daM S nc x) 19 0 0 (vsh (daM S nc x) y))) 17 0 0 (nI 0)) nc x g y) (LK (uM (TT S 0 (uM (daM S nc x) 19 0 0 (vsh (daM S nc x) y))) 17 0 0 (nI 0)) a b d) := by
  refine okl (M := daM S nc x) h (fun k i q1 q2 q3 q4 => daM_fr q2 q1 q3 q4) ?_ a b d
  rw [dueV_18 (S := S) (T := uM (TT S 0 (uM (daM S nc x) 19 0 0 (vsh (daM S nc x) y))) 17 0 0 (nI 0)) (daM_hi (S := S) (nc := nc) (i := x) (k := 18) (by decide)), da_eq h hx hy, grp_of hgm hg]
theorem ok_hidden {S : Mem} {ng nm nc t pa rk mo x g : Nat} (h : INV S ng nm nc t pa rk mo) (hx : x < nm) (hg : g < 10) (hgm : S 18 3 x = nI g) (a b d : Nat → Int32) : OKR 0 (duM S nc x 15 0 3) t mo (orN (fun k => rHid (uM (TT S 0 (uM (duM S nc x) 19 0 0 (duM S nc x 15 0 3))) 17 0 0 (nI 0)) nc x g false k) 6) (LK (uM (TT S 0 (uM (duM S nc x) 19 0 0 (duM S nc x 15 0 3))) 17 0 0 (nI 0)) a b d) := by
  refine okl (M := duM S nc x) h (fun k i q1 q2 _ _ => duM_fr q2 q1) ?_ a b d
  rw [(du_eq h hx).1, grp_of hgm hg]
  exact congrArg (fun f => orN f 6) (funext fun k => (hid_18 (S := S) (T := uM (TT S 0 (uM (duM S nc x) 19 0 0 (duM S nc x 15 0 3))) 17 0 0 (nI 0)) (duM_hi (S := S) (nc := nc) (i := x) (k := 18) (by decide))).symm)
