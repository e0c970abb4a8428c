/-! the class's calls, asked without a throw; what they answer, in the ghost's words -/
section LN4
variable {p : Program} {l : Launch} {e : Env} {R : Room} {s : State} {m : MethodId} {args : Array Value} {below : List Frame} {meth : Method} {c : Code} {D : va_G} {ad : Nat → Nat → Nat} {A : Nat → Prop} {nL : Nat} {Q : State → Prop} {cells slots : Nat} {cn : Nat → Nat} {E : Rl} {lvs : List (Nat × Value)} {st rest As : List Value} {cc : ByteArray} {own : String} {ca : Nat → ClassId} {pc : Nat} {SR : List (String × Nat × String)}
variable {y : MethodName} {cy : ByteArray} {my : Nat} {ret : Option FieldType} {rm : Room} {P : Int32 → Rl → Prop} {PV : Rl → Prop} {PY : String → Prop} {C : String} {idx : Nat}
theorem g_callNVI (hB : MB p s m args meth c cc own nL D ca SR A) {k i : Nat} (hc : CXI l y cy my ret rm D ad cn ca SR E (.ref (ad k i) :: As) P PY) (hG : GoodIn Tw (wsV own idx C y (WS y cy my ret))) (hyC : y.cls = C) (hy : yOK y As.length) (hR : rm.frames + 1 ≤ R.frames ∧ 8 + (my + 11) + rm.locals ≤ R.locals) (hrecv : recv ad cn E C k i) (hst : st = As.reverse ++ .ref (ad k i) :: rest) (hw : (rest.map fun v => v.category).sum ≤ 8) (hcs : cells + rm.cells ≤ R.cells ∧ slots + rm.slots ≤ R.slots) (hdg : decode cc pc = .ok (.invokevirtual idx, 3))
    (kx : ∀ X, PY X → False) (kk : ∀ r E', P r E' → G p l e R s m args below meth c D ad A nL Q (cells + rm.cells) (slots + rm.slots) cn E' (pc + 3) lvs (.int r :: rest)) : G p l e R s m args below meth c D ad A nL Q cells slots cn E pc lvs st := by
  intro H locs ls h1 h2 h3
  have hsub := AA_sub hB h1 h2
  exact vx_calli (vx_runV (As := As) (rest := rest) ⟨hB.1, hB.2.1, hB.2.2.1, hB.2.2.2.1, hB.2.2.2.2.1⟩ (hc H.size) (cwV As.length hB.2.2.2.2.1 hG rfl rfl rfl ⟨hyC, hy⟩ hR) ⟨PP.blind, recv_at hB h1 hrecv, fun U hU hW => ⟨rfl, PP_at hB h1 h2 hU hW⟩⟩ rfl rfl h3.1 hst (lv_room (pc := pc) (m := m) (ls := ls) (rest := st) hw) hdg hcs) h2 (fun q _ h => hsub q h) hsub (fun q _ h => hsub q h)
    (fun X ce q9 u t H1 locs1 ht hvm _ hb hz hk hS1 hce hcv hcl => (kx X hb.1).elim)
    (fun r u t H1 locs1 ht hvm hp hb hz hk hS1 => kk r u hp H1 locs1 ls (WW_back h1 hb ht) hS1 h3)
theorem g_callHSI (hB : MB p s m args meth c cc own nL D ca SR A) {hh : List (Nat × Nat × Nat × Nat)} (hc : CHI l y cy my ret rm D ad cn ca SR E As hh P) (hG : GoodIn Tw (va_wsS own idx y (WH y cy my ret hh))) (hy : yOK y As.length) (hR : rm.frames + 1 ≤ R.frames ∧ 8 + (my + 11) + rm.locals ≤ R.locals) (hst : st = As.reverse ++ rest) (hw : (rest.map fun v => v.category).sum ≤ 8) (hcs : cells + rm.cells ≤ R.cells ∧ slots + rm.slots ≤ R.slots) (hdg : decode cc pc = .ok (.invokestatic idx, 3))
    (kk : ∀ r E', P r E' → G p l e R s m args below meth c D ad A nL Q (cells + rm.cells) (slots + rm.slots) cn E' (pc + 3) lvs (.int r :: rest)) : G p l e R s m args below meth c D ad A nL Q cells slots cn E pc lvs st := by
  intro H locs ls h1 h2 h3
  have hsub := AA_sub hB h1 h2
  exact va_calli (vx_runSW (As := As) (rest := rest) ⟨hB.1, hB.2.1, hB.2.2.1, hB.2.2.2.1, hB.2.2.2.2.1⟩ (hc H.size) (vx_cwSW As.length hB.2.2.2.2.1 hG rfl rfl rfl hy hR) ⟨PP.blind, fun U hU hW => ⟨rfl, PP_at hB h1 h2 hU hW⟩⟩ rfl rfl h3.1 hst (lv_room (pc := pc) (m := m) (ls := ls) (rest := st) hw) hdg hcs) h2 (fun q _ h => hsub q h) hsub
    (fun r u t H1 locs1 ht hvm hp hb hz hk hS1 => kk r u hp H1 locs1 ls (WW_back h1 hb ht) hS1 h3)
end LN4
theorem nx_of {L : List String} {code : Nat} {X : String} (h : code = 0) (hX : PXm L code X) : False := by
  rw [h] at hX
  exact absurd hX.1 (by decide)
theorem rqC_0 {n k : Nat} (hk : k < n) (hn : n < 2 ^ 31) : rqC (nI k) n = 0 := by unfold rqC; rw [rgB_nI (by omega), decide_eq_true hk]; rfl
theorem r2C_0 {n m k : Nat} (hm : m < n) (hk : k < 6) (hn : n < 2 ^ 31) : r2C (nI m) (nI k) n = 0 := by unfold r2C; rw [rgB_nI (by omega), decide_eq_true hm, rgB_nI (by omega), decide_eq_true hk]; rfl
theorem taC_0 {S : Mem} {n m j k : Nat} (hm : m < n) (hn : n < 2 ^ 31) (hj : j < (clay S m).length) (hl : (clay S m).length < 2 ^ 31) (hk : k < 6) : taC S (nI m) (nI j) (nI k) n = 0 := by
  unfold taC
  rw [rgB_nI (by omega), decide_eq_true hm, ix_nI (by omega), rgB_nI (by omega), decide_eq_true hj, rgB_nI (by omega), decide_eq_true hk]; rfl
section QV
variable {S : Mem} {ng nm nc t pa rk mo : Nat}
theorem qv_bd (h : INV S ng nm nc t pa rk mo) : ng ≤ 10 ∧ nm ≤ 12 ∧ nc ≤ 40 := ⟨h.1.1.2.2, h.1.2.1.2, h.1.2.2.1.2⟩
theorem qv_state (h : INV S ng nm nc t pa rk mo) {k : Nat} (hk : k < nc) : S 9 (ix (nI k)) 4 = S 18 11 k ∧ S 14 0 (ix (nI k)) = S 18 12 k := by
  have hb := qv_bd h
  obtain ⟨a, s', k', c1, c2, c3, c4, c5, c6, c7, c8, c9, c10, c11, c12, c13, c14⟩ := h.2.2.2.2.2.2.2.2.1 k hk
  rw [ix_nI (by omega)]
  exact ⟨c13, c14⟩
theorem qv_appr (h : INV S ng nm nc t pa rk mo) {k : Nat} (hk : k < nc) : bcF (S 9 (ix (nI k)) 5) = nI (mGood S k) := by
  have hb := qv_bd h
  have hz := rqC_0 hk (show nc < 2 ^ 31 by omega)
  have h1 := (step_approvals h (nI k)).2.1 hz
  rw [h1, hz]
  unfold rApprovals
  rw [rgB_nI (by omega), decide_eq_true hk, ix_nI (by omega)]
  rfl
theorem qv_spread (h : INV S ng nm nc t pa rk mo) {k : Nat} (hk : k < nc) : nI (sdN S nm (ix (nI k))) = nI (cntB (fun m => hasC S m k) nm) := by
  have hb := qv_bd h
  have hz := rqC_0 hk (show nc < 2 ^ 31 by omega)
  have h1 := (step_spread h (nI k)).2.1 hz
  rw [h1, hz]
  unfold rSpread
  rw [rgB_nI (by omega), decide_eq_true hk, ix_nI (by omega)]
  rfl
theorem qv_halt (h : INV S ng nm nc t pa rk mo) {m : Nat} (hm : m < nm) : bI (cNear S nc (ix (nI m)) (clay S (ix (nI m)))).isSome = bI (mHalt S m) := by
  have hb := qv_bd h
  have hz := rqC_0 hm (show nm < 2 ^ 31 by omega)
  have h1 := (step_isStopped h (nI m)).2.1 hz
  rw [h1, hz]
  unfold rIsStopped
  rw [rgB_nI (by omega), decide_eq_true hm, ix_nI (by omega)]
  rfl
theorem qv_busy (h : INV S ng nm nc t pa rk mo) {m : Nat} (hm : m < nm) : bI (decide (S 0 0 0 < S 6 (ix (nI m)) 2)) = bI (decide (S 17 0 1 < S 18 4 m)) := by
  have hb := qv_bd h
  have hz := rqC_0 hm (show nm < 2 ^ 31 by omega)
  have h1 := (step_isBusy h (nI m)).2.1 hz
  rw [h1, hz]
  unfold rIsBusy
  rw [rgB_nI (by omega), decide_eq_true hm, ix_nI (by omega)]
  rfl
theorem qv_len (h : INV S ng nm nc t pa rk mo) {m : Nat} (hm : m < nm) : (clay S m).length = (lay (S 18 2) (grp S m)).length := lc_len h hm
theorem qv_taken (h : INV S ng nm nc t pa rk mo) {m j k : Nat} (hm : m < nm) (hj : j < (lay (S 18 2) (grp S m)).length) (hk : k < 6) : S 8 (ix (nI m)) ((clay S (ix (nI m))).getD (ix (nI j)) 0 * 6 + ix (nI k)) = S 18 5 (6 * (11 * m + (lay (S 18 2) (grp S m)).getD j 0) + k) := by
  have hb := qv_bd h
  have hll := (h.1.2.2.2.2.2.2.1 m hm).2.1
  have hl := qv_len h hm
  have hz : taC S (nI m) (nI j) (nI k) nm = 0 := taC_0 hm (by omega) (by omega) (by omega) hk
  have h1 := (step_taken h (nI m) (nI j) (nI k)).2.1 hz
  rw [h1, hz]
  unfold rTaken
  have e0 : ∀ v, grp (uM (TT S 0 (uM S 19 0 0 v)) 17 0 0 (nI 0)) m = grp S m := fun v => rfl
  have e2 : ∀ v, uM (TT S 0 (uM S 19 0 0 v)) 17 0 0 (nI 0) 18 = S 18 := fun v => funext fun i => uM_k (fun z => absurd z.1 (by decide))
  rw [rgB_nI (by omega), decide_eq_true hm, ix_nI (show m < 2 ^ 31 by omega), ix_nI (show j < 2 ^ 31 by omega), ix_nI (show k < 2 ^ 31 by omega), e0, e2, rgB_nI (by omega), decide_eq_true hj, rgB_nI (by omega), decide_eq_true hk]
  rfl
theorem qv_behind (h : INV S ng nm nc t pa rk mo) {m : Nat} (hm : m < nm) : nI (bhN S (ix (nI m))) = nI (cntB (fun i => mLag S nc m ((lay (S 18 2) (grp S m)).getD i 0)) (lay (S 18 2) (grp S m)).length) := by
  have hb := qv_bd h
  have hz := rqC_0 hm (show nm < 2 ^ 31 by omega)
  have h1 := (step_behind h (nI m)).2.1 hz
  rw [h1, hz]
  unfold rBehind
  rw [rgB_nI (by omega), decide_eq_true hm, ix_nI (by omega)]
  rfl
theorem qv_told (h : INV S ng nm nc t pa rk mo) {x : Int32} {k : Nat} (hx : plB x ng nm = true) (hk : k < 6) : toC x (nI k) ng nm = 0 ∧ toV S nc (ix (slF x ng nm)) (ix (nI k)) = wh S (mTopI S nc x (nI k)) := by
  have hb := qv_bd h
  have hz : toC x (nI k) ng nm = 0 := by
    unfold toC
    have : slF x ng nm ≠ -1 := by
      unfold slF
      unfold plB at hx
      cases h1 : rgB x ng with
      | true =>
        obtain ⟨j, hj, e⟩ := rgB_t h1
        rw [e]
        exact m1_ne (by omega)
      | false =>
        rw [h1, Bool.false_or] at hx
        rw [hx]
        have h3 := of_decide_eq_true hx
        have hr := x.toInt_lt
        obtain ⟨j, hj, e⟩ : ∃ j : Nat, j < nm ∧ x = nI (100 + j) := ⟨(x.toInt - 100).toNat, by omega, by rw [i32_eq, toInt_nI (by omega)]; omega⟩
        have e2 : nI 10 + x - nI 100 = nI (10 + j) := by
          rw [e, nI_add]
          apply i32_eq.mpr
          rw [toInt_nI (by omega), pk_sub_toInt (by omega) (by omega)]
          omega
        show nI 10 + x - nI 100 ≠ -1
        rw [e2]
        exact m1_ne (by omega)
    rw [decide_eq_true this, rgB_nI (by omega), decide_eq_true hk]; rfl
  refine ⟨hz, ?_⟩
  have h1 := (step_told h x (nI k)).2.1 hz
  rw [h1, hz]
  unfold rTold
  rw [hx, rgB_nI (by omega), decide_eq_true hk]
  rfl
end QV
/-- what is scratch to both sides -/
def FRS (S T : Mem) : Prop := ∀ k i, k ≠ 15 → k ≠ 16 → ¬ (k = 13 ∧ i = 1) → ¬ (k = 14 ∧ i = 1) → T k i = S k i
theorem FRS_r {S : Mem} : FRS S S := fun _ _ _ _ _ _ => rfl
theorem FRS_t {S T U : Mem} (h : FRS S T) (h2 : FRS T U) : FRS S U := fun k i a b c d => (h2 k i a b c d).trans (h k i a b c d)
theorem FRS_k {S T : Mem} (h : FRS S T) {k : Nat} (h13 : k ≠ 13) (h14 : k ≠ 14) (h15 : k ≠ 15) (h16 : k ≠ 16) : T k = S k := funext fun i => h k i h15 h16 (fun z => h13 z.1) (fun z => h14 z.1)
theorem FRS_LR {S T : Mem} {ng nm nc t pa rk : Nat} (h : FRS S T) (hL : LR S ng nm nc t pa rk) : LR T ng nm nc t pa rk := LR_fr hL (FRS_k h (by decide) (by decide) (by decide) (by decide)) (FRS_k h (by decide) (by decide) (by decide) (by decide))
theorem FRS_ru {S : Mem} {nc i : Nat} : FRS S (ruM S nc i) := fun k j h15 h16 _ _ => ruM_fr h16 h15
theorem FRS_du {S : Mem} {nc i : Nat} : FRS S (duM S nc i) := fun k j h15 h16 _ _ => duM_fr h16 h15
theorem FRS_da {S : Mem} {nc i : Nat} : FRS S (daM S nc i) := fun k j h15 h16 h13 h14 => daM_fr h16 h15 h13 h14
