/-! told, work, groups, proposing -/
theorem plS_lt {s : Nat} (h : s < 22) : plS s < 112 := by unfold plS; by_cases z : s < 10 <;> simp [z] <;> omega
theorem plS_inj {s s' : Nat} (h : s < 22) (h' : s' < 22) : plS s = plS s' ↔ s = s' := by
  unfold plS
  by_cases z : s < 10 <;> by_cases z' : s' < 10 <;> simp [z, z'] <;> omega
theorem slF_spec {x : Int32} {ng nm : Nat} (hng : ng ≤ 10) (hnm : nm ≤ 12) : (slF x ng nm = -1 ∧ plB x ng nm = false) ∨ ∃ s, s < 22 ∧ slF x ng nm = nI s ∧ x = nI (plS s) ∧ (s < ng ∨ (10 ≤ s ∧ s < 10 + nm)) ∧ plB x ng nm = true := by
  unfold slF plB
  cases h1 : rgB x ng with
  | true =>
    obtain ⟨j, hj, e⟩ := rgB_t h1
    refine Or.inr ⟨j, by omega, by rw [cond_true, e], ?_, Or.inl hj, rfl⟩
    rw [e]; unfold plS; rw [if_pos (by omega)]
  | false =>
    cases h2 : decide (100 ≤ x.toInt ∧ x.toInt < 100 + nm) with
    | false => exact Or.inl ⟨rfl, rfl⟩
    | true =>
      have h3 := of_decide_eq_true h2
      obtain ⟨j, hj, e⟩ : ∃ j : Nat, j < nm ∧ x = nI (100 + j) := ⟨(x.toInt - 100).toNat, by omega, by rw [i32_eq, toInt_nI (by omega)]; omega⟩
      refine Or.inr ⟨10 + j, by omega, ?_, ?_, Or.inr ⟨by omega, by omega⟩, rfl⟩
      · rw [cond_false, cond_true, e, nI_add]
        apply i32_eq.mpr
        rw [toInt_nI (by omega), pk_sub_toInt (by omega) (by omega)]
        omega
      · rw [e]; unfold plS; rw [if_neg (by omega)]; congr 1; omega
theorem topI_eq {S : Mem} {ng nm nc t pa rk mo s k : Nat} (h : INV S ng nm nc t pa rk mo) (hs : s < 22) (hk : k < 6) : oI (mTopI S nc (nI (plS s)) (nI k)) = S 13 0 (s * 6 + k) := by
  rw [h.2.2.2.2.2.2.2.2.2.2.2.1 _ (by omega)]
  unfold mTopI
  congr 1
  refine bestN_cong (fun c hc => ?_) (fun c hc => ?_)
  · obtain ⟨a, s', k', c1, c2, c3, c4, c5, c6, c7, c8, c9, c10, c11, c12, c13, c14⟩ := h.2.2.2.2.2.2.2.2.1 c hc
    unfold mOkI hdOk hdC
    rw [c7, c8, c6, c13, ix_nI (by omega)]
    congr 1
    rw [Bool.eq_iff_iff]
    simp only [Bool.and_eq_true, decide_eq_true_eq]
    have := plS_lt c2
    have := plS_lt hs
    rw [nI_eq (by omega) (by omega), nI_eq (by omega) (by omega), plS_inj c2 hs]
    omega
  · obtain ⟨a, s', k', c1, c2, c3, c4, c5, c6, c7, c8, c9, c10, c11, c12, c13, c14⟩ := h.2.2.2.2.2.2.2.2.1 c hc
    exact c14.symm
theorem step_told {S : Mem} {ng nm nc t pa rk mo : Nat} (h : INV S ng nm nc t pa rk mo) (x y : Int32) : STEP (toC x y ng nm) (toV S nc (ix (slF x ng nm)) (ix y)) t mo (rTold (uM (TT S (toC x y ng nm) (uM S 19 0 0 (toV S nc (ix (slF x ng nm)) (ix y)))) 17 0 0 (nI 0)) x y ng nm nc) := by
  have hnm := h.1.2.1.2
  have hng := h.1.1.2.2
  have hnc := h.1.2.2.1.2
  unfold rTold
  rcases slF_spec (x := x) hng hnm with ⟨e1, e2⟩ | ⟨s, hs, e1, e2, e3, e4⟩
  · have e : toC x y ng nm = 1 := by unfold toC; rw [e1]; rfl
    rw [e, e2]
    exact step_f h (by decide) uM_uM
  · rw [e4]
    have hne : decide (slF x ng nm ≠ -1) = true := decide_eq_true (by rw [e1]; exact m1_ne (by omega))
    cases h3 : rgB y 6 with
    | false =>
      have e : toC x y ng nm = 1 := by unfold toC; rw [hne, h3]; rfl
      rw [e]
      exact step_f h (by decide) uM_uM
    | true =>
      have e : toC x y ng nm = 0 := by unfold toC; rw [hne, h3]; rfl
      obtain ⟨k, hk, rfl⟩ := rgB_t h3
      have ik : ix (nI k) = k := ix_nI (by omega)
      have is_ : ix (slF x ng nm) = s := by rw [e1]; exact ix_nI (by omega)
      rw [e, is_, ik, e2]
      refine step_q h rfl rfl ?_
      show toV S nc s k = wh S (mTopI S nc (nI (plS s)) (nI k))
      have ht := topI_eq h hs hk
      unfold toV wh
      rw [← ht]
      cases ho : mTopI S nc (nI (plS s)) (nI k) with
      | none => rfl
      | some c =>
        have hc := mTopI_lt ho
        obtain ⟨a, s', k', c1, c2, c3, c4, c5, c6, c7, c8, c9, c10, c11, c12, c13, c14⟩ := h.2.2.2.2.2.2.2.2.1 c hc
        have ew : cWh S nc (oI (some c)) = S 18 10 c := by
          unfold cWh
          show (bif rgB (nI c) nc then S 9 (ix (nI c)) 2 else -1) = _
          rw [rgB_nI (by omega), decide_eq_true hc, ix_nI (by omega), ← c10]; rfl
        rw [ew]
theorem clay_V {S T : Mem} {i : Nat} (h6 : T 6 i 3 = S 6 i 3) (h7 : T 7 i = S 7 i) : clay T i = clay S i := by unfold clay; rw [h6, h7]
theorem step_work {S : Mem} {ng nm nc t pa rk mo : Nat} (h : INV S ng nm nc t pa rk mo) (x y : Int32) : STEP (woC S x y nm nc) (S 0 0 0 + y) t mo (rWork (uM (TT S (woC S x y nm nc) (uM (uM S 6 (ix x) 2 (S 0 0 0 + y)) 19 0 0 (S 0 0 0 + y))) 17 0 0 (nI 0)) x y nm) := by
  have hnm := h.1.2.1.2
  unfold rWork
  rw [inR_n 1 30 (by omega) (by omega)]
  cases h1 : rgB x nm with
  | false =>
    have e : woC S x y nm nc = 1 := by unfold woC; rw [h1]; rfl
    rw [e]
    exact step_f h (by decide) uM_uM
  | true =>
    obtain ⟨j, hj, rfl⟩ := rgB_t h1
    have ij : ix (nI j) = j := ix_nI (by omega)
    rw [ij]
    cases h2 : decide (((1 : Nat) : Int) ≤ y.toInt ∧ y.toInt ≤ ((30 : Nat) : Int)) with
    | false =>
      have e : woC S (nI j) y nm nc = 2 := by
        unfold woC
        rw [h1, ij, show decide (1 ≤ y.toInt ∧ y.toInt ≤ 30) = false from h2]; rfl
      rw [e]
      exact step_f h (by decide) uM_uM
    | true =>
      have hb : decide (S 17 0 1 < S 18 4 j) = decide (S 0 0 0 < S 6 j 2) := by rw [(h.2.2.2.2.2.2.1 j (by omega)).2, h.1.2.2.2.1.1, h.2.1.2.2.2.1.1]
      have hh := halt_eq h hj
      have e : woC S (nI j) y nm nc = bif decide (S 0 0 0 < S 6 j 2) || mHalt S j then 3 else 0 := by
        unfold woC
        rw [h1, ij, show decide (1 ≤ y.toInt ∧ y.toInt ≤ 30) = true from h2, hh]; rfl
      rw [e]
      cases hd : decide (S 0 0 0 < S 6 j 2) with
      | true =>
        rw [Bool.true_or, cond_true]
        have hd2 := hb.trans hd
        show STEP 3 _ t mo (bif decide (S 17 0 1 < S 18 4 j) then fl (uM S 17 0 0 (nI 0)) 3 else _)
        rw [hd2, cond_true]
        exact step_f h (by decide) uM_uM
      | false =>
        have hd2 := hb.trans hd
        rw [Bool.false_or]
        cases hm : mHalt S j with
        | true =>
          rw [cond_true]
          show STEP 3 _ t mo (bif decide (S 17 0 1 < S 18 4 j) then _ else bif mHalt S j then fl (uM S 17 0 0 (nI 0)) 3 else _)
          rw [hd2, hm, cond_false, cond_true]
          exact step_f h (by decide) uM_uM
        | false =>
          rw [cond_false]
          show STEP 0 _ t mo (bif decide (S 17 0 1 < S 18 4 j) then _ else bif mHalt S j then _ else (S 17 0 1 + y, uM (uM (uM (uM S 6 j 2 (S 0 0 0 + y)) 19 0 0 (S 0 0 0 + y)) 17 0 0 (nI 0)) 18 4 j (S 17 0 1 + y)))
          rw [hd2, hm, cond_false, cond_false]
          obtain ⟨ki, ri, cnt, duty, par, per, mach, tk, ch, frs, giv, heads, ex, mom, st, rkk⟩ := h
          have et : S 0 0 0 = S 17 0 1 := ki.2.2.2.1.1.trans ri.2.2.2.1.1.symm
          have n6 : ∀ i q, q ≠ 2 → uM (uM (uM (uM S 6 j 2 (S 0 0 0 + y)) 19 0 0 (S 0 0 0 + y)) 17 0 0 (nI 0)) 18 4 j (S 17 0 1 + y) 6 i q = S 6 i q := fun i q hq => uM_n (S := S) (fun z => hq z.2.2)
          have ecl : ∀ i, clay (uM (uM (uM (uM S 6 j 2 (S 0 0 0 + y)) 19 0 0 (S 0 0 0 + y)) 17 0 0 (nI 0)) 18 4 j (S 17 0 1 + y)) i = clay S i := fun i => clay_V (n6 i 3 (by decide)) rfl
          refine ⟨rfl, fun _ => by rw [et], ng, nm, nc, t, pa, rk, mo, ⟨KI_V ki (fun _ _ _ => rfl) rfl n6 (fun _ => rfl) (fun _ => rfl), ri, cnt, duty, par, per, fun i hi => ⟨fun hi2 => ?_, ?_⟩, ⟨tk.1, fun i hi q hq => ?_⟩, ch, frs, giv, heads, ex, mom, st, rkk⟩, by omega, by omega⟩
          · exact ⟨(n6 i 1 (by decide)).trans ((mach i hi).1 hi2).1, (ecl i).trans ((mach i hi).1 hi2).2⟩
          · by_cases hk : i = j
            · subst hk
              show uM S 6 i 2 _ 6 i 2 = uM S 18 4 i _ 18 4 i
              rw [uM_s, uM_s, et]
            · show uM S 6 j 2 _ 6 i 2 = uM S 18 4 j _ 18 4 i
              rw [uM_n (fun z => hk z.2.1), uM_n (fun z => hk z.2.2)]
              exact (mach i hi).2
          · have := tk.2 i hi q hq
            rw [← ecl i] at this
            exact this
theorem pth_ext {par par' : Nat → Int32} {ng ng' : Nat} (hp : PAR par ng) (hng : ng ≤ 10) (hp' : PAR par' ng') (hng' : ng' ≤ 10) (hle : ng ≤ ng') (he : ∀ x, x < ng → par' x = par x) : ∀ (n g : Nat), g < n → g < ng → pth par' g = pth par g
  | 0, g, h, _ => by omega
  | n + 1, g, h, hg => by
    rcases Nat.eq_zero_or_pos g with rfl | h0
    · rfl
    · obtain ⟨y, e1, e2⟩ := hp.2 g h0 hg
      rw [pth_s hp hng h0 hg e2 e1, pth_s hp' hng' h0 (by omega) ((he g hg).trans e2) e1, pth_ext hp hng hp' hng' hle he n y (by omega) (by omega)]
theorem step_addGroup {S : Mem} {ng nm nc t pa rk mo : Nat} (h : INV S ng nm nc t pa rk mo) (x : Int32) : STEP (agC x ng) (nI ng) t mo (rAddGroup (uM (TT S (agC x ng) (uM (uM (uM S 1 1 ng x) 0 0 5 (nI (ng + 1))) 19 0 0 (nI ng))) 17 0 0 (nI 0)) x ng) := by
  have hng := h.1.1.2.2
  unfold rAddGroup
  cases h1 : rgB x ng with
  | false =>
    have e : agC x ng = 1 := by unfold agC; rw [h1]; rfl
    rw [e]
    exact step_f h (by decide) uM_uM
  | true =>
    by_cases h10 : ng = 10
    · have e : agC x ng = 2 := by unfold agC; rw [h1, decide_eq_true (show 10 ≤ ng by omega)]; rfl
      rw [e, decide_eq_true h10]
      exact step_f h (by decide) uM_uM
    · have e : agC x ng = 0 := by unfold agC; rw [h1, decide_eq_false (show ¬ 10 ≤ ng by omega)]; rfl
      rw [e, decide_eq_false h10]
      obtain ⟨g, hg, rfl⟩ := rgB_t h1
      obtain ⟨ki, ri, cnt, duty, par, per, mach, tk, ch, frs, giv, heads, ex, mom, st, rkk⟩ := h
      have n1 : ∀ i, i < ng → uM S 1 1 ng (nI g) 1 1 i = S 1 1 i := fun i hi => uM_n (fun z => by omega)
      have n2 : ∀ i, i < ng → uM S 18 2 ng (nI g) 18 2 i = S 18 2 i := fun i hi => uM_n (fun z => by omega)
      have hp1 : PAR (uM S 1 1 ng (nI g) 1 1) (ng + 1) := by
        refine ⟨(n1 0 (by have := ki.1.2.1; omega)).trans ki.2.2.2.2.2.1.1, fun q q0 hq => ?_⟩
        by_cases hk : q = ng
        · subst hk; exact ⟨g, hg, uM_s⟩
        · obtain ⟨y, y1, y2⟩ := ki.2.2.2.2.2.1.2 q q0 (by omega)
          exact ⟨y, y1, (n1 q (by omega)).trans y2⟩
      have hp2 : PAR (uM S 18 2 ng (nI g) 18 2) (ng + 1) := by
        refine ⟨(n2 0 (by have := ki.1.2.1; omega)).trans ri.2.2.2.2.2.1.1, fun q q0 hq => ?_⟩
        by_cases hk : q = ng
        · subst hk; exact ⟨g, hg, uM_s⟩
        · obtain ⟨y, y1, y2⟩ := ri.2.2.2.2.2.1.2 q q0 (by omega)
          exact ⟨y, y1, (n2 q (by omega)).trans y2⟩
      have hpth : ∀ q, q < ng → pth (uM S 18 2 ng (nI g) 18 2) q = pth (S 18 2) q := fun q hq => pth_ext ri.2.2.2.2.2.1 hng hp2 (by omega) (by omega) n2 (q + 1) q (by omega) hq
      have hgr : ∀ i, i < nm → grp S i < ng := fun i hi => (RI_grp ri hi).1
      refine ⟨rfl, fun _ => rfl, ng + 1, nm, nc, t, pa, rk, mo, ⟨⟨⟨rfl, by omega, by omega⟩, ki.2.1, ki.2.2.1, ki.2.2.2.1, ki.2.2.2.2.1, hp1, ki.2.2.2.2.2.2⟩, ⟨⟨rfl, by omega, by omega⟩, ri.2.1, ri.2.2.1, ri.2.2.2.1, ri.2.2.2.2.1, hp2, fun m hm => ?_, ri.2.2.2.2.2.2.2.1, fun m hm s hs hn k hk => ?_⟩, cnt, duty, fun q hq => ?_, per, fun i hi => ⟨fun hi2 => ?_, (mach i hi).2⟩, tk, fun c hc => ?_, frs, giv, heads, ex, mom, st, rkk⟩, by omega, by omega⟩
      · obtain ⟨g', a, b⟩ := ri.2.2.2.2.2.2.1 m hm
        exact ⟨g', by omega, b⟩
      · exact ri.2.2.2.2.2.2.2.2 m hm s hs (by rw [← hpth _ (hgr m hm)]; exact hn) k hk
      · show uM S 1 1 ng (nI g) 1 1 q = uM S 18 2 ng (nI g) 18 2 q
        by_cases hk : q = ng
        · subst hk; rw [uM_s, uM_s]
        · rw [n1 q (by omega), n2 q (by omega)]; exact par q (by omega)
      · refine ⟨((mach i hi).1 hi2).1, ?_⟩
        show clay S i = (10 + i) :: pth (uM S 18 2 ng (nI g) 18 2) (grp S i)
        rw [hpth _ (hgr i hi2)]
        exact ((mach i hi).1 hi2).2
      · obtain ⟨a, s, k, c1, c2, c3, c4, c5, c6, c7, c8, c9, c10⟩ := ch c hc
        exact ⟨a, s, k, c1, c2, c3, c4, c5, c6, c7, c8, by omega, c10⟩
