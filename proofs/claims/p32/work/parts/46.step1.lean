/-! steps: duty, pace, groups, coming back, withdrawing, looking things up -/
theorem step_setDuty {S : Mem} {ng nm nc t pa rk mo : Nat} (h : INV S ng nm nc t pa rk mo) (x y : Int32) : STEP (sdC x y) (S 1 0 (ix x)) t mo (rSetDuty (uM (TT S (sdC x y) (uM (uM S 1 0 (ix x) y) 19 0 0 (S 1 0 (ix x)))) 17 0 0 (nI 0)) x y) := by
  unfold rSetDuty
  rw [inR_rg 3 (by omega), inR_rg 255 (by omega)]
  cases h1 : rgB x (3 + 1) with
  | false =>
    have e : sdC x y = 1 := by unfold sdC; rw [h1]; rfl
    rw [e]
    exact step_f h (by decide) uM_uM
  | true =>
    cases h2 : rgB y (255 + 1) with
    | false =>
      have e : sdC x y = 1 := by unfold sdC; rw [h1, h2]; rfl
      rw [e]
      exact step_f h (by decide) uM_uM
    | true =>
      have e : sdC x y = 0 := by unfold sdC; rw [h1, h2]; rfl
      rw [e]
      obtain ⟨j, hj, rfl⟩ := rgB_t h1
      have ij : ix (nI j) = j := ix_nI (by omega)
      rw [ij]
      obtain ⟨ki, ri, cnt, duty, par, per, mach, tk, ch, frs, giv, heads, ex, mom, st, rkk⟩ := h
      refine ⟨rfl, fun _ => duty j hj, ng, nm, nc, t, pa, rk, mo, ⟨ki, ri, cnt, fun i hi => ?_, par, per, mach, tk, ch, frs, giv, heads, ex, mom, st, rkk⟩, by omega, by omega⟩
      show upd (S 1 0) j y i = upd (S 18 0) j y i
      unfold upd
      by_cases hk : i = j
      · rw [if_pos hk, if_pos hk]
      · rw [if_neg hk, if_neg hk]; exact duty i hi
theorem step_setPace {S : Mem} {ng nm nc t pa rk mo : Nat} (h : INV S ng nm nc t pa rk mo) (x : Int32) : STEP (spC x) (S 0 0 1) t mo (rSetPace (uM (TT S (spC x) (uM (uM S 0 0 1 x) 19 0 0 (S 0 0 1))) 17 0 0 (nI 0)) x) := by
  unfold rSetPace
  rw [inR_rg 12 (by omega)]
  cases h1 : rgB x (12 + 1) with
  | false =>
    have e : spC x = 1 := by unfold spC; rw [h1]; rfl
    rw [e]
    exact step_f h (by decide) uM_uM
  | true =>
    have e : spC x = 0 := by unfold spC; rw [h1]; rfl
    rw [e]
    obtain ⟨j, hj, rfl⟩ := rgB_t h1
    obtain ⟨ki, ri, cnt, duty, par, per, mach, tk, ch, frs, giv, heads, ex, mom, st, rkk⟩ := h
    have hp : S 0 0 1 = S 17 0 7 := ki.2.2.2.2.1.1.trans ri.2.2.2.2.1.1.symm
    refine ⟨rfl, fun _ => hp, ng, nm, nc, t, j, rk, mo, ⟨?_, ?_, cnt, duty, par, per, mach, tk, ch, frs, giv, heads, ex, mom, st, rkk⟩, by omega, by omega⟩
    · exact ⟨ki.1, ki.2.1, ki.2.2.1, ki.2.2.2.1, ⟨rfl, by omega⟩, ki.2.2.2.2.2⟩
    · exact ⟨ri.1, ri.2.1, ri.2.2.1, ri.2.2.2.1, ⟨rfl, by omega⟩, ri.2.2.2.2.2⟩
theorem step_comeBack {S : Mem} {ng nm nc t pa rk mo : Nat} (h : INV S ng nm nc t pa rk mo) (x : Int32) : (rComeBack (TT S (cbC S x) (uM S 5 (ix x) 0 (nI 1))) x) 17 0 0 = nI (cbC S x) ∧ ∃ ng' nm' nc' t' pa' rk' mo', INV (rComeBack (TT S (cbC S x) (uM S 5 (ix x) 0 (nI 1))) x) ng' nm' nc' t' pa' rk' mo' ∧ t' ≤ t + 60 ∧ mo' ≤ mo + 1 := by
  unfold rComeBack
  cases h1 : rgB x 8 with
  | false =>
    have e : cbC S x = 1 := by unfold cbC; rw [h1]; rfl
    rw [e]
    exact ⟨uM_s, ng, nm, nc, t, pa, rk, mo, INV_th h _, by omega, by omega⟩
  | true =>
    obtain ⟨p, hp, rfl⟩ := rgB_t h1
    have ip : ix (nI p) = p := ix_nI (by omega)
    have hfail : ∀ (e : cbC S (nI p) = 2) (e2 : decide (S 18 1 p = nI 1) = false), ((bif true then bif decide ((TT S (cbC S (nI p)) (uM S 5 (ix (nI p)) 0 (nI 1))) 18 1 (ix (nI p)) = nI 1) then uM (uM (TT S (cbC S (nI p)) (uM S 5 (ix (nI p)) 0 (nI 1))) 17 0 0 (nI 0)) 18 1 (ix (nI p)) (nI 0) else uM (TT S (cbC S (nI p)) (uM S 5 (ix (nI p)) 0 (nI 1))) 17 0 0 (nI 2) else uM (TT S (cbC S (nI p)) (uM S 5 (ix (nI p)) 0 (nI 1))) 17 0 0 (nI 1)) : Mem) = uM S 17 0 0 (nI 2) := by
      intro e e2
      rw [e, ip]
      show (bif decide (S 18 1 p = nI 1) then _ else uM S 17 0 0 (nI 2)) = _
      rw [e2]; rfl
    have h0 := h
    obtain ⟨ki, ri, cnt, duty, par, per, mach, tk, ch, frs, giv, heads, ex, mom, st, rkk⟩ := h
    rcases per p hp with ⟨a1, a2, a3⟩ | ⟨a1, a2, a3⟩ | ⟨a1, a2, a3⟩
    · have e : cbC S (nI p) = 2 := by unfold cbC; rw [h1, ip, a1]; rfl
      rw [hfail e (by rw [a3]; rfl), e]
      exact ⟨uM_s, ng, nm, nc, t, pa, rk, mo, INV_th h0 _, by omega, by omega⟩
    · have e : cbC S (nI p) = 0 := by unfold cbC; rw [h1, ip, a1, a2]; rfl
      rw [e, ip]
      show (bif decide (S 18 1 p = nI 1) then uM (uM (uM S 5 p 0 (nI 1)) 17 0 0 (nI 0)) 18 1 p (nI 0) else _) 17 0 0 = nI 0 ∧ ∃ ng' nm' nc' t' pa' rk' mo', INV (bif decide (S 18 1 p = nI 1) then uM (uM (uM S 5 p 0 (nI 1)) 17 0 0 (nI 0)) 18 1 p (nI 0) else _) ng' nm' nc' t' pa' rk' mo' ∧ _
      rw [decide_eq_true a3]
      have n5 : ∀ q j, j ≠ 0 → uM (uM (uM S 5 p 0 (nI 1)) 17 0 0 (nI 0)) 18 1 p (nI 0) 5 q j = S 5 q j := fun q j hj => uM_n (S := S) (fun z => hj z.2.2)
      rw [cond_true]
      refine ⟨rfl, ng, nm, nc, t, pa, rk, mo, ⟨ki, ri, cnt, duty, par, fun q hq => ?_, mach, tk, ch, frs, giv_fr giv (fun _ => rfl) rfl rfl rfl rfl n5, heads, ex, mom_fr mom rfl n5, st_fr st (fun _ => rfl) rfl rfl n5, rk_fr rkk (fun _ => rfl) rfl rfl rfl n5⟩, by omega, by omega⟩
      by_cases hk : q = p
      · subst hk
        exact Or.inl ⟨uM_s, (n5 q 1 (by decide)).trans a2, uM_s⟩
      · have := per q hq
        show (uM S 5 p 0 (nI 1) 5 q 0 = _ ∧ uM S 5 p 0 (nI 1) 5 q 1 = _ ∧ uM S 18 1 p (nI 0) 18 1 q = _) ∨ (uM S 5 p 0 (nI 1) 5 q 0 = _ ∧ uM S 5 p 0 (nI 1) 5 q 1 = _ ∧ uM S 18 1 p (nI 0) 18 1 q = _) ∨ (uM S 5 p 0 (nI 1) 5 q 0 = _ ∧ uM S 5 p 0 (nI 1) 5 q 1 = _ ∧ uM S 18 1 p (nI 0) 18 1 q = _)
        rw [uM_n (show ¬ (5 = 5 ∧ q = p ∧ 0 = 0) from fun z => hk z.2.1), uM_n (show ¬ (5 = 5 ∧ q = p ∧ 1 = 0) from fun z => hk z.2.1), uM_n (show ¬ (18 = 18 ∧ 1 = 1 ∧ q = p) from fun z => hk z.2.2)]
        exact this
    · have e : cbC S (nI p) = 2 := by unfold cbC; rw [h1, ip, a1, a2]; rfl
      rw [hfail e (by rw [a3]; rfl), e]
      exact ⟨uM_s, ng, nm, nc, t, pa, rk, mo, INV_th h0 _, by omega, by omega⟩
theorem step_isBusy {S : Mem} {ng nm nc t pa rk mo : Nat} (h : INV S ng nm nc t pa rk mo) (x : Int32) : STEP (rqC x nm) (bI (decide (S 0 0 0 < S 6 (ix x) 2))) t mo (rIsBusy (TT S (rqC x nm) (uM S 19 0 0 (bI (decide (S 0 0 0 < S 6 (ix x) 2))))) x nm) := by
  unfold rIsBusy
  cases h1 : rgB x nm with
  | false =>
    have e : rqC x nm = 1 := by unfold rqC; rw [h1]; rfl
    rw [e]
    exact step_f h (by decide) rfl
  | true =>
    have e : rqC x nm = 0 := by unfold rqC; rw [h1]; rfl
    rw [e]
    obtain ⟨j, hj, rfl⟩ := rgB_t h1
    have hnm := h.1.2.1.2
    have ij : ix (nI j) = j := ix_nI (by omega)
    rw [ij]
    refine step_q h rfl rfl ?_
    show bI (decide (S 0 0 0 < S 6 j 2)) = bI (decide (S 17 0 1 < S 18 4 j))
    rw [(h.2.2.2.2.2.2.1 j (by omega)).2, h.1.2.2.2.1.1, h.2.1.2.2.2.1.1]
theorem step_state {S : Mem} {ng nm nc t pa rk mo : Nat} (h : INV S ng nm nc t pa rk mo) (x : Int32) : STEP (rqC x nc) (S 9 (ix x) 4) t mo (rAt (uM (TT S (rqC x nc) (uM S 19 0 0 (S 9 (ix x) 4))) 17 0 0 (nI 0)) 11 x nc) := by
  unfold rAt
  cases h1 : rgB x nc with
  | false =>
    have e : rqC x nc = 1 := by unfold rqC; rw [h1]; rfl
    rw [e]
    exact step_f h (by decide) uM_uM
  | true =>
    have e : rqC x nc = 0 := by unfold rqC; rw [h1]; rfl
    rw [e]
    obtain ⟨j, hj, rfl⟩ := rgB_t h1
    have hnc := h.1.2.2.1.2
    have ij : ix (nI j) = j := ix_nI (by omega)
    rw [ij]
    obtain ⟨a, s, k, c1, c2, c3, c4, c5, c6, c7, c8, c9, c10, c11, c12, c13, c14⟩ := h.2.2.2.2.2.2.2.2.1 j hj
    exact step_q h rfl rfl c13
theorem step_rank {S : Mem} {ng nm nc t pa rk mo : Nat} (h : INV S ng nm nc t pa rk mo) (x : Int32) : STEP (rqC x nc) (S 14 0 (ix x)) t mo (rAt (uM (TT S (rqC x nc) (uM S 19 0 0 (S 14 0 (ix x)))) 17 0 0 (nI 0)) 12 x nc) := by
  unfold rAt
  cases h1 : rgB x nc with
  | false =>
    have e : rqC x nc = 1 := by unfold rqC; rw [h1]; rfl
    rw [e]
    exact step_f h (by decide) uM_uM
  | true =>
    have e : rqC x nc = 0 := by unfold rqC; rw [h1]; rfl
    rw [e]
    obtain ⟨j, hj, rfl⟩ := rgB_t h1
    have hnc := h.1.2.2.1.2
    have ij : ix (nI j) = j := ix_nI (by omega)
    rw [ij]
    obtain ⟨a, s, k, c1, c2, c3, c4, c5, c6, c7, c8, c9, c10, c11, c12, c13, c14⟩ := h.2.2.2.2.2.2.2.2.1 j hj
    exact step_q h rfl rfl c14
theorem cnt_nI : ∀ v, v < 256 → ∀ p, p < 8 → cntI (nI v) (nI p) = Nat.testBit v p := by decide +kernel
theorem good_eq {S : Mem} {c : Nat} (h : I_giv1 S c) : bcF (S 9 c 5) = nI (mGood S c) := by
  obtain ⟨⟨v, hv, e⟩, hp⟩ := h
  rw [e, bcF_ok v hv]
  unfold mGood
  congr 1
  refine cntB_cong fun p h8 => ?_
  rw [← (hp p h8).1, e, cnt_nI v hv p h8]
theorem step_approvals {S : Mem} {ng nm nc t pa rk mo : Nat} (h : INV S ng nm nc t pa rk mo) (x : Int32) : STEP (rqC x nc) (bcF (S 9 (ix x) 5)) t mo (rApprovals (uM (TT S (rqC x nc) (uM S 19 0 0 (bcF (S 9 (ix x) 5)))) 17 0 0 (nI 0)) x nc) := by
  unfold rApprovals
  cases h1 : rgB x nc with
  | false =>
    have e : rqC x nc = 1 := by unfold rqC; rw [h1]; rfl
    rw [e]
    exact step_f h (by decide) uM_uM
  | true =>
    have e : rqC x nc = 0 := by unfold rqC; rw [h1]; rfl
    rw [e]
    obtain ⟨j, hj, rfl⟩ := rgB_t h1
    have hnc := h.1.2.2.1.2
    have ij : ix (nI j) = j := ix_nI (by omega)
    rw [ij]
    exact step_q h rfl rfl (good_eq (h.2.2.2.2.2.2.2.2.2.2.1 j (by omega)))
theorem step_withdraw {S : Mem} {ng nm nc t pa rk mo : Nat} (h : INV S ng nm nc t pa rk mo) (x : Int32) : (rWithdraw (TT S (wdC S x nc) (uM S 9 (ix x) 4 (nI 3))) x nc) 17 0 0 = nI (wdC S x nc) ∧ ∃ ng' nm' nc' t' pa' rk' mo', INV (rWithdraw (TT S (wdC S x nc) (uM S 9 (ix x) 4 (nI 3))) x nc) ng' nm' nc' t' pa' rk' mo' ∧ t' ≤ t + 60 ∧ mo' ≤ mo + 1 := by
  unfold rWithdraw
  cases h1 : rgB x nc with
  | false =>
    have e : wdC S x nc = 1 := by unfold wdC; rw [h1]; rfl
    rw [e]
    exact ⟨uM_s, ng, nm, nc, t, pa, rk, mo, INV_th h _, by omega, by omega⟩
  | true =>
    obtain ⟨j, hj, rfl⟩ := rgB_t h1
    have hnc := h.1.2.2.1.2
    have ij : ix (nI j) = j := ix_nI (by omega)
    have h0 := h
    obtain ⟨ki, ri, cnt, duty, par, per, mach, tk, ch, frs, giv, heads, ex, mom, st, rkk⟩ := h
    have c13 : S 9 j 4 = S 18 11 j := by
      obtain ⟨a, s, k, c1, c2, c3, c4, c5, c6, c7, c8, c9, c10, c11, c12, c13, c14⟩ := ch j hj
      exact c13
    by_cases hz : S 9 j 4 = 0
    · have e : wdC S (nI j) nc = 0 := by unfold wdC; rw [h1, ij, hz]; rfl
      rw [e, ij]
      show (bif decide (S 18 11 j = 0) then uM (uM (uM S 9 j 4 (nI 3)) 17 0 0 (nI 0)) 18 11 j (nI 3) else _) 17 0 0 = nI 0 ∧ ∃ ng' nm' nc' t' pa' rk' mo', INV (bif decide (S 18 11 j = 0) then uM (uM (uM S 9 j 4 (nI 3)) 17 0 0 (nI 0)) 18 11 j (nI 3) else _) ng' nm' nc' t' pa' rk' mo' ∧ _
      rw [decide_eq_true (c13.symm.trans hz), cond_true]
      have n9 : ∀ c i, ¬ (c = j ∧ i = 4) → uM (uM (uM S 9 j 4 (nI 3)) 17 0 0 (nI 0)) 18 11 j (nI 3) 9 c i = S 9 c i := fun c i hh => uM_n (fun z => hh z.2)
      have e4 : uM (uM (uM S 9 j 4 (nI 3)) 17 0 0 (nI 0)) 18 11 j (nI 3) 9 j 4 = nI 3 := uM_s
      have hnok : hdOk S j = false := by unfold hdOk; rw [hz]; rfl
      refine ⟨rfl, ng, nm, nc, t, pa, rk, mo, ⟨?_, ri, cnt, duty, par, per, mach, ⟨tk.1, ?_⟩, ?_, ?_, ?_, ?_, ex, mom, ?_, ?_⟩, by omega, by omega⟩
      · refine KI_V ki (fun _ _ _ => rfl) rfl (fun _ _ _ => rfl) (fun _ => rfl) (fun i => n9 i 1 (by omega))
      · intro i hi q hq
        rcases tk.2 i hi q hq with z | ⟨z1, z2, c, z3, z4, z5⟩
        · exact Or.inl z
        · exact Or.inr ⟨z1, z2, c, z3, z4, (n9 c 1 (by omega)).trans z5⟩
      · intro c hc
        obtain ⟨a, s, k, c1, c2, c3, c4, c5, c6, c7, c8, c9, c10, c11, c12, c13, c14⟩ := ch c hc
        refine ⟨a, s, k, c1, c2, c3, (n9 c 0 (by omega)).trans c4, c5, (n9 c 1 (by omega)).trans c6, c7, c8, c9, (n9 c 2 (by omega)).trans c10, by rw [n9 c 2 (by omega)]; exact c11, (n9 c 3 (by omega)).trans c12, ?_, c14⟩
        by_cases hk : c = j
        · subst hk
          exact e4.trans uM_s.symm
        · rw [n9 c 4 (by omega), c13]
          exact (uM_n (fun z => hk z.2.2)).symm
      · intro c hc1 hc2
        obtain ⟨d1, d2, d3, d4⟩ := frs c hc1 hc2
        exact ⟨(n9 c 4 (by omega)).trans d1, (uM_n (fun z => by omega)).trans d2, d3, d4⟩
      · intro c hc
        obtain ⟨d1, d2⟩ := giv c hc
        have e5 := n9 c 5 (by omega)
        refine ⟨by rw [e5]; exact d1, fun p hp => ?_⟩
        rw [e5]
        exact d2 p hp
      · intro q hq
        refine (heads q hq).trans (congrArg oI (bestN_cong (fun c hc => ?_) (fun c _ => rfl)))
        by_cases hk : c = j
        · subst hk
          have a1 : hdOk (uM (uM (uM S 9 c 4 (nI 3)) 17 0 0 (nI 0)) 18 11 c (nI 3)) c = false := by unfold hdOk; rw [e4]; decide
          rw [hnok, a1, Bool.false_and, Bool.false_and]
        · unfold hdOk hdC
          rw [n9 c 4 (by omega), n9 c 1 (by omega)]
      · intro c hc
        have hb : haB (uM (uM (uM S 9 j 4 (nI 3)) 17 0 0 (nI 0)) 18 11 j (nI 3)) c = haB S c := by
          unfold haB
          rw [n9 c 0 (by omega), n9 c 3 (by omega)]; rfl
        obtain ⟨s1, s2⟩ := st c hc
        rw [hb, n9 c 0 (by omega), n9 c 3 (by omega)]
        by_cases hk : c = j
        · subst hk
          rw [e4]
          refine ⟨⟨fun z => absurd z (by decide), fun z => ?_⟩, fun _ => rfl⟩
          have := s1.mpr z
          rw [hz] at this
          exact absurd this (by decide)
        · rw [n9 c 4 (by omega)]
          exact ⟨s1, s2⟩
      · refine ⟨rkk.1, rkk.2.1, fun c hc hh => ?_⟩
        by_cases hk : c = j
        · subst hk
          rw [e4] at hh
          exact absurd hh (by decide)
        · rw [n9 c 4 (by omega)] at hh
          exact rkk.2.2 c hc hh
    · have e : wdC S (nI j) nc = 2 := by unfold wdC; rw [h1, ij, decide_eq_true hz]; rfl
      rw [e, ij]
      show (bif decide (S 18 11 j = 0) then _ else uM S 17 0 0 (nI 2)) 17 0 0 = nI 2 ∧ ∃ ng' nm' nc' t' pa' rk' mo', INV (bif decide (S 18 11 j = 0) then _ else uM S 17 0 0 (nI 2)) ng' nm' nc' t' pa' rk' mo' ∧ _
      rw [decide_eq_false (fun z => hz (c13.trans z))]
      exact ⟨uM_s, ng, nm, nc, t, pa, rk, mo, INV_th h0 _, by omega, by omega⟩
