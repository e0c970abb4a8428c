/-! approving: the step -/
theorem apM_stay {S : Mem} {p c nc N : Nat} (hg : bcF (apS S p c 9 c 5) = nI N) (hN : N < 2 ^ 31) (h : apS S p c 9 c 4 = nI 1 ∨ N < 2) : apM S p c nc = apS S p c := by
  unfold apM
  have : (decide (apS S p c 9 c 4 ≠ nI 1) && decide (nI 2 ≤ bcF (apS S p c 9 c 5))) = false := by
    rcases h with z | z
    · rw [decide_eq_false (p := apS S p c 9 c 4 ≠ nI 1) (fun w => w z), Bool.false_and]
    · rw [hg, decide_eq_false (p := nI 2 ≤ nI N) (by rw [i32_le, toInt_nI (by omega), toInt_nI hN]; omega), Bool.and_false]
  rw [this]; rfl
theorem apM_held {S : Mem} {p c nc N : Nat} (hg : bcF (apS S p c 9 c 5) = nI N) (hN : N < 2 ^ 31) (h : apS S p c 9 c 4 ≠ nI 1) (h2 : 2 ≤ N) : apM S p c nc = hoM (apS S p c) c nc := by
  unfold apM
  rw [decide_eq_true (p := apS S p c 9 c 4 ≠ nI 1) h, hg, decide_eq_true (p := nI 2 ≤ nI N) (by rw [i32_le, toInt_nI (by omega), toInt_nI hN]; omega)]; rfl
theorem step_approve {S : Mem} {ng nm nc t pa rk mo : Nat} (h : INV S ng nm nc t pa rk mo) (hmo : mo + 1 < 2 ^ 20) (x y : Int32) : STEP (apC S x y nc t) (apM S (ix x) (ix y) nc 9 (ix y) 4) t mo (rApprove (uM (TT S (apC S x y nc t) (uM (apM S (ix x) (ix y) nc) 19 0 0 (apM S (ix x) (ix y) nc 9 (ix y) 4))) 17 0 0 (nI 0)) x y nc t) := by
  have hnc := h.1.2.2.1.2
  cases h1 : rgB x 8 with
  | false =>
    have e : apC S x y nc t = 1 := by unfold apC; rw [h1]; rfl
    unfold rApprove
    rw [e, h1]
    exact step_f h (by decide) uM_uM
  | true =>
    cases h2 : rgB y nc with
    | false =>
      have e : apC S x y nc t = 1 := by unfold apC; rw [h1, h2]; rfl
      unfold rApprove
      rw [e, h1, h2]
      exact step_f h (by decide) uM_uM
    | true =>
      obtain ⟨p, hp, rfl⟩ := rgB_t h1
      obtain ⟨c, hc, rfl⟩ := rgB_t h2
      have ip : ix (nI p) = p := ix_nI (by omega)
      have ic : ix (nI c) = c := ix_nI (by omega)
      rw [apC_ok h hp hc, ip, ic, ap_ref hp hc hnc]
      cases ho : okR S p c t with
      | false =>
        rw [cond_false]
        show STEP 2 _ t mo (bif okR S p c t then _ else fl (uM S 17 0 0 (nI 0)) 2)
        rw [ho, cond_false]
        exact step_f h (by decide) uM_uM
      | true =>
        rw [cond_true]
        have ho' := ho
        unfold okR at ho'
        simp only [Bool.and_eq_true, decide_eq_true_eq, Bool.not_eq_true', decide_eq_false_iff_not] at ho'
        obtain ⟨o1, o2, o3, o4, o5⟩ := ho'
        have c13 : S 9 c 4 = S 18 11 c := by
          obtain ⟨a, s, k, c1, c2, c3, c4, c5, c6, c7, c8, c9, c10, c11, c12, c13, c14⟩ := h.2.2.2.2.2.2.2.2.1 c hc
          exact c13
        have c14 : S 14 0 c = S 18 12 c := by
          obtain ⟨a, s, k, c1, c2, c3, c4, c5, c6, c7, c8, c9, c10, c11, c12, c13, c14⟩ := h.2.2.2.2.2.2.2.2.1 c hc
          exact c14
        have hgv := h.2.2.2.2.2.2.2.2.2.2.1 c (by omega)
        have hserv : S 5 p 1 = 0 := by
          rcases h.2.2.2.2.2.1 p hp with ⟨a1, a2, a3⟩ | ⟨a1, a2, a3⟩ | ⟨a1, a2, a3⟩
          · exact a2
          · exact a2
          · rw [a3] at o1; exact absurd o1 (by decide)
        have hbit : cntI (S 9 c 5) (nI p) = false := by rw [(hgv.2 p hp).1]; exact decide_eq_false o4
        have h3 : S 9 c 4 ≠ nI 3 := by rw [c13]; exact o5
        have hN8 : haN S c ≤ 8 := cntB_le _ 8
        have hgood := ap_good hgv hp hbit (apS_95 (S := S) (p := p) (c := c))
        have e94 : apS S p c 9 c 4 = S 9 c 4 := apS_9n (by omega)
        have as18 : apS S p c 18 = S 18 := apS_k (by decide) (by decide) (by decide) (by decide)
        have as17 : apS S p c 17 = S 17 := apS_k (by decide) (by decide) (by decide) (by decide)
        by_cases hs : S 9 c 4 = nI 1 ∨ haN S c + 1 < 2
        · have em : apM S p c nc = apS S p c := apM_stay hgood (by omega) (by rw [e94]; exact hs)
          rw [em]
          obtain ⟨S2, hS2⟩ : ∃ S2, S2 = uM (uM (uM (uM (apS S p c) 19 0 0 (apS S p c 9 c 4)) 17 0 0 (nI 0)) 18 13 (8 * c + p) (nI 1)) 18 14 (8 * c + p) (nI t) := ⟨_, rfl⟩
          have e11 : S2 18 11 = S 18 11 := by rw [hS2]; show apS S p c 18 11 = _; rw [as18]
          have hok : okR (uM (TT S 0 (uM (apS S p c) 19 0 0 (apS S p c 9 c 4))) 17 0 0 (nI 0)) p c t = true := by
            rw [← ho]
            unfold okR
            rw [show uM (TT S 0 (uM (apS S p c) 19 0 0 (apS S p c 9 c 4))) 17 0 0 (nI 0) 18 = S 18 from as18]
          rw [hok, cond_true]
          show STEP 0 _ t mo (rAppr (uM (uM (uM (uM (apS S p c) 19 0 0 (apS S p c 9 c 4)) 17 0 0 (nI 0)) 18 13 (8 * c + p) (nI 1)) 18 14 (8 * c + p) (nI t)) c)
          rw [← hS2]
          have hra : rAppr S2 c = (S 18 11 c, S2) := by
            unfold rAppr
            rw [e11]
            rcases hs with z | z
            · rw [decide_eq_true (c13.symm.trans z), cond_true]
            · have hmg : mGood S2 c = haN S c + 1 := by
                unfold mGood
                exact ap_mgood hgv hp hbit (fun w => by rw [hS2]; show upd (apS S p c 18 13) (8 * c + p) (nI 1) w = _; rw [as18]; rfl)
              rw [hmg, decide_eq_true (show haN S c + 1 ≤ 1 by omega)]
              cases decide (S 18 11 c = nI 1) <;> rfl
          rw [hra]
          refine step_i (T2 := S2) (by rw [hS2]; rfl) (e94.trans c13) (by rw [hS2]; exact ap_stay h hmo hp hc hserv hbit h3 hs) (by omega) (by omega)
        · have hne : S 9 c 4 ≠ nI 1 := fun z => hs (Or.inl z)
          have hN2 : 2 ≤ haN S c + 1 := by
            rcases Nat.lt_or_ge (haN S c + 1) 2 with z | z
            · exact absurd (Or.inr z) hs
            · exact z
          have hcnt := h.2.2.1
          have em : apM S p c nc = hoM (apS S p c) c nc := apM_held hgood (by omega) (by rw [e94]; exact hne) hN2
          have as14 : apS S p c 14 = S 14 := apS_k (by decide) (by decide) (by decide) (by decide)
          have main : ∀ (V : Mem) (r' : Int32) (rk' : Nat), hoM (apS S p c) c nc = fHM V nc → (∀ k, k ≠ 0 → k ≠ 9 → k ≠ 14 → V k = apS S p c k) → (∀ j, j ≠ 10 → V 0 0 j = apS S p c 0 0 j) → V 0 0 10 = nI rk' → (∀ c' j, ¬ (c' = c ∧ j = 4) → V 9 c' j = apS S p c 9 c' j) → V 9 c 4 = nI 1 → (∀ c', V 14 0 c' = if c' = c then r' else S 14 0 c') →
              ((S 14 0 c = -1 ∧ r' = nI rk ∧ rk' = rk + 1) ∨ (S 14 0 c ≠ -1 ∧ r' = S 14 0 c ∧ rk' = rk)) → STEP 0 (hoM (apS S p c) c nc 9 c 4) t mo (bif okR (uM (TT S 0 (uM (hoM (apS S p c) c nc) 19 0 0 (hoM (apS S p c) c nc 9 c 4))) 17 0 0 (nI 0)) p c t then rAppr (uM (uM (uM (TT S 0 (uM (hoM (apS S p c) c nc) 19 0 0 (hoM (apS S p c) c nc 9 c 4))) 17 0 0 (nI 0)) 18 13 (8 * c + p) (nI 1)) 18 14 (8 * c + p) (nI t)) c else fl (uM (TT S 0 (uM (hoM (apS S p c) c nc) 19 0 0 (hoM (apS S p c) c nc 9 c 4))) 17 0 0 (nI 0)) 2) := by
            intro V r' rk' eho vk v0 v0a v9 v94 v14 hr
            rw [eho]
            have V18 : fHM V nc 18 = S 18 := (show fHM V nc 18 = V 18 from rfl).trans ((vk 18 (by decide) (by decide) (by decide)).trans as18)
            have V17 : fHM V nc 17 = S 17 := (show fHM V nc 17 = V 17 from rfl).trans ((vk 17 (by decide) (by decide) (by decide)).trans as17)
            have hok : okR (uM (TT S 0 (uM (fHM V nc) 19 0 0 (fHM V nc 9 c 4))) 17 0 0 (nI 0)) p c t = true := by
              rw [← ho]
              unfold okR
              rw [show uM (TT S 0 (uM (fHM V nc) 19 0 0 (fHM V nc 9 c 4))) 17 0 0 (nI 0) 18 = S 18 from V18]
            rw [hok, cond_true]
            obtain ⟨S2, hS2⟩ : ∃ S2, S2 = uM (uM (uM (uM (fHM V nc) 19 0 0 (fHM V nc 9 c 4)) 17 0 0 (nI 0)) 18 13 (8 * c + p) (nI 1)) 18 14 (8 * c + p) (nI t) := ⟨_, rfl⟩
            show STEP 0 _ t mo (rAppr (uM (uM (uM (uM (fHM V nc) 19 0 0 (fHM V nc 9 c 4)) 17 0 0 (nI 0)) 18 13 (8 * c + p) (nI 1)) 18 14 (8 * c + p) (nI t)) c)
            rw [← hS2]
            have e11 : S2 18 11 = S 18 11 := by rw [hS2]; show fHM V nc 18 11 = _; rw [V18]
            have e12 : S2 18 12 = S 18 12 := by rw [hS2]; show fHM V nc 18 12 = _; rw [V18]
            have e17 : S2 17 0 12 = nI rk := by rw [hS2]; show fHM V nc 17 0 12 = _; rw [V17]; exact hcnt.1.2.1
            have hmg : mGood S2 c = haN S c + 1 := by
              unfold mGood
              exact ap_mgood hgv hp hbit (fun w => by rw [hS2]; show upd (fHM V nc 18 13) (8 * c + p) (nI 1) w = _; rw [V18]; rfl)
            have hra : rAppr S2 c = (nI 1, uM (uM (uM S2 18 11 c (nI 1)) 17 0 12 (nI rk')) 18 12 c r') := by
              unfold rAppr
              rw [e11, e12, e17, hmg, decide_eq_false (show ¬ S 18 11 c = nI 1 from fun z => hne (c13.trans z)), decide_eq_false (show ¬ haN S c + 1 ≤ 1 by omega), cond_false, cond_false]
              rcases hr with ⟨q1, q2, q3⟩ | ⟨q1, q2, q3⟩
              · rw [decide_eq_true (c14.symm.trans q1), cond_true, nI_add, q2, q3]
                have : nI (rk + 1) - nI 1 = nI rk := lI_sub (rk + 1)
                rw [this]
              · rw [decide_eq_false (fun z => q1 (c14.trans z)), cond_false, nI_add, q2, q3, c14]; rfl
            rw [hra]
            refine step_i (by rw [hS2]; rfl) ((show fHM V nc 9 c 4 = V 9 c 4 from rfl).trans v94) (by rw [hS2]; exact ap_held h hmo hp hc hserv hbit h3 hN2 vk v0 v0a v9 v94 v14 hr) (by omega) (by omega)
          rw [em]
          have eU : uM (apS S p c) 9 c 4 (nI 1) 14 0 c = S 14 0 c := (show apS S p c 14 0 c = _ from by rw [as14])
          by_cases hz : S 14 0 c = -1
          · refine main (uM (uM (uM (apS S p c) 9 c 4 (nI 1)) 14 0 c (nI rk)) 0 0 10 (nI (rk + 1))) (nI rk) (rk + 1) ?_ (fun k a b d => ?_) (fun j hj => ?_) uM_s (fun c' j hh => ?_) ?_ (fun c' => ?_) (Or.inl ⟨hz, rfl, rfl⟩)
            · unfold hoM
              rw [eU, decide_eq_true hz, cond_true]
              have e10 : uM (apS S p c) 9 c 4 (nI 1) 0 0 10 = nI rk := (apS_0 (S := S) (p := p) (c := c) (j := 10) (by decide)).trans hcnt.1.1
              rw [e10, nI_add]
            · funext i
              exact (uS_n (fun z => a z.1)).trans ((uS_n (fun z => d z.1)).trans (uS_n (fun z => b z.1)))
            · rw [uM_n (fun z => hj z.2.2)]; rfl
            · show uM (apS S p c) 9 c 4 (nI 1) 9 c' j = _
              exact uM_n (fun z => hh z.2)
            · show uM (apS S p c) 9 c 4 (nI 1) 9 c 4 = _
              exact uM_s
            · show upd (apS S p c 14 0) c (nI rk) c' = _
              rw [as14]; rfl
          · refine main (uM (apS S p c) 9 c 4 (nI 1)) (S 14 0 c) rk ?_ (fun k a b d => ?_) (fun j hj => rfl) ((apS_0 (S := S) (p := p) (c := c) (j := 10) (by decide)).trans hcnt.1.1) (fun c' j hh => uM_n (fun z => hh z.2)) uM_s (fun c' => ?_) (Or.inr ⟨hz, rfl, rfl⟩)
            · unfold hoM
              rw [eU, decide_eq_false hz, cond_false]
            · funext i
              exact uS_n (fun z => b z.1)
            · show apS S p c 14 0 c' = _
              rw [as14]
              by_cases hk : c' = c
              · rw [if_pos hk, hk]
              · rw [if_neg hk]
