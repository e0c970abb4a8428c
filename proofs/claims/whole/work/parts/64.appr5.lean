/-! approving: the step -/
theorem apM_stay {S : Mem} {p c nc N : Nat} (hg : bcF (apS S p c 9 c 5) = nI N) (hN : N < 2 ^ 31) (h : apS S p c 9 c 4 = nI 1 ∨ N < 2) : apM S p c nc = apS S p c := by
  unfold apM
  have : (decide (apS S p c 9 c 4 ≠ nI 1) && decide (nI 2 ≤ bcF (apS S p c 9 c 5))) = false := by
    rcases h with z | z
    · rw [decide_eq_false (p := apS S p c 9 c 4 ≠ nI 1) (fun w => w z), Bool.false_and]
    · rw [hg, decide_eq_false (p := nI 2 ≤ nI N) (by rw [i32_le, toInt_nI (by omega), toInt_nI hN]; omega), Bool.and_false]
  rw [this]; rfl
theorem apM_held {S : Mem} {p c nc N : Nat} (hg : bcF (apS S p c 9 c 5) = nI N) (hN : N < 2 ^ 31) (h : apS S p c 9 c 4 ≠ nI 1) (h2 : 2 ≤ N) : apM S p c nc = hoM (apS S p c) c nc := by
  unfold apM
  rw [decide_eq_true (p := apS S p c 9 c 4 ≠ nI 1) h, hg, decide_eq_true (p := nI 2 ≤ nI N) (by rw [i32_le, toInt_nI (by omega), toInt_nI hN]; omega)]; rfl
theorem step_approve {S : Mem} {ng nm nc t pa rk mo : Nat} (h : INV S ng nm nc t pa rk mo) (hmo : mo + 1 < 2 ^ 20) (x y : Int32) : STEP (apC S x y nc t) (apM S (ix x) (ix y) nc 9 (ix y) 4) t mo (rApprove (uM (TT S (apC S x y nc t) (uM (apM S (ix x) (ix y) nc) 19 0 0 (apM S (ix x) (ix y) nc 9 (ix y) 4))) 17 0 0 (nI 0)) x y nc t) := by
  have hnc := h.1.2.2.1.2
  cases h1 : rgB x 8 with
  | false =>
    have e : apC S x y nc t = 1 := by unfold apC; rw [h1]; rfl
    unfold rApprove
    rw [e, h1]
    exact step_f h (by decide) uM_uM
  | true =>
    cases h2 : rgB y nc with
    | false =>
      have e : apC S x y nc t = 1 := by unfold apC; rw [h1, h2]; rfl
      unfold rApprove
      rw [e, h1, h2]
      exact step_f h (by decide) uM_uM
    | true =>
      obtain ⟨p, hp, rfl⟩ := rgB_t h1
      obtain ⟨c, hc, rfl⟩ := rgB_t h2
      have ip : ix (nI p) = p := ix_nI (by omega)
      have ic : ix (nI c) = c := ix_nI (by omega)
      rw [apC_ok h hp hc, ip, ic, ap_ref hp hc hnc]
      cases ho : okR S p c t with
      | false =>
        rw [cond_false]
        show STEP 2 _ t mo (bif okR S p c t then _ else fl (uM S 17 0 0 (nI 0)) 2)
        rw [ho, cond_false]
        exact step_f h (by decide) uM_uM
      | true =>
        rw [cond_true]
        have ho' := ho
        unfold okR at ho'
        simp only [Bool.and_eq_true, decide_eq_true_eq, Bool.not_eq_true', decide_eq_false_iff_not] at ho'
        obtain ⟨o1, o2, o3, o4, o5⟩ := ho'
        have c13 : S 9 c 4 = S 18 11 c := by
          obtain ⟨a, s, k, c1, c2, c3, c4, c5, c6, c7, c8, c9, c10, c11, c12, c13, c14⟩ := h.2.2.2.2.2.2.2.2.1 c hc
          exact c13
        have c14 : S 14 0 c = S 18 12 c := by
          obtain ⟨a, s, k, c1, c2, c3, c4, c5, c6, c7, c8, c9, c10, c11, c12, c13, c14⟩ := h.2.2.2.2.2.2.2.2.1 c hc
          exact c14
        have hgv := h.2.2.2.2.2.2.2.2.2.2.1 c (by omega)
        have hserv : S 5 p 1 = 0 := by
          rcases h.2.2.2.2.2.1 p hp with ⟨a1, a2, a3⟩ | ⟨a1, a2, a3⟩ | ⟨a1, a2, a3⟩
          · exact a2
          · exact a2
          · rw [a3] at o1; exact absurd o1 (by decide)
        have hbit : cntI (S 9 c 5) (nI p) = false := by rw [(hgv.2 p hp).1]; exact decide_eq_false o4
        have h3 : S 9 c 4 ≠ nI 3 := by rw [c13]; exact o5
        have hN8 : haN S c ≤ 8 := cntB_le _ 8
        have hgood := ap_good hgv hp hbit (apS_95 (S := S) (p := p) (c := c))
        have e94 : apS S p c 9 c 4 = S 9 c 4 := apS_9n (by omega)
        have as18 : apS S p c 18 = S 18 := apS_k (by decide) (by decide) (by decide) (by decide)
        have as17 : apS S p c 17 = S 17 := apS_k (by decide) (by decide) (by decide) (by decide)
        by_cases hs : S 9 c 4 = nI 1 ∨ haN S c + 1 < 2
        · have em : apM S p c nc = apS S p c := apM_stay hgood (by omega) (by rw [e94]; exact hs)
          rw [em]
          obtain ⟨S2, hS2⟩ : ∃ S2, S2 = uM (uM (uM (uM (apS S p c) 19 0 0 (apS S p c 9 c 4)) 17 0 0 (nI 0)) 18 13 (8 * c + p) (nI 1)) 18 14 (8 * c + p) (nI t) := ⟨_, rfl⟩
          have e11 : S2 18 11 = S 18 11 := by rw [hS2]; show apS S p c 18 11 = _; rw [as18]
          have hok : okR (uM (TT S 0 (uM (apS S p c) 19 0 0 (apS S p c 9 c 4))) 17 0 0 (nI 0)) p c t = true := by
            rw [← ho]
            unfold okR
            rw [show uM (TT S 0 (uM (apS S p c) 19 0 0 (apS S p c 9 c 4))) 17 0 0 (nI 0) 18 = S 18 from as18]
          rw [hok, cond_true]
          show STEP 0 _ t mo (rAppr (uM (uM (uM (uM (apS S p c) 19 0 0 (apS S p c 9 c 4)) 17 0 0 (nI 0)) 18 13 (8 * c + p) (nI 1)) 18 14 (8 * c + p) (nI t)) c)
          rw [← hS2]
          have hra : rAppr S2 c = (S 18 11 c, S2) := by
            unfold rAppr
            rw [e11]
            rcases hs with z | z
            · rw [decide_eq_true (c13.symm.trans z), cond_true]
            · have hmg : mGood S2 c = haN S c + 1 := by
                unfold mGood
                exact ap_mgood hgv hp hbit (fun w => by rw [hS2]; show upd (apS S p c 18 13) (8 * c + p) (nI 1) w = _; rw [as18]; rfl)
              rw [hmg, decide_eq_true (show haN S c + 1 ≤ 1 by omega)]
              cases decide (S 18 11 c = nI 1) <;> rfl
          rw [hra]
          refine step_i (T2 := S2) (by rw [hS2]; rfl) (e94.trans c13) (by rw [hS2]; exact ap_stay h hmo hp hc hserv hbit h3 hs) (by omega) (by omega)
        · sorry
