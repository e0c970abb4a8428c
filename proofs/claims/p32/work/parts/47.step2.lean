/-! bits -/
theorem shf_get : ∀ o, o < 8 → ∀ p, p < 8 → (nI 1 <<< (nI o &&& 31) : Int32).toBitVec.getLsbD p = decide (p = o) := by decide +kernel
theorem shn_get : ∀ o, o < 8 → ∀ p, p < 8 → ((nI 1 <<< (nI o &&& 31)) ^^^ (-1) : Int32).toBitVec.getLsbD p = !decide (p = o) := by decide +kernel
theorem sh_amt : ∀ p, p < 8 → ((nI p &&& 31 : Int32).toBitVec.smod 32).toNat = p := by decide +kernel
theorem and1_get (z : Int32) : decide (z &&& nI 1 ≠ 0) = z.toBitVec.getLsbD 0 := by
  have e : (z &&& nI 1).toBitVec.getLsbD 0 = z.toBitVec.getLsbD 0 := by
    rw [Int32.toBitVec_and, BitVec.getLsbD_and]
    have : (nI 1).toBitVec.getLsbD 0 = true := by decide
    rw [this, Bool.and_true]
  rw [← e]
  rcases and1 z with h | h
  · rw [h]; decide
  · rw [h]; decide
theorem cnt_get (x : Int32) {p : Nat} (hp : p < 8) : cntI x (nI p) = x.toBitVec.getLsbD p := by
  unfold cntI
  rw [and1_get, Int32.toBitVec_shiftRight]
  show (x.toBitVec.sshiftRight ((nI p &&& 31 : Int32).toBitVec.smod 32).toNat).getLsbD 0 = _
  rw [sh_amt p hp, BitVec.getLsbD_sshiftRight]
  simp
  intro h
  omega
theorem wth_cnt (x : Int32) {o p : Nat} (b : Bool) (ho : o < 8) (hp : p < 8) : cntI (wthI x (nI o) b) (nI p) = if p = o then b else cntI x (nI p) := by
  rw [cnt_get _ hp, cnt_get _ hp]
  unfold wthI
  cases b with
  | true =>
    rw [cond_true, Int32.toBitVec_or, BitVec.getLsbD_or, shf_get o ho p hp]
    by_cases h : p = o
    · rw [if_pos h, decide_eq_true h, Bool.or_true]
    · rw [if_neg h, decide_eq_false h, Bool.or_false]
  | false =>
    rw [cond_false, Int32.toBitVec_and, BitVec.getLsbD_and, shn_get o ho p hp]
    by_cases h : p = o
    · rw [if_pos h, decide_eq_true h, Bool.not_true, Bool.and_false]
    · rw [if_neg h, decide_eq_false h, Bool.not_false, Bool.and_true]
theorem xor_cnt (x : Int32) {o p : Nat} (ho : o < 8) (hp : p < 8) : cntI (x ^^^ (nI 1 <<< (nI o &&& 31))) (nI p) = if p = o then !cntI x (nI p) else cntI x (nI p) := by
  rw [cnt_get _ hp, cnt_get _ hp, Int32.toBitVec_xor, BitVec.getLsbD_xor, shf_get o ho p hp]
  by_cases h : p = o
  · rw [if_pos h, decide_eq_true h, Bool.xor_true]
  · rw [if_neg h, decide_eq_false h, Bool.xor_false]
/-- how the groups' excluding reads -/
theorem exM_cnt {S : Mem} {k o k' o' : Nat} {b : Bool} (hk : k < 6) (ho : o < 6) (hk' : k' < 6) (ho' : o' < 6) (hne : k ≠ o) : cntI (exM S k o b 1 2 k') (nI o') = if (k' = k ∧ o' = o) ∨ (k' = o ∧ o' = k) then b else cntI (S 1 2 k') (nI o') := by
  unfold exM
  by_cases h1 : k' = o
  · subst h1
    rw [uM_s, uM_n (show ¬ (1 = 1 ∧ 2 = 2 ∧ k' = k) from fun z => hne z.2.2.symm), wth_cnt _ b (by omega) (by omega)]
    by_cases h2 : o' = k
    · rw [if_pos h2, if_pos (Or.inr ⟨rfl, h2⟩)]
    · rw [if_neg h2, if_neg (fun z => by omega)]
  · rw [uM_n (fun z => h1 z.2.2)]
    by_cases h2 : k' = k
    · subst h2
      rw [uM_s, wth_cnt _ b (by omega) (by omega)]
      by_cases h3 : o' = o
      · rw [if_pos h3, if_pos (Or.inl ⟨rfl, h3⟩)]
      · rw [if_neg h3, if_neg (fun z => by omega)]
    · rw [uM_n (fun z => h2 z.2.2), if_neg (fun z => by omega)]
/-- all but excluding stays -/
theorem INV_ex {S T : Mem} {ng nm nc t pa rk mo : Nat} (h : INV S ng nm nc t pa rk mo) (f0 : ∀ a i, a ≠ 1 → a ≠ 19 → a ≠ 17 → ¬ (a = 18 ∧ i = 15) → T a i = S a i) (f1 : ∀ i, i ≠ 2 → T 1 i = S 1 i) (f17 : ∀ j, j ≠ 0 → T 17 0 j = S 17 0 j) (hx : I_ex T) : INV T ng nm nc t pa rk mo := by
  obtain ⟨ki, ri, cnt, duty, par, per, mach, tk, ch, frs, giv, heads, ex, mom, st, rkk⟩ := h
  have g : ∀ a, a ≠ 1 → a ≠ 19 → a ≠ 17 → a ≠ 18 → T a = S a := fun a q1 q2 q3 q4 => funext fun i => f0 a i q1 q2 q3 (fun z => q4 z.1)
  have g18 : ∀ i, i ≠ 15 → T 18 i = S 18 i := fun i q => f0 18 i (by decide) (by decide) (by decide) (fun z => q z.2)
  have ecl : ∀ i, clay T i = clay S i := fun i => clay_fr (by rw [g 6 (by decide) (by decide) (by decide) (by decide)]) (by rw [g 7 (by decide) (by decide) (by decide) (by decide)])
  have egr : ∀ i, grp T i = grp S i := fun i => by unfold grp; rw [g18 3 (by decide)]
  refine ⟨?_, ?_, ?_, ?_, ?_, ?_, ?_, ?_, ?_, ?_, ?_, ?_, hx, ?_, ?_, ?_⟩
  · exact KI_V ki (fun j _ _ => by rw [g 0 (by decide) (by decide) (by decide) (by decide)]) (f1 1 (by decide)) (fun i j _ => by rw [g 6 (by decide) (by decide) (by decide) (by decide)]) (fun i => by rw [g 7 (by decide) (by decide) (by decide) (by decide)]) (fun i => by rw [g 9 (by decide) (by decide) (by decide) (by decide)])
  · unfold RI TK at ri ⊢
    rw [f17 4 (by decide), f17 6 (by decide), f17 11 (by decide), f17 1 (by decide), f17 7 (by decide), g18 2 (by decide), g18 3 (by decide), g18 5 (by decide)]
    obtain ⟨r1, r2, r3, r4, r5, r6, r7, r8, r9⟩ := ri
    exact ⟨r1, r2, r3, r4, r5, r6, r7, r8, fun m hm s hs hn k hk => r9 m hm s hs (by rw [← egr]; exact hn) k hk⟩
  · unfold I_cnt at cnt ⊢
    rw [g 0 (by decide) (by decide) (by decide) (by decide), f17 12 (by decide)]; exact cnt
  · intro i hi; rw [f1 0 (by decide), g18 0 (by decide)]; exact duty i hi
  · intro i hi; rw [f1 1 (by decide), g18 2 (by decide)]; exact par i hi
  · intro i hi; rw [g 5 (by decide) (by decide) (by decide) (by decide), g18 1 (by decide)]; exact per i hi
  · intro i hi; rw [g 6 (by decide) (by decide) (by decide) (by decide), g18 3 (by decide), g18 4 (by decide), g18 2 (by decide), ecl, egr]; exact mach i hi
  · unfold I_tk at tk ⊢
    rw [g18 5 (by decide), g 8 (by decide) (by decide) (by decide) (by decide), g 9 (by decide) (by decide) (by decide) (by decide)]
    refine ⟨tk.1, fun i hi q hq => ?_⟩
    rw [ecl]; exact tk.2 i hi q hq
  · intro c hc
    unfold I_ch1
    rw [g 9 (by decide) (by decide) (by decide) (by decide), g 14 (by decide) (by decide) (by decide) (by decide), g18 6 (by decide), g18 7 (by decide), g18 8 (by decide), g18 9 (by decide), g18 10 (by decide), g18 11 (by decide), g18 12 (by decide)]
    exact ch c hc
  · intro c h1 h2
    rw [g 9 (by decide) (by decide) (by decide) (by decide), g 14 (by decide) (by decide) (by decide) (by decide), g18 11 (by decide), g 11 (by decide) (by decide) (by decide) (by decide)]
    exact frs c h1 h2
  · exact giv_fr giv (fun c => by rw [g 9 (by decide) (by decide) (by decide) (by decide)]) (g18 13 (by decide)) (g18 14 (by decide)) (g 10 (by decide) (by decide) (by decide) (by decide)) (g 11 (by decide) (by decide) (by decide) (by decide)) (fun p j _ => by rw [g 5 (by decide) (by decide) (by decide) (by decide)])
  · intro q hq
    unfold hdOk hdC
    rw [g 13 (by decide) (by decide) (by decide) (by decide), g 14 (by decide) (by decide) (by decide) (by decide), g 9 (by decide) (by decide) (by decide) (by decide)]
    exact heads q hq
  · exact mom_fr mom (g 11 (by decide) (by decide) (by decide) (by decide)) (fun p j _ => by rw [g 5 (by decide) (by decide) (by decide) (by decide)])
  · exact st_fr st (fun c => by rw [g 9 (by decide) (by decide) (by decide) (by decide)]) (g 10 (by decide) (by decide) (by decide) (by decide)) (g 11 (by decide) (by decide) (by decide) (by decide)) (fun p j _ => by rw [g 5 (by decide) (by decide) (by decide) (by decide)])
  · exact rk_fr rkk (fun c => by rw [g 9 (by decide) (by decide) (by decide) (by decide)]) (by rw [g 14 (by decide) (by decide) (by decide) (by decide)]) (g 10 (by decide) (by decide) (by decide) (by decide)) (g 11 (by decide) (by decide) (by decide) (by decide)) (fun p j _ => by rw [g 5 (by decide) (by decide) (by decide) (by decide)])
theorem step_exclude {S : Mem} {ng nm nc t pa rk mo : Nat} (h : INV S ng nm nc t pa rk mo) (x y : Int32) (b : Bool) : STEP (exC x y) (bI (cntI (S 1 2 (ix x)) y)) t mo (rExclude (TT S (exC x y) (uM (exM S (ix x) (ix y) b) 19 0 0 (bI (cntI (S 1 2 (ix x)) y)))) x y b) := by
  unfold rExclude
  cases h1 : rgB x 6 with
  | false =>
    have e : exC x y = 1 := by unfold exC; rw [h1]; rfl
    rw [e]
    exact step_f h (by decide) rfl
  | true =>
    cases h2 : rgB y 6 with
    | false =>
      have e : exC x y = 1 := by unfold exC; rw [h1, h2]; rfl
      rw [e]
      exact step_f h (by decide) rfl
    | true =>
      obtain ⟨k, hk, rfl⟩ := rgB_t h1
      obtain ⟨o, ho, rfl⟩ := rgB_t h2
      have ik : ix (nI k) = k := ix_nI (by omega)
      have io : ix (nI o) = o := ix_nI (by omega)
      rw [cond_true, cond_true]
      by_cases hko : k = o
      · have e : exC (nI k) (nI o) = 2 := by unfold exC; rw [h1, h2, ik, io, decide_eq_true hko]; rfl
        rw [e, decide_eq_true (congrArg nI hko)]
        exact step_f h (by decide) rfl
      · have e : exC (nI k) (nI o) = 0 := by unfold exC; rw [h1, h2, ik, io, decide_eq_false hko]; rfl
        rw [e, decide_eq_false (fun z => hko ((nI_eq (by omega) (by omega)).mp z)), cond_false, ik, io]
        obtain ⟨ki, ri, cnt, duty, par, per, mach, tk, ch, frs, giv, heads, ex, mom, st, rkk⟩ := h
        have hex := ex k o hk ho
        obtain ⟨T, hT⟩ : ∃ T, T = uM (TT S 0 (uM (exM S k o b) 19 0 0 (bI (cntI (S 1 2 k) (nI o))))) 17 0 0 (nI 0) := ⟨_, rfl⟩
        have e15 : T 18 15 = S 18 15 := by rw [hT]; rfl
        have e2 : T 1 2 = exM S k o b 1 2 := by rw [hT]; rfl
        rw [← hT]
        obtain ⟨T2, hT2⟩ : ∃ T2, T2 = (rExcl T (nI k) (nI o) b).2 := ⟨_, rfl⟩
        have hr1 : (rExcl T (nI k) (nI o) b).1 = bI (bitI (S 18 15 k) (nI o)) := by unfold rExcl; rw [ik, e15]
        have hfr : ∀ a i, ¬ (a = 18 ∧ i = 15) → T2 a i = T a i := by
          intro a i hh
          rw [hT2]
          unfold rExcl
          dsimp only
          cases (bitI (T 18 15 (ix (nI k))) (nI o) == b) with
          | true => rfl
          | false => exact (uS_n hh).trans (uS_n hh)
        have hbits : ∀ k' o', k' < 6 → o' < 6 → bitI (T2 18 15 k') (nI o') = if (k' = k ∧ o' = o) ∨ (k' = o ∧ o' = k) then b else bitI (S 18 15 k') (nI o') := by
          intro k' o' hk' ho'
          rw [hT2]
          unfold rExcl
          dsimp only
          rw [ik, io, e15]
          have hsym : bitI (S 18 15 o) (nI k) = bitI (S 18 15 k) (nI o) := by
            rw [← (ex o k ho hk).1, ← hex.1, hex.2]
          cases hb : (bitI (S 18 15 k) (nI o) == b) with
          | true =>
            have hb2 := eq_of_beq hb
            rw [cond_true, e15]
            by_cases hc : (k' = k ∧ o' = o) ∨ (k' = o ∧ o' = k)
            · rw [if_pos hc]
              rcases hc with ⟨rfl, rfl⟩ | ⟨rfl, rfl⟩
              · exact hb2
              · exact hsym.trans hb2
            · rw [if_neg hc]
          | false =>
            have hb2 : b = !bitI (S 18 15 k) (nI o) := by
              cases hq : bitI (S 18 15 k) (nI o) <;> cases b <;> rw [hq] at hb <;> first | rfl | cases hb
            rw [cond_false]
            by_cases h3 : k' = o
            · subst h3
              rw [uM_s, uM_n (show ¬ (18 = 18 ∧ 15 = 15 ∧ k' = k) from fun z => hko z.2.2.symm), e15, ← cnt_bit, xor_cnt _ (by omega) (by omega), cnt_bit]
              by_cases h4 : o' = k
              · subst h4
                rw [if_pos rfl, if_pos (Or.inr ⟨rfl, rfl⟩), hb2, hsym]
              · rw [if_neg h4, if_neg (fun z => by omega)]
            · rw [uM_n (fun z => h3 z.2.2)]
              by_cases h5 : k' = k
              · subst h5
                rw [uM_s, ← cnt_bit, xor_cnt _ (by omega) (by omega), cnt_bit]
                by_cases h6 : o' = o
                · subst h6
                  rw [if_pos rfl, if_pos (Or.inl ⟨rfl, rfl⟩), hb2]
                · rw [if_neg h6, if_neg (fun z => by omega)]
              · rw [uM_n (fun z => h5 z.2.2), e15, if_neg (fun z => by omega)]
        refine ⟨?_, fun _ => ?_, ng, nm, nc, t, pa, rk, mo, ?_, by omega, by omega⟩
        · rw [← hT2, hfr 17 0 (by omega), hT]; rfl
        · rw [hr1, hex.1]
        · rw [← hT2]
          have hI : INV T ng nm nc t pa rk mo ∨ True := Or.inr trivial
          have f0 : ∀ a i, a ≠ 1 → a ≠ 19 → a ≠ 17 → ¬ (a = 18 ∧ i = 15) → T2 a i = S a i := by
            intro a i q1 q2 q3 q4
            rw [hfr a i q4, hT]
            exact (uS_n (fun z => q3 z.1)).trans ((uS_n (fun z => q2 z.1)).trans ((uS_n (fun z => q1 z.1)).trans (uS_n (fun z => q1 z.1))))
          have f1 : ∀ i, i ≠ 2 → T2 1 i = S 1 i := by
            intro i q
            rw [hfr 1 i (by omega), hT]
            exact (uS_n (fun z => q z.2)).trans (uS_n (fun z => q z.2))
          have f17 : ∀ j, j ≠ 0 → T2 17 0 j = S 17 0 j := by
            intro j q
            rw [hfr 17 0 (by omega), hT]
            exact (uM_n (fun z => q z.2.2)).trans rfl
          exact INV_ex ⟨ki, ri, cnt, duty, par, per, mach, tk, ch, frs, giv, heads, ex, mom, st, rkk⟩ f0 f1 f17 (fun k' o' hk' ho' => by
            rw [hbits k' o' hk' ho', hfr 1 2 (by omega), e2, exM_cnt hk ho hk' ho' hko, exM_cnt hk ho ho' hk' hko]
            obtain ⟨g1, g2⟩ := ex k' o' hk' ho'
            by_cases hc : (k' = k ∧ o' = o) ∨ (k' = o ∧ o' = k)
            · have hc2 : (o' = k ∧ k' = o) ∨ (o' = o ∧ k' = k) := by omega
              simp only [if_pos hc, if_pos hc2, and_self]
            · have hc2 : ¬ ((o' = k ∧ k' = o) ∨ (o' = o ∧ k' = k)) := by omega
              simp only [if_neg hc, if_neg hc2]
              exact ⟨g1, g2⟩)
