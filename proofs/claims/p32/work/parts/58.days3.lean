/-! passing days -/
theorem far_18 {S T : Mem} {nc m : Nat} (h : T 18 = S 18) : mFar T nc m (grp T m) = mFar S nc m (grp S m) := by
  have e : grp T m = grp S m := by unfold grp; rw [h]
  rw [e]
  unfold mFar mLag mTop mTopI mOkI
  rw [h]
theorem idle_days {R : Mem} {nm nc t pa : Nat} (hn0 : R 17 0 1 = nI t) (h : ∀ m, m < nm → mHalt R m = false ∧ (pa = 0 ∨ mFar R nc m (grp R m) = 0) ∧ ¬ (R 17 0 1 < R 18 4 m)) : ∀ n, t + n < 2 ^ 20 → rDays R nc nm pa n = (uM R 17 0 1 (R 17 0 1 + nI n), 0)
  | 0, _ => by
    have e : R 17 0 1 + nI 0 = R 17 0 1 := by rw [hn0, nI_add]; rfl
    show (R, 0) = _
    rw [e, uM_self]
  | n + 1, hn => by
    show ((rDay (rDays R nc nm pa n).1 nc nm pa).1, (rDays R nc nm pa n).2 + (rDay (rDays R nc nm pa n).1 nc nm pa).2) = _
    rw [idle_days hn0 h n (by omega)]
    have e1 : uM (uM R 17 0 1 (R 17 0 1 + nI n)) 17 0 1 (uM R 17 0 1 (R 17 0 1 + nI n) 17 0 1 + nI 1) = uM R 17 0 1 (R 17 0 1 + nI (n + 1)) := by
      rw [uM_s, uM_uM, hn0, nI_add, nI_add, nI_add, Nat.add_assoc]
    have e2 : pSts nc (uM R 17 0 1 (R 17 0 1 + nI (n + 1)), pa, 0) nm = (uM R 17 0 1 (R 17 0 1 + nI (n + 1)), pa, 0) := by
      refine pSts_same nm fun m hm => ?_
      obtain ⟨h1, h2, h3⟩ := h m hm
      have e18 : uM R 17 0 1 (R 17 0 1 + nI (n + 1)) 18 = R 18 := rfl
      unfold pSt
      dsimp only
      rw [halt_18 e18, h1, cond_false, far_18 e18]
      have hb : decide (uM R 17 0 1 (R 17 0 1 + nI (n + 1)) 17 0 1 < uM R 17 0 1 (R 17 0 1 + nI (n + 1)) 18 4 m) = false := by
        refine decide_eq_false fun z => h3 ?_
        rw [uM_s] at z
        have z2 : R 17 0 1 + nI (n + 1) < R 18 4 m := z
        rw [hn0] at z2 ⊢
        rw [nI_add, i32_lt, toInt_nI (by omega)] at z2
        rw [i32_lt, toInt_nI (by omega)]
        omega
      rw [hb, cond_false]
      rcases h2 with z | z
      · rw [decide_eq_true z]; rfl
      · rw [z]
        cases decide (pa = 0) <;> rfl
    unfold rDay
    dsimp only
    rw [e1, e2]
    rfl
theorem rDays_sh {R : Mem} {nc nm pa : Nat} : ∀ n, rDays R nc nm pa (n + 1) = ((rDays (rDay R nc nm pa).1 nc nm pa n).1, (rDay R nc nm pa).2 + (rDays (rDay R nc nm pa).1 nc nm pa n).2)
  | 0 => by
    show ((rDay R nc nm pa).1, 0 + (rDay R nc nm pa).2) = ((rDay R nc nm pa).1, (rDay R nc nm pa).2 + 0)
    rw [Nat.zero_add, Nat.add_zero]
  | n + 1 => by
    have ih := rDays_sh (R := R) (nc := nc) (nm := nm) (pa := pa) n
    show ((rDay (rDays R nc nm pa (n + 1)).1 nc nm pa).1, (rDays R nc nm pa (n + 1)).2 + (rDay (rDays R nc nm pa (n + 1)).1 nc nm pa).2) = _
    rw [ih]
    show ((rDay (rDays (rDay R nc nm pa).1 nc nm pa n).1 nc nm pa).1, (rDay R nc nm pa).2 + (rDays (rDay R nc nm pa).1 nc nm pa n).2 + (rDay (rDays (rDay R nc nm pa).1 nc nm pa n).1 nc nm pa).2) = ((rDay (rDays (rDay R nc nm pa).1 nc nm pa n).1 nc nm pa).1, (rDay R nc nm pa).2 + ((rDays (rDay R nc nm pa).1 nc nm pa n).2 + (rDay (rDays (rDay R nc nm pa).1 nc nm pa n).1 nc nm pa).2))
    rw [Nat.add_assoc]
theorem pass_eq {ng nm nc pa rk mo : Nat} : ∀ (n : Nat) (C R : Mem) (t a : Nat), INV (mrg C R) ng nm nc t pa rk mo → t + n < 2 ^ 20 → INV (mrg (cPassN nc nm pa n (C, a)).1 (rDays R nc nm pa n).1) ng nm nc (t + n) pa rk mo ∧ (cPassN nc nm pa n (C, a)).2 = a + (rDays R nc nm pa n).2
  | 0, C, R, t, a, h, _ => ⟨h, rfl⟩
  | n + 1, C, R, t, a, h, ht => by
    obtain ⟨d1, d2⟩ := day_eq h (by omega)
    have hnm := h.1.2.1.2
    rw [rDays_sh]
    unfold cPassN
    dsimp only
    rw [d2]
    have e3 : t + (n + 1) = t + 1 + n := by omega
    cases hc : (decide ((rDay R nc nm pa).2 = 0) && !cBusy (cDay (uM C 0 0 0 (C 0 0 0 + nI 1)) nc nm pa).1 nm) with
    | false =>
      rw [cond_false]
      obtain ⟨i1, i2⟩ := pass_eq n _ _ (t + 1) (a + (rDay R nc nm pa).2) d1 (by omega)
      rw [e3]
      exact ⟨i1, by rw [i2]; show _ = a + ((rDay R nc nm pa).2 + _); omega⟩
    | true =>
      rw [cond_true]
      obtain ⟨c1, c2⟩ := Bool.and_eq_true_iff.mp hc
      have c3 := of_decide_eq_true c1
      have hR : (pSts nc (uM R 17 0 1 (R 17 0 1 + nI 1), pa, 0) nm).2.2 = (uM R 17 0 1 (R 17 0 1 + nI 1), pa, 0).2.2 := c3
      obtain ⟨p1, p2⟩ := (pSts_idle (nc := nc) (q := (uM R 17 0 1 (R 17 0 1 + nI 1), pa, 0)) nm).2 hR
      have eR : (rDay R nc nm pa).1 = uM R 17 0 1 (R 17 0 1 + nI 1) := by unfold rDay; rw [p1]
      have hid := idle_days (R := (rDay R nc nm pa).1) (nm := nm) (nc := nc) (t := t + 1) (pa := pa) d1.2.1.2.2.2.1.1 (fun m hm => by
        have hq := p2 m hm
        rw [← eR] at hq
        have hbusy : ¬ ((rDay R nc nm pa).1 17 0 1 < (rDay R nc nm pa).1 18 4 m) := by
          have hb : cBusy (cDay (uM C 0 0 0 (C 0 0 0 + nI 1)) nc nm pa).1 nm = false := by
            cases hb : cBusy (cDay (uM C 0 0 0 (C 0 0 0 + nI 1)) nc nm pa).1 nm with
            | false => rfl
            | true => rw [hb] at c2; cases c2
          intro z
          have e1 : (cDay (uM C 0 0 0 (C 0 0 0 + nI 1)) nc nm pa).1 6 m 2 = (rDay R nc nm pa).1 18 4 m := (d1.2.2.2.2.2.2.1 m (by omega)).2
          have e2 : (cDay (uM C 0 0 0 (C 0 0 0 + nI 1)) nc nm pa).1 0 0 0 = nI (t + 1) := d1.1.2.2.2.1.1
          have e4 : (rDay R nc nm pa).1 17 0 1 = nI (t + 1) := d1.2.1.2.2.2.1.1
          have : cBusy (cDay (uM C 0 0 0 (C 0 0 0 + nI 1)) nc nm pa).1 nm = true := anyB_s (k := m) (decide_eq_true (by rw [e1, e2, ← e4]; exact z)) hm
          rw [hb] at this; cases this
        have hh : mHalt (rDay R nc nm pa).1 m = false := by
          cases hh : mHalt (rDay R nc nm pa).1 m with
          | false => rfl
          | true =>
            unfold pSt at hq
            dsimp only at hq
            rw [hh, cond_true] at hq
            have := congrArg (fun q => q.2.2) hq
            exact absurd this (by show ¬ (0 + 1 = 0); omega)
        refine ⟨hh, ?_, hbusy⟩
        by_cases hp : pa = 0
        · exact Or.inl hp
        · refine Or.inr ?_
          by_cases hf : mFar (rDay R nc nm pa).1 nc m (grp (rDay R nc nm pa).1 m) = 0
          · exact hf
          · unfold pSt at hq
            dsimp only at hq
            rw [hh, cond_false, decide_eq_false hbusy, cond_false, decide_eq_false hp, cond_false, decide_eq_true (p := mFar (rDay R nc nm pa).1 nc m (grp (rDay R nc nm pa).1 m) ≠ 0) hf, cond_true] at hq
            have := congrArg (fun q => q.2.2) hq
            exact absurd this (by show ¬ (0 + 1 = 0); omega)) n (by omega)
      rw [hid, e3]
      refine ⟨?_, ?_⟩
      · show INV (mrg (uM _ 0 0 0 _) (uM _ 17 0 1 _)) _ _ _ _ _ _ _
        rw [mrg_now]
        exact INV_now d1 (by omega)
      · show a + (rDay R nc nm pa).2 = a + ((rDay R nc nm pa).2 + 0)
        omega
theorem cPass_hi {nc nm pa k : Nat} (h0 : k ≠ 0) (h8 : k ≠ 8) : ∀ (n : Nat) (q : Mem × Nat), (cPassN nc nm pa n q).1 k = q.1 k
  | 0, _ => rfl
  | n + 1, q => by
    have hd : (cDay (uM q.1 0 0 0 (q.1 0 0 0 + nI 1)) nc nm pa).1 k = q.1 k := by
      funext j
      unfold cDay
      dsimp only
      rw [cSts_fr h8]
      exact uS_n (fun z => h0 z.1)
    unfold cPassN
    dsimp only
    cases (decide ((cDay (uM q.1 0 0 0 (q.1 0 0 0 + nI 1)) nc nm pa).2 = 0) && !cBusy (cDay (uM q.1 0 0 0 (q.1 0 0 0 + nI 1)) nc nm pa).1 nm) with
    | true =>
      rw [cond_true]
      show uM _ 0 0 0 _ k = _
      refine Eq.trans ?_ hd
      funext j
      exact uS_n (fun z => h0 z.1)
    | false =>
      rw [cond_false, cPass_hi h0 h8 n]
      exact hd
theorem pSt_lo {nc m k : Nat} (h18 : k ≠ 18) (q : Mem × Nat × Nat) : (pSt nc q m).1 k = q.1 k := by
  have u : ∀ (f : Nat → Int32), uS q.1 18 5 f k = q.1 k := fun f => funext fun j => uS_n (fun z => h18 z.1)
  unfold pSt
  cases mHalt q.1 m with
  | true => exact u _
  | false =>
    rw [cond_false]
    cases decide (q.1 17 0 1 < q.1 18 4 m) with
    | true => rfl
    | false =>
      rw [cond_false]
      cases decide (q.2.1 = 0) with
      | true => rfl
      | false =>
        rw [cond_false]
        cases decide (mFar q.1 nc m (grp q.1 m) ≠ 0) with
        | true =>
          show mTake q.1 nc m (grp q.1 m) k = _
          unfold mTake
          cases mFar q.1 nc m (grp q.1 m) with
          | zero => rfl
          | succ j => exact u _
        | false => rfl
theorem pSts_lo {nc k : Nat} (h18 : k ≠ 18) (q : Mem × Nat × Nat) : ∀ n, (pSts nc q n).1 k = q.1 k
  | 0 => rfl
  | n + 1 => by
    show (pSt nc (pSts nc q n) n).1 k = _
    rw [pSt_lo h18, pSts_lo h18 q n]
theorem rDays_lo {R : Mem} {nc nm pa k : Nat} (h17 : k ≠ 17) (h18 : k ≠ 18) : ∀ n, (rDays R nc nm pa n).1 k = R k
  | 0 => rfl
  | n + 1 => by
    show (pSts nc (uM (rDays R nc nm pa n).1 17 0 1 ((rDays R nc nm pa n).1 17 0 1 + nI 1), pa, 0) nm).1 k = R k
    rw [pSts_lo h18]
    show uM _ 17 0 1 _ k = _
    refine Eq.trans ?_ (rDays_lo (nc := nc) (nm := nm) (pa := pa) h17 h18 n)
    funext j
    exact uS_n (fun z => h17 z.1)
theorem rDays_17 {R : Mem} {nc nm pa : Nat} : ∀ n, (rDays R nc nm pa n).1 17 0 0 = R 17 0 0
  | 0 => rfl
  | n + 1 => by
    show (pSts nc (uM (rDays R nc nm pa n).1 17 0 1 ((rDays R nc nm pa n).1 17 0 1 + nI 1), pa, 0) nm).1 17 0 0 = _
    rw [pSts_lo (by decide)]
    exact (uM_n (S := (rDays R nc nm pa n).1) (k := 17) (i := 0) (j := 1) (k' := 17) (i' := 0) (j' := 0) (x := (rDays R nc nm pa n).1 17 0 1 + nI 1) (by decide)).trans (rDays_17 (nc := nc) (nm := nm) (pa := pa) n)
theorem step_pass {S : Mem} {ng nm nc t pa rk mo : Nat} (h : INV S ng nm nc t pa rk mo) (ht : t + 60 < 2 ^ 20) (x : Int32) : STEP (paC x) (nI (cPassN nc nm pa (ix x) (S, 0)).2) t mo (rPass (uM (TT S (paC x) (uM (cPassN nc nm pa (ix x) (S, 0)).1 19 0 0 (nI (cPassN nc nm pa (ix x) (S, 0)).2))) 17 0 0 (nI 0)) x nc nm pa) := by
  unfold rPass
  rw [inR_n 1 60 (by omega) (by omega)]
  cases hx : decide (((1 : Nat) : Int) ≤ x.toInt ∧ x.toInt ≤ ((60 : Nat) : Int)) with
  | false =>
    have e : paC x = 1 := by unfold paC; rw [show decide (1 ≤ x.toInt ∧ x.toInt ≤ 60) = false from hx]; rfl
    rw [e]
    exact step_f h (by decide) uM_uM
  | true =>
    have e : paC x = 0 := by unfold paC; rw [show decide (1 ≤ x.toInt ∧ x.toInt ≤ 60) = true from hx]; rfl
    rw [e]
    have hx2 := of_decide_eq_true hx
    obtain ⟨n, hn, rfl⟩ : ∃ n : Nat, n ≤ 60 ∧ x = nI n := ⟨x.toInt.toNat, by omega, by rw [i32_eq, toInt_nI (by omega)]; omega⟩
    have ix_ : ix (nI n) = n := ix_nI (by omega)
    rw [ix_, cond_true]
    obtain ⟨R, hR⟩ : ∃ R, R = uM (TT S 0 (uM (cPassN nc nm pa n (S, 0)).1 19 0 0 (nI (cPassN nc nm pa n (S, 0)).2))) 17 0 0 (nI 0) := ⟨_, rfl⟩
    rw [← hR]
    have r18 : R 18 = S 18 := by
      rw [hR]
      show (cPassN nc nm pa n (S, 0)).1 18 = S 18
      exact cPass_hi (by decide) (by decide) n _
    have r17 : ∀ j, j ≠ 0 → R 17 0 j = S 17 0 j := fun j hj => by
      rw [hR, uM_n (fun z => hj z.2.2)]
      show (cPassN nc nm pa n (S, 0)).1 17 0 j = S 17 0 j
      rw [cPass_hi (by decide) (by decide) n]
    have hm : INV (mrg S R) ng nm nc t pa rk mo := by
      obtain ⟨ki, ri, cnt, duty, par, per, mach, tk, ch, frs, giv, heads, ex, mom, st, rkk⟩ := h
      have m18 : mrg S R 18 = S 18 := r18
      have m17 : ∀ j, j ≠ 0 → mrg S R 17 0 j = S 17 0 j := r17
      have eg : ∀ i, grp (mrg S R) i = grp S i := fun i => by unfold grp; rw [m18]
      refine ⟨ki, ?_, ?_, ?_, ?_, ?_, ?_, ?_, ?_, ?_, ?_, heads, ?_, mom, st, rkk⟩
      · unfold RI TK at ri ⊢
        rw [m17 4 (by decide), m17 6 (by decide), m17 11 (by decide), m17 1 (by decide), m17 7 (by decide), m18]
        obtain ⟨r1, r2, r3, r4, r5, r6, r7, r8, r9⟩ := ri
        exact ⟨r1, r2, r3, r4, r5, r6, r7, r8, fun m hm s hs hn k hk => r9 m hm s hs (by rw [← eg]; exact hn) k hk⟩
      · unfold I_cnt at cnt ⊢
        rw [m17 12 (by decide)]; exact cnt
      · intro i hi; rw [m18]; exact duty i hi
      · intro i hi; rw [m18]; exact par i hi
      · intro i hi; rw [m18]; exact per i hi
      · intro i hi; rw [m18, eg]; exact mach i hi
      · unfold I_tk at tk ⊢; rw [m18]; exact tk
      · intro c hc; unfold I_ch1; rw [m18]; exact ch c hc
      · intro c h1 h2; rw [m18]; exact frs c h1 h2
      · exact giv_fr giv (fun _ => rfl) (by rw [m18]) (by rw [m18]) rfl rfl (fun _ _ _ => rfl)
      · intro k o hk ho; rw [m18]; exact ex k o hk ho
    obtain ⟨p1, p2⟩ := pass_eq n S R t 0 hm (by omega)
    refine step_i (ng := ng) (nm := nm) (nc := nc) (t' := t + n) (pa := pa) (rk := rk) (mo' := mo) ?_ (by rw [p2, Nat.zero_add]) ?_ (by omega) (by omega)
    · rw [rDays_17, hR]; exact uM_s
    · have key : ∀ k, k ≠ 19 → mrg (cPassN nc nm pa n (S, 0)).1 (rDays R nc nm pa n).1 k = (rDays R nc nm pa n).1 k := by
        intro k hk
        unfold mrg
        by_cases hlt : k < 17
        · rw [if_pos hlt, rDays_lo (by omega) (by omega), hR]
          funext j
          exact ((uS_n (fun z => by omega)).trans (uS_n (fun z => by omega))).symm
        · rw [if_neg hlt]
      have key2 : mrg (cPassN nc nm pa n (S, 0)).1 (rDays R nc nm pa n).1 = (rDays R nc nm pa n).1 := by
        funext k
        by_cases hk : k = 19
        · subst hk; rfl
        · exact key k hk
      rw [key2] at p1
      exact p1
