/-! approving: the step, first half -/
theorem apC_ok {S : Mem} {ng nm nc t pa rk mo p c : Nat} (h : INV S ng nm nc t pa rk mo) (hp : p < 8) (hc : c < nc) : apC S (nI p) (nI c) nc t = bif okR S p c t then 0 else 2 := by
  have hnc := h.1.2.2.1.2
  have ip : ix (nI p) = p := ix_nI (by omega)
  have ic : ix (nI c) = c := ix_nI (by omega)
  obtain ⟨a, s, k, c1, c2, c3, c4, c5, c6, c7, c8, c9, c10, c11, c12, c13, c14⟩ := h.2.2.2.2.2.2.2.2.1 c hc
  have hg := (h.2.2.2.2.2.2.2.2.2.2.1 c (by omega)).2 p hp
  have e1 : decide (S 5 p 0 ≠ 0) = decide (S 18 1 p = 0) := by
    rcases h.2.2.2.2.2.1 p hp with ⟨a1, a2, a3⟩ | ⟨a1, a2, a3⟩ | ⟨a1, a2, a3⟩ <;> rw [a1, a3] <;> decide
  have e2 : cntI (S 1 0 (t / 7 % 4)) (nI p) = bitI (S 18 0 (t / 7 % 4)) (nI p) := by rw [h.2.2.2.1 _ (Nat.mod_lt _ (by decide)), cnt_bit]
  have e3 : canB S c p = (!decide (S 18 6 c = nI p) && (!decide (S 18 13 (8 * c + p) = nI 1) && !decide (S 18 11 c = nI 3))) := by
    unfold canB
    rw [c4, c5, c13, hg.1]
    have : decide (nI p = nI a) = decide (nI a = nI p) := decide_eq_decide.mpr ⟨fun z => z.symm, fun z => z.symm⟩
    rw [this]
    cases decide (nI a = nI p) <;> cases decide (S 18 11 c = nI 3) <;> cases decide (S 18 13 (8 * c + p) = nI 1) <;> rfl
  unfold apC okR
  rw [rgB_nI (by omega), rgB_nI (by omega), decide_eq_true hp, decide_eq_true hc, ip, ic, e1, e2, e3]; rfl
theorem apS_k {S : Mem} {p c k : Nat} (h0 : k ≠ 0) (h9 : k ≠ 9) (h10 : k ≠ 10) (h11 : k ≠ 11) : apS S p c k = S k := by
  funext i
  unfold apS adM uM
  rw [uS_n (fun z => h11 z.1), uS_n (fun z => h10 z.1), uS_n (fun z => h9 z.1), uS_n (fun z => h0 z.1)]
theorem apS_0 {S : Mem} {p c j : Nat} (h : j ≠ 11) : apS S p c 0 0 j = S 0 0 j := by
  unfold apS adM
  rw [uM_n (fun z => absurd z.1 (by decide)), uM_n (fun z => absurd z.1 (by decide)), uM_n (fun z => absurd z.1 (by decide)), uM_n (fun z => h z.2.2)]
theorem apS_m {S : Mem} {p c : Nat} : apS S p c 0 0 11 = S 0 0 11 + nI 1 := by
  unfold apS adM
  rw [uM_n (fun z => absurd z.1 (by decide)), uM_n (fun z => absurd z.1 (by decide)), uM_n (fun z => absurd z.1 (by decide)), uM_s]
theorem apS_9n {S : Mem} {p c c' j : Nat} (h : ¬ (c' = c ∧ j = 5)) : apS S p c 9 c' j = S 9 c' j := by
  unfold apS adM
  rw [uM_n (fun z => absurd z.1 (by decide)), uM_n (fun z => absurd z.1 (by decide)), uM_n (fun z => h z.2), uM_n (fun z => absurd z.1 (by decide))]
theorem apS_95 {S : Mem} {p c : Nat} : apS S p c 9 c 5 = wthI (S 9 c 5) (nI p) true := by
  unfold apS adM
  rw [uM_n (fun z => absurd z.1 (by decide)), uM_n (fun z => absurd z.1 (by decide)), uM_s, uM_n (fun z => absurd z.1 (by decide))]
theorem apS_10n {S : Mem} {p c c' q : Nat} (h : ¬ (c' = c ∧ q = p)) : apS S p c 10 c' q = S 10 c' q := by
  unfold apS adM
  rw [uM_n (fun z => absurd z.1 (by decide)), uM_n (fun z => h z.2), uM_n (fun z => absurd z.1 (by decide)), uM_n (fun z => absurd z.1 (by decide))]
theorem apS_10 {S : Mem} {p c : Nat} : apS S p c 10 c p = S 0 0 0 := by
  unfold apS adM
  rw [uM_n (fun z => absurd z.1 (by decide)), uM_s]
theorem apS_11n {S : Mem} {p c c' q : Nat} (h : ¬ (c' = c ∧ q = p)) : apS S p c 11 c' q = S 11 c' q := by
  unfold apS adM
  rw [uM_n (fun z => h z.2), uM_n (fun z => absurd z.1 (by decide)), uM_n (fun z => absurd z.1 (by decide)), uM_n (fun z => absurd z.1 (by decide))]
theorem apS_11 {S : Mem} {p c : Nat} : apS S p c 11 c p = S 0 0 11 + nI 1 := by
  unfold apS adM
  rw [uM_s]
/-- the memory behind an approval that changes no state -/
theorem ap_stay {S : Mem} {ng nm nc t pa rk mo p c : Nat} {v : Int32} (h : INV S ng nm nc t pa rk mo) (hmo : mo + 1 < 2 ^ 20) (hp : p < 8) (hc : c < nc) (hserv : S 5 p 1 = 0) (hbit : cntI (S 9 c 5) (nI p) = false) (h3 : S 9 c 4 ≠ nI 3) (hs : S 9 c 4 = nI 1 ∨ haN S c + 1 < 2) :
    INV (uM (uM (uM (uM (apS S p c) 19 0 0 v) 17 0 0 (nI 0)) 18 13 (8 * c + p) (nI 1)) 18 14 (8 * c + p) (nI t)) ng nm nc t pa rk (mo + 1) := by
  obtain ⟨T, hT⟩ : ∃ T, T = uM (uM (uM (uM (apS S p c) 19 0 0 v) 17 0 0 (nI 0)) 18 13 (8 * c + p) (nI 1)) 18 14 (8 * c + p) (nI t) := ⟨_, rfl⟩
  rw [← hT]
  have hcnt := h.2.2.1
  have c13 : S 9 c 4 = S 18 11 c := by
    obtain ⟨a, s, k, c1, c2, c3, c4, c5, c6, c7, c8, c9, c10, c11, c12, c13, c14⟩ := h.2.2.2.2.2.2.2.2.1 c hc
    exact c13
  have c14 : S 14 0 c = S 18 12 c := by
    obtain ⟨a, s, k, c1, c2, c3, c4, c5, c6, c7, c8, c9, c10, c11, c12, c13, c14⟩ := h.2.2.2.2.2.2.2.2.1 c hc
    exact c14
  have low : ∀ k, k ≠ 17 → k ≠ 18 → k ≠ 19 → T k = apS S p c k := fun k a b d => by
    funext i
    rw [hT]
    exact (uS_n (fun z => b z.1)).trans ((uS_n (fun z => b z.1)).trans ((uS_n (fun z => a z.1)).trans (uS_n (fun z => d z.1))))
  have e18 : ∀ i, i ≠ 13 → i ≠ 14 → T 18 i = S 18 i := fun i a b => by
    rw [hT]
    exact (uS_n (fun z => b z.2)).trans ((uS_n (fun z => a z.2)).trans (congrFun (apS_k (S := S) (p := p) (c := c) (k := 18) (by decide) (by decide) (by decide) (by decide)) i))
  have as18 : apS S p c 18 = S 18 := apS_k (by decide) (by decide) (by decide) (by decide)
  have as17 : apS S p c 17 = S 17 := apS_k (by decide) (by decide) (by decide) (by decide)
  have k9 := low 9 (by decide) (by decide) (by decide)
  have k10 := low 10 (by decide) (by decide) (by decide)
  have k11 := low 11 (by decide) (by decide) (by decide)
  have k14 : T 14 = S 14 := (low 14 (by decide) (by decide) (by decide)).trans (apS_k (by decide) (by decide) (by decide) (by decide))
  have k13 : T 13 = S 13 := (low 13 (by decide) (by decide) (by decide)).trans (apS_k (by decide) (by decide) (by decide) (by decide))
  have k0 := low 0 (by decide) (by decide) (by decide)
  refine INV_ap (c := c) (p := p) (rk' := rk) (st' := S 9 c 4) (r' := S 14 0 c) h hc hp hmo hserv hbit ?_ ?_ ?_ ?_ ?_ ?_ ⟨Nat.le_refl _, by have := hcnt.1.2.2; omega⟩ ?_ ?_ ?_ ?_ ?_ ?_ ?_ ?_ ?_ ?_ ?_ ?_ ?_ h3 (Or.inl ⟨rfl, hs, rfl, rfl⟩) ?_
  · intro a a0 a9 a10 a11 a13 a14 a17 a18 a19
    exact (low a a17 a18 a19).trans (apS_k a0 a9 a10 a11)
  · intro j j10 j11; rw [k0, apS_0 j11]
  · rw [k0, apS_0 (by decide)]; exact hcnt.1.1
  · rw [k0, apS_m, hcnt.2.1, nI_add]
  · intro j j0 j12
    rw [hT]
    show uM _ 17 0 0 (nI 0) 17 0 j = _
    rw [uM_n (fun z => j0 z.2.2)]
    show apS S p c 17 0 j = _
    rw [as17]
  · rw [hT]
    show apS S p c 17 0 12 = _
    rw [as17]; exact hcnt.1.2.1
  · intro c' j hh; rw [k9, apS_9n (fun z => hh ⟨z.1, Or.inr z.2⟩)]
  · rw [k9, apS_9n (by omega)]
  · rw [k9, apS_95]
  · intro c' q hh; rw [k10, apS_10n hh]
  · rw [k10, apS_10]; exact h.1.2.2.2.1.1
  · intro c' q hh; rw [k11, apS_11n hh]
  · rw [k11, apS_11, hcnt.2.1, nI_add]
  · intro i i11 i12 i13 i14; exact e18 i i13 i14
  · intro c'
    rw [e18 11 (by decide) (by decide)]
    by_cases hk : c' = c
    · rw [if_pos hk, hk, c13]
    · rw [if_neg hk]
  · intro c'
    rw [e18 12 (by decide) (by decide)]
    by_cases hk : c' = c
    · rw [if_pos hk, hk, c14]
    · rw [if_neg hk]
  · intro x
    rw [hT]
    show upd (apS S p c 18 13) (8 * c + p) (nI 1) x = _
    rw [as18]; rfl
  · intro x
    rw [hT]
    show upd (apS S p c 18 14) (8 * c + p) (nI t) x = _
    rw [as18]; rfl
  · intro c'
    rw [k14]
    by_cases hk : c' = c
    · rw [if_pos hk, hk]
    · rw [if_neg hk]
  · intro q hq
    unfold hdOk hdC
    rw [k13, k14, h.2.2.2.2.2.2.2.2.2.2.2.1 q hq]
    refine congrArg oI (bestN_cong (fun d hd => ?_) (fun _ _ => rfl))
    rw [k9, apS_9n (by omega), apS_9n (by omega)]; rfl
