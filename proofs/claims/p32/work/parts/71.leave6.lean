/-! leaving under suspicion: the step -/
theorem leS_k {S : Mem} {p k : Nat} (h0 : k ≠ 0) (h5 : k ≠ 5) : leS S p k = S k := by
  funext i
  unfold leS uM
  rw [uS_n (fun z => h5 z.1), uS_n (fun z => h5 z.1), uS_n (fun z => h5 z.1), uS_n (fun z => h0 z.1), uS_n (fun z => h5 z.1)]
theorem leS_0 {S : Mem} {p j : Nat} (h : j ≠ 11) : leS S p 0 0 j = S 0 0 j := by
  unfold leS
  rw [uM_n (fun z => absurd z.1 (by decide)), uM_n (fun z => absurd z.1 (by decide)), uM_n (fun z => absurd z.1 (by decide)), uM_n (fun z => h z.2.2), uM_n (fun z => absurd z.1 (by decide))]
theorem leS_m {S : Mem} {p : Nat} : leS S p 0 0 11 = S 0 0 11 + nI 1 := by
  unfold leS
  rw [uM_n (fun z => absurd z.1 (by decide)), uM_n (fun z => absurd z.1 (by decide)), uM_n (fun z => absurd z.1 (by decide)), uM_s]
theorem leS_5n {S : Mem} {p q j : Nat} (h : q ≠ p) : leS S p 5 q j = S 5 q j := by
  unfold leS
  rw [uM_n (fun z => h z.2.1), uM_n (fun z => h z.2.1), uM_n (fun z => h z.2.1), uM_n (fun z => absurd z.1 (by decide)), uM_n (fun z => h z.2.1)]
theorem leS_53 {S : Mem} {p : Nat} : leS S p 5 p 3 = S 0 0 11 + nI 1 := by unfold leS; rw [uM_s]
theorem leS_52 {S : Mem} {p : Nat} : leS S p 5 p 2 = S 0 0 0 := by unfold leS; rw [uM_n (by omega), uM_s]
theorem leS_51 {S : Mem} {p : Nat} : leS S p 5 p 1 = nI 1 := by unfold leS; rw [uM_n (by omega), uM_n (by omega), uM_s]
theorem leS_50 {S : Mem} {p : Nat} : leS S p 5 p 0 = nI 0 := by unfold leS; rw [uM_n (by omega), uM_n (by omega), uM_n (by omega), uM_n (by omega), uM_s]
/-- class and reference behind all changes, before machines are freed -/
theorem INV_X {S C R R0 : Mem} {ng nm nc t pa rk mo p : Nat} (h : INV S ng nm nc t pa rk mo) (hp : p < 8) (hmo : mo + 1 < 2 ^ 20) (hserv : S 5 p 0 ≠ 0) (hC : C = fHM (vcM (leS S p) p nc) nc) (hR : R = vMem R0 p nc)
    (r17 : ∀ j, j ≠ 0 → R0 17 0 j = S 17 0 j) (r18 : ∀ i, i ≠ 1 → R0 18 i = S 18 i) (r1 : R0 18 1 = upd (S 18 1) p (nI 2)) (rhi : ∀ a, 17 ≤ a → a ≠ 17 → a ≠ 18 → a ≠ 19 → R0 a = S a) : INV (mrg C R) ng nm nc t pa rk (mo + 1) := by
  have hnc := h.1.2.2.1.2
  have hcnt := h.2.2.1
  have et : S 0 0 0 = nI t := h.1.2.2.2.1.1
  obtain ⟨v1, v2, v3⟩ := vc_at (S := leS S p) (p := p) nc
  obtain ⟨m1, m2, m3⟩ := vm_at (S := R0) hp nc
  have c0 : ∀ k i j, ¬ (k = 9 ∧ (j = 4 ∨ j = 5)) → k ≠ 13 → C k i j = leS S p k i j := fun k i j hh h13 => by
    rw [hC]
    unfold fHM
    rw [uS_n (fun z => h13 z.1)]
    exact v3 k i j hh
  have ck : ∀ k, k ≠ 0 → k ≠ 5 → k ≠ 9 → k ≠ 13 → C k = S k := fun k a b d e => by
    funext i j
    rw [c0 k i j (fun z => d z.1) e, leS_k a b]
  have c9 : ∀ c j, C 9 c j = vcM (leS S p) p nc 9 c j := fun c j => by rw [hC]; rfl
  have e00 : leS S p 0 0 0 = nI t := (leS_0 (by decide)).trans et
  have rfr : ∀ k i, ¬ vScr k i → R k i = R0 k i := fun k i hh => by rw [hR]; exact vMem_fr hh nc
  have l9 : leS S p 9 = S 9 := leS_k (by decide) (by decide)
  have l10 : leS S p 10 = S 10 := leS_k (by decide) (by decide)
  have elB : ∀ c, lB5 (leS S p) c p (nI t) = lB5 S c p (nI t) := fun c => by unfold lB5; rw [l9, l10]
  have elS : ∀ c, lS4 (leS S p) c p (nI t) = lS4 S c p (nI t) := fun c => by unfold lS4; rw [elB, l9]
  have lo : ∀ k, k < 17 → mrg C R k = C k := fun k hk => if_pos hk
  have m5 := lo 5 (by decide)
  have m0 := lo 0 (by decide)
  have m9 := lo 9 (by decide)
  have m18 : ∀ i, mrg C R 18 i = R 18 i := fun i => rfl
  have m17 : ∀ i, mrg C R 17 i = R 17 i := fun i => rfl
  refine INV_lv (p := p) h hp hmo hserv ?_ ?_ ?_ ?_ ?_ ?_ ?_ ?_ ?_ ?_ ?_ ?_ ?_ ?_ ?_ ?_ ?_ ?_ ?_ ?_ ?_
  · intro a a0 a5 a6 a9 a13 a17 a18 a19
    by_cases hlt : a < 17
    · rw [lo a hlt]; exact ck a a0 a5 a9 a13
    · show (if a < 17 then C a else R a) = _
      rw [if_neg hlt]
      funext i
      rw [rfr a i (by unfold vScr; omega), rhi a (by omega) a17 a18 a19]
  · intro j hj; rw [m0, c0 0 0 j (by omega) (by omega), leS_0 hj]
  · rw [m0, c0 0 0 11 (by omega) (by omega), leS_m, hcnt.2.1, nI_add]
  · intro j hj; rw [m17, rfr 17 0 (by unfold vScr; omega), r17 j hj]
  · intro q j hq; rw [m5, c0 5 q j (by omega) (by omega), leS_5n hq]
  · rw [m5, c0 5 p 0 (by omega) (by omega), leS_50]; rfl
  · rw [m5, c0 5 p 1 (by omega) (by omega), leS_51]
  · rw [m5, c0 5 p 2 (by omega) (by omega), leS_52, et]
  · rw [m5, c0 5 p 3 (by omega) (by omega), leS_53, hcnt.2.1, nI_add]
  · intro q
    rw [m18, rfr 18 1 (by unfold vScr; omega), r1]; rfl
  · intro i j hj; rw [lo 6 (by decide), ck 6 (by decide) (by decide) (by decide) (by decide)]
  · intro i hi
    rw [lo 6 (by decide), ck 6 (by decide) (by decide) (by decide) (by decide), m18, rfr 18 4 (by unfold vScr; omega), r18 4 (by decide)]
    exact (h.2.2.2.2.2.2.1 i hi).2
  · intro c j hh
    rw [m9, c9]
    rcases hh with z | z
    · rw [v3 9 c j (by omega), l9]
    · rw [v1 c j z, l9]
  · intro c hc; rw [m9, c9, (v2 c hc).1, e00, elS]
  · intro c hc; rw [m9, c9, (v2 c hc).2, e00, elB]
  · intro i i1 i4 i11 i13; rw [m18, rfr 18 i (by unfold vScr; omega), r18 i i1]
  · intro c hc
    rw [m18, hR, (m3 c hc).1]
    exact (rS4_fr (r17 1 (by decide)) r18).1
  · intro c hc
    rw [m18, hR, m1 c hc, r18 11 (by decide)]
  · intro c q hq hh
    rw [m18, hR, m2 c q hq hh, r18 13 (by decide)]
  · intro c hc
    rw [m18, hR, (m3 c hc).2]
    exact (rS4_fr (r17 1 (by decide)) r18).2
  · intro q hq
    have e13 : mrg C R 13 0 = hdF (vcM (leS S p) p nc) nc := by rw [lo 13 (by decide), hC]; unfold fHM; exact uS_s
    have e14 : mrg C R 14 0 = vcM (leS S p) p nc 14 0 := by rw [lo 14 (by decide), hC]; rfl
    rw [e13, e14]
    refine (hdG_best (hdB_at (S := vcM (leS S p) p nc) (h := 0) hq) (n := nc) hnc (fun d hd e => ?_)).trans (congrArg oI (bestN_cong (fun d hd => ?_) (fun _ _ => rfl)))
    · have hk := of_decide_eq_true e
      rw [(v2 d hd).1] at hk
      have e14' : vcM (leS S p) p nc 14 0 d = S 14 0 d := (v3 14 0 d (by omega)).trans (congrFun (congrFun (leS_k (by decide) (by decide)) 0) d)
      rw [e14']
      refine (held_pos h hd ?_).1
      rw [← l9]
      unfold lS4 at hk
      cases ha : (decide (leS S p 9 d 0 = nI p) && decide (leS S p 0 0 0 - leS S p 9 d 3 < nI 30)) with
      | true => rw [ha] at hk; exact absurd (show nI 3 = nI 1 from hk) (by decide)
      | false =>
        rw [ha] at hk
        cases hb : (decide (leS S p 9 d 4 = nI 1) && decide (bcF (lB5 (leS S p) d p (leS S p 0 0 0)) < nI 2)) with
        | true => rw [hb] at hk; exact absurd (show nI 2 = nI 1 from hk) (by decide)
        | false => rw [hb] at hk; exact hk
    · unfold hdOk hdC
      rw [m9, c9, c9]
