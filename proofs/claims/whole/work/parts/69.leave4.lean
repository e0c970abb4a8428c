/-! leaving under suspicion: the invariant -/
theorem INV_lv {S T : Mem} {ng nm nc t pa rk mo p : Nat} (h : INV S ng nm nc t pa rk mo) (hp : p < 8) (hmo : mo + 1 < 2 ^ 20) (hserv : S 5 p 0 ≠ 0)
    (kk : ∀ a, a ≠ 0 → a ≠ 5 → a ≠ 6 → a ≠ 9 → a ≠ 13 → a ≠ 17 → a ≠ 18 → a ≠ 19 → T a = S a) (k0 : ∀ j, j ≠ 11 → T 0 0 j = S 0 0 j) (k0b : T 0 0 11 = nI (mo + 1)) (k17 : ∀ j, j ≠ 0 → T 17 0 j = S 17 0 j)
    (n5 : ∀ q j, q ≠ p → T 5 q j = S 5 q j) (v50 : T 5 p 0 = 0) (v51 : T 5 p 1 = nI 1) (v52 : T 5 p 2 = nI t) (v53 : T 5 p 3 = nI (mo + 1)) (a1 : ∀ q, T 18 1 q = if q = p then nI 2 else S 18 1 q)
    (n6 : ∀ i j, j ≠ 2 → T 6 i j = S 6 i j) (v6 : ∀ i, i < 12 → T 6 i 2 = T 18 4 i)
    (n9 : ∀ c j, (j ≠ 4 ∧ j ≠ 5) ∨ nc ≤ c → T 9 c j = S 9 c j) (v4 : ∀ c, c < nc → T 9 c 4 = lS4 S c p (nI t)) (v5 : ∀ c, c < nc → T 9 c 5 = lB5 S c p (nI t))
    (k18 : ∀ i, i ≠ 1 → i ≠ 4 → i ≠ 11 → i ≠ 13 → T 18 i = S 18 i) (a11 : ∀ c, c < nc → T 18 11 c = rS4 S p c) (a11n : ∀ c, nc ≤ c → T 18 11 c = S 18 11 c) (a13 : ∀ c q, q < 8 → (nc ≤ c ∨ q ≠ p) → T 18 13 (8 * c + q) = S 18 13 (8 * c + q)) (a13p : ∀ c, c < nc → T 18 13 (8 * c + p) = rG5 S p c)
    (hheads : I_heads T nc) : INV T ng nm nc t pa rk (mo + 1) := by
  obtain ⟨ki, ri, cnt, duty, par, per, mach, tk, ch, frs, giv, heads, ex, mom, st, rkk⟩ := h
  have hnc := ki.2.2.1.2
  have et : S 17 0 1 = nI t := ri.2.2.2.1.1
  have k1 := kk 1 (by decide) (by decide) (by decide) (by decide) (by decide) (by decide) (by decide) (by decide)
  have k7 := kk 7 (by decide) (by decide) (by decide) (by decide) (by decide) (by decide) (by decide) (by decide)
  have k8 := kk 8 (by decide) (by decide) (by decide) (by decide) (by decide) (by decide) (by decide) (by decide)
  have k10 := kk 10 (by decide) (by decide) (by decide) (by decide) (by decide) (by decide) (by decide) (by decide)
  have k11 := kk 11 (by decide) (by decide) (by decide) (by decide) (by decide) (by decide) (by decide) (by decide)
  have k14 := kk 14 (by decide) (by decide) (by decide) (by decide) (by decide) (by decide) (by decide) (by decide)
  have ecl : ∀ i, clay T i = clay S i := fun i => clay_V (n6 i 3 (by decide)) (by rw [k7])
  have e183 := k18 3 (by decide) (by decide) (by decide) (by decide)
  have eg : ∀ i, grp T i = grp S i := fun i => by unfold grp; rw [e183]
  have h51 : S 5 p 1 = 0 := by
    rcases per p hp with ⟨b1, b2, b3⟩ | ⟨b1, b2, b3⟩ | ⟨b1, b2, b3⟩
    · exact b2
    · exact b2
    · exact absurd b1 hserv
  have hvS : ∀ x, hvB S p x = false := fun x => by unfold hvB; rw [h51, decide_eq_false (fun z => z rfl)]; rfl
  have hvT : ∀ x, hvB T p x = decide (nI t - x < nI 30) := hvB_lv v51 v52
  have hvo : ∀ q x, q ≠ p → hvB T q x = hvB S q x := fun q x hq => hvB_fr (n5 q 1 hq) (n5 q 2 hq)
  -- bits of a change behind the leaving
  have hbits : ∀ c, c < nc → (∃ w, w < 256 ∧ T 9 c 5 = nI w) ∧ ∀ q, q < 8 → cntI (T 9 c 5) (nI q) = (decide (S 11 c q ≠ -1) && !hvB T q (S 10 c q)) := fun c hc => by
    obtain ⟨l1, l2⟩ := lv_bits (c := c) (t := t) (giv c (by omega)) hp h51
    rw [v5 c hc]
    refine ⟨l1, fun q hq => ?_⟩
    rw [l2 q hq]
    by_cases hqp : q = p
    · rw [if_pos hqp, hqp, hvT]
    · rw [if_neg hqp, hvo q _ hqp]
      exact ((giv c (by omega)).2 q hq).2.1
  have hhaN : ∀ c, c < nc → bcF (T 9 c 5) = nI (haN T c) := fun c hc => by
    obtain ⟨l1, l2⟩ := hbits c hc
    refine bc_cnt _ l1 (fun q hq => ?_)
    rw [l2 q hq, k11, k10]
  have hrgn : ∀ c, c < nc → rGN S p c = haN T c := fun c hc => by
    unfold rGN haN
    refine cntB_cong fun q hq => ?_
    rw [k11, k10]
    by_cases hqp : q = p
    · rw [if_pos hqp, hqp, lv_given (giv c (by omega)) hp h51 et, hvT]
    · rw [if_neg hqp, hvo q _ hqp, ← ((giv c (by omega)).2 q hq).1]
      exact ((giv c (by omega)).2 q hq).2.1
  have hs4 : ∀ c, c < nc → ∃ a, a < 8 ∧ S 9 c 0 = nI a ∧ T 9 c 4 = rS4 S p c ∧ T 9 c 4 = (bif decide (nI a = nI p) && decide (nI t - S 9 c 3 < nI 30) then nI 3 else bif decide (S 9 c 4 = nI 1) && decide (haN T c < 2) then nI 2 else S 9 c 4) := fun c hc => by
    obtain ⟨a, s, k, c1, c2, c3, c4, c5, c6, c7, c8, c9, c10, c11, c12, c13, c14⟩ := ch c hc
    have h8 : haN T c ≤ 8 := cntB_le _ 8
    have e1 : T 9 c 4 = (bif decide (nI a = nI p) && decide (nI t - S 9 c 3 < nI 30) then nI 3 else bif decide (S 9 c 4 = nI 1) && decide (haN T c < 2) then nI 2 else S 9 c 4) := by
      rw [v4 c hc]
      unfold lS4
      have e2 : decide (bcF (lB5 S c p (nI t)) < nI 2) = decide (haN T c < 2) := by
        rw [← v5 c hc, hhaN c hc]
        exact decide_eq_decide.mpr (by rw [i32_lt, toInt_nI (by omega), toInt_nI (by omega)]; omega)
      rw [e2, c4]
    refine ⟨a, c1, c4, ?_, e1⟩
    rw [e1]
    unfold rS4
    rw [et, hrgn c hc, c5, ← c12, ← c13]
  sorry
